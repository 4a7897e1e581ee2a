def bc1 (x : Int32) : Int32 := x - (((x).toUInt32 >>> ((Int32.toUInt32 1) &&& Int32.toUInt32 31)).toInt32 &&& 1431655765)
def bc2 (x : Int32) : Int32 := (x &&& 858993459) + (((x).toUInt32 >>> ((Int32.toUInt32 2) &&& Int32.toUInt32 31)).toInt32 &&& 858993459)
def bc3 (x : Int32) : Int32 := (x + ((x).toUInt32 >>> ((Int32.toUInt32 4) &&& Int32.toUInt32 31)).toInt32) &&& 252645135
def bc4 (x : Int32) : Int32 := x + ((x).toUInt32 >>> ((Int32.toUInt32 8) &&& Int32.toUInt32 31)).toInt32
def bc5 (x : Int32) : Int32 := x + ((x).toUInt32 >>> ((Int32.toUInt32 16) &&& Int32.toUInt32 31)).toInt32
/-- how many bits are set, as the library counts -/
def bcE (x : Int32) : Int32 := bc5 (bc4 (bc3 (bc2 (bc1 x)))) &&& 63
/-- as the model counts -/
def onl : Nat → Int32 → Int32 → Int32
  | 0, _, a => a
  | k + 1, l, a => if l = 0 then a else onl k (l &&& (l - 1)) (a + 1)
def onE (x : Int32) : Int32 := onl (x.toBitVec.toNat + 1) x 0
theorem sf_bitCount {d : Nat} {x : Int32} {h : mH} {R : Option Value → mH → Prop} (hd : 1 ≤ d) (H : R (some (.int (bcE x))) h) : Run mtab d 241 [.int x] h R := by
  obtain ⟨d, rfl⟩ : ∃ e, d = e + 1 := ⟨d - 1, by omega⟩
  refine go_J6_bitCount_0f7a4 rfl ?_
  conv => whnf
  exact H
theorem onf_lp {d : Nat} {h : mH} {R : Option Value → mH → Prop} : ∀ (k : Nat) (b a l : Int32), l.toBitVec.toNat < k → R (some (.int (onl k l a))) h → WPe pg_X11_ones none (Run mtab d) R (m_drop pg_X11_ones 4) [some (.int b), some (.int a), some (.int l)] [] h
  | 0, b, a, l, hk, H => absurd hk (by omega)
  | k + 1, b, a, l, hk, H => by
    refine at_X11_ones ?_
    conv => whnf
    refine ⟨fun c => ?_, fun c => ?_⟩
    · have e : onl (k + 1) l a = a := if_pos c
      rw [e] at H
      conv => whnf
      exact H
    · have e : onl (k + 1) l a = onl k (l &&& (l - 1)) (a + 1) := if_neg c
      rw [e] at H
      conv => whnf
      exact onf_lp k _ _ _ (Nat.lt_of_lt_of_le (and_dec c) (by omega)) H
theorem smf_ones {d : Nat} {x : Int32} {h : mH} {R : Option Value → mH → Prop} (hd : 1 ≤ d) (H : R (some (.int (onE x))) h) : Run mtab d 194 [.int x] h R := by
  obtain ⟨d, rfl⟩ : ∃ e, d = e + 1 := ⟨d - 1, by omega⟩
  refine go_X11_ones rfl ?_
  conv => whnf
  exact onf_lp _ _ _ _ (Nat.lt_succ_self _) H
theorem nI_bv {j : Nat} (h : j < 2 ^ 31) : (nI j).toBitVec.toNat = j := by
  show (BitVec.ofNat 32 j).toNat = j
  rw [BitVec.toNat_ofNat]
  exact Nat.mod_eq_of_lt (by omega)
theorem bv_nI (x : Int32) : x = nI x.toBitVec.toNat := by
  apply Int32.toBitVec_inj.mp
  show x.toBitVec = BitVec.ofNat 32 x.toBitVec.toNat
  rw [BitVec.ofNat_toNat, BitVec.setWidth_eq]
theorem and_255 {x y : Int32} (h : inr 0 255 x) : inr 0 255 (x &&& y) := by
  obtain ⟨j, hj, rfl⟩ := inr_nat (n := 255) rfl h
  rw [bv_nI (nI j &&& y)]
  refine inr_n (m := 255) ?_ rfl (by decide)
  show ((nI j).toBitVec &&& y.toBitVec).toNat ≤ 255
  rw [BitVec.toNat_and, nI_bv (by omega)]
  exact Nat.le_trans Nat.and_le_left hj
theorem or_255 {x y : Int32} (h : inr 0 255 x) (h2 : inr 0 255 y) : inr 0 255 (x ||| y) := by
  obtain ⟨j, hj, rfl⟩ := inr_nat (n := 255) rfl h
  obtain ⟨k, hk, rfl⟩ := inr_nat (n := 255) rfl h2
  rw [bv_nI (nI j ||| nI k)]
  refine inr_n (m := 255) ?_ rfl (by decide)
  show ((nI j).toBitVec ||| (nI k).toBitVec).toNat ≤ 255
  rw [BitVec.toNat_or, nI_bv (by omega), nI_bv (by omega)]
  have : j ||| k < 2 ^ 8 := Nat.or_lt_two_pow (by omega) (by omega)
  omega
theorem bc_8 {x : Int32} (h : inr 0 255 x) : bcE x = onE x ∧ (onE x = 0 ↔ x = 0) := by
  have key : ∀ j : Nat, j < 256 → bcE (nI j) = onE (nI j) ∧ (onE (nI j) = 0 ↔ nI j = 0) := by decide +kernel
  obtain ⟨j, hj, rfl⟩ := inr_nat (n := 255) rfl h
  exact key j (by omega)
/-- whether a vote passes: r the rules, A voters, B for -/
def passw (r : Nat → Int32) (A B : Int32) : Prop := ¬ A < r 0 ∧ ¬ B * r 2 < A * r 1
set_option maxRecDepth 100000 in
theorem ka_lp {d L : Nat} {f : Nat → Nat → Int32} {g : Nat → Nat → Int64} {w : Int32} {R : Option Value → mH → Prop} : ∀ (k i : Nat) (x a : Int32), i + k = 8 → x = nI i → R (some (.int (mayl (fun m => ¬ f 120 m &&& w = 0) (fun m => nI m) k i a))) (shF L, f, g) → WPe pg_X0_kinOfAny none (Run mtab d) R (m_drop pg_X0_kinOfAny 4) [some (.ref 119), some (.int w), some (.int a), some (.int x)] [] (shF L, f, g)
  | 0, i, x, a, hi, hx, H => by
    have e : i = 8 := by omega
    subst hx
    subst e
    refine at_X0_kinOfAny ?_
    conv => whnf
    refine ⟨fun _ => ?_, fun z => absurd (by decide) z⟩
    conv => whnf
    exact H
  | k + 1, i, x, a, hi, hx, H => by
    subst hx
    have hcl : (nI i).toNatClampNeg = i := nI_clamp (by omega)
    refine at_X0_kinOfAny ?_
    conv => whnf
    refine ⟨fun c => absurd c (nI_ge (b := 8) (by omega) (by omega)), fun c => ?_⟩
    conv => whnf
    refine ⟨vp_in_nI (by omega) (by decide), ?_⟩
    conv => whnf
    simp only [hcl]
    refine ⟨fun c1 => ?_, fun c1 => ?_⟩
    · conv => whnf
      exact ka_lp k (i + 1) _ _ (by omega) (nI_1 i) (by rw [may_n (P := fun m => ¬ f 120 m &&& w = 0) (D := fun m => nI m) (k := k) (i := i) (a := a) (fun z => z c1)] at H; exact H)
    · conv => whnf
      exact ka_lp k (i + 1) _ _ (by omega) (nI_1 i) (by rw [may_y (P := fun m => ¬ f 120 m &&& w = 0) (D := fun m => nI m) (k := k) (i := i) (a := a) c1] at H; exact H)
set_option maxRecDepth 100000 in
set_option maxHeartbeats 4000000 in
theorem sf_kinOfAny {d L : Nat} {f : Nat → Nat → Int32} {g : Nat → Nat → Int64} {w : Int32} {R : Option Value → mH → Prop} (hd : 1 ≤ d) (H : R (some (.int (mayl (fun m => ¬ f 120 m &&& w = 0) (fun m => nI m) 8 0 0))) (shF L, f, g)) : Run mtab d 7 [.ref 119, .int w] (shF L, f, g) R := by
  obtain ⟨d, rfl⟩ : ∃ e, d = e + 1 := ⟨d - 1, by omega⟩
  refine go_X0_kinOfAny rfl ?_
  conv => whnf
  exact ka_lp 8 0 _ _ (by omega) rfl H
set_option maxRecDepth 100000 in
set_option maxHeartbeats 4000000 in
theorem sf_isPassed {d L : Nat} {f : Nat → Nat → Int32} {g : Nat → Nat → Int64} {k : Nat} {x y : Int32} {R : Option Value → mH → Prop} (hd : 2 ≤ d) (hk : k < 4) (H1 : passw (fun t => f (109 + k) t) (bcE y) (bcE x) → R (some (.int 1)) (shF L, f, g)) (H0 : ¬ passw (fun t => f (109 + k) t) (bcE y) (bcE x) → R (some (.int 0)) (shF L, f, g)) : Run mtab d 53 [.ref 107, .int (nI k), .int x, .int y] (shF L, f, g) R := by
  obtain ⟨d, rfl⟩ : ∃ e, d = e + 1 := ⟨d - 1, by omega⟩
  refine go_X6_isPassed rfl ?_
  conv => whnf
  rcases c4_c hk with rfl | rfl | rfl | rfl
  · conv => whnf
    refine ⟨⟨by unfold vp_in; decide, by decide, by decide⟩, ?_⟩
    conv => whnf
    refine sf_bitCount (by omega) ?_
    conv => whnf
    refine ⟨by unfold vp_in; decide, ?_⟩
    conv => whnf
    refine ⟨fun c1 => ?_, fun c1 => ?_⟩
    · conv => whnf
      exact ⟨Or.inl rfl, H0 (fun z => z.1 c1)⟩
    · conv => whnf
      refine sf_bitCount (by omega) ?_
      conv => whnf
      refine ⟨by unfold vp_in; decide, ?_⟩
      conv => whnf
      refine ⟨by unfold vp_in; decide, ?_⟩
      conv => whnf
      refine ⟨fun c2 => ?_, fun c2 => ?_⟩
      · conv => whnf
        exact ⟨Or.inl rfl, H0 (fun z => z.2 c2)⟩
      · conv => whnf
        exact ⟨Or.inr rfl, H1 ⟨c1, c2⟩⟩
  · conv => whnf
    refine ⟨⟨by unfold vp_in; decide, by decide, by decide⟩, ?_⟩
    conv => whnf
    refine sf_bitCount (by omega) ?_
    conv => whnf
    refine ⟨by unfold vp_in; decide, ?_⟩
    conv => whnf
    refine ⟨fun c1 => ?_, fun c1 => ?_⟩
    · conv => whnf
      exact ⟨Or.inl rfl, H0 (fun z => z.1 c1)⟩
    · conv => whnf
      refine sf_bitCount (by omega) ?_
      conv => whnf
      refine ⟨by unfold vp_in; decide, ?_⟩
      conv => whnf
      refine ⟨by unfold vp_in; decide, ?_⟩
      conv => whnf
      refine ⟨fun c2 => ?_, fun c2 => ?_⟩
      · conv => whnf
        exact ⟨Or.inl rfl, H0 (fun z => z.2 c2)⟩
      · conv => whnf
        exact ⟨Or.inr rfl, H1 ⟨c1, c2⟩⟩
  · conv => whnf
    refine ⟨⟨by unfold vp_in; decide, by decide, by decide⟩, ?_⟩
    conv => whnf
    refine sf_bitCount (by omega) ?_
    conv => whnf
    refine ⟨by unfold vp_in; decide, ?_⟩
    conv => whnf
    refine ⟨fun c1 => ?_, fun c1 => ?_⟩
    · conv => whnf
      exact ⟨Or.inl rfl, H0 (fun z => z.1 c1)⟩
    · conv => whnf
      refine sf_bitCount (by omega) ?_
      conv => whnf
      refine ⟨by unfold vp_in; decide, ?_⟩
      conv => whnf
      refine ⟨by unfold vp_in; decide, ?_⟩
      conv => whnf
      refine ⟨fun c2 => ?_, fun c2 => ?_⟩
      · conv => whnf
        exact ⟨Or.inl rfl, H0 (fun z => z.2 c2)⟩
      · conv => whnf
        exact ⟨Or.inr rfl, H1 ⟨c1, c2⟩⟩
  · conv => whnf
    refine ⟨⟨by unfold vp_in; decide, by decide, by decide⟩, ?_⟩
    conv => whnf
    refine sf_bitCount (by omega) ?_
    conv => whnf
    refine ⟨by unfold vp_in; decide, ?_⟩
    conv => whnf
    refine ⟨fun c1 => ?_, fun c1 => ?_⟩
    · conv => whnf
      exact ⟨Or.inl rfl, H0 (fun z => z.1 c1)⟩
    · conv => whnf
      refine sf_bitCount (by omega) ?_
      conv => whnf
      refine ⟨by unfold vp_in; decide, ?_⟩
      conv => whnf
      refine ⟨by unfold vp_in; decide, ?_⟩
      conv => whnf
      refine ⟨fun c2 => ?_, fun c2 => ?_⟩
      · conv => whnf
        exact ⟨Or.inl rfl, H0 (fun z => z.2 c2)⟩
      · conv => whnf
        exact ⟨Or.inr rfl, H1 ⟨c1, c2⟩⟩
def vadd0 (f : Nat → Nat → Int32) (c : Nat) (x1 x2 x5 ps : Int32) : Nat → Nat → Int32 := (m_ui (m_ui (m_ui (m_ui (m_ui f 121 c x1) 122 c x2) 124 c (vp_nar .boolean x5)) 123 c (vp_nar .boolean ps)) 119 7 (nI c + 1))
def vadd (f : Nat → Nat → Int32) (c : Nat) (x1 x2 x5 ps vo lo : Int32) : Nat → Nat → Int32 := (m_ui (m_ui (vadd0 f c x1 x2 x5 ps) 125 c vo) 126 c lo)
def mvadd (f : Nat → Nat → Int32) (c : Nat) (x1 x2 x5 ps vo lo : Int32) : Nat → Nat → Int32 := (m_ui (m_ui (m_ui (m_ui (m_ui (m_ui (m_ui (m_ui f 218 (6 * c) x1) 218 (6 * c + 1) x2) 218 (6 * c + 2) ps) 218 (6 * c + 3) vo) 218 (6 * c + 4) lo) 218 (6 * c + 5) (fr x5)) 181 48 (nI (c + 1))) 181 29 0)
def votew (n : Nat) (x1 x2 x3 x4 : Int32) : Prop := hasw n x1 ∧ inr 0 9999 x2 ∧ inr 0 255 x3 ∧ inr 0 255 x4 ∧ x3 &&& x4 = 0
set_option maxRecDepth 100000 in
set_option maxHeartbeats 4000000 in
theorem sf_Cadd {d L : Nat} {f : Nat → Nat → Int32} {g : Nat → Nat → Int64} {c : Nat} {x1 x2 x5 ps : Int32} {R : Option Value → mH → Prop} (hd : 1 ≤ d) (hb : f 119 7 = nI c) (hm : c ≤ 60) (HF : c = 60 → R (some (.int (-3))) (shF L, f, g)) (H : c < 60 → R (some (.int (nI c))) (shF L, vadd0 f c x1 x2 x5 ps, g)) : Run mtab d 8 [.ref 119, .int x1, .int x2, .int x5, .int ps] (shF L, f, g) R := by
  obtain ⟨d, rfl⟩ : ∃ e, d = e + 1 := ⟨d - 1, by omega⟩
  refine go_X0_add rfl ?_
  conv => whnf
  by_cases hq : c = 60
  · subst hq
    simp only [hb]
    refine ⟨fun c => absurd (by decide) c, fun _ => ?_⟩
    conv => whnf
    exact HF rfl
  · have hlt : c < 60 := by omega
    have hcl : (nI c).toNatClampNeg = c := nI_clamp (by omega)
    simp only [hb]
    refine ⟨fun _ => ?_, fun e => absurd ((nI_eq (b := 60) (by omega) (by decide)).mp e) hq⟩
    conv => whnf
    (try simp only [hb, m_ui_ap, m_fil_ap, m_cpy_ap, Nat.reduceEqDiff, Nat.reduceLT, Nat.reduceLeDiff, eq_self, ↓reduceIte, false_and, and_false, true_and, and_true, and_self])
    refine ⟨vp_in_nI (by omega) (by decide), ?_⟩
    conv => whnf
    (try simp only [hb, m_ui_ap, m_fil_ap, m_cpy_ap, Nat.reduceEqDiff, Nat.reduceLT, Nat.reduceLeDiff, eq_self, ↓reduceIte, false_and, and_false, true_and, and_true, and_self])
    refine ⟨vp_in_nI (by omega) (by decide), ?_⟩
    conv => whnf
    (try simp only [hb, m_ui_ap, m_fil_ap, m_cpy_ap, Nat.reduceEqDiff, Nat.reduceLT, Nat.reduceLeDiff, eq_self, ↓reduceIte, false_and, and_false, true_and, and_true, and_self])
    refine ⟨vp_in_nI (by omega) (by decide), ?_⟩
    conv => whnf
    (try simp only [hb, m_ui_ap, m_fil_ap, m_cpy_ap, Nat.reduceEqDiff, Nat.reduceLT, Nat.reduceLeDiff, eq_self, ↓reduceIte, false_and, and_false, true_and, and_true, and_self])
    refine ⟨vp_in_nI (by omega) (by decide), ?_⟩
    conv => whnf
    simp only [hb, hcl, m_ui_ap, m_fil_ap, m_cpy_ap, Nat.reduceEqDiff, Nat.reduceLT, Nat.reduceLeDiff, eq_self, ↓reduceIte, false_and, and_false, true_and, and_true, and_self]
    exact H hlt
set_option maxRecDepth 100000 in
set_option maxHeartbeats 4000000 in
theorem sf_note {d L : Nat} {f : Nat → Nat → Int32} {g : Nat → Nat → Int64} {c : Nat} {vo lo : Int32} {R : Option Value → mH → Prop} (hd : 1 ≤ d) (hc : c < 60) (H : R none (shF L, m_ui (m_ui f 125 c vo) 126 c lo, g)) : Run mtab d 9 [.ref 119, .int (nI c), .int vo, .int lo] (shF L, f, g) R := by
  obtain ⟨d, rfl⟩ : ∃ e, d = e + 1 := ⟨d - 1, by omega⟩
  refine go_X0_noteVoters rfl ?_
  conv => whnf
  have hcl : (nI c).toNatClampNeg = c := nI_clamp (by omega)
  refine ⟨vp_in_nI (by omega) (by decide), ?_⟩
  conv => whnf
  refine ⟨vp_in_nI (by omega) (by decide), ?_⟩
  conv => whnf
  simp only [hcl]
  exact H
def SX_vote (n h c : Nat) (f f1 : Nat → Nat → Int32) (x1 x2 x3 x4 x5 v : Int32) : Prop := (¬ votew n x1 x2 x3 x4 ∧ v = -1 ∧ f1 = f) ∨ (∃ j, j < n ∧ x1 = nI j ∧ votew n x1 x2 x3 x4 ∧ (((((x3 ||| x4) &&& ((mayl (fun m => ¬ f 120 m &&& (mayl (PO f 103 106 x1 (1900 + x2 / 100)) (fun i => f 102 i) h 0 0) = 0) (fun m => nI m) 8 0 0) ^^^ -1)) = 0) ∧ v = -2 ∧ f1 = f) ∨ (¬ ((x3 ||| x4) &&& ((mayl (fun m => ¬ f 120 m &&& (mayl (PO f 103 106 x1 (1900 + x2 / 100)) (fun i => f 102 i) h 0 0) = 0) (fun m => nI m) 8 0 0) ^^^ -1)) = 0 ∧ c = 60 ∧ v = -3 ∧ f1 = f) ∨ (¬ ((x3 ||| x4) &&& ((mayl (fun m => ¬ f 120 m &&& (mayl (PO f 103 106 x1 (1900 + x2 / 100)) (fun i => f 102 i) h 0 0) = 0) (fun m => nI m) 8 0 0) ^^^ -1)) = 0 ∧ c < 60 ∧ ∃ k, k < 4 ∧ f 7 j = nI k ∧ ((passw (fun t => f (109 + k) t) (bcE ((x3 ||| x4) &&& ((mayl (fun m => ¬ f 120 m &&& (mayl (PO f 103 106 x1 (1900 + x2 / 100)) (fun i => f 102 i) h 0 0) = 0) (fun m => nI m) 8 0 0) ^^^ -1))) (bcE (x3 &&& ((mayl (fun m => ¬ f 120 m &&& (mayl (PO f 103 106 x1 (1900 + x2 / 100)) (fun i => f 102 i) h 0 0) = 0) (fun m => nI m) 8 0 0) ^^^ -1))) ∧ v = 1) ∨ (¬ passw (fun t => f (109 + k) t) (bcE ((x3 ||| x4) &&& ((mayl (fun m => ¬ f 120 m &&& (mayl (PO f 103 106 x1 (1900 + x2 / 100)) (fun i => f 102 i) h 0 0) = 0) (fun m => nI m) 8 0 0) ^^^ -1))) (bcE (x3 &&& ((mayl (fun m => ¬ f 120 m &&& (mayl (PO f 103 106 x1 (1900 + x2 / 100)) (fun i => f 102 i) h 0 0) = 0) (fun m => nI m) 8 0 0) ^^^ -1))) ∧ v = 0)) ∧ f1 = vadd f c x1 x2 x5 v ((x3 ||| x4) &&& ((mayl (fun m => ¬ f 120 m &&& (mayl (PO f 103 106 x1 (1900 + x2 / 100)) (fun i => f 102 i) h 0 0) = 0) (fun m => nI m) 8 0 0) ^^^ -1)) ((x3 ||| x4) &&& (mayl (fun m => ¬ f 120 m &&& (mayl (PO f 103 106 x1 (1900 + x2 / 100)) (fun i => f 102 i) h 0 0) = 0) (fun m => nI m) 8 0 0)))))
def SM_vote (n h c : Nat) (f f1 : Nat → Nat → Int32) (x1 x2 x3 x4 x5 v : Int32) : Prop := (¬ votew n x1 x2 x3 x4 ∧ v = -1 ∧ f1 = f) ∨ (∃ j, j < n ∧ x1 = nI j ∧ votew n x1 x2 x3 x4 ∧ (((((x3 ||| x4) &&& ((mayl (fun m => ¬ f 212 m &&& (mayl (PM f 2 5 x1 (1900 + x2 / 100)) (fun i => f 195 (6 * i + 1)) h 0 0) = 0) (fun m => nI m) 8 0 0) ^^^ -1)) = 0) ∧ v = -2 ∧ f1 = f) ∨ (¬ ((x3 ||| x4) &&& ((mayl (fun m => ¬ f 212 m &&& (mayl (PM f 2 5 x1 (1900 + x2 / 100)) (fun i => f 195 (6 * i + 1)) h 0 0) = 0) (fun m => nI m) 8 0 0) ^^^ -1)) = 0 ∧ c = 60 ∧ v = -3 ∧ f1 = f) ∨ (¬ ((x3 ||| x4) &&& ((mayl (fun m => ¬ f 212 m &&& (mayl (PM f 2 5 x1 (1900 + x2 / 100)) (fun i => f 195 (6 * i + 1)) h 0 0) = 0) (fun m => nI m) 8 0 0) ^^^ -1)) = 0 ∧ c < 60 ∧ ∃ k, k < 4 ∧ f 182 j = nI k ∧ ((passw (fun t => eC (fun k t => f (213 + t) k) k t) (onE ((x3 ||| x4) &&& ((mayl (fun m => ¬ f 212 m &&& (mayl (PM f 2 5 x1 (1900 + x2 / 100)) (fun i => f 195 (6 * i + 1)) h 0 0) = 0) (fun m => nI m) 8 0 0) ^^^ -1))) (onE (x3 &&& ((mayl (fun m => ¬ f 212 m &&& (mayl (PM f 2 5 x1 (1900 + x2 / 100)) (fun i => f 195 (6 * i + 1)) h 0 0) = 0) (fun m => nI m) 8 0 0) ^^^ -1))) ∧ v = 1) ∨ (¬ passw (fun t => eC (fun k t => f (213 + t) k) k t) (onE ((x3 ||| x4) &&& ((mayl (fun m => ¬ f 212 m &&& (mayl (PM f 2 5 x1 (1900 + x2 / 100)) (fun i => f 195 (6 * i + 1)) h 0 0) = 0) (fun m => nI m) 8 0 0) ^^^ -1))) (onE (x3 &&& ((mayl (fun m => ¬ f 212 m &&& (mayl (PM f 2 5 x1 (1900 + x2 / 100)) (fun i => f 195 (6 * i + 1)) h 0 0) = 0) (fun m => nI m) 8 0 0) ^^^ -1))) ∧ v = 0)) ∧ f1 = mvadd f c x1 x2 x5 v ((x3 ||| x4) &&& ((mayl (fun m => ¬ f 212 m &&& (mayl (PM f 2 5 x1 (1900 + x2 / 100)) (fun i => f 195 (6 * i + 1)) h 0 0) = 0) (fun m => nI m) 8 0 0) ^^^ -1)) ((x3 ||| x4) &&& (mayl (fun m => ¬ f 212 m &&& (mayl (PM f 2 5 x1 (1900 + x2 / 100)) (fun i => f 195 (6 * i + 1)) h 0 0) = 0) (fun m => nI m) 8 0 0)))))
set_option maxRecDepth 100000 in
set_option maxHeartbeats 4000000 in
theorem sf_vote {d L : Nat} {f : Nat → Nat → Int32} {g : Nat → Nat → Int64} {n h c : Nat} {x1 x2 x3 x4 x5 : Int32} {R : Option Value → mH → Prop} (hd : 6 ≤ d) (hb : f 6 13 = nI n) (hm : n ≤ 40) (hhb : f 100 6 = nI h) (hhm : h ≤ 60) (hcb : f 119 7 = nI c) (hcm : c ≤ 60) (hkd : ∀ j, inr 0 3 (f 7 j)) (H : ∀ v f1, SX_vote n h c f f1 x1 x2 x3 x4 x5 v → R (some (.int v)) (shF L, f1, g)) : Run mtab d 122 [.ref 5, .int x1, .int x2, .int x3, .int x4, .int x5] (shF L, f, g) R := by
  obtain ⟨d, rfl⟩ : ∃ e, d = e + 1 := ⟨d - 1, by omega⟩
  refine go_X10_vote rfl ?_
  conv => whnf
  refine ct_has (by omega) hb hm (fun j hj e => ?_) (fun q => ?_)
  · subst e
    have hcl : (nI j).toNatClampNeg = j := nI_clamp (by omega)
    obtain ⟨kd, hk3, hk⟩ := inr_nat (n := 3) rfl (hkd j)
    have hk4 : kd < 4 := by omega
    conv => whnf
    (refine ⟨fun c => ?_, fun c => ?_⟩ <;> first | ((have c9 : (1 : Int32) = 0 := by with_reducible exact c); exact absurd c9 (by decide)) | exact absurd (rfl : (0 : Int32) = 0) (by with_reducible exact c) | exact absurd True.intro (by with_reducible exact c) | exact False.elim (by with_reducible exact c) | (conv => whnf))
    refine ct_isWithin (by omega) (fun p2 => ?_) (fun p2 => ?_)
    · conv => whnf
      (refine ⟨fun c => ?_, fun c => ?_⟩ <;> first | ((have c9 : (1 : Int32) = 0 := by with_reducible exact c); exact absurd c9 (by decide)) | exact absurd (rfl : (0 : Int32) = 0) (by with_reducible exact c) | exact absurd True.intro (by with_reducible exact c) | exact False.elim (by with_reducible exact c) | (conv => whnf))
      refine ct_isBits8 (by omega) (fun p3 => ?_) (fun p3 => ?_)
      · conv => whnf
        (refine ⟨fun c => ?_, fun c => ?_⟩ <;> first | ((have c9 : (1 : Int32) = 0 := by with_reducible exact c); exact absurd c9 (by decide)) | exact absurd (rfl : (0 : Int32) = 0) (by with_reducible exact c) | exact absurd True.intro (by with_reducible exact c) | exact False.elim (by with_reducible exact c) | (conv => whnf))
        refine ct_isBits8 (by omega) (fun p4 => ?_) (fun p4 => ?_)
        · conv => whnf
          (refine ⟨fun c => ?_, fun c => ?_⟩ <;> first | ((have c9 : (1 : Int32) = 0 := by with_reducible exact c); exact absurd c9 (by decide)) | exact absurd (rfl : (0 : Int32) = 0) (by with_reducible exact c) | exact absurd True.intro (by with_reducible exact c) | exact False.elim (by with_reducible exact c) | (conv => whnf))
          refine ⟨fun e0 => ?_, fun e0 => ?_⟩
          · conv => whnf
            have hw : votew n (nI j) x2 x3 x4 := ⟨⟨j, hj, rfl⟩, p2, p3, p4, e0⟩
            refine ⟨by decide, ?_⟩
            conv => whnf
            refine sf_whoMay (by omega) hhb hhm ?_
            conv => whnf
            refine sf_kinOfAny (by omega) ?_
            conv => whnf
            generalize hB : (mayl (fun m => ¬ f 120 m &&& (mayl (PO f 103 106 (nI j) (1900 + x2 / 100)) (fun i => f 102 i) h 0 0) = 0) (fun m => nI m) 8 0 0) = B
            refine ⟨fun e1 => ?_, fun e1 => ?_⟩
            · conv => whnf
              refine ⟨vp_in_nI (by omega) (by decide), ?_⟩
              conv => whnf
              simp only [hcl, hk]
              refine sf_isPassed (by omega) hk4 (fun ps => ?_) (fun ps => ?_)
              · conv => whnf
                refine sf_Cadd (by omega) hcb hcm (fun q => ?_) (fun q => ?_)
                · conv => whnf
                  refine ⟨fun c => absurd c (by decide), fun _ => ?_⟩
                  conv => whnf
                  exact H _ _ (Or.inr ⟨j, hj, rfl, hw, Or.inr (Or.inl ⟨by rw [hB]; exact e1, q, rfl, rfl⟩)⟩)
                · conv => whnf
                  refine ⟨fun _ => ?_, fun c => absurd (i32_nlt.mp (nI_pos (by omega))) c⟩
                  conv => whnf
                  refine sf_note (by omega) q ?_
                  conv => whnf
                  refine ct_bit (by omega) (fun z => ?_) (fun z => ?_)
                  · conv => whnf
                    exact H _ _ (Or.inr ⟨j, hj, rfl, hw, Or.inr (Or.inr ⟨by rw [hB]; exact e1, q, kd, hk4, hk, Or.inl ⟨by rw [hB]; exact ps, rfl⟩, by rw [hB]; rfl⟩)⟩)
                  · exact absurd z (by decide)
              · conv => whnf
                refine sf_Cadd (by omega) hcb hcm (fun q => ?_) (fun q => ?_)
                · conv => whnf
                  refine ⟨fun c => absurd c (by decide), fun _ => ?_⟩
                  conv => whnf
                  exact H _ _ (Or.inr ⟨j, hj, rfl, hw, Or.inr (Or.inl ⟨by rw [hB]; exact e1, q, rfl, rfl⟩)⟩)
                · conv => whnf
                  refine ⟨fun _ => ?_, fun c => absurd (i32_nlt.mp (nI_pos (by omega))) c⟩
                  conv => whnf
                  refine sf_note (by omega) q ?_
                  conv => whnf
                  refine ct_bit (by omega) (fun z => ?_) (fun z => ?_)
                  · exact absurd rfl z
                  · conv => whnf
                    exact H _ _ (Or.inr ⟨j, hj, rfl, hw, Or.inr (Or.inr ⟨by rw [hB]; exact e1, q, kd, hk4, hk, Or.inr ⟨by rw [hB]; exact ps, rfl⟩, by rw [hB]; rfl⟩)⟩)
            · conv => whnf
              exact H _ _ (Or.inr ⟨j, hj, rfl, hw, Or.inl ⟨by rw [hB]; exact e1, rfl, rfl⟩⟩)
          · conv => whnf
            exact H _ _ (Or.inl ⟨fun hh => e0 hh.2.2.2.2, rfl, rfl⟩)
        · conv => whnf
          (refine ⟨fun c => ?_, fun c => ?_⟩ <;> first | ((have c9 : (1 : Int32) = 0 := by with_reducible exact c); exact absurd c9 (by decide)) | exact absurd (rfl : (0 : Int32) = 0) (by with_reducible exact c) | exact absurd True.intro (by with_reducible exact c) | exact False.elim (by with_reducible exact c) | (conv => whnf))
          exact H _ _ (Or.inl ⟨fun hh => p4 hh.2.2.2.1, rfl, rfl⟩)
      · conv => whnf
        (refine ⟨fun c => ?_, fun c => ?_⟩ <;> first | ((have c9 : (1 : Int32) = 0 := by with_reducible exact c); exact absurd c9 (by decide)) | exact absurd (rfl : (0 : Int32) = 0) (by with_reducible exact c) | exact absurd True.intro (by with_reducible exact c) | exact False.elim (by with_reducible exact c) | (conv => whnf))
        exact H _ _ (Or.inl ⟨fun hh => p3 hh.2.2.1, rfl, rfl⟩)
    · conv => whnf
      (refine ⟨fun c => ?_, fun c => ?_⟩ <;> first | ((have c9 : (1 : Int32) = 0 := by with_reducible exact c); exact absurd c9 (by decide)) | exact absurd (rfl : (0 : Int32) = 0) (by with_reducible exact c) | exact absurd True.intro (by with_reducible exact c) | exact False.elim (by with_reducible exact c) | (conv => whnf))
      exact H _ _ (Or.inl ⟨fun hh => p2 hh.2.1, rfl, rfl⟩)
  · conv => whnf
    (refine ⟨fun c => ?_, fun c => ?_⟩ <;> first | ((have c9 : (1 : Int32) = 0 := by with_reducible exact c); exact absurd c9 (by decide)) | exact absurd (rfl : (0 : Int32) = 0) (by with_reducible exact c) | exact absurd True.intro (by with_reducible exact c) | exact False.elim (by with_reducible exact c) | (conv => whnf))
    exact H _ _ (Or.inl ⟨fun hh => nhasw q hh.1, rfl, rfl⟩)
set_option maxRecDepth 100000 in
set_option maxHeartbeats 8000000 in
theorem vm_lp {d L n h c j : Nat} {f : Nat → Nat → Int32} {g : Nat → Nat → Int64} {x2 x3 x4 x5 w : Int32} {R : Option Value → mH → Prop} (hd : 5 ≤ d) (hj : j < n) (hm : n ≤ 40) (hcb : f 181 48 = nI c) (hcm : c ≤ 60) (hkd : ∀ j, inr 0 3 (f 182 j)) (hw : votew n (nI j) x2 x3 x4) (ew : (mayl (PM f 2 5 (nI j) (1900 + x2 / 100)) (fun i => f 195 (6 * i + 1)) h 0 0) = w) (H : ∀ v f1, SM_vote n h c f f1 (nI j) x2 x3 x4 x5 v → R (some (.int v)) (shF L, f1, g)) :
    ∀ (k i : Nat) (x a : Int32) (s9 s10 s11 s12 : Option Value), i + k = 8 → x = nI i → mayl (fun m => ¬ f 212 m &&& w = 0) (fun m => nI m) k i a = mayl (fun m => ¬ f 212 m &&& w = 0) (fun m => nI m) 8 0 0 → WPe pg_X11_vote none (Run mtab d) R (m_drop pg_X11_vote 41) [some (.ref 181), some (.int (nI j)), some (.int x2), some (.int x3), some (.int x4), some (.int x5), some (.int w), some (.int a), some (.int x), s9, s10, s11, s12] [] (shF L, f, g)
  | 0, i, x, a, s9, s10, s11, s12, hi, hx, he => by
    have e : i = 8 := by omega
    subst hx
    subst e
    have hcl : (nI j).toNatClampNeg = j := nI_clamp (by omega)
    obtain ⟨kd, hk3, hk⟩ := inr_nat (n := 3) rfl (hkd j)
    have hk4 : kd < 4 := by omega
    have hB : (mayl (fun m => ¬ f 212 m &&& (mayl (PM f 2 5 (nI j) (1900 + x2 / 100)) (fun i => f 195 (6 * i + 1)) h 0 0) = 0) (fun m => nI m) 8 0 0) = a := by
      rw [ew]
      exact he.symm
    have tv := bc_8 (and_255 (y := a ^^^ -1) (or_255 hw.2.2.1 hw.2.2.2.1))
    refine at_X11_vote ?_
    conv => whnf
    refine ⟨fun _ => ?_, fun z => absurd (by decide) z⟩
    conv => whnf
    refine smf_ones (by omega) ?_
    conv => whnf
    refine ⟨fun e1 => ?_, fun e1 => ?_⟩
    · conv => whnf
      simp only [hcb]
      have e1 := fun z => e1 ((tv).2.mpr z)
      by_cases hq : c = 60
      · subst hq
        refine ⟨fun c => absurd (by decide) c, fun _ => ?_⟩
        conv => whnf
        exact H _ _ (Or.inr ⟨j, hj, rfl, hw, Or.inr (Or.inl ⟨by rw [hB]; exact e1, rfl, rfl, rfl⟩)⟩)
      · refine ⟨fun _ => ?_, fun e => absurd ((nI_eq (b := 60) (by omega) (by decide)).mp e) hq⟩
        have hc0 : (nI (6 * c)).toNatClampNeg = 6 * c := nI_clamp (by omega)
        have hc1 : (nI (6 * c + 1)).toNatClampNeg = 6 * c + 1 := nI_clamp (by omega)
        have hc2 : (nI (6 * c + 2)).toNatClampNeg = 6 * c + 2 := nI_clamp (by omega)
        have hc3 : (nI (6 * c + 3)).toNatClampNeg = 6 * c + 3 := nI_clamp (by omega)
        have hc4 : (nI (6 * c + 4)).toNatClampNeg = 6 * c + 4 := nI_clamp (by omega)
        have hc5 : (nI (6 * c + 5)).toNatClampNeg = 6 * c + 5 := nI_clamp (by omega)
        conv => whnf
        refine ⟨vp_in_nI (by omega) (by decide), ?_⟩
        conv => whnf
        simp only [hcl, hk]
        refine smf_rulePart (k := kd) (t := 0) (by omega) hk4 (by omega) ?_
        conv => whnf
        refine ⟨fun z1 => ?_, fun z1 => ?_⟩
        · conv => whnf
          (try simp only [hcb, nI_6m, nI_1, nI_k _ 2 2 rfl, nI_k _ 3 3 rfl, nI_k _ 4 4 rfl, nI_k _ 5 5 rfl, m_ui_ap, m_fil_ap, m_cpy_ap, Nat.reduceEqDiff, Nat.reduceLT, Nat.reduceLeDiff, eq_self, ↓reduceIte, false_and, and_false, true_and, and_true, and_self])
          refine ⟨vp_in_nI (by omega) (by decide), ?_⟩
          conv => whnf
          (try simp only [hcb, nI_6m, nI_1, nI_k _ 2 2 rfl, nI_k _ 3 3 rfl, nI_k _ 4 4 rfl, nI_k _ 5 5 rfl, m_ui_ap, m_fil_ap, m_cpy_ap, Nat.reduceEqDiff, Nat.reduceLT, Nat.reduceLeDiff, eq_self, ↓reduceIte, false_and, and_false, true_and, and_true, and_self])
          refine ⟨vp_in_nI (by omega) (by decide), ?_⟩
          conv => whnf
          (try (refine ⟨fun c => ?_, fun c => ?_⟩ <;> first | ((have c9 : (1 : Int32) = 0 := by with_reducible exact c); exact absurd c9 (by decide)) | exact absurd (rfl : (0 : Int32) = 0) (by with_reducible exact c) | exact absurd True.intro (by with_reducible exact c) | exact False.elim (by with_reducible exact c) | (conv => whnf)))
          (try simp only [hcb, nI_6m, nI_1, nI_k _ 2 2 rfl, nI_k _ 3 3 rfl, nI_k _ 4 4 rfl, nI_k _ 5 5 rfl, m_ui_ap, m_fil_ap, m_cpy_ap, Nat.reduceEqDiff, Nat.reduceLT, Nat.reduceLeDiff, eq_self, ↓reduceIte, false_and, and_false, true_and, and_true, and_self])
          refine ⟨vp_in_nI (by omega) (by decide), ?_⟩
          conv => whnf
          (try simp only [hcb, nI_6m, nI_1, nI_k _ 2 2 rfl, nI_k _ 3 3 rfl, nI_k _ 4 4 rfl, nI_k _ 5 5 rfl, m_ui_ap, m_fil_ap, m_cpy_ap, Nat.reduceEqDiff, Nat.reduceLT, Nat.reduceLeDiff, eq_self, ↓reduceIte, false_and, and_false, true_and, and_true, and_self])
          refine ⟨vp_in_nI (by omega) (by decide), ?_⟩
          conv => whnf
          (try simp only [hcb, nI_6m, nI_1, nI_k _ 2 2 rfl, nI_k _ 3 3 rfl, nI_k _ 4 4 rfl, nI_k _ 5 5 rfl, m_ui_ap, m_fil_ap, m_cpy_ap, Nat.reduceEqDiff, Nat.reduceLT, Nat.reduceLeDiff, eq_self, ↓reduceIte, false_and, and_false, true_and, and_true, and_self])
          refine ⟨vp_in_nI (by omega) (by decide), ?_⟩
          conv => whnf
          refine ⟨fun c5 => ?_, fun c5 => ?_⟩
          · conv => whnf
            (try simp only [hcb, nI_6m, nI_1, nI_k _ 2 2 rfl, nI_k _ 3 3 rfl, nI_k _ 4 4 rfl, nI_k _ 5 5 rfl, m_ui_ap, m_fil_ap, m_cpy_ap, Nat.reduceEqDiff, Nat.reduceLT, Nat.reduceLeDiff, eq_self, ↓reduceIte, false_and, and_false, true_and, and_true, and_self])
            refine ⟨vp_in_nI (by omega) (by decide), ?_⟩
            conv => whnf
            (try refine ⟨by first | exact Or.inl rfl | exact Or.inl True.intro, ?_⟩)
            (try (conv => whnf))
            (try (refine ⟨fun c => ?_, fun c => ?_⟩ <;> first | ((have c9 : (1 : Int32) = 0 := by with_reducible exact c); exact absurd c9 (by decide)) | exact absurd (rfl : (0 : Int32) = 0) (by with_reducible exact c) | exact absurd True.intro (by with_reducible exact c) | exact False.elim (by with_reducible exact c) | (conv => whnf)))
            have e7 : fr x5 = 0 := if_pos c5
            have H2 := H _ _ (Or.inr ⟨j, hj, rfl, hw, Or.inr (Or.inr ⟨by rw [hB]; exact e1, by omega, kd, hk4, hk, Or.inr ⟨by rw [hB]; exact fun z => z.1 z1, rfl⟩, rfl⟩)⟩)
            unfold mvadd at H2
            rw [e7, hB] at H2
            simp only [hc0, hc1, hc2, hc3, hc4, hc5, hcb, nI_6m, nI_1, nI_k _ 2 2 rfl, nI_k _ 3 3 rfl, nI_k _ 4 4 rfl, nI_k _ 5 5 rfl]
            (try simp only [hcb, nI_1, m_ui_ap, m_fil_ap, m_cpy_ap, Nat.reduceEqDiff, Nat.reduceLT, Nat.reduceLeDiff, eq_self, ↓reduceIte, false_and, and_false, true_and, and_true, and_self])
            exact H2
          · conv => whnf
            (try simp only [hcb, nI_6m, nI_1, nI_k _ 2 2 rfl, nI_k _ 3 3 rfl, nI_k _ 4 4 rfl, nI_k _ 5 5 rfl, m_ui_ap, m_fil_ap, m_cpy_ap, Nat.reduceEqDiff, Nat.reduceLT, Nat.reduceLeDiff, eq_self, ↓reduceIte, false_and, and_false, true_and, and_true, and_self])
            refine ⟨vp_in_nI (by omega) (by decide), ?_⟩
            conv => whnf
            (try refine ⟨by first | exact Or.inl rfl | exact Or.inl True.intro, ?_⟩)
            (try (conv => whnf))
            (try (refine ⟨fun c => ?_, fun c => ?_⟩ <;> first | ((have c9 : (1 : Int32) = 0 := by with_reducible exact c); exact absurd c9 (by decide)) | exact absurd (rfl : (0 : Int32) = 0) (by with_reducible exact c) | exact absurd True.intro (by with_reducible exact c) | exact False.elim (by with_reducible exact c) | (conv => whnf)))
            have e7 : fr x5 = 1 := if_neg c5
            have H2 := H _ _ (Or.inr ⟨j, hj, rfl, hw, Or.inr (Or.inr ⟨by rw [hB]; exact e1, by omega, kd, hk4, hk, Or.inr ⟨by rw [hB]; exact fun z => z.1 z1, rfl⟩, rfl⟩)⟩)
            unfold mvadd at H2
            rw [e7, hB] at H2
            simp only [hc0, hc1, hc2, hc3, hc4, hc5, hcb, nI_6m, nI_1, nI_k _ 2 2 rfl, nI_k _ 3 3 rfl, nI_k _ 4 4 rfl, nI_k _ 5 5 rfl]
            (try simp only [hcb, nI_1, m_ui_ap, m_fil_ap, m_cpy_ap, Nat.reduceEqDiff, Nat.reduceLT, Nat.reduceLeDiff, eq_self, ↓reduceIte, false_and, and_false, true_and, and_true, and_self])
            exact H2
        · conv => whnf
          refine smf_ones (by omega) ?_
          conv => whnf
          refine smf_rulePart (k := kd) (t := 2) (by omega) hk4 (by omega) ?_
          conv => whnf
          refine smf_rulePart (k := kd) (t := 1) (by omega) hk4 (by omega) ?_
          conv => whnf
          refine ⟨fun z2 => ?_, fun z2 => ?_⟩
          · conv => whnf
            (try simp only [hcb, nI_6m, nI_1, nI_k _ 2 2 rfl, nI_k _ 3 3 rfl, nI_k _ 4 4 rfl, nI_k _ 5 5 rfl, m_ui_ap, m_fil_ap, m_cpy_ap, Nat.reduceEqDiff, Nat.reduceLT, Nat.reduceLeDiff, eq_self, ↓reduceIte, false_and, and_false, true_and, and_true, and_self])
            refine ⟨vp_in_nI (by omega) (by decide), ?_⟩
            conv => whnf
            (try simp only [hcb, nI_6m, nI_1, nI_k _ 2 2 rfl, nI_k _ 3 3 rfl, nI_k _ 4 4 rfl, nI_k _ 5 5 rfl, m_ui_ap, m_fil_ap, m_cpy_ap, Nat.reduceEqDiff, Nat.reduceLT, Nat.reduceLeDiff, eq_self, ↓reduceIte, false_and, and_false, true_and, and_true, and_self])
            refine ⟨vp_in_nI (by omega) (by decide), ?_⟩
            conv => whnf
            (try (refine ⟨fun c => ?_, fun c => ?_⟩ <;> first | ((have c9 : (1 : Int32) = 0 := by with_reducible exact c); exact absurd c9 (by decide)) | exact absurd (rfl : (0 : Int32) = 0) (by with_reducible exact c) | exact absurd True.intro (by with_reducible exact c) | exact False.elim (by with_reducible exact c) | (conv => whnf)))
            (try simp only [hcb, nI_6m, nI_1, nI_k _ 2 2 rfl, nI_k _ 3 3 rfl, nI_k _ 4 4 rfl, nI_k _ 5 5 rfl, m_ui_ap, m_fil_ap, m_cpy_ap, Nat.reduceEqDiff, Nat.reduceLT, Nat.reduceLeDiff, eq_self, ↓reduceIte, false_and, and_false, true_and, and_true, and_self])
            refine ⟨vp_in_nI (by omega) (by decide), ?_⟩
            conv => whnf
            (try simp only [hcb, nI_6m, nI_1, nI_k _ 2 2 rfl, nI_k _ 3 3 rfl, nI_k _ 4 4 rfl, nI_k _ 5 5 rfl, m_ui_ap, m_fil_ap, m_cpy_ap, Nat.reduceEqDiff, Nat.reduceLT, Nat.reduceLeDiff, eq_self, ↓reduceIte, false_and, and_false, true_and, and_true, and_self])
            refine ⟨vp_in_nI (by omega) (by decide), ?_⟩
            conv => whnf
            (try simp only [hcb, nI_6m, nI_1, nI_k _ 2 2 rfl, nI_k _ 3 3 rfl, nI_k _ 4 4 rfl, nI_k _ 5 5 rfl, m_ui_ap, m_fil_ap, m_cpy_ap, Nat.reduceEqDiff, Nat.reduceLT, Nat.reduceLeDiff, eq_self, ↓reduceIte, false_and, and_false, true_and, and_true, and_self])
            refine ⟨vp_in_nI (by omega) (by decide), ?_⟩
            conv => whnf
            refine ⟨fun c5 => ?_, fun c5 => ?_⟩
            · conv => whnf
              (try simp only [hcb, nI_6m, nI_1, nI_k _ 2 2 rfl, nI_k _ 3 3 rfl, nI_k _ 4 4 rfl, nI_k _ 5 5 rfl, m_ui_ap, m_fil_ap, m_cpy_ap, Nat.reduceEqDiff, Nat.reduceLT, Nat.reduceLeDiff, eq_self, ↓reduceIte, false_and, and_false, true_and, and_true, and_self])
              refine ⟨vp_in_nI (by omega) (by decide), ?_⟩
              conv => whnf
              (try refine ⟨by first | exact Or.inl rfl | exact Or.inl True.intro, ?_⟩)
              (try (conv => whnf))
              (try (refine ⟨fun c => ?_, fun c => ?_⟩ <;> first | ((have c9 : (1 : Int32) = 0 := by with_reducible exact c); exact absurd c9 (by decide)) | exact absurd (rfl : (0 : Int32) = 0) (by with_reducible exact c) | exact absurd True.intro (by with_reducible exact c) | exact False.elim (by with_reducible exact c) | (conv => whnf)))
              have e7 : fr x5 = 0 := if_pos c5
              have H2 := H _ _ (Or.inr ⟨j, hj, rfl, hw, Or.inr (Or.inr ⟨by rw [hB]; exact e1, by omega, kd, hk4, hk, Or.inr ⟨by rw [hB]; exact fun z => z.2 z2, rfl⟩, rfl⟩)⟩)
              unfold mvadd at H2
              rw [e7, hB] at H2
              simp only [hc0, hc1, hc2, hc3, hc4, hc5, hcb, nI_6m, nI_1, nI_k _ 2 2 rfl, nI_k _ 3 3 rfl, nI_k _ 4 4 rfl, nI_k _ 5 5 rfl]
              (try simp only [hcb, nI_1, m_ui_ap, m_fil_ap, m_cpy_ap, Nat.reduceEqDiff, Nat.reduceLT, Nat.reduceLeDiff, eq_self, ↓reduceIte, false_and, and_false, true_and, and_true, and_self])
              exact H2
            · conv => whnf
              (try simp only [hcb, nI_6m, nI_1, nI_k _ 2 2 rfl, nI_k _ 3 3 rfl, nI_k _ 4 4 rfl, nI_k _ 5 5 rfl, m_ui_ap, m_fil_ap, m_cpy_ap, Nat.reduceEqDiff, Nat.reduceLT, Nat.reduceLeDiff, eq_self, ↓reduceIte, false_and, and_false, true_and, and_true, and_self])
              refine ⟨vp_in_nI (by omega) (by decide), ?_⟩
              conv => whnf
              (try refine ⟨by first | exact Or.inl rfl | exact Or.inl True.intro, ?_⟩)
              (try (conv => whnf))
              (try (refine ⟨fun c => ?_, fun c => ?_⟩ <;> first | ((have c9 : (1 : Int32) = 0 := by with_reducible exact c); exact absurd c9 (by decide)) | exact absurd (rfl : (0 : Int32) = 0) (by with_reducible exact c) | exact absurd True.intro (by with_reducible exact c) | exact False.elim (by with_reducible exact c) | (conv => whnf)))
              have e7 : fr x5 = 1 := if_neg c5
              have H2 := H _ _ (Or.inr ⟨j, hj, rfl, hw, Or.inr (Or.inr ⟨by rw [hB]; exact e1, by omega, kd, hk4, hk, Or.inr ⟨by rw [hB]; exact fun z => z.2 z2, rfl⟩, rfl⟩)⟩)
              unfold mvadd at H2
              rw [e7, hB] at H2
              simp only [hc0, hc1, hc2, hc3, hc4, hc5, hcb, nI_6m, nI_1, nI_k _ 2 2 rfl, nI_k _ 3 3 rfl, nI_k _ 4 4 rfl, nI_k _ 5 5 rfl]
              (try simp only [hcb, nI_1, m_ui_ap, m_fil_ap, m_cpy_ap, Nat.reduceEqDiff, Nat.reduceLT, Nat.reduceLeDiff, eq_self, ↓reduceIte, false_and, and_false, true_and, and_true, and_self])
              exact H2
          · conv => whnf
            (try simp only [hcb, nI_6m, nI_1, nI_k _ 2 2 rfl, nI_k _ 3 3 rfl, nI_k _ 4 4 rfl, nI_k _ 5 5 rfl, m_ui_ap, m_fil_ap, m_cpy_ap, Nat.reduceEqDiff, Nat.reduceLT, Nat.reduceLeDiff, eq_self, ↓reduceIte, false_and, and_false, true_and, and_true, and_self])
            refine ⟨vp_in_nI (by omega) (by decide), ?_⟩
            conv => whnf
            (try simp only [hcb, nI_6m, nI_1, nI_k _ 2 2 rfl, nI_k _ 3 3 rfl, nI_k _ 4 4 rfl, nI_k _ 5 5 rfl, m_ui_ap, m_fil_ap, m_cpy_ap, Nat.reduceEqDiff, Nat.reduceLT, Nat.reduceLeDiff, eq_self, ↓reduceIte, false_and, and_false, true_and, and_true, and_self])
            refine ⟨vp_in_nI (by omega) (by decide), ?_⟩
            conv => whnf
            (try (refine ⟨fun c => ?_, fun c => ?_⟩ <;> first | ((have c9 : (1 : Int32) = 0 := by with_reducible exact c); exact absurd c9 (by decide)) | exact absurd (rfl : (0 : Int32) = 0) (by with_reducible exact c) | exact absurd True.intro (by with_reducible exact c) | exact False.elim (by with_reducible exact c) | (conv => whnf)))
            (try simp only [hcb, nI_6m, nI_1, nI_k _ 2 2 rfl, nI_k _ 3 3 rfl, nI_k _ 4 4 rfl, nI_k _ 5 5 rfl, m_ui_ap, m_fil_ap, m_cpy_ap, Nat.reduceEqDiff, Nat.reduceLT, Nat.reduceLeDiff, eq_self, ↓reduceIte, false_and, and_false, true_and, and_true, and_self])
            refine ⟨vp_in_nI (by omega) (by decide), ?_⟩
            conv => whnf
            (try simp only [hcb, nI_6m, nI_1, nI_k _ 2 2 rfl, nI_k _ 3 3 rfl, nI_k _ 4 4 rfl, nI_k _ 5 5 rfl, m_ui_ap, m_fil_ap, m_cpy_ap, Nat.reduceEqDiff, Nat.reduceLT, Nat.reduceLeDiff, eq_self, ↓reduceIte, false_and, and_false, true_and, and_true, and_self])
            refine ⟨vp_in_nI (by omega) (by decide), ?_⟩
            conv => whnf
            (try simp only [hcb, nI_6m, nI_1, nI_k _ 2 2 rfl, nI_k _ 3 3 rfl, nI_k _ 4 4 rfl, nI_k _ 5 5 rfl, m_ui_ap, m_fil_ap, m_cpy_ap, Nat.reduceEqDiff, Nat.reduceLT, Nat.reduceLeDiff, eq_self, ↓reduceIte, false_and, and_false, true_and, and_true, and_self])
            refine ⟨vp_in_nI (by omega) (by decide), ?_⟩
            conv => whnf
            refine ⟨fun c5 => ?_, fun c5 => ?_⟩
            · conv => whnf
              (try simp only [hcb, nI_6m, nI_1, nI_k _ 2 2 rfl, nI_k _ 3 3 rfl, nI_k _ 4 4 rfl, nI_k _ 5 5 rfl, m_ui_ap, m_fil_ap, m_cpy_ap, Nat.reduceEqDiff, Nat.reduceLT, Nat.reduceLeDiff, eq_self, ↓reduceIte, false_and, and_false, true_and, and_true, and_self])
              refine ⟨vp_in_nI (by omega) (by decide), ?_⟩
              conv => whnf
              (try refine ⟨by first | exact Or.inl rfl | exact Or.inl True.intro, ?_⟩)
              (try (conv => whnf))
              (try (refine ⟨fun c => ?_, fun c => ?_⟩ <;> first | ((have c9 : (1 : Int32) = 0 := by with_reducible exact c); exact absurd c9 (by decide)) | exact absurd (rfl : (0 : Int32) = 0) (by with_reducible exact c) | exact absurd True.intro (by with_reducible exact c) | exact False.elim (by with_reducible exact c) | (conv => whnf)))
              have e7 : fr x5 = 0 := if_pos c5
              have H2 := H _ _ (Or.inr ⟨j, hj, rfl, hw, Or.inr (Or.inr ⟨by rw [hB]; exact e1, by omega, kd, hk4, hk, Or.inl ⟨by rw [hB]; exact ⟨z1, z2⟩, rfl⟩, rfl⟩)⟩)
              unfold mvadd at H2
              rw [e7, hB] at H2
              simp only [hc0, hc1, hc2, hc3, hc4, hc5, hcb, nI_6m, nI_1, nI_k _ 2 2 rfl, nI_k _ 3 3 rfl, nI_k _ 4 4 rfl, nI_k _ 5 5 rfl]
              (try simp only [hcb, nI_1, m_ui_ap, m_fil_ap, m_cpy_ap, Nat.reduceEqDiff, Nat.reduceLT, Nat.reduceLeDiff, eq_self, ↓reduceIte, false_and, and_false, true_and, and_true, and_self])
              exact H2
            · conv => whnf
              (try simp only [hcb, nI_6m, nI_1, nI_k _ 2 2 rfl, nI_k _ 3 3 rfl, nI_k _ 4 4 rfl, nI_k _ 5 5 rfl, m_ui_ap, m_fil_ap, m_cpy_ap, Nat.reduceEqDiff, Nat.reduceLT, Nat.reduceLeDiff, eq_self, ↓reduceIte, false_and, and_false, true_and, and_true, and_self])
              refine ⟨vp_in_nI (by omega) (by decide), ?_⟩
              conv => whnf
              (try refine ⟨by first | exact Or.inl rfl | exact Or.inl True.intro, ?_⟩)
              (try (conv => whnf))
              (try (refine ⟨fun c => ?_, fun c => ?_⟩ <;> first | ((have c9 : (1 : Int32) = 0 := by with_reducible exact c); exact absurd c9 (by decide)) | exact absurd (rfl : (0 : Int32) = 0) (by with_reducible exact c) | exact absurd True.intro (by with_reducible exact c) | exact False.elim (by with_reducible exact c) | (conv => whnf)))
              have e7 : fr x5 = 1 := if_neg c5
              have H2 := H _ _ (Or.inr ⟨j, hj, rfl, hw, Or.inr (Or.inr ⟨by rw [hB]; exact e1, by omega, kd, hk4, hk, Or.inl ⟨by rw [hB]; exact ⟨z1, z2⟩, rfl⟩, rfl⟩)⟩)
              unfold mvadd at H2
              rw [e7, hB] at H2
              simp only [hc0, hc1, hc2, hc3, hc4, hc5, hcb, nI_6m, nI_1, nI_k _ 2 2 rfl, nI_k _ 3 3 rfl, nI_k _ 4 4 rfl, nI_k _ 5 5 rfl]
              (try simp only [hcb, nI_1, m_ui_ap, m_fil_ap, m_cpy_ap, Nat.reduceEqDiff, Nat.reduceLT, Nat.reduceLeDiff, eq_self, ↓reduceIte, false_and, and_false, true_and, and_true, and_self])
              exact H2
    · conv => whnf
      exact H _ _ (Or.inr ⟨j, hj, rfl, hw, Or.inl ⟨by rw [hB]; exact (tv).2.mp e1, rfl, rfl⟩⟩)
  | k + 1, i, x, a, s9, s10, s11, s12, hi, hx, he => by
    subst hx
    have hcl : (nI i).toNatClampNeg = i := nI_clamp (by omega)
    refine at_X11_vote ?_
    conv => whnf
    refine ⟨fun c => absurd c (nI_ge (b := 8) (by omega) (by omega)), fun c => ?_⟩
    conv => whnf
    refine ⟨vp_in_nI (by omega) (by decide), ?_⟩
    conv => whnf
    simp only [hcl]
    refine ⟨fun c1 => ?_, fun c1 => ?_⟩
    · conv => whnf
      refine vm_lp hd hj hm hcb hcm hkd hw ew H k (i + 1) _ _ _ _ _ _ (by omega) (nI_1 i) ?_
      rw [may_n (P := fun m => ¬ f 212 m &&& w = 0) (D := fun m => nI m) (k := k) (i := i) (a := a) (fun z => z c1)] at he
      show mayl (fun m => ¬ f 212 m &&& w = 0) (fun m => nI m) k (i + 1) (a ||| 0) = _
      rw [or_0]
      exact he
    · conv => whnf
      refine vm_lp hd hj hm hcb hcm hkd hw ew H k (i + 1) _ _ _ _ _ _ (by omega) (nI_1 i) ?_
      rw [may_y (P := fun m => ¬ f 212 m &&& w = 0) (D := fun m => nI m) (k := k) (i := i) (a := a) c1] at he
      exact he
set_option maxRecDepth 100000 in
set_option maxHeartbeats 4000000 in
theorem smf_vote {d L : Nat} {f : Nat → Nat → Int32} {g : Nat → Nat → Int64} {n h c : Nat} {x1 x2 x3 x4 x5 : Int32} {R : Option Value → mH → Prop} (hd : 6 ≤ d) (hb : f 181 0 = nI n) (hm : n ≤ 40) (hhb : f 181 14 = nI h) (hhm : h ≤ 60) (hcb : f 181 48 = nI c) (hcm : c ≤ 60) (hkd : ∀ j, inr 0 3 (f 182 j)) (H : ∀ v f1, SM_vote n h c f f1 x1 x2 x3 x4 x5 v → R (some (.int v)) (shF L, f1, g)) : Run mtab d 225 [.ref 181, .int x1, .int x2, .int x3, .int x4, .int x5] (shF L, f, g) R := by
  obtain ⟨d, rfl⟩ : ∃ e, d = e + 1 := ⟨d - 1, by omega⟩
  refine go_X11_vote rfl ?_
  conv => whnf
  refine ct_mIsWork (by omega) hb hm (fun j hj e => ?_) (fun q => ?_)
  · subst e
    conv => whnf
    (refine ⟨fun c => ?_, fun c => ?_⟩ <;> first | ((have c9 : (1 : Int32) = 0 := by with_reducible exact c); exact absurd c9 (by decide)) | exact absurd (rfl : (0 : Int32) = 0) (by with_reducible exact c) | exact absurd True.intro (by with_reducible exact c) | exact False.elim (by with_reducible exact c) | (conv => whnf))
    refine ct_i_0_9999 (by omega) (fun p2 => ?_) (fun p2 => ?_)
    · conv => whnf
      (refine ⟨fun c => ?_, fun c => ?_⟩ <;> first | ((have c9 : (1 : Int32) = 0 := by with_reducible exact c); exact absurd c9 (by decide)) | exact absurd (rfl : (0 : Int32) = 0) (by with_reducible exact c) | exact absurd True.intro (by with_reducible exact c) | exact False.elim (by with_reducible exact c) | (conv => whnf))
      refine ct_i_0_255 (by omega) (fun p3 => ?_) (fun p3 => ?_)
      · conv => whnf
        (refine ⟨fun c => ?_, fun c => ?_⟩ <;> first | ((have c9 : (1 : Int32) = 0 := by with_reducible exact c); exact absurd c9 (by decide)) | exact absurd (rfl : (0 : Int32) = 0) (by with_reducible exact c) | exact absurd True.intro (by with_reducible exact c) | exact False.elim (by with_reducible exact c) | (conv => whnf))
        refine ct_i_0_255 (by omega) (fun p4 => ?_) (fun p4 => ?_)
        · conv => whnf
          (refine ⟨fun c => ?_, fun c => ?_⟩ <;> first | ((have c9 : (1 : Int32) = 0 := by with_reducible exact c); exact absurd c9 (by decide)) | exact absurd (rfl : (0 : Int32) = 0) (by with_reducible exact c) | exact absurd True.intro (by with_reducible exact c) | exact False.elim (by with_reducible exact c) | (conv => whnf))
          refine ⟨fun e0 => ?_, fun e0 => ?_⟩
          · conv => whnf
            have hw : votew n (nI j) x2 x3 x4 := ⟨⟨j, hj, rfl⟩, p2, p3, p4, e0⟩
            refine ⟨by decide, ?_⟩
            conv => whnf
            refine smf_mayHold (by omega) hhb hhm ?_
            conv => whnf
            exact vm_lp (by omega) hj hm hcb hcm hkd hw rfl H 8 0 _ _ _ _ _ _ (by omega) rfl rfl
          · conv => whnf
            exact H _ _ (Or.inl ⟨fun hh => e0 hh.2.2.2.2, rfl, rfl⟩)
        · conv => whnf
          (refine ⟨fun c => ?_, fun c => ?_⟩ <;> first | ((have c9 : (1 : Int32) = 0 := by with_reducible exact c); exact absurd c9 (by decide)) | exact absurd (rfl : (0 : Int32) = 0) (by with_reducible exact c) | exact absurd True.intro (by with_reducible exact c) | exact False.elim (by with_reducible exact c) | (conv => whnf))
          exact H _ _ (Or.inl ⟨fun hh => p4 hh.2.2.2.1, rfl, rfl⟩)
      · conv => whnf
        (refine ⟨fun c => ?_, fun c => ?_⟩ <;> first | ((have c9 : (1 : Int32) = 0 := by with_reducible exact c); exact absurd c9 (by decide)) | exact absurd (rfl : (0 : Int32) = 0) (by with_reducible exact c) | exact absurd True.intro (by with_reducible exact c) | exact False.elim (by with_reducible exact c) | (conv => whnf))
        exact H _ _ (Or.inl ⟨fun hh => p3 hh.2.2.1, rfl, rfl⟩)
    · conv => whnf
      (refine ⟨fun c => ?_, fun c => ?_⟩ <;> first | ((have c9 : (1 : Int32) = 0 := by with_reducible exact c); exact absurd c9 (by decide)) | exact absurd (rfl : (0 : Int32) = 0) (by with_reducible exact c) | exact absurd True.intro (by with_reducible exact c) | exact False.elim (by with_reducible exact c) | (conv => whnf))
      exact H _ _ (Or.inl ⟨fun hh => p2 hh.2.1, rfl, rfl⟩)
  · conv => whnf
    (refine ⟨fun c => ?_, fun c => ?_⟩ <;> first | ((have c9 : (1 : Int32) = 0 := by with_reducible exact c); exact absurd c9 (by decide)) | exact absurd (rfl : (0 : Int32) = 0) (by with_reducible exact c) | exact absurd True.intro (by with_reducible exact c) | exact False.elim (by with_reducible exact c) | (conv => whnf))
    exact H _ _ (Or.inl ⟨fun hh => nhasw q hh.1, rfl, rfl⟩)
