theorem bvb (b : BitVec 64) (s : Nat) (hs : s = 0 ∨ s = 8 ∨ s = 16 ∨ s = 24 ∨ s = 32 ∨ s = 40 ∨ s = 48 ∨ s = 56) : b.sshiftRight s &&& 255#64 = (((b >>> s).setWidth 32) &&& 255#32).signExtend 64 := by
  apply BitVec.eq_of_toNat_eq
  have m1 : ∀ (x : BitVec 64), (x &&& 255#64).toNat = x.toNat % 256 := fun x => by
    rw [BitVec.toNat_and]
    exact Nat.and_two_pow_sub_one_eq_mod _ 8
  have m2 : ∀ (x : BitVec 32), (x &&& 255#32).toNat = x.toNat % 256 := fun x => by
    rw [BitVec.toNat_and]
    exact Nat.and_two_pow_sub_one_eq_mod _ 8
  have m3 : ∀ (x : BitVec 32), (x &&& 255#32).msb = false := fun x => by
    rw [BitVec.msb_eq_decide, m2]
    have : x.toNat % 256 < 256 := Nat.mod_lt _ (by decide)
    simp
    omega
  rw [m1, BitVec.signExtend_eq_setWidth_of_msb_false (m3 _), BitVec.toNat_setWidth, m2, BitVec.toNat_setWidth, BitVec.toNat_ushiftRight, BitVec.toNat_sshiftRight]
  have hb := b.isLt
  generalize b.toNat = n at hb ⊢
  rcases hs with rfl | rfl | rfl | rfl | rfl | rfl | rfl | rfl <;> simp only [Nat.shiftRight_eq_div_pow] <;> split <;> omega
theorem byte_s (w a : Int64) (u : UInt64) (s : Nat) (hs : s = 0 ∨ s = 8 ∨ s = 16 ∨ s = 24 ∨ s = 32 ∨ s = 40 ∨ s = 48 ∨ s = 56) (ha : (a.toBitVec.smod 64).toNat = s) (hu : (u.toBitVec % 64).toNat = s) : (w >>> a) &&& 255 = ((w.toUInt64 >>> u).toInt64.toInt32 &&& 255).toInt64 := by
  apply Int64.toBitVec_inj.mp
  have l : ((w >>> a) &&& 255).toBitVec = w.toBitVec.sshiftRight s &&& 255#64 := by
    rw [← ha]
    rfl
  have r : ((w.toUInt64 >>> u).toInt64.toInt32 &&& 255).toInt64.toBitVec = (((w.toBitVec >>> s).setWidth 32) &&& 255#32).signExtend 64 := by
    rw [Int32.toBitVec_toInt64]
    have e : (w.toUInt64 >>> u).toInt64.toInt32.toBitVec = (w.toBitVec >>> s).setWidth 32 := by
      rw [Int64.toBitVec_toInt32, BitVec.signExtend_eq_setWidth_of_le _ (by decide), ← hu]
      rfl
    have e2 : ((w.toUInt64 >>> u).toInt64.toInt32 &&& 255).toBitVec = (w.toUInt64 >>> u).toInt64.toInt32.toBitVec &&& 255#32 := rfl
    rw [e2, e]
  rw [l, r]
  exact bvb w.toBitVec s hs
theorem byte_eq (w : Int64) (j : Nat) (hj : j < 8) : (w >>> ((8 * nI j).toInt64 &&& 63)) &&& 255 = (bAt w (nI j)).toInt64 := by
  unfold bAt
  match j, hj with
  | 0, _ => exact byte_s w _ _ 0 (by decide) (by decide) (by decide)
  | 1, _ => exact byte_s w _ _ 8 (by decide) (by decide) (by decide)
  | 2, _ => exact byte_s w _ _ 16 (by decide) (by decide) (by decide)
  | 3, _ => exact byte_s w _ _ 24 (by decide) (by decide) (by decide)
  | 4, _ => exact byte_s w _ _ 32 (by decide) (by decide) (by decide)
  | 5, _ => exact byte_s w _ _ 40 (by decide) (by decide) (by decide)
  | 6, _ => exact byte_s w _ _ 48 (by decide) (by decide) (by decide)
  | 7, _ => exact byte_s w _ _ 56 (by decide) (by decide) (by decide)
theorem chr_eq {b : Int32} (h : inr 32 126 b) : vp_nar .char ((b.toUInt32 % 65536).toInt32) = b := by
  have key : ∀ j : Nat, j < 127 → vp_nar .char (((nI j).toUInt32 % 65536).toInt32) = nI j := by decide +kernel
  have h0 : inr 0 126 b := ⟨Int32.le_trans (by decide) h.1, h.2⟩
  obtain ⟨j, hj, rfl⟩ := inr_nat (n := 126) rfl h0
  exact key j (by omega)
theorem byte_i (w : Int64) (j : Nat) (hj : j < 8) : ((w >>> ((8 * nI j).toInt64 &&& 63)) &&& 255).toInt32 = bAt w (nI j) := by
  rw [byte_eq w j hj]
  exact Int32.toInt32_toInt64 _
/-- what typing leaves: P the place of the tape's length (slot s), Q the tape's own -/
def tyL (P s Q : Nat) (f f1 : Nat → Nat → Int32) (t n : Nat) (w : Int64) : Prop := f1 P s = nI (t + n) ∧ (∀ j, j < n → f1 Q (t + j) = bAt w (nI (n - 1 - j))) ∧ (∀ a i, ¬ (a = P ∧ i = s) → ¬ (a = Q ∧ t ≤ i) → f1 a i = f a i)
def tyS (P s Q : Nat) (t : Nat) (f f1 : Nat → Nat → Int32) (w : Int64) (x v : Int32) : Prop := (¬ tyw w x ∧ v = -1 ∧ f1 = f) ∨ (∃ n, 1 ≤ n ∧ n ≤ 8 ∧ x = nI n ∧ (∀ j, j < n → okb w j) ∧ ((50 < t + n ∧ v = -3 ∧ f1 = f) ∨ (t + n ≤ 50 ∧ v = nI (t + n) ∧ tyL P s Q f f1 t n w)))
theorem tyw_n {w : Int64} {n : Nat} (hn : n ≤ 8) (h : ¬ ∀ j, j < n → okb w j) : ¬ tyw w (nI n) := fun z => h (fun j hj => z.2 j (by rw [nI_clamp (by omega)]; exact hj))
theorem tyw_y {w : Int64} {x : Int32} {n : Nat} (h1 : 1 ≤ n) (hn : n ≤ 8) (e : x = nI n) (h : ∀ j, j < n → okb w j) : tyw w x := by
  subst e
  refine ⟨⟨?_, ?_⟩, fun j hj => h j (by rw [nI_clamp (by omega)] at hj; exact hj)⟩
  · rw [Int32.le_iff_toInt_le, nI_toInt (by omega)]
    have e1 : (1 : Int32).toInt = 1 := rfl
    omega
  · rw [Int32.le_iff_toInt_le, nI_toInt (by omega)]
    have e1 : (8 : Int32).toInt = 8 := rfl
    omega
theorem fr_step {f0 f : Nat → Nat → Int32} {P s Q t m n : Nat} {v : Int32} {w : Int64} (hPQ : ¬ P = Q) (htm : t ≤ m) (hv : v = bAt w (nI (n - 1 - (m - t)))) (h1 : ∀ j, j < m - t → f Q (t + j) = bAt w (nI (n - 1 - j))) (h2 : ∀ a i, ¬ (a = P ∧ i = s) → ¬ (a = Q ∧ t ≤ i) → f a i = f0 a i) : (∀ j, j < m + 1 - t → m_ui (m_ui f Q m v) P s (nI (m + 1)) Q (t + j) = bAt w (nI (n - 1 - j))) ∧ (∀ a i, ¬ (a = P ∧ i = s) → ¬ (a = Q ∧ t ≤ i) → m_ui (m_ui f Q m v) P s (nI (m + 1)) a i = f0 a i) := by
  constructor
  · intro j hj
    rw [m_ui_o (fun z => hPQ z.1.symm)]
    by_cases e : t + j = m
    · rw [m_ui_s' e, hv, show m - t = j by omega]
    · rw [m_ui_o (fun z => e z.2)]
      exact h1 j (by omega)
  · intro a i z1 z2
    rw [m_ui_o z1, m_ui_o (fun z => z2 ⟨z.1, by omega⟩)]
    exact h2 a i z1 z2
set_option maxRecDepth 100000 in
theorem ap_lp {d L n t : Nat} {w : Int64} {f0 : Nat → Nat → Int32} {g : Nat → Nat → Int64} {R : Option Value → mH → Prop} (hd : 1 ≤ d) (hn8 : n ≤ 8) (hn : t + n ≤ 50) (hk : ∀ j, j < n → okb w j) (H : ∀ f', tyL 107 3 118 f0 f' t n w → R (some (.int (nI (t + n)))) (shF L, f', g)) :
    ∀ (k m : Nat) (f : Nat → Nat → Int32), m + k = t + n → t ≤ m → f 107 3 = nI m → (∀ j, j < m - t → f 118 (t + j) = bAt w (nI (n - 1 - j))) → (∀ a i, ¬ (a = 107 ∧ i = 3) → ¬ (a = 118 ∧ t ≤ i) → f a i = f0 a i) → WPe pg_X6_append none (Run mtab d) R (m_drop pg_X6_append 12) [some (.ref 107), some (.long w), none, some (.int (nI n)), some (.int (nI k + -1))] [] (shF L, f, g)
  | 0, m, f, hm, htm, hf, h1, h2 => by
    have e : m = t + n := by omega
    subst e
    refine at_X6_append ?_
    conv => whnf
    refine ⟨fun c => ?_, fun c => absurd (by decide) c⟩
    conv => whnf
    simp only [hf]
    exact H f ⟨hf, fun j hj => h1 j (by omega), h2⟩
  | k + 1, m, f, hm, htm, hf, h1, h2 => by
    have e : nI (k + 1) + -1 = nI k := by rw [← Int32.sub_eq_add_neg, nI_pred]
    have hcl : (nI m).toNatClampNeg = m := nI_clamp (by omega)
    have hv : vp_nar .char (((bAt w (nI k)).toUInt32 % 65536).toInt32) = bAt w (nI (n - 1 - (m - t))) := by
      rw [chr_eq (hk k (by omega)), show n - 1 - (m - t) = k by omega]
    have st := fr_step (f0 := f0) (P := 107) (s := 3) (Q := 118) (n := n) (by decide) htm hv h1 h2
    rw [e]
    refine at_X6_append ?_
    conv => whnf
    refine ⟨fun c => absurd c (nI_pos (by omega)), fun c => ?_⟩
    conv => whnf
    refine ct_byteAt hd ?_
    conv => whnf
    simp only [hf]
    refine ⟨vp_in_nI (by omega) (by decide), ?_⟩
    conv => whnf
    simp only [hf, hcl, nI_1, m_ui_ap, m_fil_ap, m_cpy_ap, Nat.reduceEqDiff, Nat.reduceLT, Nat.reduceLeDiff, eq_self, ↓reduceIte, false_and, and_false, true_and, and_true, and_self]
    exact ap_lp hd hn8 hn hk H k (m + 1) _ (by omega) (by omega) m_ui_s st.1 st.2
set_option maxRecDepth 100000 in
set_option maxHeartbeats 4000000 in
theorem sf_append {d L : Nat} {f : Nat → Nat → Int32} {g : Nat → Nat → Int64} {n t : Nat} {w : Int64} {R : Option Value → mH → Prop} (hd : 2 ≤ d) (hn8 : n ≤ 8) (ht : t ≤ 50) (hb : f 107 3 = nI t) (hk : ∀ j, j < n → okb w j) (HF : 50 < t + n → R (some (.int (-3))) (shF L, f, g)) (H : t + n ≤ 50 → ∀ f', tyL 107 3 118 f f' t n w → R (some (.int (nI (t + n)))) (shF L, f', g)) : Run mtab d 52 [.ref 107, .long w, .int (nI n)] (shF L, f, g) R := by
  obtain ⟨d, rfl⟩ : ∃ e, d = e + 1 := ⟨d - 1, by omega⟩
  refine go_X6_append rfl ?_
  conv => whnf
  simp only [hb]
  refine ⟨fun c => ?_, fun c => ?_⟩
  · have c2 : nI t + nI n ≤ nI 50 := c
    rw [nI_add, nI_leI (by omega) (by decide)] at c2
    conv => whnf
    have e2 : nI n - 1 = nI n + -1 := Int32.sub_eq_add_neg ..
    have := ap_lp (d := d) (L := L) (g := g) (w := w) (f0 := f) (n := n) (t := t) (by omega) hn8 c2 hk (H c2) n t f (by omega) (Nat.le_refl _) hb (fun j hj => absurd hj (by omega)) (fun a i _ _ => rfl)
    rw [← e2] at this
    exact this
  · have c2 : ¬ nI t + nI n ≤ nI 50 := c
    rw [nI_add, nI_leI (by omega) (by decide)] at c2
    conv => whnf
    exact HF (by omega)
set_option maxRecDepth 100000 in
theorem sf_type {d L t : Nat} {x : Int32} {w : Int64} {f : Nat → Nat → Int32} {g : Nat → Nat → Int64} {R : Option Value → mH → Prop} (hd : 6 ≤ d) (ht : t ≤ 50) (hb : f 107 3 = nI t) (H : ∀ v f1, tyS 107 3 118 t f f1 w x v → R (some (.int v)) (shF L, f1, g)) : Run mtab d 119 [.ref 5, .long w, .int x] (shF L, f, g) R := by
  obtain ⟨d, rfl⟩ : ∃ e, d = e + 1 := ⟨d - 1, by omega⟩
  refine go_X10_type rfl ?_
  conv => whnf
  refine ct_isWithin (by omega) (fun p => ?_) (fun p => ?_)
  · conv => whnf
    (refine ⟨fun c => ?_, fun c => ?_⟩ <;> first | ((have c9 : (1 : Int32) = 0 := by with_reducible exact c); exact absurd c9 (by decide)) | exact absurd (rfl : (0 : Int32) = 0) (by with_reducible exact c) | exact absurd True.intro (by with_reducible exact c) | exact False.elim (by with_reducible exact c) | (conv => whnf))
    obtain ⟨n, h1, h8, rfl⟩ := inr_18 p
    refine ct_areTypable (by omega) h8 (fun q => ?_) (fun q => ?_)
    · conv => whnf
      (refine ⟨fun c => ?_, fun c => ?_⟩ <;> first | ((have c9 : (1 : Int32) = 0 := by with_reducible exact c); exact absurd c9 (by decide)) | exact absurd (rfl : (0 : Int32) = 0) (by with_reducible exact c) | exact absurd True.intro (by with_reducible exact c) | exact False.elim (by with_reducible exact c) | (conv => whnf))
      refine sf_append (by omega) h8 ht hb q (fun z => ?_) (fun z f1 s1 => ?_)
      · conv => whnf
        exact H _ _ (Or.inr ⟨n, h1, h8, rfl, q, Or.inl ⟨z, rfl, rfl⟩⟩)
      · conv => whnf
        exact H _ _ (Or.inr ⟨n, h1, h8, rfl, q, Or.inr ⟨z, rfl, s1⟩⟩)
    · conv => whnf
      (refine ⟨fun c => ?_, fun c => ?_⟩ <;> first | ((have c9 : (1 : Int32) = 0 := by with_reducible exact c); exact absurd c9 (by decide)) | exact absurd (rfl : (0 : Int32) = 0) (by with_reducible exact c) | exact absurd True.intro (by with_reducible exact c) | exact False.elim (by with_reducible exact c) | (conv => whnf))
      exact H _ _ (Or.inl ⟨tyw_n h8 q, rfl, rfl⟩)
  · conv => whnf
    (refine ⟨fun c => ?_, fun c => ?_⟩ <;> first | ((have c9 : (1 : Int32) = 0 := by with_reducible exact c); exact absurd c9 (by decide)) | exact absurd (rfl : (0 : Int32) = 0) (by with_reducible exact c) | exact absurd True.intro (by with_reducible exact c) | exact False.elim (by with_reducible exact c) | (conv => whnf))
    exact H _ _ (Or.inl ⟨fun z => p z.1, rfl, rfl⟩)
set_option maxRecDepth 100000 in
theorem mt2_lp {d L n t : Nat} {w : Int64} {f0 : Nat → Nat → Int32} {g : Nat → Nat → Int64} {R : Option Value → mH → Prop} (hn8 : n ≤ 8) (hn : t + n ≤ 50) (H : ∀ f', tyL 181 46 217 f0 f' t n w → R (some (.int (nI (t + n)))) (shF L, f', g)) :
    ∀ (k m : Nat) (y : Int32) (f : Nat → Nat → Int32), m + k = t + n → t ≤ m → y = nI k + -1 → f 181 46 = nI m → (∀ j, j < m - t → f 217 (t + j) = bAt w (nI (n - 1 - j))) → (∀ a i, ¬ (a = 181 ∧ i = 46) → ¬ (a = 217 ∧ t ≤ i) → f a i = f0 a i) → WPe pg_X11_type none (Run mtab d) R (m_drop pg_X11_type 41) [some (.ref 181), some (.long w), none, some (.int (nI n)), some (.int y)] [] (shF L, f, g)
  | 0, m, y, f, hm, htm, hy, hf, h1, h2 => by
    have e : m = t + n := by omega
    subst e
    subst hy
    refine at_X11_type ?_
    conv => whnf
    refine ⟨fun c => ?_, fun c => absurd (by decide) c⟩
    conv => whnf
    simp only [hf]
    exact H f ⟨hf, fun j hj => h1 j (by omega), h2⟩
  | k + 1, m, y, f, hm, htm, hy, hf, h1, h2 => by
    have e : nI (k + 1) + -1 = nI k := by rw [← Int32.sub_eq_add_neg, nI_pred]
    have hcl : (nI m).toNatClampNeg = m := nI_clamp (by omega)
    have hv : ((w >>> ((8 * nI k).toInt64 &&& 63)) &&& 255).toInt32 = bAt w (nI (n - 1 - (m - t))) := by
      rw [byte_i w k (by omega), show n - 1 - (m - t) = k by omega]
    have st := fr_step (f0 := f0) (P := 181) (s := 46) (Q := 217) (n := n) (by decide) htm hv h1 h2
    rw [e] at hy
    subst hy
    refine at_X11_type ?_
    conv => whnf
    refine ⟨fun c => absurd c (nI_pos (by omega)), fun c => ?_⟩
    conv => whnf
    simp only [hf]
    refine ⟨vp_in_nI (by omega) (by decide), ?_⟩
    conv => whnf
    simp only [hf, hcl, nI_1, m_ui_ap, m_fil_ap, m_cpy_ap, Nat.reduceEqDiff, Nat.reduceLT, Nat.reduceLeDiff, eq_self, ↓reduceIte, false_and, and_false, true_and, and_true, and_self]
    exact mt2_lp hn8 hn H k (m + 1) _ _ (by omega) (by omega) rfl m_ui_s st.1 st.2
set_option maxRecDepth 100000 in
theorem mt1_lp {d L n t : Nat} {w : Int64} {f : Nat → Nat → Int32} {g : Nat → Nat → Int64} {R : Option Value → mH → Prop} (hd : 1 ≤ d) (hb : f 181 46 = nI t) (ht : t ≤ 50) (h1 : 1 ≤ n) (hn : n ≤ 8) (H : ∀ v f1, tyS 181 46 217 t f f1 w (nI n) v → R (some (.int v)) (shF L, f1, g)) :
    ∀ (k : Nat) (y : Int32), y = nI k + -1 → k ≤ n → (∀ j, k ≤ j → j < n → okb w j) → WPe pg_X11_type none (Run mtab d) R (m_drop pg_X11_type 12) [some (.ref 181), some (.long w), none, some (.int (nI n)), some (.int y)] [] (shF L, f, g)
  | 0, y, hy, hk, hp => by
    subst hy
    have q : ∀ j, j < n → okb w j := fun j hj => hp j (Nat.zero_le j) hj
    refine at_X11_type ?_
    conv => whnf
    refine ⟨fun c => ?_, fun c => absurd (by decide) c⟩
    conv => whnf
    simp only [hb]
    refine ⟨fun c => ?_, fun c => ?_⟩
    · have c2 : nI t + nI n ≤ nI 50 := c
      rw [nI_add, nI_leI (by omega) (by decide)] at c2
      conv => whnf
      exact mt2_lp (n := n) (t := t) hn c2 (fun f' s => H _ _ (Or.inr ⟨n, h1, hn, rfl, q, Or.inr ⟨c2, rfl, s⟩⟩)) n t _ f (by omega) (Nat.le_refl _) (Int32.sub_eq_add_neg ..) hb (fun j hj => absurd hj (by omega)) (fun a i _ _ => rfl)
    · have c2 : ¬ nI t + nI n ≤ nI 50 := c
      rw [nI_add, nI_leI (by omega) (by decide)] at c2
      conv => whnf
      exact H _ _ (Or.inr ⟨n, h1, hn, rfl, q, Or.inl ⟨by omega, rfl, rfl⟩⟩)
  | k + 1, y, hy, hk, hp => by
    have e : nI (k + 1) + -1 = nI k := by rw [← Int32.sub_eq_add_neg, nI_pred]
    rw [e] at hy
    subst hy
    refine at_X11_type ?_
    conv => whnf
    refine ⟨fun c => absurd c (nI_pos (by omega)), fun c => ?_⟩
    conv => whnf
    refine ct_in hd (byte_eq w k (by omega)) (lo := 32) rfl (hi := 126) rfl (fun p => ?_) (fun p => ?_)
    · conv => whnf
      (refine ⟨fun c => ?_, fun c => ?_⟩ <;> first | ((have c9 : (1 : Int32) = 0 := by with_reducible exact c); exact absurd c9 (by decide)) | exact absurd (rfl : (0 : Int32) = 0) (by with_reducible exact c) | exact absurd True.intro (by with_reducible exact c) | exact False.elim (by with_reducible exact c) | (conv => whnf))
      exact mt1_lp hd hb ht h1 hn H k _ rfl (by omega) (fun j hj hj2 => by
        by_cases e : j = k
        · subst e
          exact p
        · exact hp j (by omega) hj2)
    · conv => whnf
      (refine ⟨fun c => ?_, fun c => ?_⟩ <;> first | ((have c9 : (1 : Int32) = 0 := by with_reducible exact c); exact absurd c9 (by decide)) | exact absurd (rfl : (0 : Int32) = 0) (by with_reducible exact c) | exact absurd True.intro (by with_reducible exact c) | exact False.elim (by with_reducible exact c) | (conv => whnf))
      exact H _ _ (Or.inl ⟨tyw_n hn (fun q => p (q k (by omega))), rfl, rfl⟩)
set_option maxRecDepth 100000 in
theorem smf_type {d L t : Nat} {x : Int32} {w : Int64} {f : Nat → Nat → Int32} {g : Nat → Nat → Int64} {R : Option Value → mH → Prop} (hd : 6 ≤ d) (ht : t ≤ 50) (hb : f 181 46 = nI t) (H : ∀ v f1, tyS 181 46 217 t f f1 w x v → R (some (.int v)) (shF L, f1, g)) : Run mtab d 215 [.ref 181, .long w, .int x] (shF L, f, g) R := by
  obtain ⟨d, rfl⟩ : ∃ e, d = e + 1 := ⟨d - 1, by omega⟩
  refine go_X11_type rfl ?_
  conv => whnf
  refine ct_i_1_8 (by omega) (fun p => ?_) (fun p => ?_)
  · obtain ⟨n, h1, h8, rfl⟩ := inr_18 p
    conv => whnf
    (refine ⟨fun c => ?_, fun c => ?_⟩ <;> first | ((have c9 : (1 : Int32) = 0 := by with_reducible exact c); exact absurd c9 (by decide)) | exact absurd (rfl : (0 : Int32) = 0) (by with_reducible exact c) | exact absurd True.intro (by with_reducible exact c) | exact False.elim (by with_reducible exact c) | (conv => whnf))
    exact mt1_lp (by omega) hb ht h1 h8 H n _ (Int32.sub_eq_add_neg ..) (Nat.le_refl n) (fun j hj hj2 => absurd hj (by omega))
  · conv => whnf
    (refine ⟨fun c => ?_, fun c => ?_⟩ <;> first | ((have c9 : (1 : Int32) = 0 := by with_reducible exact c); exact absurd c9 (by decide)) | exact absurd (rfl : (0 : Int32) = 0) (by with_reducible exact c) | exact absurd True.intro (by with_reducible exact c) | exact False.elim (by with_reducible exact c) | (conv => whnf))
    exact H _ _ (Or.inl ⟨fun z => p z.1, rfl, rfl⟩)
def RT (t : Nat) (f : Nat → Nat → Int32) : Prop := t ≤ 50 ∧ f 107 3 = nI t ∧ f 181 46 = nI t ∧ ∀ j, j < t → f 118 j = f 217 j ∧ inr 32 126 (f 217 j)
def RR (f : Nat → Nat → Int32) : Prop := ∀ k t, k < 4 → t < 3 → f (109 + k) t = eC (fun k t => f (213 + t) k) k t
theorem RT_kp {l : List Nat} {t : Nat} {f f' : Nat → Nat → Int32} (k : kp l f f') (h3 : hasN l 3 = false) (h13 : hasN l 13 = false) (r : RT t f) : RT t f' := by
  obtain ⟨a, b, c, d⟩ := r
  refine ⟨a, (k 107 3 (by exact h3)).trans b, (k 181 46 (by exact h13)).trans c, fun j hj => ?_⟩
  rw [k 118 j (by exact h3), k 217 j (by exact h13)]
  exact d j hj
theorem cmp_3 {i : Nat} : ∀ a, 107 ≤ a → a ≤ 118 → cmp a i = 3 := by
  intro a h h'
  have : a = 107 ∨ a = 108 ∨ a = 109 ∨ a = 110 ∨ a = 111 ∨ a = 112 ∨ a = 113 ∨ a = 114 ∨ a = 115 ∨ a = 116 ∨ a = 117 ∨ a = 118 := by omega
  rcases this with rfl | rfl | rfl | rfl | rfl | rfl | rfl | rfl | rfl | rfl | rfl | rfl <;> rfl
theorem cmp_13 {i : Nat} : ∀ a, 213 ≤ a → a ≤ 215 → cmp a i = 13 := by
  intro a h h'
  have : a = 213 ∨ a = 214 ∨ a = 215 := by omega
  rcases this with rfl | rfl | rfl <;> rfl
theorem eC_congr {S S' : Nat → Nat → Int32} (h : ∀ k t, k < 4 → t < 3 → S k t = S' k t) {k t : Nat} (ht : t < 3) : eC S k t = eC S' k t := eC_SR (fun k hk => ⟨h k 0 hk (by omega), fun _ => ⟨h k 1 hk (by omega), h k 2 hk (by omega)⟩⟩) ht
theorem RR_kp {l : List Nat} {f f' : Nat → Nat → Int32} (k : kp l f f') (h3 : hasN l 3 = false) (h13 : hasN l 13 = false) (r : RR f) : RR f' := fun j t hj ht => by
  rw [k (109 + j) t (by rw [cmp_3 _ (by omega) (by omega)]; exact h3), r j t hj ht]
  exact eC_congr (fun k' t' hk' ht' => (k (213 + t') k' (by rw [cmp_13 _ (by omega) (by omega)]; exact h13)).symm) ht
theorem ab2_kp {l : List Nat} {f f' : Nat → Nat → Int32} (k : kp l f f') (h20 : hasN l 20 = false) (r : ab2 f) : ab2 f' := ⟨(k 2 0 (by exact h20)).trans r.1, (k 2 1 (by exact h20)).trans r.2.1, (k 2 2 (by exact h20)).trans r.2.2⟩
theorem XI_ty {f f1 : Nat → Nat → Int32} (hX : XI f) {P s Q t n : Nat} {w : Int64} (h : tyL P s Q f f1 t n w) (h1 : okv P s (f1 P s)) (hQ : ∀ i v, okv Q i v) : XI f1 := fun a i => by
  by_cases e1 : a = P ∧ i = s
  · rw [e1.1, e1.2]
    exact h1
  · by_cases e2 : a = Q ∧ t ≤ i
    · rw [e2.1]
      exact hQ _ _
    · rw [h.2.2 a i e1 e2]
      exact hX a i
theorem kx_type {t : Nat} {f f1 : Nat → Nat → Int32} {w : Int64} {x v : Int32} (s : tyS 107 3 118 t f f1 w x v) : kp [3] f f1 := by
  rcases s with ⟨_, _, rfl⟩ | ⟨n, _, _, _, _, ⟨_, _, rfl⟩ | ⟨_, _, h⟩⟩
  · exact kp_refl _ _
  · exact kp_refl _ _
  · intro a i z
    refine h.2.2 a i (fun e => ?_) (fun e => ?_)
    · rw [e.1, e.2] at z
      exact absurd (show true = false from z) (by decide)
    · rw [e.1] at z
      exact absurd (show true = false from z) (by decide)
theorem km_type {t : Nat} {f f1 : Nat → Nat → Int32} {w : Int64} {x v : Int32} (s : tyS 181 46 217 t f f1 w x v) : kp [13] f f1 := by
  rcases s with ⟨_, _, rfl⟩ | ⟨n, _, _, _, _, ⟨_, _, rfl⟩ | ⟨_, _, h⟩⟩
  · exact kp_refl _ _
  · exact kp_refl _ _
  · intro a i z
    refine h.2.2 a i (fun e => ?_) (fun e => ?_)
    · rw [e.1, e.2] at z
      exact absurd (show true = false from z) (by decide)
    · rw [e.1] at z
      exact absurd (show true = false from z) (by decide)
theorem fin_type {t : Nat} {f f1 f2 : Nat → Nat → Int32} {w : Int64} {x v1 v2 : Int32} (hX : XI f) (hT : RT t f) (s1 : tyS 107 3 118 t f f1 w x v1) (s2 : tyS 181 46 217 t f1 f2 w x v2) : XI f2 ∧ (∃ t, RT t f2) ∧ v1 = v2 := by
  have ht := hT.1
  rcases s1 with ⟨q1, rfl, rfl⟩ | ⟨n, a1, a8, e1, ok, s1⟩
  · rcases s2 with ⟨q2, rfl, rfl⟩ | ⟨n', b1, b8, e2, ok2, _⟩
    · exact ⟨hX, ⟨t, hT⟩, rfl⟩
    · exact absurd (tyw_y b1 b8 e2 ok2) q1
  · rcases s2 with ⟨q2, _⟩ | ⟨n', b1, b8, e2, ok2, s2⟩
    · exact absurd (tyw_y a1 a8 e1 ok) q2
    · have en : n = n' := (nI_eq (by omega) (by omega)).mp (e1.symm.trans e2)
      subst en
      rcases s1 with ⟨z1, rfl, rfl⟩ | ⟨z1, rfl, h1⟩
      · rcases s2 with ⟨z2, rfl, rfl⟩ | ⟨z2, _⟩
        · exact ⟨hX, ⟨t, hT⟩, rfl⟩
        · omega
      · rcases s2 with ⟨z2, _⟩ | ⟨z2, rfl, h2⟩
        · omega
        · have x1 := XI_ty hX h1 (show inr 0 50 _ by rw [h1.1]; exact inr_n (m := 50) z1 rfl (by decide)) (fun i v => True.intro)
          have x2 := XI_ty x1 h2 (show inr 0 50 _ by rw [h2.1]; exact inr_n (m := 50) z1 rfl (by decide)) (fun i v => True.intro)
          refine ⟨x2, ⟨t + n, z1, ?_, h2.1, fun j hj => ?_⟩, rfl⟩
          · rw [h2.2.2 107 3 (by omega) (by omega)]
            exact h1.1
          · rw [h2.2.2 118 j (by omega) (by omega)]
            by_cases q : j < t
            · rw [h1.2.2 118 j (by omega) (by omega), h2.2.2 217 j (by omega) (by omega), h1.2.2 217 j (by omega) (by omega)]
              exact hT.2.2.2 j q
            · have ej : j = t + (j - t) := by omega
              have c1 := h1.2.1 (j - t) (by omega)
              have c2 := h2.2.1 (j - t) (by omega)
              rw [← ej] at c1 c2
              rw [c1, c2]
              exact ⟨rfl, ok _ (by omega)⟩
theorem kx_rules {m : Nat} {f f1 : Nat → Nat → Int32} {v : Int32} (s : rtC f m f1 v) : kp [3] f f1 := fun a i z => by
  by_cases e : 107 ≤ a ∧ a ≤ 118
  · by_cases e8 : a = 118
    · subst e8
      exact absurd (show true = false from z) (by decide)
    · rw [cmp_3 a e.1 e.2] at z
      exact absurd z (by decide)
  · exact s.2.1 a i (by omega) (by omega)
theorem km_rules {m : Nat} {f f1 : Nat → Nat → Int32} {v : Int32} (s : rtM f m f1 v) : kp [10, 13] f f1 := fun a i z => by
  refine s.2.2.1 a i (fun e => ?_) (fun e => ?_) (fun e => ?_)
  · rw [e.1, e.2] at z
    exact absurd (show true = false from z) (by decide)
  · rw [e.1, e.2] at z
    exact absurd (show true = false from z) (by decide)
  · by_cases e6 : a = 216
    · subst e6
      exact absurd (show true = false from z) (by decide)
    · rw [cmp_13 a e.1 (by omega)] at z
      exact absurd z (by decide)
theorem okv_rr {a i : Nat} {v : Int32} (h : 108 ≤ a) (h' : a ≤ 118) : okv a i v := by
  unfold okv
  repeat rw [if_neg (by omega)]
  trivial
theorem okv_g {a i : Nat} {v : Int32} (h : 213 ≤ a) (h' : a ≤ 216) : okv a i v := by
  unfold okv
  repeat rw [if_neg (by omega)]
  trivial
theorem okv_107 {i : Nat} {v : Int32} (h3 : i = 3 → inr 0 50 v) (h4 : i = 4 → inr 0 50 v) : okv 107 i v := by
  by_cases e3 : i = 3
  · subst e3
    exact h3 rfl
  · by_cases e4 : i = 4
    · subst e4
      exact h4 rfl
    · unfold okv
      repeat rw [if_neg (by omega)]
      trivial
theorem XI_rc {m : Nat} {f f1 : Nat → Nat → Int32} {v : Int32} (hX : XI f) (s : rtC f m f1 v) : XI f1 := fun a i => by
  obtain ⟨s1, s2, ⟨p, hp, s3⟩, _⟩ := s
  by_cases e : a = 107
  · subst e
    refine okv_107 (fun e3 => ?_) (fun e4 => ?_)
    · subst e3
      rw [s1]
      unfold inr
      decide
    · subst e4
      rw [s3]
      exact inr_n (m := 50) hp rfl (by decide)
  · by_cases e2 : 109 ≤ a ∧ a ≤ 117
    · exact okv_rr (by omega) (by omega)
    · rw [s2 a i e e2]
      exact hX a i
theorem XI_rm {m : Nat} {f f1 : Nat → Nat → Int32} {v : Int32} (hX : XI f) (s : rtM f m f1 v) : XI f1 := fun a i => by
  obtain ⟨s1, ⟨p, hp, s3⟩, s2, _⟩ := s
  by_cases e : a = 181 ∧ i = 46
  · rw [e.1, e.2]
    show inr 0 50 (f1 181 46)
    rw [s1]
    unfold inr
    decide
  · by_cases e1 : a = 181 ∧ i = 47
    · rw [e1.1, e1.2]
      show inr 0 50 (f1 181 47)
      rw [s3]
      exact inr_n (m := 50) hp rfl (by decide)
    · by_cases e2 : 213 ≤ a ∧ a ≤ 216
      · exact okv_g e2.1 e2.2
      · rw [s2 a i e e1 e2]
        exact hX a i
theorem RT_tk {t : Nat} {f f1 : Nat → Nat → Int32} (hT : RT t f) (h : ∀ j, f1 217 j = f 217 j) : tk f1 217 t = tk f 118 t := by
  funext j
  unfold tk
  by_cases q : j < t
  · rw [if_pos q, if_pos q, h, (hT.2.2.2 j q).1]
  · rw [if_neg q, if_neg q]
theorem RT_ch {t : Nat} {f : Nat → Nat → Int32} (hT : RT t f) : ∀ j, j < t → ¬ tk f 217 t j < 0 := fun j hj => by
  rw [tk_at hj]
  exact i32_nlt.mpr (Int32.le_trans (by decide) (hT.2.2.2 j hj).2.1)
theorem fin_rules {m : Nat} {f f1 f2 : Nat → Nat → Int32} {v1 v2 : Int32} (hX : XI f) (hT : RT m f) (hR : RR f) (s1 : rtC f m f1 v1) (s2 : rtM f1 m f2 v2) : XI f2 ∧ ((∃ t, RT t f2) ∧ RR f2) ∧ v1 = v2 := by
  have hm := hT.1
  have k1 := kx_rules s1
  have eT := RT_tk hT (fun j => k1 217 j rfl)
  have x2 := XI_rm (XI_rc hX s1) s2
  have r2 : RT 0 f2 := ⟨by omega, (by rw [km_rules s2 107 3 rfl]; exact s1.1), s2.1, fun j hj => absurd hj (by omega)⟩
  obtain ⟨_, _, _, s1⟩ := s1
  obtain ⟨_, _, w2, s2⟩ := s2
  rw [eT] at s2
  have bo := al_both (T := tk f 118 m) hm 3 0 0 (fun k t => if t = 0 then 0 else f (114 + k) t) (by omega) (by omega)
  have sr := al_SR (T := tk f 118 m) (m := m) 4 0 0 (fun k t => if t = 0 then 0 else f (114 + k) t) (fun _ _ => 0) (fun k hk => ⟨rfl, fun z => absurd rfl z⟩)
  have rows : ∀ j t, j < 4 → t < 3 → f2 (109 + j) t = f1 (109 + j) t := fun j t hj ht => w2 _ _ (by omega) (by omega) (by omega)
  have mrow : ∀ j t, t < 3 → f1 (213 + t) j = f (213 + t) j := fun j t ht => k1 (213 + t) j (by rw [cmp_13 _ (by omega) (by omega)]; rfl)
  cases ha : alS (tk f 118 m) m 4 0 0 (fun k t => if t = 0 then 0 else f (114 + k) t) with
  | error r =>
    obtain ⟨hr, hq⟩ := bo.1 r ha
    have h0 := sr.1 r ha
    rw [h0] at s2
    rcases s1 with ⟨_, ev1, y1⟩ | ⟨z1, _⟩
    · rcases s2 with ⟨r', e', ev2, y2⟩ | ⟨n', S', e', _⟩
      · cases e'
        refine ⟨x2, ⟨⟨0, r2⟩, fun j t hj ht => ?_⟩, ?_⟩
        · rw [rows j t hj ht, y1 j t hj ht, hR j t hj ht]
          exact eC_congr (fun k' t' hk' ht' => by rw [y2 k' t' hk' ht', mrow k' t' ht']) ht
        · rw [ev1, ev2]
          exact congrArg (fun z => -20 - z) hq
      · cases e'
    · exact absurd (hq.symm.trans z1) (nI_n1 (by omega))
  | ok v =>
    obtain ⟨n', S1⟩ := v
    obtain ⟨hn', hq⟩ := bo.2 n' S1 ha
    obtain ⟨S2, h0, hS⟩ := sr.2 n' S1 ha
    have q1 : (clsC (tk f 118 m) m 4 1 0 (-1) (fun k t => if t = 0 then 0 else f (114 + k) t)).2.1 = -1 := congrArg (fun z => z.2.1) hq
    have q0 : (clsC (tk f 118 m) m 4 1 0 (-1) (fun k t => if t = 0 then 0 else f (114 + k) t)).1 = nI n' := congrArg (fun z => z.1) hq
    have q2 : (clsC (tk f 118 m) m 4 1 0 (-1) (fun k t => if t = 0 then 0 else f (114 + k) t)).2.2 = S1 := congrArg (fun z => z.2.2) hq
    rw [h0] at s2
    rcases s1 with ⟨z1, _⟩ | ⟨_, ev1, y1⟩
    · exact absurd q1 z1
    · rcases s2 with ⟨r', e', _⟩ | ⟨n2, S3, e', ev2, y2⟩
      · cases e'
      · cases e'
        refine ⟨x2, ⟨⟨0, r2⟩, fun j t hj ht => ?_⟩, ?_⟩
        · rw [rows j t hj ht, y1 j t hj ht, q2, eC_SR hS ht]
          exact eC_congr (fun k' t' hk' ht' => (y2 k' t' hk' ht').symm) ht
        · rw [ev1, ev2, q0]
theorem fin_rule {f : Nat → Nat → Int32} {x1 x2 v1 v2 : Int32} (hR : RR f) (s1 : (¬ (inr 0 3 x1 ∧ inr 0 2 x2) ∧ v1 = -1) ∨ (∃ k t, k < 4 ∧ t < 3 ∧ x1 = nI k ∧ x2 = nI t ∧ v1 = f (109 + k) t)) (s2 : (¬ (inr 0 3 x1 ∧ inr 0 2 x2) ∧ v2 = -1) ∨ (∃ k t, k < 4 ∧ t < 3 ∧ x1 = nI k ∧ x2 = nI t ∧ v2 = eC (fun k t => f (213 + t) k) k t)) : v1 = v2 := by
  have inx : ∀ k t, k < 4 → t < 3 → x1 = nI k → x2 = nI t → (inr 0 3 x1 ∧ inr 0 2 x2) := fun k t hk ht e1 e2 => by
    rw [e1, e2]
    exact ⟨inr_n (m := 3) (by omega) rfl (by decide), inr_n (m := 2) (by omega) rfl (by decide)⟩
  rcases s1 with ⟨q1, rfl⟩ | ⟨k, t, hk, ht, e1, e2, rfl⟩
  · rcases s2 with ⟨q2, rfl⟩ | ⟨k, t, hk, ht, e1, e2, rfl⟩
    · rfl
    · exact absurd (inx k t hk ht e1 e2) q1
  · rcases s2 with ⟨q2, rfl⟩ | ⟨k', t', hk', ht', e1', e2', rfl⟩
    · exact absurd (inx k t hk ht e1 e2) q2
    · have ek : k = k' := (nI_eq (by omega) (by omega)).mp (e1.symm.trans e1')
      have et : t = t' := (nI_eq (by omega) (by omega)).mp (e2.symm.trans e2')
      subst ek
      subst et
      exact hR k t hk ht
def GK (f : Nat → Nat → Int32) : Prop := GJ f ∧ RK f ∧ (∃ c, RC c f) ∧ (∃ m, RM m f) ∧ ab2 f ∧ (∃ t, RT t f) ∧ RR f
def okn (l : List Nat) : Bool := (!hasN l 9 && (!hasN l 19 && (!hasN l 5 && (!hasN l 15 && (!hasN l 6 && (!hasN l 16 && (!hasN l 3 && (!hasN l 13 && !hasN l 20))))))))
def okk (l : List Nat) : Bool := okj l && okn l
theorem okn_of {l : List Nat} (h : okn l = true) : hasN l 9 = false ∧ hasN l 19 = false ∧ hasN l 5 = false ∧ hasN l 15 = false ∧ hasN l 6 = false ∧ hasN l 16 = false ∧ hasN l 3 = false ∧ hasN l 13 = false ∧ hasN l 20 = false := by
  unfold okn at h
  simp only [Bool.and_eq_true, Bool.not_eq_true'] at h
  exact h
theorem okk_of {l : List Nat} (h : okk l = true) : okj l = true ∧ okn l = true := by
  unfold okk at h
  simp only [Bool.and_eq_true] at h
  exact h
theorem RN3_kp {l : List Nat} {f f' : Nat → Nat → Int32} (k : kp l f f') (hl : okn l = true) (h : RK f ∧ (∃ c, RC c f) ∧ (∃ m, RM m f) ∧ ab2 f ∧ (∃ t, RT t f) ∧ RR f) : RK f' ∧ (∃ c, RC c f') ∧ (∃ m, RM m f') ∧ ab2 f' ∧ (∃ t, RT t f') ∧ RR f' := by
  obtain ⟨l9, l19, l5, l15, l6, l16, l3, l13, l20⟩ := okn_of hl
  obtain ⟨a, ⟨c, b⟩, ⟨m, e⟩, h2, ⟨t, i⟩, j⟩ := h
  exact ⟨RK_kp k l9 l19 a, ⟨c, RC_kp k l5 l15 b⟩, ⟨m, RM_kp k l6 l16 e⟩, ab2_kp k l20 h2, ⟨t, RT_kp k l3 l13 i⟩, RR_kp k l3 l13 j⟩
theorem GK_x {l : List Nat} {f f' : Nat → Nat → Int32} (h : GK f) (x : XI f') (k : kp l f f') (hl : okk l = true) : GK f' := by
  obtain ⟨l1, l2⟩ := okk_of hl
  exact ⟨GJ_x h.1 x k l1, RN3_kp k l2 h.2⟩
theorem GK_xE {f f' : Nat → Nat → Int32} (h : GK f) (x : XI f') (k : kp [0, 7] f f') (e : EI f') : GK f' := ⟨GJ_xE h.1 x k e, RN3_kp k rfl h.2⟩
theorem GK_j {l l' : List Nat} {f f1 f2 : Nat → Nat → Int32} (h : GK f) (k1 : kp l f f1) (k2 : kp l' f1 f2) (j : GJ f2) (hl : okn l = true) (hl' : okn l' = true) : GK f2 := ⟨j, RN3_kp k2 hl' (RN3_kp k1 hl h.2)⟩
theorem GJ_2 {l l' : List Nat} {f f1 f2 : Nat → Nat → Int32} (h : GJ f) (k1 : kp l f f1) (k2 : kp l' f1 f2) (x : XI f2) (hl : okj l = true) (hl' : okj l' = true) : GJ f2 := by
  obtain ⟨l0, l8, l18, l2, l12⟩ := okj_of hl
  obtain ⟨m0, m8, m18, m2, m12⟩ := okj_of hl'
  obtain ⟨a, b, c, d⟩ := h
  exact ⟨GI_2 a k1 k2 x l0 m0, RS_kp k2 m8 m18 (RS_kp k1 l8 l18 b), c, RO_kp k2 m2 m12 (RO_kp k1 l2 l12 d)⟩
theorem GK_kin {f f1 f2 : Nat → Nat → Int32} (hK : GK f) (k1 : kp [9] f f1) (k2 : kp [19] f1 f2) (x : XI f2) (r : RK f2) : GK f2 := by
  obtain ⟨a, b, ⟨c, d⟩, ⟨m, e⟩, h, ⟨t, i⟩, j⟩ := hK
  exact ⟨GJ_2 a k1 k2 x rfl rfl, r, ⟨c, RC_kp k2 rfl rfl (RC_kp k1 rfl rfl d)⟩, ⟨m, RM_kp k2 rfl rfl (RM_kp k1 rfl rfl e)⟩, ab2_kp k2 rfl (ab2_kp k1 rfl h), ⟨t, RT_kp k2 rfl rfl (RT_kp k1 rfl rfl i)⟩, RR_kp k2 rfl rfl (RR_kp k1 rfl rfl j)⟩
theorem GK_c {f f1 f2 : Nat → Nat → Int32} (hK : GK f) (k1 : kp [5] f f1) (k2 : kp [10, 15, 22] f1 f2) (x : XI f2) (r : ∃ c, RC c f2) : GK f2 := by
  obtain ⟨a, b, ⟨c, d⟩, ⟨m, e⟩, h, ⟨t, i⟩, j⟩ := hK
  exact ⟨GJ_2 a k1 k2 x rfl rfl, RK_kp k2 rfl rfl (RK_kp k1 rfl rfl b), r, ⟨m, RM_kp k2 rfl rfl (RM_kp k1 rfl rfl e)⟩, ab2_kp k2 rfl (ab2_kp k1 rfl h), ⟨t, RT_kp k2 rfl rfl (RT_kp k1 rfl rfl i)⟩, RR_kp k2 rfl rfl (RR_kp k1 rfl rfl j)⟩
theorem GK_m {f f1 f2 : Nat → Nat → Int32} (hK : GK f) (k1 : kp [6] f f1) (k2 : kp [10, 16, 22] f1 f2) (x : XI f2) (r : ∃ m, RM m f2) : GK f2 := by
  obtain ⟨a, b, ⟨c, d⟩, ⟨m, e⟩, h, ⟨t, i⟩, j⟩ := hK
  exact ⟨GJ_2 a k1 k2 x rfl rfl, RK_kp k2 rfl rfl (RK_kp k1 rfl rfl b), ⟨c, RC_kp k2 rfl rfl (RC_kp k1 rfl rfl d)⟩, r, ab2_kp k2 rfl (ab2_kp k1 rfl h), ⟨t, RT_kp k2 rfl rfl (RT_kp k1 rfl rfl i)⟩, RR_kp k2 rfl rfl (RR_kp k1 rfl rfl j)⟩
theorem GK_t {f f1 f2 : Nat → Nat → Int32} (hK : GK f) (k1 : kp [3] f f1) (k2 : kp [13] f1 f2) (x : XI f2) (r : (∃ t, RT t f2) ∧ RR f2) : GK f2 := by
  obtain ⟨a, b, ⟨c, d⟩, ⟨m, e⟩, h, ⟨t, i⟩, j⟩ := hK
  exact ⟨GJ_2 a k1 k2 x rfl rfl, RK_kp k2 rfl rfl (RK_kp k1 rfl rfl b), ⟨c, RC_kp k2 rfl rfl (RC_kp k1 rfl rfl d)⟩, ⟨m, RM_kp k2 rfl rfl (RM_kp k1 rfl rfl e)⟩, ab2_kp k2 rfl (ab2_kp k1 rfl h), r.1, r.2⟩
theorem GK_r {f f1 f2 : Nat → Nat → Int32} (hK : GK f) (k1 : kp [3] f f1) (k2 : kp [10, 13] f1 f2) (x : XI f2) (r : (∃ t, RT t f2) ∧ RR f2) : GK f2 := by
  obtain ⟨a, b, ⟨c, d⟩, ⟨m, e⟩, h, ⟨t, i⟩, j⟩ := hK
  exact ⟨GJ_2 a k1 k2 x rfl rfl, RK_kp k2 rfl rfl (RK_kp k1 rfl rfl b), ⟨c, RC_kp k2 rfl rfl (RC_kp k1 rfl rfl d)⟩, ⟨m, RM_kp k2 rfl rfl (RM_kp k1 rfl rfl e)⟩, ab2_kp k2 rfl (ab2_kp k1 rfl h), r.1, r.2⟩
theorem RR_ty {t : Nat} {f f1 f2 : Nat → Nat → Int32} {w : Int64} {x v1 v2 : Int32} (hR : RR f) (s1 : tyS 107 3 118 t f f1 w x v1) (s2 : tyS 181 46 217 t f1 f2 w x v2) : RR f2 := by
  have key : ∀ a i, ¬ a = 107 → ¬ a = 118 → ¬ a = 181 → ¬ a = 217 → f2 a i = f a i := fun a i h1 h2 h3 h4 => by
    have e2 : f2 a i = f1 a i := by
      rcases s2 with ⟨_, _, rfl⟩ | ⟨n, _, _, _, _, ⟨_, _, rfl⟩ | ⟨_, _, h⟩⟩
      · rfl
      · rfl
      · exact h.2.2 a i (fun z => h3 z.1) (fun z => h4 z.1)
    have e1 : f1 a i = f a i := by
      rcases s1 with ⟨_, _, rfl⟩ | ⟨n, _, _, _, _, ⟨_, _, rfl⟩ | ⟨_, _, h⟩⟩
      · rfl
      · rfl
      · exact h.2.2 a i (fun z => h1 z.1) (fun z => h2 z.1)
    exact e2.trans e1
  intro k t hk ht
  rw [key _ _ (by omega) (by omega) (by omega) (by omega), hR k t hk ht]
  exact eC_congr (fun k' t' hk' ht' => (key _ _ (by omega) (by omega) (by omega) (by omega)).symm) ht
theorem GK_ini {f : Nat → Nat → Int32} (hf : ∀ a i, 6 ≤ a → f a i = if a < 227 then inix a i else 0) (h3 : ab3 f) (h2 : ab2 f) : GK f := by
  refine ⟨GJ_ini hf h3, fun s hs => ?_, ⟨0, by omega, ?_, ?_, fun k hk => absurd hk (by omega)⟩, ⟨0, by omega, ?_, ?_, fun k hk => absurd hk (by omega)⟩, h2, ⟨0, by omega, ?_, ?_, fun k hk => absurd hk (by omega)⟩, fun k t hk ht => ?_⟩
  · rw [hf 120 s (by omega), if_pos (by omega), inix_0 _ (by decide), hf 212 s (by omega), if_pos (by omega), inix_0 _ (by decide)]
  · rw [hf 129 6 (by omega), if_pos (by omega), inix_0 _ (by decide)]
    rfl
  · rw [hf 181 16 (by omega), if_pos (by omega), inix_0 _ (by decide)]
    rfl
  · rw [hf 139 13 (by omega), if_pos (by omega), inix_0 _ (by decide)]
    rfl
  · rw [hf 181 27 (by omega), if_pos (by omega), inix_0 _ (by decide)]
    rfl
  · rw [hf 107 3 (by omega), if_pos (by omega), inix_0 _ (by decide)]
    rfl
  · rw [hf 181 46 (by omega), if_pos (by omega), inix_0 _ (by decide)]
    rfl
  · have key : ∀ k, k < 4 → ∀ t, t < 3 → (if 109 + k < 227 then inix (109 + k) t else 0) = eC (fun k t => if 213 + t < 227 then inix (213 + t) k else 0) k t := by decide
    have e := key k hk t ht
    rw [hf (109 + k) t (by omega), e]
    exact eC_congr (fun k' t' hk' ht' => (hf (213 + t') k' (by omega)).symm) ht
def bc1 (x : Int32) : Int32 := x - (((x).toUInt32 >>> ((Int32.toUInt32 1) &&& Int32.toUInt32 31)).toInt32 &&& 1431655765)
def bc2 (x : Int32) : Int32 := (x &&& 858993459) + (((x).toUInt32 >>> ((Int32.toUInt32 2) &&& Int32.toUInt32 31)).toInt32 &&& 858993459)
def bc3 (x : Int32) : Int32 := (x + ((x).toUInt32 >>> ((Int32.toUInt32 4) &&& Int32.toUInt32 31)).toInt32) &&& 252645135
def bc4 (x : Int32) : Int32 := x + ((x).toUInt32 >>> ((Int32.toUInt32 8) &&& Int32.toUInt32 31)).toInt32
def bc5 (x : Int32) : Int32 := x + ((x).toUInt32 >>> ((Int32.toUInt32 16) &&& Int32.toUInt32 31)).toInt32
/-- how many bits are set, as the library counts -/
def bcE (x : Int32) : Int32 := bc5 (bc4 (bc3 (bc2 (bc1 x)))) &&& 63
/-- as the model counts -/
def onl : Nat → Int32 → Int32 → Int32
  | 0, _, a => a
  | k + 1, l, a => if l = 0 then a else onl k (l &&& (l - 1)) (a + 1)
def onE (x : Int32) : Int32 := onl (x.toBitVec.toNat + 1) x 0
theorem sf_bitCount {d : Nat} {x : Int32} {h : mH} {R : Option Value → mH → Prop} (hd : 1 ≤ d) (H : R (some (.int (bcE x))) h) : Run mtab d 241 [.int x] h R := by
  obtain ⟨d, rfl⟩ : ∃ e, d = e + 1 := ⟨d - 1, by omega⟩
  refine go_J6_bitCount_0f7a4 rfl ?_
  conv => whnf
  exact H
theorem onf_lp {d : Nat} {h : mH} {R : Option Value → mH → Prop} : ∀ (k : Nat) (b a l : Int32), l.toBitVec.toNat < k → R (some (.int (onl k l a))) h → WPe pg_X11_ones none (Run mtab d) R (m_drop pg_X11_ones 4) [some (.int b), some (.int a), some (.int l)] [] h
  | 0, b, a, l, hk, H => absurd hk (by omega)
  | k + 1, b, a, l, hk, H => by
    refine at_X11_ones ?_
    conv => whnf
    refine ⟨fun c => ?_, fun c => ?_⟩
    · have e : onl (k + 1) l a = a := if_pos c
      rw [e] at H
      conv => whnf
      exact H
    · have e : onl (k + 1) l a = onl k (l &&& (l - 1)) (a + 1) := if_neg c
      rw [e] at H
      conv => whnf
      exact onf_lp k _ _ _ (Nat.lt_of_lt_of_le (and_dec c) (by omega)) H
theorem smf_ones {d : Nat} {x : Int32} {h : mH} {R : Option Value → mH → Prop} (hd : 1 ≤ d) (H : R (some (.int (onE x))) h) : Run mtab d 194 [.int x] h R := by
  obtain ⟨d, rfl⟩ : ∃ e, d = e + 1 := ⟨d - 1, by omega⟩
  refine go_X11_ones rfl ?_
  conv => whnf
  exact onf_lp _ _ _ _ (Nat.lt_succ_self _) H
theorem nI_bv {j : Nat} (h : j < 2 ^ 31) : (nI j).toBitVec.toNat = j := by
  show (BitVec.ofNat 32 j).toNat = j
  rw [BitVec.toNat_ofNat]
  exact Nat.mod_eq_of_lt (by omega)
theorem bv_nI (x : Int32) : x = nI x.toBitVec.toNat := by
  apply Int32.toBitVec_inj.mp
  show x.toBitVec = BitVec.ofNat 32 x.toBitVec.toNat
  rw [BitVec.ofNat_toNat, BitVec.setWidth_eq]
theorem and_255 {x y : Int32} (h : inr 0 255 x) : inr 0 255 (x &&& y) := by
  obtain ⟨j, hj, rfl⟩ := inr_nat (n := 255) rfl h
  rw [bv_nI (nI j &&& y)]
  refine inr_n (m := 255) ?_ rfl (by decide)
  show ((nI j).toBitVec &&& y.toBitVec).toNat ≤ 255
  rw [BitVec.toNat_and, nI_bv (by omega)]
  exact Nat.le_trans Nat.and_le_left hj
theorem or_255 {x y : Int32} (h : inr 0 255 x) (h2 : inr 0 255 y) : inr 0 255 (x ||| y) := by
  obtain ⟨j, hj, rfl⟩ := inr_nat (n := 255) rfl h
  obtain ⟨k, hk, rfl⟩ := inr_nat (n := 255) rfl h2
  rw [bv_nI (nI j ||| nI k)]
  refine inr_n (m := 255) ?_ rfl (by decide)
  show ((nI j).toBitVec ||| (nI k).toBitVec).toNat ≤ 255
  rw [BitVec.toNat_or, nI_bv (by omega), nI_bv (by omega)]
  have : j ||| k < 2 ^ 8 := Nat.or_lt_two_pow (by omega) (by omega)
  omega
theorem bc_8 {x : Int32} (h : inr 0 255 x) : bcE x = onE x ∧ (onE x = 0 ↔ x = 0) := by
  have key : ∀ j : Nat, j < 256 → bcE (nI j) = onE (nI j) ∧ (onE (nI j) = 0 ↔ nI j = 0) := by decide +kernel
  obtain ⟨j, hj, rfl⟩ := inr_nat (n := 255) rfl h
  exact key j (by omega)
/-- whether a vote passes: r the rules, A voters, B for -/
def passw (r : Nat → Int32) (A B : Int32) : Prop := ¬ A < r 0 ∧ ¬ B * r 2 < A * r 1
set_option maxRecDepth 100000 in
theorem ka_lp {d L : Nat} {f : Nat → Nat → Int32} {g : Nat → Nat → Int64} {w : Int32} {R : Option Value → mH → Prop} : ∀ (k i : Nat) (x a : Int32), i + k = 8 → x = nI i → R (some (.int (mayl (fun m => ¬ f 120 m &&& w = 0) (fun m => nI m) k i a))) (shF L, f, g) → WPe pg_X0_kinOfAny none (Run mtab d) R (m_drop pg_X0_kinOfAny 4) [some (.ref 119), some (.int w), some (.int a), some (.int x)] [] (shF L, f, g)
  | 0, i, x, a, hi, hx, H => by
    have e : i = 8 := by omega
    subst hx
    subst e
    refine at_X0_kinOfAny ?_
    conv => whnf
    refine ⟨fun _ => ?_, fun z => absurd (by decide) z⟩
    conv => whnf
    exact H
  | k + 1, i, x, a, hi, hx, H => by
    subst hx
    have hcl : (nI i).toNatClampNeg = i := nI_clamp (by omega)
    refine at_X0_kinOfAny ?_
    conv => whnf
    refine ⟨fun c => absurd c (nI_ge (b := 8) (by omega) (by omega)), fun c => ?_⟩
    conv => whnf
    refine ⟨vp_in_nI (by omega) (by decide), ?_⟩
    conv => whnf
    simp only [hcl]
    refine ⟨fun c1 => ?_, fun c1 => ?_⟩
    · conv => whnf
      exact ka_lp k (i + 1) _ _ (by omega) (nI_1 i) (by rw [may_n (P := fun m => ¬ f 120 m &&& w = 0) (D := fun m => nI m) (k := k) (i := i) (a := a) (fun z => z c1)] at H; exact H)
    · conv => whnf
      exact ka_lp k (i + 1) _ _ (by omega) (nI_1 i) (by rw [may_y (P := fun m => ¬ f 120 m &&& w = 0) (D := fun m => nI m) (k := k) (i := i) (a := a) c1] at H; exact H)
set_option maxRecDepth 100000 in
set_option maxHeartbeats 4000000 in
theorem sf_kinOfAny {d L : Nat} {f : Nat → Nat → Int32} {g : Nat → Nat → Int64} {w : Int32} {R : Option Value → mH → Prop} (hd : 1 ≤ d) (H : R (some (.int (mayl (fun m => ¬ f 120 m &&& w = 0) (fun m => nI m) 8 0 0))) (shF L, f, g)) : Run mtab d 7 [.ref 119, .int w] (shF L, f, g) R := by
  obtain ⟨d, rfl⟩ : ∃ e, d = e + 1 := ⟨d - 1, by omega⟩
  refine go_X0_kinOfAny rfl ?_
  conv => whnf
  exact ka_lp 8 0 _ _ (by omega) rfl H
set_option maxRecDepth 100000 in
set_option maxHeartbeats 4000000 in
theorem sf_isPassed {d L : Nat} {f : Nat → Nat → Int32} {g : Nat → Nat → Int64} {k : Nat} {x y : Int32} {R : Option Value → mH → Prop} (hd : 2 ≤ d) (hk : k < 4) (H1 : passw (fun t => f (109 + k) t) (bcE y) (bcE x) → R (some (.int 1)) (shF L, f, g)) (H0 : ¬ passw (fun t => f (109 + k) t) (bcE y) (bcE x) → R (some (.int 0)) (shF L, f, g)) : Run mtab d 53 [.ref 107, .int (nI k), .int x, .int y] (shF L, f, g) R := by
  obtain ⟨d, rfl⟩ : ∃ e, d = e + 1 := ⟨d - 1, by omega⟩
  refine go_X6_isPassed rfl ?_
  conv => whnf
  rcases c4_c hk with rfl | rfl | rfl | rfl
  · conv => whnf
    refine ⟨⟨by unfold vp_in; decide, by decide, by decide⟩, ?_⟩
    conv => whnf
    refine sf_bitCount (by omega) ?_
    conv => whnf
    refine ⟨by unfold vp_in; decide, ?_⟩
    conv => whnf
    refine ⟨fun c1 => ?_, fun c1 => ?_⟩
    · conv => whnf
      exact ⟨Or.inl rfl, H0 (fun z => z.1 c1)⟩
    · conv => whnf
      refine sf_bitCount (by omega) ?_
      conv => whnf
      refine ⟨by unfold vp_in; decide, ?_⟩
      conv => whnf
      refine ⟨by unfold vp_in; decide, ?_⟩
      conv => whnf
      refine ⟨fun c2 => ?_, fun c2 => ?_⟩
      · conv => whnf
        exact ⟨Or.inl rfl, H0 (fun z => z.2 c2)⟩
      · conv => whnf
        exact ⟨Or.inr rfl, H1 ⟨c1, c2⟩⟩
  · conv => whnf
    refine ⟨⟨by unfold vp_in; decide, by decide, by decide⟩, ?_⟩
    conv => whnf
    refine sf_bitCount (by omega) ?_
    conv => whnf
    refine ⟨by unfold vp_in; decide, ?_⟩
    conv => whnf
    refine ⟨fun c1 => ?_, fun c1 => ?_⟩
    · conv => whnf
      exact ⟨Or.inl rfl, H0 (fun z => z.1 c1)⟩
    · conv => whnf
      refine sf_bitCount (by omega) ?_
      conv => whnf
      refine ⟨by unfold vp_in; decide, ?_⟩
      conv => whnf
      refine ⟨by unfold vp_in; decide, ?_⟩
      conv => whnf
      refine ⟨fun c2 => ?_, fun c2 => ?_⟩
      · conv => whnf
        exact ⟨Or.inl rfl, H0 (fun z => z.2 c2)⟩
      · conv => whnf
        exact ⟨Or.inr rfl, H1 ⟨c1, c2⟩⟩
  · conv => whnf
    refine ⟨⟨by unfold vp_in; decide, by decide, by decide⟩, ?_⟩
    conv => whnf
    refine sf_bitCount (by omega) ?_
    conv => whnf
    refine ⟨by unfold vp_in; decide, ?_⟩
    conv => whnf
    refine ⟨fun c1 => ?_, fun c1 => ?_⟩
    · conv => whnf
      exact ⟨Or.inl rfl, H0 (fun z => z.1 c1)⟩
    · conv => whnf
      refine sf_bitCount (by omega) ?_
      conv => whnf
      refine ⟨by unfold vp_in; decide, ?_⟩
      conv => whnf
      refine ⟨by unfold vp_in; decide, ?_⟩
      conv => whnf
      refine ⟨fun c2 => ?_, fun c2 => ?_⟩
      · conv => whnf
        exact ⟨Or.inl rfl, H0 (fun z => z.2 c2)⟩
      · conv => whnf
        exact ⟨Or.inr rfl, H1 ⟨c1, c2⟩⟩
  · conv => whnf
    refine ⟨⟨by unfold vp_in; decide, by decide, by decide⟩, ?_⟩
    conv => whnf
    refine sf_bitCount (by omega) ?_
    conv => whnf
    refine ⟨by unfold vp_in; decide, ?_⟩
    conv => whnf
    refine ⟨fun c1 => ?_, fun c1 => ?_⟩
    · conv => whnf
      exact ⟨Or.inl rfl, H0 (fun z => z.1 c1)⟩
    · conv => whnf
      refine sf_bitCount (by omega) ?_
      conv => whnf
      refine ⟨by unfold vp_in; decide, ?_⟩
      conv => whnf
      refine ⟨by unfold vp_in; decide, ?_⟩
      conv => whnf
      refine ⟨fun c2 => ?_, fun c2 => ?_⟩
      · conv => whnf
        exact ⟨Or.inl rfl, H0 (fun z => z.2 c2)⟩
      · conv => whnf
        exact ⟨Or.inr rfl, H1 ⟨c1, c2⟩⟩
def vadd0 (f : Nat → Nat → Int32) (c : Nat) (x1 x2 x5 ps : Int32) : Nat → Nat → Int32 := (m_ui (m_ui (m_ui (m_ui (m_ui f 121 c x1) 122 c x2) 124 c (vp_nar .boolean x5)) 123 c (vp_nar .boolean ps)) 119 7 (nI c + 1))
def vadd (f : Nat → Nat → Int32) (c : Nat) (x1 x2 x5 ps vo lo : Int32) : Nat → Nat → Int32 := (m_ui (m_ui (vadd0 f c x1 x2 x5 ps) 125 c vo) 126 c lo)
def mvadd (f : Nat → Nat → Int32) (c : Nat) (x1 x2 x5 ps vo lo : Int32) : Nat → Nat → Int32 := (m_ui (m_ui (m_ui (m_ui (m_ui (m_ui (m_ui (m_ui f 218 (6 * c) x1) 218 (6 * c + 1) x2) 218 (6 * c + 2) ps) 218 (6 * c + 3) vo) 218 (6 * c + 4) lo) 218 (6 * c + 5) (fr x5)) 181 48 (nI (c + 1))) 181 29 0)
def votew (n : Nat) (x1 x2 x3 x4 : Int32) : Prop := hasw n x1 ∧ inr 0 9999 x2 ∧ inr 0 255 x3 ∧ inr 0 255 x4 ∧ x3 &&& x4 = 0
set_option maxRecDepth 100000 in
set_option maxHeartbeats 4000000 in
theorem sf_Cadd {d L : Nat} {f : Nat → Nat → Int32} {g : Nat → Nat → Int64} {c : Nat} {x1 x2 x5 ps : Int32} {R : Option Value → mH → Prop} (hd : 1 ≤ d) (hb : f 119 7 = nI c) (hm : c ≤ 60) (HF : c = 60 → R (some (.int (-3))) (shF L, f, g)) (H : c < 60 → R (some (.int (nI c))) (shF L, vadd0 f c x1 x2 x5 ps, g)) : Run mtab d 8 [.ref 119, .int x1, .int x2, .int x5, .int ps] (shF L, f, g) R := by
  obtain ⟨d, rfl⟩ : ∃ e, d = e + 1 := ⟨d - 1, by omega⟩
  refine go_X0_add rfl ?_
  conv => whnf
  by_cases hq : c = 60
  · subst hq
    simp only [hb]
    refine ⟨fun c => absurd (by decide) c, fun _ => ?_⟩
    conv => whnf
    exact HF rfl
  · have hlt : c < 60 := by omega
    have hcl : (nI c).toNatClampNeg = c := nI_clamp (by omega)
    simp only [hb]
    refine ⟨fun _ => ?_, fun e => absurd ((nI_eq (b := 60) (by omega) (by decide)).mp e) hq⟩
    conv => whnf
    (try simp only [hb, m_ui_ap, m_fil_ap, m_cpy_ap, Nat.reduceEqDiff, Nat.reduceLT, Nat.reduceLeDiff, eq_self, ↓reduceIte, false_and, and_false, true_and, and_true, and_self])
    refine ⟨vp_in_nI (by omega) (by decide), ?_⟩
    conv => whnf
    (try simp only [hb, m_ui_ap, m_fil_ap, m_cpy_ap, Nat.reduceEqDiff, Nat.reduceLT, Nat.reduceLeDiff, eq_self, ↓reduceIte, false_and, and_false, true_and, and_true, and_self])
    refine ⟨vp_in_nI (by omega) (by decide), ?_⟩
    conv => whnf
    (try simp only [hb, m_ui_ap, m_fil_ap, m_cpy_ap, Nat.reduceEqDiff, Nat.reduceLT, Nat.reduceLeDiff, eq_self, ↓reduceIte, false_and, and_false, true_and, and_true, and_self])
    refine ⟨vp_in_nI (by omega) (by decide), ?_⟩
    conv => whnf
    (try simp only [hb, m_ui_ap, m_fil_ap, m_cpy_ap, Nat.reduceEqDiff, Nat.reduceLT, Nat.reduceLeDiff, eq_self, ↓reduceIte, false_and, and_false, true_and, and_true, and_self])
    refine ⟨vp_in_nI (by omega) (by decide), ?_⟩
    conv => whnf
    simp only [hb, hcl, m_ui_ap, m_fil_ap, m_cpy_ap, Nat.reduceEqDiff, Nat.reduceLT, Nat.reduceLeDiff, eq_self, ↓reduceIte, false_and, and_false, true_and, and_true, and_self]
    exact H hlt
set_option maxRecDepth 100000 in
set_option maxHeartbeats 4000000 in
theorem sf_note {d L : Nat} {f : Nat → Nat → Int32} {g : Nat → Nat → Int64} {c : Nat} {vo lo : Int32} {R : Option Value → mH → Prop} (hd : 1 ≤ d) (hc : c < 60) (H : R none (shF L, m_ui (m_ui f 125 c vo) 126 c lo, g)) : Run mtab d 9 [.ref 119, .int (nI c), .int vo, .int lo] (shF L, f, g) R := by
  obtain ⟨d, rfl⟩ : ∃ e, d = e + 1 := ⟨d - 1, by omega⟩
  refine go_X0_noteVoters rfl ?_
  conv => whnf
  have hcl : (nI c).toNatClampNeg = c := nI_clamp (by omega)
  refine ⟨vp_in_nI (by omega) (by decide), ?_⟩
  conv => whnf
  refine ⟨vp_in_nI (by omega) (by decide), ?_⟩
  conv => whnf
  simp only [hcl]
  exact H
def SX_vote (n h c : Nat) (f f1 : Nat → Nat → Int32) (x1 x2 x3 x4 x5 v : Int32) : Prop := (¬ votew n x1 x2 x3 x4 ∧ v = -1 ∧ f1 = f) ∨ (∃ j, j < n ∧ x1 = nI j ∧ votew n x1 x2 x3 x4 ∧ (((((x3 ||| x4) &&& ((mayl (fun m => ¬ f 120 m &&& (mayl (PO f 103 106 x1 (1900 + x2 / 100)) (fun i => f 102 i) h 0 0) = 0) (fun m => nI m) 8 0 0) ^^^ -1)) = 0) ∧ v = -2 ∧ f1 = f) ∨ (¬ ((x3 ||| x4) &&& ((mayl (fun m => ¬ f 120 m &&& (mayl (PO f 103 106 x1 (1900 + x2 / 100)) (fun i => f 102 i) h 0 0) = 0) (fun m => nI m) 8 0 0) ^^^ -1)) = 0 ∧ c = 60 ∧ v = -3 ∧ f1 = f) ∨ (¬ ((x3 ||| x4) &&& ((mayl (fun m => ¬ f 120 m &&& (mayl (PO f 103 106 x1 (1900 + x2 / 100)) (fun i => f 102 i) h 0 0) = 0) (fun m => nI m) 8 0 0) ^^^ -1)) = 0 ∧ c < 60 ∧ ∃ k, k < 4 ∧ f 7 j = nI k ∧ ((passw (fun t => f (109 + k) t) (bcE ((x3 ||| x4) &&& ((mayl (fun m => ¬ f 120 m &&& (mayl (PO f 103 106 x1 (1900 + x2 / 100)) (fun i => f 102 i) h 0 0) = 0) (fun m => nI m) 8 0 0) ^^^ -1))) (bcE (x3 &&& ((mayl (fun m => ¬ f 120 m &&& (mayl (PO f 103 106 x1 (1900 + x2 / 100)) (fun i => f 102 i) h 0 0) = 0) (fun m => nI m) 8 0 0) ^^^ -1))) ∧ v = 1) ∨ (¬ passw (fun t => f (109 + k) t) (bcE ((x3 ||| x4) &&& ((mayl (fun m => ¬ f 120 m &&& (mayl (PO f 103 106 x1 (1900 + x2 / 100)) (fun i => f 102 i) h 0 0) = 0) (fun m => nI m) 8 0 0) ^^^ -1))) (bcE (x3 &&& ((mayl (fun m => ¬ f 120 m &&& (mayl (PO f 103 106 x1 (1900 + x2 / 100)) (fun i => f 102 i) h 0 0) = 0) (fun m => nI m) 8 0 0) ^^^ -1))) ∧ v = 0)) ∧ f1 = vadd f c x1 x2 x5 v ((x3 ||| x4) &&& ((mayl (fun m => ¬ f 120 m &&& (mayl (PO f 103 106 x1 (1900 + x2 / 100)) (fun i => f 102 i) h 0 0) = 0) (fun m => nI m) 8 0 0) ^^^ -1)) ((x3 ||| x4) &&& (mayl (fun m => ¬ f 120 m &&& (mayl (PO f 103 106 x1 (1900 + x2 / 100)) (fun i => f 102 i) h 0 0) = 0) (fun m => nI m) 8 0 0)))))
def SM_vote (n h c : Nat) (f f1 : Nat → Nat → Int32) (x1 x2 x3 x4 x5 v : Int32) : Prop := (¬ votew n x1 x2 x3 x4 ∧ v = -1 ∧ f1 = f) ∨ (∃ j, j < n ∧ x1 = nI j ∧ votew n x1 x2 x3 x4 ∧ (((((x3 ||| x4) &&& ((mayl (fun m => ¬ f 212 m &&& (mayl (PM f 2 5 x1 (1900 + x2 / 100)) (fun i => f 195 (6 * i + 1)) h 0 0) = 0) (fun m => nI m) 8 0 0) ^^^ -1)) = 0) ∧ v = -2 ∧ f1 = f) ∨ (¬ ((x3 ||| x4) &&& ((mayl (fun m => ¬ f 212 m &&& (mayl (PM f 2 5 x1 (1900 + x2 / 100)) (fun i => f 195 (6 * i + 1)) h 0 0) = 0) (fun m => nI m) 8 0 0) ^^^ -1)) = 0 ∧ c = 60 ∧ v = -3 ∧ f1 = f) ∨ (¬ ((x3 ||| x4) &&& ((mayl (fun m => ¬ f 212 m &&& (mayl (PM f 2 5 x1 (1900 + x2 / 100)) (fun i => f 195 (6 * i + 1)) h 0 0) = 0) (fun m => nI m) 8 0 0) ^^^ -1)) = 0 ∧ c < 60 ∧ ∃ k, k < 4 ∧ f 182 j = nI k ∧ ((passw (fun t => eC (fun k t => f (213 + t) k) k t) (onE ((x3 ||| x4) &&& ((mayl (fun m => ¬ f 212 m &&& (mayl (PM f 2 5 x1 (1900 + x2 / 100)) (fun i => f 195 (6 * i + 1)) h 0 0) = 0) (fun m => nI m) 8 0 0) ^^^ -1))) (onE (x3 &&& ((mayl (fun m => ¬ f 212 m &&& (mayl (PM f 2 5 x1 (1900 + x2 / 100)) (fun i => f 195 (6 * i + 1)) h 0 0) = 0) (fun m => nI m) 8 0 0) ^^^ -1))) ∧ v = 1) ∨ (¬ passw (fun t => eC (fun k t => f (213 + t) k) k t) (onE ((x3 ||| x4) &&& ((mayl (fun m => ¬ f 212 m &&& (mayl (PM f 2 5 x1 (1900 + x2 / 100)) (fun i => f 195 (6 * i + 1)) h 0 0) = 0) (fun m => nI m) 8 0 0) ^^^ -1))) (onE (x3 &&& ((mayl (fun m => ¬ f 212 m &&& (mayl (PM f 2 5 x1 (1900 + x2 / 100)) (fun i => f 195 (6 * i + 1)) h 0 0) = 0) (fun m => nI m) 8 0 0) ^^^ -1))) ∧ v = 0)) ∧ f1 = mvadd f c x1 x2 x5 v ((x3 ||| x4) &&& ((mayl (fun m => ¬ f 212 m &&& (mayl (PM f 2 5 x1 (1900 + x2 / 100)) (fun i => f 195 (6 * i + 1)) h 0 0) = 0) (fun m => nI m) 8 0 0) ^^^ -1)) ((x3 ||| x4) &&& (mayl (fun m => ¬ f 212 m &&& (mayl (PM f 2 5 x1 (1900 + x2 / 100)) (fun i => f 195 (6 * i + 1)) h 0 0) = 0) (fun m => nI m) 8 0 0)))))
set_option maxRecDepth 100000 in
set_option maxHeartbeats 4000000 in
theorem sf_vote {d L : Nat} {f : Nat → Nat → Int32} {g : Nat → Nat → Int64} {n h c : Nat} {x1 x2 x3 x4 x5 : Int32} {R : Option Value → mH → Prop} (hd : 6 ≤ d) (hb : f 6 13 = nI n) (hm : n ≤ 40) (hhb : f 100 6 = nI h) (hhm : h ≤ 60) (hcb : f 119 7 = nI c) (hcm : c ≤ 60) (hkd : ∀ j, inr 0 3 (f 7 j)) (H : ∀ v f1, SX_vote n h c f f1 x1 x2 x3 x4 x5 v → R (some (.int v)) (shF L, f1, g)) : Run mtab d 122 [.ref 5, .int x1, .int x2, .int x3, .int x4, .int x5] (shF L, f, g) R := by
  obtain ⟨d, rfl⟩ : ∃ e, d = e + 1 := ⟨d - 1, by omega⟩
  refine go_X10_vote rfl ?_
  conv => whnf
  refine ct_has (by omega) hb hm (fun j hj e => ?_) (fun q => ?_)
  · subst e
    have hcl : (nI j).toNatClampNeg = j := nI_clamp (by omega)
    obtain ⟨kd, hk3, hk⟩ := inr_nat (n := 3) rfl (hkd j)
    have hk4 : kd < 4 := by omega
    conv => whnf
    (refine ⟨fun c => ?_, fun c => ?_⟩ <;> first | ((have c9 : (1 : Int32) = 0 := by with_reducible exact c); exact absurd c9 (by decide)) | exact absurd (rfl : (0 : Int32) = 0) (by with_reducible exact c) | exact absurd True.intro (by with_reducible exact c) | exact False.elim (by with_reducible exact c) | (conv => whnf))
    refine ct_isWithin (by omega) (fun p2 => ?_) (fun p2 => ?_)
    · conv => whnf
      (refine ⟨fun c => ?_, fun c => ?_⟩ <;> first | ((have c9 : (1 : Int32) = 0 := by with_reducible exact c); exact absurd c9 (by decide)) | exact absurd (rfl : (0 : Int32) = 0) (by with_reducible exact c) | exact absurd True.intro (by with_reducible exact c) | exact False.elim (by with_reducible exact c) | (conv => whnf))
      refine ct_isBits8 (by omega) (fun p3 => ?_) (fun p3 => ?_)
      · conv => whnf
        (refine ⟨fun c => ?_, fun c => ?_⟩ <;> first | ((have c9 : (1 : Int32) = 0 := by with_reducible exact c); exact absurd c9 (by decide)) | exact absurd (rfl : (0 : Int32) = 0) (by with_reducible exact c) | exact absurd True.intro (by with_reducible exact c) | exact False.elim (by with_reducible exact c) | (conv => whnf))
        refine ct_isBits8 (by omega) (fun p4 => ?_) (fun p4 => ?_)
        · conv => whnf
          (refine ⟨fun c => ?_, fun c => ?_⟩ <;> first | ((have c9 : (1 : Int32) = 0 := by with_reducible exact c); exact absurd c9 (by decide)) | exact absurd (rfl : (0 : Int32) = 0) (by with_reducible exact c) | exact absurd True.intro (by with_reducible exact c) | exact False.elim (by with_reducible exact c) | (conv => whnf))
          refine ⟨fun e0 => ?_, fun e0 => ?_⟩
          · conv => whnf
            have hw : votew n (nI j) x2 x3 x4 := ⟨⟨j, hj, rfl⟩, p2, p3, p4, e0⟩
            refine ⟨by decide, ?_⟩
            conv => whnf
            refine sf_whoMay (by omega) hhb hhm ?_
            conv => whnf
            refine sf_kinOfAny (by omega) ?_
            conv => whnf
            generalize hB : (mayl (fun m => ¬ f 120 m &&& (mayl (PO f 103 106 (nI j) (1900 + x2 / 100)) (fun i => f 102 i) h 0 0) = 0) (fun m => nI m) 8 0 0) = B
            refine ⟨fun e1 => ?_, fun e1 => ?_⟩
            · conv => whnf
              refine ⟨vp_in_nI (by omega) (by decide), ?_⟩
              conv => whnf
              simp only [hcl, hk]
              refine sf_isPassed (by omega) hk4 (fun ps => ?_) (fun ps => ?_)
              · conv => whnf
                refine sf_Cadd (by omega) hcb hcm (fun q => ?_) (fun q => ?_)
                · conv => whnf
                  refine ⟨fun c => absurd c (by decide), fun _ => ?_⟩
                  conv => whnf
                  exact H _ _ (Or.inr ⟨j, hj, rfl, hw, Or.inr (Or.inl ⟨by rw [hB]; exact e1, q, rfl, rfl⟩)⟩)
                · conv => whnf
                  refine ⟨fun _ => ?_, fun c => absurd (i32_nlt.mp (nI_pos (by omega))) c⟩
                  conv => whnf
                  refine sf_note (by omega) q ?_
                  conv => whnf
                  refine ct_bit (by omega) (fun z => ?_) (fun z => ?_)
                  · conv => whnf
                    exact H _ _ (Or.inr ⟨j, hj, rfl, hw, Or.inr (Or.inr ⟨by rw [hB]; exact e1, q, kd, hk4, hk, Or.inl ⟨by rw [hB]; exact ps, rfl⟩, by rw [hB]; rfl⟩)⟩)
                  · exact absurd z (by decide)
              · conv => whnf
                refine sf_Cadd (by omega) hcb hcm (fun q => ?_) (fun q => ?_)
                · conv => whnf
                  refine ⟨fun c => absurd c (by decide), fun _ => ?_⟩
                  conv => whnf
                  exact H _ _ (Or.inr ⟨j, hj, rfl, hw, Or.inr (Or.inl ⟨by rw [hB]; exact e1, q, rfl, rfl⟩)⟩)
                · conv => whnf
                  refine ⟨fun _ => ?_, fun c => absurd (i32_nlt.mp (nI_pos (by omega))) c⟩
                  conv => whnf
                  refine sf_note (by omega) q ?_
                  conv => whnf
                  refine ct_bit (by omega) (fun z => ?_) (fun z => ?_)
                  · exact absurd rfl z
                  · conv => whnf
                    exact H _ _ (Or.inr ⟨j, hj, rfl, hw, Or.inr (Or.inr ⟨by rw [hB]; exact e1, q, kd, hk4, hk, Or.inr ⟨by rw [hB]; exact ps, rfl⟩, by rw [hB]; rfl⟩)⟩)
            · conv => whnf
              exact H _ _ (Or.inr ⟨j, hj, rfl, hw, Or.inl ⟨by rw [hB]; exact e1, rfl, rfl⟩⟩)
          · conv => whnf
            exact H _ _ (Or.inl ⟨fun hh => e0 hh.2.2.2.2, rfl, rfl⟩)
        · conv => whnf
          (refine ⟨fun c => ?_, fun c => ?_⟩ <;> first | ((have c9 : (1 : Int32) = 0 := by with_reducible exact c); exact absurd c9 (by decide)) | exact absurd (rfl : (0 : Int32) = 0) (by with_reducible exact c) | exact absurd True.intro (by with_reducible exact c) | exact False.elim (by with_reducible exact c) | (conv => whnf))
          exact H _ _ (Or.inl ⟨fun hh => p4 hh.2.2.2.1, rfl, rfl⟩)
      · conv => whnf
        (refine ⟨fun c => ?_, fun c => ?_⟩ <;> first | ((have c9 : (1 : Int32) = 0 := by with_reducible exact c); exact absurd c9 (by decide)) | exact absurd (rfl : (0 : Int32) = 0) (by with_reducible exact c) | exact absurd True.intro (by with_reducible exact c) | exact False.elim (by with_reducible exact c) | (conv => whnf))
        exact H _ _ (Or.inl ⟨fun hh => p3 hh.2.2.1, rfl, rfl⟩)
    · conv => whnf
      (refine ⟨fun c => ?_, fun c => ?_⟩ <;> first | ((have c9 : (1 : Int32) = 0 := by with_reducible exact c); exact absurd c9 (by decide)) | exact absurd (rfl : (0 : Int32) = 0) (by with_reducible exact c) | exact absurd True.intro (by with_reducible exact c) | exact False.elim (by with_reducible exact c) | (conv => whnf))
      exact H _ _ (Or.inl ⟨fun hh => p2 hh.2.1, rfl, rfl⟩)
  · conv => whnf
    (refine ⟨fun c => ?_, fun c => ?_⟩ <;> first | ((have c9 : (1 : Int32) = 0 := by with_reducible exact c); exact absurd c9 (by decide)) | exact absurd (rfl : (0 : Int32) = 0) (by with_reducible exact c) | exact absurd True.intro (by with_reducible exact c) | exact False.elim (by with_reducible exact c) | (conv => whnf))
    exact H _ _ (Or.inl ⟨fun hh => nhasw q hh.1, rfl, rfl⟩)
set_option maxRecDepth 100000 in
set_option maxHeartbeats 8000000 in
theorem vm_lp {d L n h c j : Nat} {f : Nat → Nat → Int32} {g : Nat → Nat → Int64} {x2 x3 x4 x5 w : Int32} {R : Option Value → mH → Prop} (hd : 5 ≤ d) (hj : j < n) (hm : n ≤ 40) (hcb : f 181 48 = nI c) (hcm : c ≤ 60) (hkd : ∀ j, inr 0 3 (f 182 j)) (hw : votew n (nI j) x2 x3 x4) (ew : (mayl (PM f 2 5 (nI j) (1900 + x2 / 100)) (fun i => f 195 (6 * i + 1)) h 0 0) = w) (H : ∀ v f1, SM_vote n h c f f1 (nI j) x2 x3 x4 x5 v → R (some (.int v)) (shF L, f1, g)) :
    ∀ (k i : Nat) (x a : Int32) (s9 s10 s11 s12 : Option Value), i + k = 8 → x = nI i → mayl (fun m => ¬ f 212 m &&& w = 0) (fun m => nI m) k i a = mayl (fun m => ¬ f 212 m &&& w = 0) (fun m => nI m) 8 0 0 → WPe pg_X11_vote none (Run mtab d) R (m_drop pg_X11_vote 41) [some (.ref 181), some (.int (nI j)), some (.int x2), some (.int x3), some (.int x4), some (.int x5), some (.int w), some (.int a), some (.int x), s9, s10, s11, s12] [] (shF L, f, g)
  | 0, i, x, a, s9, s10, s11, s12, hi, hx, he => by
    have e : i = 8 := by omega
    subst hx
    subst e
    have hcl : (nI j).toNatClampNeg = j := nI_clamp (by omega)
    obtain ⟨kd, hk3, hk⟩ := inr_nat (n := 3) rfl (hkd j)
    have hk4 : kd < 4 := by omega
    have hB : (mayl (fun m => ¬ f 212 m &&& (mayl (PM f 2 5 (nI j) (1900 + x2 / 100)) (fun i => f 195 (6 * i + 1)) h 0 0) = 0) (fun m => nI m) 8 0 0) = a := by
      rw [ew]
      exact he.symm
    have tv := bc_8 (and_255 (y := a ^^^ -1) (or_255 hw.2.2.1 hw.2.2.2.1))
    refine at_X11_vote ?_
    conv => whnf
    refine ⟨fun _ => ?_, fun z => absurd (by decide) z⟩
    conv => whnf
    refine smf_ones (by omega) ?_
    conv => whnf
    refine ⟨fun e1 => ?_, fun e1 => ?_⟩
    · conv => whnf
      simp only [hcb]
      have e1 := fun z => e1 ((tv).2.mpr z)
      by_cases hq : c = 60
      · subst hq
        refine ⟨fun c => absurd (by decide) c, fun _ => ?_⟩
        conv => whnf
        exact H _ _ (Or.inr ⟨j, hj, rfl, hw, Or.inr (Or.inl ⟨by rw [hB]; exact e1, rfl, rfl, rfl⟩)⟩)
      · refine ⟨fun _ => ?_, fun e => absurd ((nI_eq (b := 60) (by omega) (by decide)).mp e) hq⟩
        have hc0 : (nI (6 * c)).toNatClampNeg = 6 * c := nI_clamp (by omega)
        have hc1 : (nI (6 * c + 1)).toNatClampNeg = 6 * c + 1 := nI_clamp (by omega)
        have hc2 : (nI (6 * c + 2)).toNatClampNeg = 6 * c + 2 := nI_clamp (by omega)
        have hc3 : (nI (6 * c + 3)).toNatClampNeg = 6 * c + 3 := nI_clamp (by omega)
        have hc4 : (nI (6 * c + 4)).toNatClampNeg = 6 * c + 4 := nI_clamp (by omega)
        have hc5 : (nI (6 * c + 5)).toNatClampNeg = 6 * c + 5 := nI_clamp (by omega)
        conv => whnf
        refine ⟨vp_in_nI (by omega) (by decide), ?_⟩
        conv => whnf
        simp only [hcl, hk]
        refine smf_rulePart (k := kd) (t := 0) (by omega) hk4 (by omega) ?_
        conv => whnf
        refine ⟨fun z1 => ?_, fun z1 => ?_⟩
        · conv => whnf
          (try simp only [hcb, nI_6m, nI_1, nI_k _ 2 2 rfl, nI_k _ 3 3 rfl, nI_k _ 4 4 rfl, nI_k _ 5 5 rfl, m_ui_ap, m_fil_ap, m_cpy_ap, Nat.reduceEqDiff, Nat.reduceLT, Nat.reduceLeDiff, eq_self, ↓reduceIte, false_and, and_false, true_and, and_true, and_self])
          refine ⟨vp_in_nI (by omega) (by decide), ?_⟩
          conv => whnf
          (try simp only [hcb, nI_6m, nI_1, nI_k _ 2 2 rfl, nI_k _ 3 3 rfl, nI_k _ 4 4 rfl, nI_k _ 5 5 rfl, m_ui_ap, m_fil_ap, m_cpy_ap, Nat.reduceEqDiff, Nat.reduceLT, Nat.reduceLeDiff, eq_self, ↓reduceIte, false_and, and_false, true_and, and_true, and_self])
          refine ⟨vp_in_nI (by omega) (by decide), ?_⟩
          conv => whnf
          (try (refine ⟨fun c => ?_, fun c => ?_⟩ <;> first | ((have c9 : (1 : Int32) = 0 := by with_reducible exact c); exact absurd c9 (by decide)) | exact absurd (rfl : (0 : Int32) = 0) (by with_reducible exact c) | exact absurd True.intro (by with_reducible exact c) | exact False.elim (by with_reducible exact c) | (conv => whnf)))
          (try simp only [hcb, nI_6m, nI_1, nI_k _ 2 2 rfl, nI_k _ 3 3 rfl, nI_k _ 4 4 rfl, nI_k _ 5 5 rfl, m_ui_ap, m_fil_ap, m_cpy_ap, Nat.reduceEqDiff, Nat.reduceLT, Nat.reduceLeDiff, eq_self, ↓reduceIte, false_and, and_false, true_and, and_true, and_self])
          refine ⟨vp_in_nI (by omega) (by decide), ?_⟩
          conv => whnf
          (try simp only [hcb, nI_6m, nI_1, nI_k _ 2 2 rfl, nI_k _ 3 3 rfl, nI_k _ 4 4 rfl, nI_k _ 5 5 rfl, m_ui_ap, m_fil_ap, m_cpy_ap, Nat.reduceEqDiff, Nat.reduceLT, Nat.reduceLeDiff, eq_self, ↓reduceIte, false_and, and_false, true_and, and_true, and_self])
          refine ⟨vp_in_nI (by omega) (by decide), ?_⟩
          conv => whnf
          (try simp only [hcb, nI_6m, nI_1, nI_k _ 2 2 rfl, nI_k _ 3 3 rfl, nI_k _ 4 4 rfl, nI_k _ 5 5 rfl, m_ui_ap, m_fil_ap, m_cpy_ap, Nat.reduceEqDiff, Nat.reduceLT, Nat.reduceLeDiff, eq_self, ↓reduceIte, false_and, and_false, true_and, and_true, and_self])
          refine ⟨vp_in_nI (by omega) (by decide), ?_⟩
          conv => whnf
          refine ⟨fun c5 => ?_, fun c5 => ?_⟩
          · conv => whnf
            (try simp only [hcb, nI_6m, nI_1, nI_k _ 2 2 rfl, nI_k _ 3 3 rfl, nI_k _ 4 4 rfl, nI_k _ 5 5 rfl, m_ui_ap, m_fil_ap, m_cpy_ap, Nat.reduceEqDiff, Nat.reduceLT, Nat.reduceLeDiff, eq_self, ↓reduceIte, false_and, and_false, true_and, and_true, and_self])
            refine ⟨vp_in_nI (by omega) (by decide), ?_⟩
            conv => whnf
            (try refine ⟨by first | exact Or.inl rfl | exact Or.inl True.intro, ?_⟩)
            (try (conv => whnf))
            (try (refine ⟨fun c => ?_, fun c => ?_⟩ <;> first | ((have c9 : (1 : Int32) = 0 := by with_reducible exact c); exact absurd c9 (by decide)) | exact absurd (rfl : (0 : Int32) = 0) (by with_reducible exact c) | exact absurd True.intro (by with_reducible exact c) | exact False.elim (by with_reducible exact c) | (conv => whnf)))
            have e7 : fr x5 = 0 := if_pos c5
            have H2 := H _ _ (Or.inr ⟨j, hj, rfl, hw, Or.inr (Or.inr ⟨by rw [hB]; exact e1, by omega, kd, hk4, hk, Or.inr ⟨by rw [hB]; exact fun z => z.1 z1, rfl⟩, rfl⟩)⟩)
            unfold mvadd at H2
            rw [e7, hB] at H2
            simp only [hc0, hc1, hc2, hc3, hc4, hc5, hcb, nI_6m, nI_1, nI_k _ 2 2 rfl, nI_k _ 3 3 rfl, nI_k _ 4 4 rfl, nI_k _ 5 5 rfl]
            (try simp only [hcb, nI_1, m_ui_ap, m_fil_ap, m_cpy_ap, Nat.reduceEqDiff, Nat.reduceLT, Nat.reduceLeDiff, eq_self, ↓reduceIte, false_and, and_false, true_and, and_true, and_self])
            exact H2
          · conv => whnf
            (try simp only [hcb, nI_6m, nI_1, nI_k _ 2 2 rfl, nI_k _ 3 3 rfl, nI_k _ 4 4 rfl, nI_k _ 5 5 rfl, m_ui_ap, m_fil_ap, m_cpy_ap, Nat.reduceEqDiff, Nat.reduceLT, Nat.reduceLeDiff, eq_self, ↓reduceIte, false_and, and_false, true_and, and_true, and_self])
            refine ⟨vp_in_nI (by omega) (by decide), ?_⟩
            conv => whnf
            (try refine ⟨by first | exact Or.inl rfl | exact Or.inl True.intro, ?_⟩)
            (try (conv => whnf))
            (try (refine ⟨fun c => ?_, fun c => ?_⟩ <;> first | ((have c9 : (1 : Int32) = 0 := by with_reducible exact c); exact absurd c9 (by decide)) | exact absurd (rfl : (0 : Int32) = 0) (by with_reducible exact c) | exact absurd True.intro (by with_reducible exact c) | exact False.elim (by with_reducible exact c) | (conv => whnf)))
            have e7 : fr x5 = 1 := if_neg c5
            have H2 := H _ _ (Or.inr ⟨j, hj, rfl, hw, Or.inr (Or.inr ⟨by rw [hB]; exact e1, by omega, kd, hk4, hk, Or.inr ⟨by rw [hB]; exact fun z => z.1 z1, rfl⟩, rfl⟩)⟩)
            unfold mvadd at H2
            rw [e7, hB] at H2
            simp only [hc0, hc1, hc2, hc3, hc4, hc5, hcb, nI_6m, nI_1, nI_k _ 2 2 rfl, nI_k _ 3 3 rfl, nI_k _ 4 4 rfl, nI_k _ 5 5 rfl]
            (try simp only [hcb, nI_1, m_ui_ap, m_fil_ap, m_cpy_ap, Nat.reduceEqDiff, Nat.reduceLT, Nat.reduceLeDiff, eq_self, ↓reduceIte, false_and, and_false, true_and, and_true, and_self])
            exact H2
        · conv => whnf
          refine smf_ones (by omega) ?_
          conv => whnf
          refine smf_rulePart (k := kd) (t := 2) (by omega) hk4 (by omega) ?_
          conv => whnf
          refine smf_rulePart (k := kd) (t := 1) (by omega) hk4 (by omega) ?_
          conv => whnf
          refine ⟨fun z2 => ?_, fun z2 => ?_⟩
          · conv => whnf
            (try simp only [hcb, nI_6m, nI_1, nI_k _ 2 2 rfl, nI_k _ 3 3 rfl, nI_k _ 4 4 rfl, nI_k _ 5 5 rfl, m_ui_ap, m_fil_ap, m_cpy_ap, Nat.reduceEqDiff, Nat.reduceLT, Nat.reduceLeDiff, eq_self, ↓reduceIte, false_and, and_false, true_and, and_true, and_self])
            refine ⟨vp_in_nI (by omega) (by decide), ?_⟩
            conv => whnf
            (try simp only [hcb, nI_6m, nI_1, nI_k _ 2 2 rfl, nI_k _ 3 3 rfl, nI_k _ 4 4 rfl, nI_k _ 5 5 rfl, m_ui_ap, m_fil_ap, m_cpy_ap, Nat.reduceEqDiff, Nat.reduceLT, Nat.reduceLeDiff, eq_self, ↓reduceIte, false_and, and_false, true_and, and_true, and_self])
            refine ⟨vp_in_nI (by omega) (by decide), ?_⟩
            conv => whnf
            (try (refine ⟨fun c => ?_, fun c => ?_⟩ <;> first | ((have c9 : (1 : Int32) = 0 := by with_reducible exact c); exact absurd c9 (by decide)) | exact absurd (rfl : (0 : Int32) = 0) (by with_reducible exact c) | exact absurd True.intro (by with_reducible exact c) | exact False.elim (by with_reducible exact c) | (conv => whnf)))
            (try simp only [hcb, nI_6m, nI_1, nI_k _ 2 2 rfl, nI_k _ 3 3 rfl, nI_k _ 4 4 rfl, nI_k _ 5 5 rfl, m_ui_ap, m_fil_ap, m_cpy_ap, Nat.reduceEqDiff, Nat.reduceLT, Nat.reduceLeDiff, eq_self, ↓reduceIte, false_and, and_false, true_and, and_true, and_self])
            refine ⟨vp_in_nI (by omega) (by decide), ?_⟩
            conv => whnf
            (try simp only [hcb, nI_6m, nI_1, nI_k _ 2 2 rfl, nI_k _ 3 3 rfl, nI_k _ 4 4 rfl, nI_k _ 5 5 rfl, m_ui_ap, m_fil_ap, m_cpy_ap, Nat.reduceEqDiff, Nat.reduceLT, Nat.reduceLeDiff, eq_self, ↓reduceIte, false_and, and_false, true_and, and_true, and_self])
            refine ⟨vp_in_nI (by omega) (by decide), ?_⟩
            conv => whnf
            (try simp only [hcb, nI_6m, nI_1, nI_k _ 2 2 rfl, nI_k _ 3 3 rfl, nI_k _ 4 4 rfl, nI_k _ 5 5 rfl, m_ui_ap, m_fil_ap, m_cpy_ap, Nat.reduceEqDiff, Nat.reduceLT, Nat.reduceLeDiff, eq_self, ↓reduceIte, false_and, and_false, true_and, and_true, and_self])
            refine ⟨vp_in_nI (by omega) (by decide), ?_⟩
            conv => whnf
            refine ⟨fun c5 => ?_, fun c5 => ?_⟩
            · conv => whnf
              (try simp only [hcb, nI_6m, nI_1, nI_k _ 2 2 rfl, nI_k _ 3 3 rfl, nI_k _ 4 4 rfl, nI_k _ 5 5 rfl, m_ui_ap, m_fil_ap, m_cpy_ap, Nat.reduceEqDiff, Nat.reduceLT, Nat.reduceLeDiff, eq_self, ↓reduceIte, false_and, and_false, true_and, and_true, and_self])
              refine ⟨vp_in_nI (by omega) (by decide), ?_⟩
              conv => whnf
              (try refine ⟨by first | exact Or.inl rfl | exact Or.inl True.intro, ?_⟩)
              (try (conv => whnf))
              (try (refine ⟨fun c => ?_, fun c => ?_⟩ <;> first | ((have c9 : (1 : Int32) = 0 := by with_reducible exact c); exact absurd c9 (by decide)) | exact absurd (rfl : (0 : Int32) = 0) (by with_reducible exact c) | exact absurd True.intro (by with_reducible exact c) | exact False.elim (by with_reducible exact c) | (conv => whnf)))
              have e7 : fr x5 = 0 := if_pos c5
              have H2 := H _ _ (Or.inr ⟨j, hj, rfl, hw, Or.inr (Or.inr ⟨by rw [hB]; exact e1, by omega, kd, hk4, hk, Or.inr ⟨by rw [hB]; exact fun z => z.2 z2, rfl⟩, rfl⟩)⟩)
              unfold mvadd at H2
              rw [e7, hB] at H2
              simp only [hc0, hc1, hc2, hc3, hc4, hc5, hcb, nI_6m, nI_1, nI_k _ 2 2 rfl, nI_k _ 3 3 rfl, nI_k _ 4 4 rfl, nI_k _ 5 5 rfl]
              (try simp only [hcb, nI_1, m_ui_ap, m_fil_ap, m_cpy_ap, Nat.reduceEqDiff, Nat.reduceLT, Nat.reduceLeDiff, eq_self, ↓reduceIte, false_and, and_false, true_and, and_true, and_self])
              exact H2
            · conv => whnf
              (try simp only [hcb, nI_6m, nI_1, nI_k _ 2 2 rfl, nI_k _ 3 3 rfl, nI_k _ 4 4 rfl, nI_k _ 5 5 rfl, m_ui_ap, m_fil_ap, m_cpy_ap, Nat.reduceEqDiff, Nat.reduceLT, Nat.reduceLeDiff, eq_self, ↓reduceIte, false_and, and_false, true_and, and_true, and_self])
              refine ⟨vp_in_nI (by omega) (by decide), ?_⟩
              conv => whnf
              (try refine ⟨by first | exact Or.inl rfl | exact Or.inl True.intro, ?_⟩)
              (try (conv => whnf))
              (try (refine ⟨fun c => ?_, fun c => ?_⟩ <;> first | ((have c9 : (1 : Int32) = 0 := by with_reducible exact c); exact absurd c9 (by decide)) | exact absurd (rfl : (0 : Int32) = 0) (by with_reducible exact c) | exact absurd True.intro (by with_reducible exact c) | exact False.elim (by with_reducible exact c) | (conv => whnf)))
              have e7 : fr x5 = 1 := if_neg c5
              have H2 := H _ _ (Or.inr ⟨j, hj, rfl, hw, Or.inr (Or.inr ⟨by rw [hB]; exact e1, by omega, kd, hk4, hk, Or.inr ⟨by rw [hB]; exact fun z => z.2 z2, rfl⟩, rfl⟩)⟩)
              unfold mvadd at H2
              rw [e7, hB] at H2
              simp only [hc0, hc1, hc2, hc3, hc4, hc5, hcb, nI_6m, nI_1, nI_k _ 2 2 rfl, nI_k _ 3 3 rfl, nI_k _ 4 4 rfl, nI_k _ 5 5 rfl]
              (try simp only [hcb, nI_1, m_ui_ap, m_fil_ap, m_cpy_ap, Nat.reduceEqDiff, Nat.reduceLT, Nat.reduceLeDiff, eq_self, ↓reduceIte, false_and, and_false, true_and, and_true, and_self])
              exact H2
          · conv => whnf
            (try simp only [hcb, nI_6m, nI_1, nI_k _ 2 2 rfl, nI_k _ 3 3 rfl, nI_k _ 4 4 rfl, nI_k _ 5 5 rfl, m_ui_ap, m_fil_ap, m_cpy_ap, Nat.reduceEqDiff, Nat.reduceLT, Nat.reduceLeDiff, eq_self, ↓reduceIte, false_and, and_false, true_and, and_true, and_self])
            refine ⟨vp_in_nI (by omega) (by decide), ?_⟩
            conv => whnf
            (try simp only [hcb, nI_6m, nI_1, nI_k _ 2 2 rfl, nI_k _ 3 3 rfl, nI_k _ 4 4 rfl, nI_k _ 5 5 rfl, m_ui_ap, m_fil_ap, m_cpy_ap, Nat.reduceEqDiff, Nat.reduceLT, Nat.reduceLeDiff, eq_self, ↓reduceIte, false_and, and_false, true_and, and_true, and_self])
            refine ⟨vp_in_nI (by omega) (by decide), ?_⟩
            conv => whnf
            (try (refine ⟨fun c => ?_, fun c => ?_⟩ <;> first | ((have c9 : (1 : Int32) = 0 := by with_reducible exact c); exact absurd c9 (by decide)) | exact absurd (rfl : (0 : Int32) = 0) (by with_reducible exact c) | exact absurd True.intro (by with_reducible exact c) | exact False.elim (by with_reducible exact c) | (conv => whnf)))
            (try simp only [hcb, nI_6m, nI_1, nI_k _ 2 2 rfl, nI_k _ 3 3 rfl, nI_k _ 4 4 rfl, nI_k _ 5 5 rfl, m_ui_ap, m_fil_ap, m_cpy_ap, Nat.reduceEqDiff, Nat.reduceLT, Nat.reduceLeDiff, eq_self, ↓reduceIte, false_and, and_false, true_and, and_true, and_self])
            refine ⟨vp_in_nI (by omega) (by decide), ?_⟩
            conv => whnf
            (try simp only [hcb, nI_6m, nI_1, nI_k _ 2 2 rfl, nI_k _ 3 3 rfl, nI_k _ 4 4 rfl, nI_k _ 5 5 rfl, m_ui_ap, m_fil_ap, m_cpy_ap, Nat.reduceEqDiff, Nat.reduceLT, Nat.reduceLeDiff, eq_self, ↓reduceIte, false_and, and_false, true_and, and_true, and_self])
            refine ⟨vp_in_nI (by omega) (by decide), ?_⟩
            conv => whnf
            (try simp only [hcb, nI_6m, nI_1, nI_k _ 2 2 rfl, nI_k _ 3 3 rfl, nI_k _ 4 4 rfl, nI_k _ 5 5 rfl, m_ui_ap, m_fil_ap, m_cpy_ap, Nat.reduceEqDiff, Nat.reduceLT, Nat.reduceLeDiff, eq_self, ↓reduceIte, false_and, and_false, true_and, and_true, and_self])
            refine ⟨vp_in_nI (by omega) (by decide), ?_⟩
            conv => whnf
            refine ⟨fun c5 => ?_, fun c5 => ?_⟩
            · conv => whnf
              (try simp only [hcb, nI_6m, nI_1, nI_k _ 2 2 rfl, nI_k _ 3 3 rfl, nI_k _ 4 4 rfl, nI_k _ 5 5 rfl, m_ui_ap, m_fil_ap, m_cpy_ap, Nat.reduceEqDiff, Nat.reduceLT, Nat.reduceLeDiff, eq_self, ↓reduceIte, false_and, and_false, true_and, and_true, and_self])
              refine ⟨vp_in_nI (by omega) (by decide), ?_⟩
              conv => whnf
              (try refine ⟨by first | exact Or.inl rfl | exact Or.inl True.intro, ?_⟩)
              (try (conv => whnf))
              (try (refine ⟨fun c => ?_, fun c => ?_⟩ <;> first | ((have c9 : (1 : Int32) = 0 := by with_reducible exact c); exact absurd c9 (by decide)) | exact absurd (rfl : (0 : Int32) = 0) (by with_reducible exact c) | exact absurd True.intro (by with_reducible exact c) | exact False.elim (by with_reducible exact c) | (conv => whnf)))
              have e7 : fr x5 = 0 := if_pos c5
              have H2 := H _ _ (Or.inr ⟨j, hj, rfl, hw, Or.inr (Or.inr ⟨by rw [hB]; exact e1, by omega, kd, hk4, hk, Or.inl ⟨by rw [hB]; exact ⟨z1, z2⟩, rfl⟩, rfl⟩)⟩)
              unfold mvadd at H2
              rw [e7, hB] at H2
              simp only [hc0, hc1, hc2, hc3, hc4, hc5, hcb, nI_6m, nI_1, nI_k _ 2 2 rfl, nI_k _ 3 3 rfl, nI_k _ 4 4 rfl, nI_k _ 5 5 rfl]
              (try simp only [hcb, nI_1, m_ui_ap, m_fil_ap, m_cpy_ap, Nat.reduceEqDiff, Nat.reduceLT, Nat.reduceLeDiff, eq_self, ↓reduceIte, false_and, and_false, true_and, and_true, and_self])
              exact H2
            · conv => whnf
              (try simp only [hcb, nI_6m, nI_1, nI_k _ 2 2 rfl, nI_k _ 3 3 rfl, nI_k _ 4 4 rfl, nI_k _ 5 5 rfl, m_ui_ap, m_fil_ap, m_cpy_ap, Nat.reduceEqDiff, Nat.reduceLT, Nat.reduceLeDiff, eq_self, ↓reduceIte, false_and, and_false, true_and, and_true, and_self])
              refine ⟨vp_in_nI (by omega) (by decide), ?_⟩
              conv => whnf
              (try refine ⟨by first | exact Or.inl rfl | exact Or.inl True.intro, ?_⟩)
              (try (conv => whnf))
              (try (refine ⟨fun c => ?_, fun c => ?_⟩ <;> first | ((have c9 : (1 : Int32) = 0 := by with_reducible exact c); exact absurd c9 (by decide)) | exact absurd (rfl : (0 : Int32) = 0) (by with_reducible exact c) | exact absurd True.intro (by with_reducible exact c) | exact False.elim (by with_reducible exact c) | (conv => whnf)))
              have e7 : fr x5 = 1 := if_neg c5
              have H2 := H _ _ (Or.inr ⟨j, hj, rfl, hw, Or.inr (Or.inr ⟨by rw [hB]; exact e1, by omega, kd, hk4, hk, Or.inl ⟨by rw [hB]; exact ⟨z1, z2⟩, rfl⟩, rfl⟩)⟩)
              unfold mvadd at H2
              rw [e7, hB] at H2
              simp only [hc0, hc1, hc2, hc3, hc4, hc5, hcb, nI_6m, nI_1, nI_k _ 2 2 rfl, nI_k _ 3 3 rfl, nI_k _ 4 4 rfl, nI_k _ 5 5 rfl]
              (try simp only [hcb, nI_1, m_ui_ap, m_fil_ap, m_cpy_ap, Nat.reduceEqDiff, Nat.reduceLT, Nat.reduceLeDiff, eq_self, ↓reduceIte, false_and, and_false, true_and, and_true, and_self])
              exact H2
    · conv => whnf
      exact H _ _ (Or.inr ⟨j, hj, rfl, hw, Or.inl ⟨by rw [hB]; exact (tv).2.mp e1, rfl, rfl⟩⟩)
  | k + 1, i, x, a, s9, s10, s11, s12, hi, hx, he => by
    subst hx
    have hcl : (nI i).toNatClampNeg = i := nI_clamp (by omega)
    refine at_X11_vote ?_
    conv => whnf
    refine ⟨fun c => absurd c (nI_ge (b := 8) (by omega) (by omega)), fun c => ?_⟩
    conv => whnf
    refine ⟨vp_in_nI (by omega) (by decide), ?_⟩
    conv => whnf
    simp only [hcl]
    refine ⟨fun c1 => ?_, fun c1 => ?_⟩
    · conv => whnf
      refine vm_lp hd hj hm hcb hcm hkd hw ew H k (i + 1) _ _ _ _ _ _ (by omega) (nI_1 i) ?_
      rw [may_n (P := fun m => ¬ f 212 m &&& w = 0) (D := fun m => nI m) (k := k) (i := i) (a := a) (fun z => z c1)] at he
      show mayl (fun m => ¬ f 212 m &&& w = 0) (fun m => nI m) k (i + 1) (a ||| 0) = _
      rw [or_0]
      exact he
    · conv => whnf
      refine vm_lp hd hj hm hcb hcm hkd hw ew H k (i + 1) _ _ _ _ _ _ (by omega) (nI_1 i) ?_
      rw [may_y (P := fun m => ¬ f 212 m &&& w = 0) (D := fun m => nI m) (k := k) (i := i) (a := a) c1] at he
      exact he
set_option maxRecDepth 100000 in
set_option maxHeartbeats 4000000 in
theorem smf_vote {d L : Nat} {f : Nat → Nat → Int32} {g : Nat → Nat → Int64} {n h c : Nat} {x1 x2 x3 x4 x5 : Int32} {R : Option Value → mH → Prop} (hd : 6 ≤ d) (hb : f 181 0 = nI n) (hm : n ≤ 40) (hhb : f 181 14 = nI h) (hhm : h ≤ 60) (hcb : f 181 48 = nI c) (hcm : c ≤ 60) (hkd : ∀ j, inr 0 3 (f 182 j)) (H : ∀ v f1, SM_vote n h c f f1 x1 x2 x3 x4 x5 v → R (some (.int v)) (shF L, f1, g)) : Run mtab d 225 [.ref 181, .int x1, .int x2, .int x3, .int x4, .int x5] (shF L, f, g) R := by
  obtain ⟨d, rfl⟩ : ∃ e, d = e + 1 := ⟨d - 1, by omega⟩
  refine go_X11_vote rfl ?_
  conv => whnf
  refine ct_mIsWork (by omega) hb hm (fun j hj e => ?_) (fun q => ?_)
  · subst e
    conv => whnf
    (refine ⟨fun c => ?_, fun c => ?_⟩ <;> first | ((have c9 : (1 : Int32) = 0 := by with_reducible exact c); exact absurd c9 (by decide)) | exact absurd (rfl : (0 : Int32) = 0) (by with_reducible exact c) | exact absurd True.intro (by with_reducible exact c) | exact False.elim (by with_reducible exact c) | (conv => whnf))
    refine ct_i_0_9999 (by omega) (fun p2 => ?_) (fun p2 => ?_)
    · conv => whnf
      (refine ⟨fun c => ?_, fun c => ?_⟩ <;> first | ((have c9 : (1 : Int32) = 0 := by with_reducible exact c); exact absurd c9 (by decide)) | exact absurd (rfl : (0 : Int32) = 0) (by with_reducible exact c) | exact absurd True.intro (by with_reducible exact c) | exact False.elim (by with_reducible exact c) | (conv => whnf))
      refine ct_i_0_255 (by omega) (fun p3 => ?_) (fun p3 => ?_)
      · conv => whnf
        (refine ⟨fun c => ?_, fun c => ?_⟩ <;> first | ((have c9 : (1 : Int32) = 0 := by with_reducible exact c); exact absurd c9 (by decide)) | exact absurd (rfl : (0 : Int32) = 0) (by with_reducible exact c) | exact absurd True.intro (by with_reducible exact c) | exact False.elim (by with_reducible exact c) | (conv => whnf))
        refine ct_i_0_255 (by omega) (fun p4 => ?_) (fun p4 => ?_)
        · conv => whnf
          (refine ⟨fun c => ?_, fun c => ?_⟩ <;> first | ((have c9 : (1 : Int32) = 0 := by with_reducible exact c); exact absurd c9 (by decide)) | exact absurd (rfl : (0 : Int32) = 0) (by with_reducible exact c) | exact absurd True.intro (by with_reducible exact c) | exact False.elim (by with_reducible exact c) | (conv => whnf))
          refine ⟨fun e0 => ?_, fun e0 => ?_⟩
          · conv => whnf
            have hw : votew n (nI j) x2 x3 x4 := ⟨⟨j, hj, rfl⟩, p2, p3, p4, e0⟩
            refine ⟨by decide, ?_⟩
            conv => whnf
            refine smf_mayHold (by omega) hhb hhm ?_
            conv => whnf
            exact vm_lp (by omega) hj hm hcb hcm hkd hw rfl H 8 0 _ _ _ _ _ _ (by omega) rfl rfl
          · conv => whnf
            exact H _ _ (Or.inl ⟨fun hh => e0 hh.2.2.2.2, rfl, rfl⟩)
        · conv => whnf
          (refine ⟨fun c => ?_, fun c => ?_⟩ <;> first | ((have c9 : (1 : Int32) = 0 := by with_reducible exact c); exact absurd c9 (by decide)) | exact absurd (rfl : (0 : Int32) = 0) (by with_reducible exact c) | exact absurd True.intro (by with_reducible exact c) | exact False.elim (by with_reducible exact c) | (conv => whnf))
          exact H _ _ (Or.inl ⟨fun hh => p4 hh.2.2.2.1, rfl, rfl⟩)
      · conv => whnf
        (refine ⟨fun c => ?_, fun c => ?_⟩ <;> first | ((have c9 : (1 : Int32) = 0 := by with_reducible exact c); exact absurd c9 (by decide)) | exact absurd (rfl : (0 : Int32) = 0) (by with_reducible exact c) | exact absurd True.intro (by with_reducible exact c) | exact False.elim (by with_reducible exact c) | (conv => whnf))
        exact H _ _ (Or.inl ⟨fun hh => p3 hh.2.2.1, rfl, rfl⟩)
    · conv => whnf
      (refine ⟨fun c => ?_, fun c => ?_⟩ <;> first | ((have c9 : (1 : Int32) = 0 := by with_reducible exact c); exact absurd c9 (by decide)) | exact absurd (rfl : (0 : Int32) = 0) (by with_reducible exact c) | exact absurd True.intro (by with_reducible exact c) | exact False.elim (by with_reducible exact c) | (conv => whnf))
      exact H _ _ (Or.inl ⟨fun hh => p2 hh.2.1, rfl, rfl⟩)
  · conv => whnf
    (refine ⟨fun c => ?_, fun c => ?_⟩ <;> first | ((have c9 : (1 : Int32) = 0 := by with_reducible exact c); exact absurd c9 (by decide)) | exact absurd (rfl : (0 : Int32) = 0) (by with_reducible exact c) | exact absurd True.intro (by with_reducible exact c) | exact False.elim (by with_reducible exact c) | (conv => whnf))
    exact H _ _ (Or.inl ⟨fun hh => nhasw q hh.1, rfl, rfl⟩)
def RVk (f : Nat → Nat → Int32) (k : Nat) : Prop := f 121 k = f 218 (6 * k) ∧ f 122 k = f 218 (6 * k + 1) ∧ f 123 k = f 218 (6 * k + 2) ∧ f 125 k = f 218 (6 * k + 3) ∧ f 126 k = f 218 (6 * k + 4) ∧ f 124 k = f 218 (6 * k + 5) ∧ inr 0 9999 (f 122 k) ∧ (f 123 k = 0 ∨ f 123 k = 1) ∧ (f 124 k = 0 ∨ f 124 k = 1)
/-- both objects have the same votes -/
def RV (v : Nat) (f : Nat → Nat → Int32) : Prop := v ≤ 60 ∧ f 119 7 = nI v ∧ f 181 48 = nI v ∧ ∀ k, k < v → RVk f k
theorem cmp_4 {i : Nat} : ∀ a, 119 ≤ a → a ≤ 126 → ¬ a = 120 → cmp a i = 4 := by
  intro a h h' h2
  have : a = 119 ∨ a = 121 ∨ a = 122 ∨ a = 123 ∨ a = 124 ∨ a = 125 ∨ a = 126 := by omega
  rcases this with rfl | rfl | rfl | rfl | rfl | rfl | rfl <;> rfl
theorem RV_kp {l : List Nat} {v : Nat} {f f' : Nat → Nat → Int32} (k : kp l f f') (h4 : hasN l 4 = false) (h14 : hasN l 14 = false) (r : RV v f) : RV v f' := by
  obtain ⟨a, b, c, d⟩ := r
  have e : ∀ p i, 119 ≤ p → p ≤ 126 → ¬ p = 120 → f' p i = f p i := fun p i h1 h2 h3 => k p i (by rw [cmp_4 p h1 h2 h3]; exact h4)
  have e2 : ∀ i, f' 218 i = f 218 i := fun i => k 218 i (by exact h14)
  refine ⟨a, (e 119 7 (by omega) (by omega) (by omega)).trans b, (k 181 48 (by exact h14)).trans c, fun j hj => ?_⟩
  unfold RVk
  rw [e 121 j (by omega) (by omega) (by omega), e 122 j (by omega) (by omega) (by omega), e 123 j (by omega) (by omega) (by omega), e 124 j (by omega) (by omega) (by omega), e 125 j (by omega) (by omega) (by omega), e 126 j (by omega) (by omega) (by omega)]
  simp only [e2]
  exact d j hj
theorem passw_congr {r r' : Nat → Int32} {A B A' B' : Int32} (h : ∀ t, t < 3 → r t = r' t) (hA : A = A') (hB : B = B') : passw r A B ↔ passw r' A' B' := by
  subst hA
  subst hB
  unfold passw
  rw [h 0 (by omega), h 1 (by omega), h 2 (by omega)]
theorem va_121 {f : Nat → Nat → Int32} {c k : Nat} {x1 x2 x5 ps vo lo : Int32} : mvadd (vadd f c x1 x2 x5 ps vo lo) c x1 x2 x5 ps vo lo 121 k = if k = c then x1 else f 121 k := by
  unfold mvadd vadd vadd0
  by_cases e : k = c
  · subst e
    rw [m_ui_o (by omega), m_ui_o (by omega), m_ui_o (by omega), m_ui_o (by omega), m_ui_o (by omega), m_ui_o (by omega), m_ui_o (by omega), m_ui_o (by omega), m_ui_o (by omega), m_ui_o (by omega), m_ui_o (by omega), m_ui_o (by omega), m_ui_o (by omega), m_ui_o (by omega), m_ui_s, if_pos rfl]
  · rw [m_ui_o (by omega), m_ui_o (by omega), m_ui_o (by omega), m_ui_o (by omega), m_ui_o (by omega), m_ui_o (by omega), m_ui_o (by omega), m_ui_o (by omega), m_ui_o (by omega), m_ui_o (by omega), m_ui_o (by omega), m_ui_o (by omega), m_ui_o (by omega), m_ui_o (by omega), m_ui_o (by omega), if_neg e]
theorem va_122 {f : Nat → Nat → Int32} {c k : Nat} {x1 x2 x5 ps vo lo : Int32} : mvadd (vadd f c x1 x2 x5 ps vo lo) c x1 x2 x5 ps vo lo 122 k = if k = c then x2 else f 122 k := by
  unfold mvadd vadd vadd0
  by_cases e : k = c
  · subst e
    rw [m_ui_o (by omega), m_ui_o (by omega), m_ui_o (by omega), m_ui_o (by omega), m_ui_o (by omega), m_ui_o (by omega), m_ui_o (by omega), m_ui_o (by omega), m_ui_o (by omega), m_ui_o (by omega), m_ui_o (by omega), m_ui_o (by omega), m_ui_o (by omega), m_ui_s, if_pos rfl]
  · rw [m_ui_o (by omega), m_ui_o (by omega), m_ui_o (by omega), m_ui_o (by omega), m_ui_o (by omega), m_ui_o (by omega), m_ui_o (by omega), m_ui_o (by omega), m_ui_o (by omega), m_ui_o (by omega), m_ui_o (by omega), m_ui_o (by omega), m_ui_o (by omega), m_ui_o (by omega), m_ui_o (by omega), if_neg e]
theorem va_123 {f : Nat → Nat → Int32} {c k : Nat} {x1 x2 x5 ps vo lo : Int32} : mvadd (vadd f c x1 x2 x5 ps vo lo) c x1 x2 x5 ps vo lo 123 k = if k = c then (vp_nar .boolean ps) else f 123 k := by
  unfold mvadd vadd vadd0
  by_cases e : k = c
  · subst e
    rw [m_ui_o (by omega), m_ui_o (by omega), m_ui_o (by omega), m_ui_o (by omega), m_ui_o (by omega), m_ui_o (by omega), m_ui_o (by omega), m_ui_o (by omega), m_ui_o (by omega), m_ui_o (by omega), m_ui_o (by omega), m_ui_s, if_pos rfl]
  · rw [m_ui_o (by omega), m_ui_o (by omega), m_ui_o (by omega), m_ui_o (by omega), m_ui_o (by omega), m_ui_o (by omega), m_ui_o (by omega), m_ui_o (by omega), m_ui_o (by omega), m_ui_o (by omega), m_ui_o (by omega), m_ui_o (by omega), m_ui_o (by omega), m_ui_o (by omega), m_ui_o (by omega), if_neg e]
theorem va_124 {f : Nat → Nat → Int32} {c k : Nat} {x1 x2 x5 ps vo lo : Int32} : mvadd (vadd f c x1 x2 x5 ps vo lo) c x1 x2 x5 ps vo lo 124 k = if k = c then (vp_nar .boolean x5) else f 124 k := by
  unfold mvadd vadd vadd0
  by_cases e : k = c
  · subst e
    rw [m_ui_o (by omega), m_ui_o (by omega), m_ui_o (by omega), m_ui_o (by omega), m_ui_o (by omega), m_ui_o (by omega), m_ui_o (by omega), m_ui_o (by omega), m_ui_o (by omega), m_ui_o (by omega), m_ui_o (by omega), m_ui_o (by omega), m_ui_s, if_pos rfl]
  · rw [m_ui_o (by omega), m_ui_o (by omega), m_ui_o (by omega), m_ui_o (by omega), m_ui_o (by omega), m_ui_o (by omega), m_ui_o (by omega), m_ui_o (by omega), m_ui_o (by omega), m_ui_o (by omega), m_ui_o (by omega), m_ui_o (by omega), m_ui_o (by omega), m_ui_o (by omega), m_ui_o (by omega), if_neg e]
theorem va_125 {f : Nat → Nat → Int32} {c k : Nat} {x1 x2 x5 ps vo lo : Int32} : mvadd (vadd f c x1 x2 x5 ps vo lo) c x1 x2 x5 ps vo lo 125 k = if k = c then vo else f 125 k := by
  unfold mvadd vadd vadd0
  by_cases e : k = c
  · subst e
    rw [m_ui_o (by omega), m_ui_o (by omega), m_ui_o (by omega), m_ui_o (by omega), m_ui_o (by omega), m_ui_o (by omega), m_ui_o (by omega), m_ui_o (by omega), m_ui_o (by omega), m_ui_s, if_pos rfl]
  · rw [m_ui_o (by omega), m_ui_o (by omega), m_ui_o (by omega), m_ui_o (by omega), m_ui_o (by omega), m_ui_o (by omega), m_ui_o (by omega), m_ui_o (by omega), m_ui_o (by omega), m_ui_o (by omega), m_ui_o (by omega), m_ui_o (by omega), m_ui_o (by omega), m_ui_o (by omega), m_ui_o (by omega), if_neg e]
theorem va_126 {f : Nat → Nat → Int32} {c k : Nat} {x1 x2 x5 ps vo lo : Int32} : mvadd (vadd f c x1 x2 x5 ps vo lo) c x1 x2 x5 ps vo lo 126 k = if k = c then lo else f 126 k := by
  unfold mvadd vadd vadd0
  by_cases e : k = c
  · subst e
    rw [m_ui_o (by omega), m_ui_o (by omega), m_ui_o (by omega), m_ui_o (by omega), m_ui_o (by omega), m_ui_o (by omega), m_ui_o (by omega), m_ui_o (by omega), m_ui_s, if_pos rfl]
  · rw [m_ui_o (by omega), m_ui_o (by omega), m_ui_o (by omega), m_ui_o (by omega), m_ui_o (by omega), m_ui_o (by omega), m_ui_o (by omega), m_ui_o (by omega), m_ui_o (by omega), m_ui_o (by omega), m_ui_o (by omega), m_ui_o (by omega), m_ui_o (by omega), m_ui_o (by omega), m_ui_o (by omega), if_neg e]
theorem vm_0 {f : Nat → Nat → Int32} {c k : Nat} {x1 x2 x5 ps vo lo : Int32} : mvadd (vadd f c x1 x2 x5 ps vo lo) c x1 x2 x5 ps vo lo 218 (6 * k) = if k = c then x1 else f 218 (6 * k) := by
  unfold mvadd vadd vadd0
  by_cases e : k = c
  · subst e
    rw [m_ui_o (by omega), m_ui_o (by omega), m_ui_o (by omega), m_ui_o (by omega), m_ui_o (by omega), m_ui_o (by omega), m_ui_o (by omega), m_ui_s, if_pos rfl]
  · rw [m_ui_o (by omega), m_ui_o (by omega), m_ui_o (by omega), m_ui_o (by omega), m_ui_o (by omega), m_ui_o (by omega), m_ui_o (by omega), m_ui_o (by omega), m_ui_o (by omega), m_ui_o (by omega), m_ui_o (by omega), m_ui_o (by omega), m_ui_o (by omega), m_ui_o (by omega), m_ui_o (by omega), if_neg e]
theorem vm_1 {f : Nat → Nat → Int32} {c k : Nat} {x1 x2 x5 ps vo lo : Int32} : mvadd (vadd f c x1 x2 x5 ps vo lo) c x1 x2 x5 ps vo lo 218 (6 * k + 1) = if k = c then x2 else f 218 (6 * k + 1) := by
  unfold mvadd vadd vadd0
  by_cases e : k = c
  · subst e
    rw [m_ui_o (by omega), m_ui_o (by omega), m_ui_o (by omega), m_ui_o (by omega), m_ui_o (by omega), m_ui_o (by omega), m_ui_s, if_pos rfl]
  · rw [m_ui_o (by omega), m_ui_o (by omega), m_ui_o (by omega), m_ui_o (by omega), m_ui_o (by omega), m_ui_o (by omega), m_ui_o (by omega), m_ui_o (by omega), m_ui_o (by omega), m_ui_o (by omega), m_ui_o (by omega), m_ui_o (by omega), m_ui_o (by omega), m_ui_o (by omega), m_ui_o (by omega), if_neg e]
theorem vm_2 {f : Nat → Nat → Int32} {c k : Nat} {x1 x2 x5 ps vo lo : Int32} : mvadd (vadd f c x1 x2 x5 ps vo lo) c x1 x2 x5 ps vo lo 218 (6 * k + 2) = if k = c then ps else f 218 (6 * k + 2) := by
  unfold mvadd vadd vadd0
  by_cases e : k = c
  · subst e
    rw [m_ui_o (by omega), m_ui_o (by omega), m_ui_o (by omega), m_ui_o (by omega), m_ui_o (by omega), m_ui_s, if_pos rfl]
  · rw [m_ui_o (by omega), m_ui_o (by omega), m_ui_o (by omega), m_ui_o (by omega), m_ui_o (by omega), m_ui_o (by omega), m_ui_o (by omega), m_ui_o (by omega), m_ui_o (by omega), m_ui_o (by omega), m_ui_o (by omega), m_ui_o (by omega), m_ui_o (by omega), m_ui_o (by omega), m_ui_o (by omega), if_neg e]
theorem vm_3 {f : Nat → Nat → Int32} {c k : Nat} {x1 x2 x5 ps vo lo : Int32} : mvadd (vadd f c x1 x2 x5 ps vo lo) c x1 x2 x5 ps vo lo 218 (6 * k + 3) = if k = c then vo else f 218 (6 * k + 3) := by
  unfold mvadd vadd vadd0
  by_cases e : k = c
  · subst e
    rw [m_ui_o (by omega), m_ui_o (by omega), m_ui_o (by omega), m_ui_o (by omega), m_ui_s, if_pos rfl]
  · rw [m_ui_o (by omega), m_ui_o (by omega), m_ui_o (by omega), m_ui_o (by omega), m_ui_o (by omega), m_ui_o (by omega), m_ui_o (by omega), m_ui_o (by omega), m_ui_o (by omega), m_ui_o (by omega), m_ui_o (by omega), m_ui_o (by omega), m_ui_o (by omega), m_ui_o (by omega), m_ui_o (by omega), if_neg e]
theorem vm_4 {f : Nat → Nat → Int32} {c k : Nat} {x1 x2 x5 ps vo lo : Int32} : mvadd (vadd f c x1 x2 x5 ps vo lo) c x1 x2 x5 ps vo lo 218 (6 * k + 4) = if k = c then lo else f 218 (6 * k + 4) := by
  unfold mvadd vadd vadd0
  by_cases e : k = c
  · subst e
    rw [m_ui_o (by omega), m_ui_o (by omega), m_ui_o (by omega), m_ui_s, if_pos rfl]
  · rw [m_ui_o (by omega), m_ui_o (by omega), m_ui_o (by omega), m_ui_o (by omega), m_ui_o (by omega), m_ui_o (by omega), m_ui_o (by omega), m_ui_o (by omega), m_ui_o (by omega), m_ui_o (by omega), m_ui_o (by omega), m_ui_o (by omega), m_ui_o (by omega), m_ui_o (by omega), m_ui_o (by omega), if_neg e]
theorem vm_5 {f : Nat → Nat → Int32} {c k : Nat} {x1 x2 x5 ps vo lo : Int32} : mvadd (vadd f c x1 x2 x5 ps vo lo) c x1 x2 x5 ps vo lo 218 (6 * k + 5) = if k = c then (fr x5) else f 218 (6 * k + 5) := by
  unfold mvadd vadd vadd0
  by_cases e : k = c
  · subst e
    rw [m_ui_o (by omega), m_ui_o (by omega), m_ui_s, if_pos rfl]
  · rw [m_ui_o (by omega), m_ui_o (by omega), m_ui_o (by omega), m_ui_o (by omega), m_ui_o (by omega), m_ui_o (by omega), m_ui_o (by omega), m_ui_o (by omega), m_ui_o (by omega), m_ui_o (by omega), m_ui_o (by omega), m_ui_o (by omega), m_ui_o (by omega), m_ui_o (by omega), m_ui_o (by omega), if_neg e]
theorem kx_vote {n h c : Nat} {f f1 : Nat → Nat → Int32} {x1 x2 x3 x4 x5 v : Int32} (s : SX_vote n h c f f1 x1 x2 x3 x4 x5 v) : kp [4] f f1 := by
  rcases s with ⟨_, _, rfl⟩ | ⟨j, _, _, _, ⟨_, _, rfl⟩ | ⟨_, _, _, rfl⟩ | ⟨_, _, k, _, _, _, rfl⟩⟩
  · exact kp_refl _ _
  · exact kp_refl _ _
  · exact kp_refl _ _
  · unfold vadd vadd0
    exact kp_ui rfl (kp_ui rfl (kp_ui rfl (kp_ui rfl (kp_ui rfl (kp_ui rfl (kp_ui rfl (kp_refl _ _)))))))
theorem km_vote {n h c : Nat} {f f1 : Nat → Nat → Int32} {x1 x2 x3 x4 x5 v : Int32} (s : SM_vote n h c f f1 x1 x2 x3 x4 x5 v) : kp [10, 14, 22] f f1 := by
  rcases s with ⟨_, _, rfl⟩ | ⟨j, _, _, _, ⟨_, _, rfl⟩ | ⟨_, _, _, rfl⟩ | ⟨_, _, k, _, _, _, rfl⟩⟩
  · exact kp_refl _ _
  · exact kp_refl _ _
  · exact kp_refl _ _
  · unfold mvadd
    exact kp_ui rfl (kp_ui rfl (kp_ui rfl (kp_ui rfl (kp_ui rfl (kp_ui rfl (kp_ui rfl (kp_ui rfl (kp_refl _ _))))))))
theorem XI_va {f : Nat → Nat → Int32} {c : Nat} {x1 x2 x5 ps vo lo : Int32} (hX : XI f) (hc : c < 60) (h1 : inr 0 39 x1) : XI (mvadd (vadd f c x1 x2 x5 ps vo lo) c x1 x2 x5 ps vo lo) := by
  unfold mvadd vadd vadd0
  exact XI_ui (XI_ui (XI_ui (XI_ui (XI_ui (XI_ui (XI_ui (XI_ui (XI_ui (XI_ui (XI_ui (XI_ui (XI_ui (XI_ui (XI_ui hX h1) True.intro) True.intro) True.intro) (show inr 0 60 _ from inr_n1 (m := 60) (by omega) rfl (by decide))) True.intro) True.intro) True.intro) True.intro) True.intro) True.intro) True.intro) True.intro) (show inr 0 60 _ from inr_n (m := 60) (by omega) rfl (by decide))) True.intro
theorem fin_vote {n h c : Nat} {f f1 f2 : Nat → Nat → Int32} {x1 x2 x3 x4 x5 v1 v2 : Int32} (hX : XI f) (hW : RW n f) (hO : RO h f) (hK : RK f) (hR : RR f) (hV : RV c f) (h5 : x5 = 0 ∨ x5 = 1) (s1 : SX_vote n h c f f1 x1 x2 x3 x4 x5 v1) (s2 : SM_vote n h c f1 f2 x1 x2 x3 x4 x5 v2) : XI f2 ∧ (∃ c, RV c f2) ∧ v1 = v2 := by
  have k1 := kx_vote s1
  have e195 : f1 195 = f 195 := funext (fun i => k1 195 i rfl)
  have e212 : f1 212 = f 212 := funext (fun i => k1 212 i rfl)
  have e182 : f1 182 = f 182 := funext (fun i => k1 182 i rfl)
  have ePM : PM f1 = PM f := by
    funext lo hi w y i
    unfold PM
    rw [e195]
  have hBB : (mayl (fun m => ¬ f 120 m &&& (mayl (PO f 103 106 x1 (1900 + x2 / 100)) (fun i => f 102 i) h 0 0) = 0) (fun m => nI m) 8 0 0) = (mayl (fun m => ¬ f 212 m &&& (mayl (PM f 2 5 x1 (1900 + x2 / 100)) (fun i => f 195 (6 * i + 1)) h 0 0) = 0) (fun m => nI m) 8 0 0) := by
    rw [may_RO hO]
    refine mayl_eq 8 (fun i hi => ?_) (fun i hi => rfl) 8 0 _ (by omega)
    rw [hK i hi]
  have eR : ∀ k t, k < 4 → t < 3 → eC (fun k t => f1 (213 + t) k) k t = f (109 + k) t := fun k t hk ht => by
    rw [hR k t hk ht]
    exact eC_congr (fun k' t' hk' ht' => k1 (213 + t') k' (by rw [cmp_13 _ (by omega) (by omega)]; rfl)) ht
  unfold SM_vote at s2
  rw [e195, e212, e182, ePM, ← hBB] at s2
  unfold SX_vote at s1
  generalize (mayl (fun m => ¬ f 120 m &&& (mayl (PO f 103 106 x1 (1900 + x2 / 100)) (fun i => f 102 i) h 0 0) = 0) (fun m => nI m) 8 0 0) = B at s1 s2
  rcases s1 with ⟨q1, rfl, rfl⟩ | ⟨j, hj, ej, w1, s1⟩
  · rcases s2 with ⟨q2, rfl, rfl⟩ | ⟨j2, _, _, w2, _⟩
    · exact ⟨hX, ⟨c, hV⟩, rfl⟩
    · exact absurd w2 q1
  · rcases s2 with ⟨q2, _⟩ | ⟨j2, hj2, ej2, w2, s2⟩
    · exact absurd w1 q2
    · have hn := hW.1
      have ejj : j = j2 := (nI_eq (by omega) (by omega)).mp (ej.symm.trans ej2)
      subst ejj
      rcases s1 with ⟨z1, rfl, rfl⟩ | ⟨z1, y1, rfl, rfl⟩ | ⟨z1, y1, k, hk, ek, p1, rfl⟩
      · rcases s2 with ⟨z2, rfl, rfl⟩ | ⟨z2, _⟩ | ⟨z2, _⟩
        · exact ⟨hX, ⟨c, hV⟩, rfl⟩
        · exact absurd z1 z2
        · exact absurd z1 z2
      · rcases s2 with ⟨z2, _⟩ | ⟨z2, y2, rfl, rfl⟩ | ⟨z2, y2, _⟩
        · exact absurd z2 z1
        · exact ⟨hX, ⟨c, hV⟩, rfl⟩
        · omega
      · rcases s2 with ⟨z2, _⟩ | ⟨z2, y2, _⟩ | ⟨z2, y2, k', hk', ek', p2, rfl⟩
        · exact absurd z2 z1
        · omega
        · have ekk : k = k' := (nI_eq (by omega) (by omega)).mp (ek.symm.trans ((hW.2.2.2.1 j hj).1.trans ek'))
          subst ekk
          have t1 := (bc_8 (and_255 (y := B ^^^ -1) (or_255 w1.2.2.1 w1.2.2.2.1))).1
          have t2 := (bc_8 (and_255 (y := B ^^^ -1) w1.2.2.1)).1
          have hp := passw_congr (r := fun t => f (109 + k) t) (fun t ht => (eR k t hk ht).symm) t1 t2
          have ev : v1 = v2 := by
            rcases p1 with ⟨a1, b1⟩ | ⟨a1, b1⟩
            · rcases p2 with ⟨_, b2⟩ | ⟨a2, _⟩
              · rw [b1, b2]
              · exact absurd (hp.mp a1) a2
            · rcases p2 with ⟨a2, _⟩ | ⟨_, b2⟩
              · exact absurd (hp.mpr a2) a1
              · rw [b1, b2]
          have hv : v1 = 0 ∨ v1 = 1 := p1.elim (fun z => Or.inr z.2) (fun z => Or.inl z.2)
          subst ev
          obtain ⟨a, b, e, d⟩ := hV
          refine ⟨XI_va hX y1 (by rw [ej]; exact inr_n (m := 39) (by omega) rfl (by decide)), ⟨c + 1, by omega, ?_, ?_, fun k hk => ?_⟩, rfl⟩
          · unfold mvadd vadd vadd0
            rw [m_ui_o (by omega), m_ui_o (by omega), m_ui_o (by omega), m_ui_o (by omega), m_ui_o (by omega), m_ui_o (by omega), m_ui_o (by omega), m_ui_o (by omega), m_ui_o (by omega), m_ui_o (by omega), m_ui_s]
            exact nI_1 c
          · unfold mvadd
            rw [m_ui_o (by omega), m_ui_s]
          · unfold RVk
            rw [va_121, va_122, va_123, va_124, va_125, va_126, vm_0, vm_1, vm_2, vm_3, vm_4, vm_5]
            by_cases q : k = c
            · simp only [if_pos q]
              rcases h5 with rfl | rfl
              · rcases hv with rfl | rfl
                · exact ⟨trivial, trivial, rfl, trivial, trivial, rfl, w1.2.1, Or.inl rfl, Or.inl rfl⟩
                · exact ⟨trivial, trivial, rfl, trivial, trivial, rfl, w1.2.1, Or.inr rfl, Or.inl rfl⟩
              · rcases hv with rfl | rfl
                · exact ⟨trivial, trivial, rfl, trivial, trivial, rfl, w1.2.1, Or.inl rfl, Or.inr rfl⟩
                · exact ⟨trivial, trivial, rfl, trivial, trivial, rfl, w1.2.1, Or.inr rfl, Or.inr rfl⟩
            · simp only [if_neg q]
              exact d k (by omega)
def vC (f : Nat → Nat → Int32) (k t : Nat) : Int32 := if t = 0 then f 121 k else if t = 1 then f 122 k else if t = 2 then fr (f 123 k) else if t = 3 then f 125 k else if t = 4 then f 126 k else fr (f 124 k)
def SX_votes (c : Nat) (f : Nat → Nat → Int32) (x1 x2 v : Int32) : Prop := (¬ (hasw c x1 ∧ inr 0 5 x2) ∧ v = -1) ∨ (∃ k t, k < c ∧ t < 6 ∧ x1 = nI k ∧ x2 = nI t ∧ v = vC f k t)
def SM_votes (c : Nat) (f : Nat → Nat → Int32) (x1 x2 v : Int32) : Prop := (¬ (hasw c x1 ∧ inr 0 5 x2) ∧ v = -1) ∨ (∃ k t, k < c ∧ t < 6 ∧ x1 = nI k ∧ x2 = nI t ∧ v = f 218 (6 * k + t))
theorem in5 {x : Int32} (h : inr 0 5 x) : ∃ t : Nat, t < 6 ∧ x = nI t := by
  obtain ⟨t, ht, e⟩ := inr_nat (n := 5) rfl h
  exact ⟨t, by omega, e⟩
theorem c6_c {t : Nat} (ht : t < 6) : t = 0 ∨ t = 1 ∨ t = 2 ∨ t = 3 ∨ t = 4 ∨ t = 5 := by omega
theorem sw_no {x : Int32} (h : ¬ inr 0 5 x) : ¬ x = 0 ∧ ¬ x = 1 ∧ ¬ x = 2 ∧ ¬ x = 3 ∧ ¬ x = 4 ∧ ¬ x = 5 := by
  refine ⟨?_, ?_, ?_, ?_, ?_, ?_⟩ <;> (intro e; subst e; exact h (by unfold inr; decide))
set_option maxRecDepth 100000 in
set_option maxHeartbeats 4000000 in
theorem sf_votes {d L : Nat} {f : Nat → Nat → Int32} {g : Nat → Nat → Int64} {c0 : Nat} {x1 x2 : Int32} {R : Option Value → mH → Prop} (hd : 2 ≤ d) (hvb : f 119 7 = nI c0) (hvm : c0 ≤ 60) (H : ∀ v, SX_votes c0 f x1 x2 v → R (some (.int v)) (shF L, f, g)) : Run mtab d 123 [.ref 5, .int x1, .int x2] (shF L, f, g) R := by
  obtain ⟨d, rfl⟩ : ∃ e, d = e + 1 := ⟨d - 1, by omega⟩
  refine go_X10_votes rfl ?_
  conv => whnf
  simp only [hvb]
  refine ct_isWithin (by omega) (fun p => ?_) (fun p => ?_)
  · obtain ⟨k, hk, rfl⟩ := inr_cnt (by omega) p
    have hcl : (nI k).toNatClampNeg = k := nI_clamp (by omega)
    conv => whnf
    (refine ⟨fun c => ?_, fun c => ?_⟩ <;> first | ((have c9 : (1 : Int32) = 0 := by with_reducible exact c); exact absurd c9 (by decide)) | exact absurd (rfl : (0 : Int32) = 0) (by with_reducible exact c) | exact absurd True.intro (by with_reducible exact c) | exact False.elim (by with_reducible exact c) | (conv => whnf))
    refine ⟨fun c => ?_, fun c => ?_, fun c => ?_, fun c => ?_, fun c => ?_, fun c => ?_, fun c => ?_⟩
    · conv => whnf
      refine ⟨vp_in_nI (by omega) (by decide), ?_⟩
      conv => whnf
      simp only [hcl]
      exact H _ (Or.inr ⟨k, 0, hk, by decide, rfl, c, rfl⟩)
    · conv => whnf
      refine ⟨vp_in_nI (by omega) (by decide), ?_⟩
      conv => whnf
      simp only [hcl]
      exact H _ (Or.inr ⟨k, 1, hk, by decide, rfl, c, rfl⟩)
    · conv => whnf
      refine ⟨vp_in_nI (by omega) (by decide), ?_⟩
      conv => whnf
      simp only [hcl]
      have H2 := H _ (Or.inr ⟨k, 2, hk, by decide, rfl, c, rfl⟩)
      refine ct_bit (by omega) (fun z => ?_) (fun z => ?_)
      · have e : vC f k 2 = 1 := if_neg z
        rw [e] at H2
        conv => whnf
        exact H2
      · have e : vC f k 2 = 0 := if_pos z
        rw [e] at H2
        conv => whnf
        exact H2
    · conv => whnf
      refine ⟨vp_in_nI (by omega) (by decide), ?_⟩
      conv => whnf
      simp only [hcl]
      exact H _ (Or.inr ⟨k, 3, hk, by decide, rfl, c, rfl⟩)
    · conv => whnf
      refine ⟨vp_in_nI (by omega) (by decide), ?_⟩
      conv => whnf
      simp only [hcl]
      exact H _ (Or.inr ⟨k, 4, hk, by decide, rfl, c, rfl⟩)
    · conv => whnf
      refine ⟨vp_in_nI (by omega) (by decide), ?_⟩
      conv => whnf
      simp only [hcl]
      have H2 := H _ (Or.inr ⟨k, 5, hk, by decide, rfl, c, rfl⟩)
      refine ct_bit (by omega) (fun z => ?_) (fun z => ?_)
      · have e : vC f k 5 = 1 := if_neg z
        rw [e] at H2
        conv => whnf
        exact H2
      · have e : vC f k 5 = 0 := if_pos z
        rw [e] at H2
        conv => whnf
        exact H2
    · conv => whnf
      exact H _ (Or.inl ⟨fun hh => by
        obtain ⟨t, ht, e⟩ := in5 hh.2
        rcases c6_c ht with rfl | rfl | rfl | rfl | rfl | rfl
        all_goals (subst e; revert c; decide), rfl⟩)
  · conv => whnf
    (refine ⟨fun c => ?_, fun c => ?_⟩ <;> first | ((have c9 : (1 : Int32) = 0 := by with_reducible exact c); exact absurd c9 (by decide)) | exact absurd (rfl : (0 : Int32) = 0) (by with_reducible exact c) | exact absurd True.intro (by with_reducible exact c) | exact False.elim (by with_reducible exact c) | (conv => whnf))
    exact H _ (Or.inl ⟨fun hh => cnt_no (by omega) p hh.1, rfl⟩)
set_option maxRecDepth 100000 in
set_option maxHeartbeats 4000000 in
theorem smf_votes {d L : Nat} {f : Nat → Nat → Int32} {g : Nat → Nat → Int64} {c0 : Nat} {x1 x2 : Int32} {R : Option Value → mH → Prop} (hd : 2 ≤ d) (hvb : f 181 48 = nI c0) (hvm : c0 ≤ 60) (H : ∀ v, SM_votes c0 f x1 x2 v → R (some (.int v)) (shF L, f, g)) : Run mtab d 226 [.ref 181, .int x1, .int x2] (shF L, f, g) R := by
  obtain ⟨d, rfl⟩ : ∃ e, d = e + 1 := ⟨d - 1, by omega⟩
  refine go_X11_votes rfl ?_
  conv => whnf
  simp only [hvb]
  refine ct_i_0_v (by omega) (fun p => ?_) (fun p => ?_)
  · obtain ⟨k, hk, rfl⟩ := inr_cnt (by omega) p
    conv => whnf
    (refine ⟨fun c => ?_, fun c => ?_⟩ <;> first | ((have c9 : (1 : Int32) = 0 := by with_reducible exact c); exact absurd c9 (by decide)) | exact absurd (rfl : (0 : Int32) = 0) (by with_reducible exact c) | exact absurd True.intro (by with_reducible exact c) | exact False.elim (by with_reducible exact c) | (conv => whnf))
    refine ct_i_0_5 (by omega) (fun p2 => ?_) (fun p2 => ?_)
    · obtain ⟨t, ht, rfl⟩ := in5 p2
      have hcl : (nI (6 * k + t)).toNatClampNeg = 6 * k + t := nI_clamp (by omega)
      conv => whnf
      (refine ⟨fun c => ?_, fun c => ?_⟩ <;> first | ((have c9 : (1 : Int32) = 0 := by with_reducible exact c); exact absurd c9 (by decide)) | exact absurd (rfl : (0 : Int32) = 0) (by with_reducible exact c) | exact absurd True.intro (by with_reducible exact c) | exact False.elim (by with_reducible exact c) | (conv => whnf))
      simp only [nI_6m, nI_add]
      refine ⟨vp_in_nI (by omega) (by decide), ?_⟩
      conv => whnf
      simp only [hcl]
      exact H _ (Or.inr ⟨k, t, hk, ht, rfl, rfl, rfl⟩)
    · conv => whnf
      (refine ⟨fun c => ?_, fun c => ?_⟩ <;> first | ((have c9 : (1 : Int32) = 0 := by with_reducible exact c); exact absurd c9 (by decide)) | exact absurd (rfl : (0 : Int32) = 0) (by with_reducible exact c) | exact absurd True.intro (by with_reducible exact c) | exact False.elim (by with_reducible exact c) | (conv => whnf))
      exact H _ (Or.inl ⟨fun hh => p2 hh.2, rfl⟩)
  · conv => whnf
    (refine ⟨fun c => ?_, fun c => ?_⟩ <;> first | ((have c9 : (1 : Int32) = 0 := by with_reducible exact c); exact absurd c9 (by decide)) | exact absurd (rfl : (0 : Int32) = 0) (by with_reducible exact c) | exact absurd True.intro (by with_reducible exact c) | exact False.elim (by with_reducible exact c) | (conv => whnf))
    exact H _ (Or.inl ⟨fun hh => cnt_no (by omega) p hh.1, rfl⟩)
theorem fr_b {x : Int32} (h : x = 0 ∨ x = 1) : fr x = x := by
  rcases h with rfl | rfl <;> rfl
theorem fin_votes {c : Nat} {f : Nat → Nat → Int32} {x1 x2 v1 v2 : Int32} (hV : RV c f) (s1 : SX_votes c f x1 x2 v1) (s2 : SM_votes c f x1 x2 v2) : v1 = v2 := by
  have hc := hV.1
  have inx : ∀ k t, k < c → t < 6 → x1 = nI k → x2 = nI t → (hasw c x1 ∧ inr 0 5 x2) := fun k t hk ht e1 e2 => ⟨⟨k, hk, e1⟩, by
    rw [e2]
    exact inr_n (m := 5) (by omega) rfl (by decide)⟩
  rcases s1 with ⟨q1, rfl⟩ | ⟨k, t, hk, ht, e1, e2, rfl⟩
  · rcases s2 with ⟨q2, rfl⟩ | ⟨k, t, hk, ht, e1, e2, rfl⟩
    · rfl
    · exact absurd (inx k t hk ht e1 e2) q1
  · rcases s2 with ⟨q2, rfl⟩ | ⟨k', t', hk', ht', e1', e2', rfl⟩
    · exact absurd (inx k t hk ht e1 e2) q2
    · have ek : k = k' := (nI_eq (by omega) (by omega)).mp (e1.symm.trans e1')
      have et : t = t' := (nI_eq (by omega) (by omega)).mp (e2.symm.trans e2')
      subst ek
      subst et
      obtain ⟨a0, a1, a2, a3, a4, a5, _, b2, b5⟩ := hV.2.2.2 k hk
      rcases c6_c ht with rfl | rfl | rfl | rfl | rfl | rfl
      · exact a0
      · exact a1
      · exact (fr_b b2).trans a2
      · exact a3
      · exact a4
      · exact (fr_b b5).trans a5
/-- a work's state by the first votes, and the day of the one that made it: the class -/
def cyes (f : Nat → Nat → Int32) (day w last : Int32) (i : Nat) : Prop := f 121 i = w ∧ ¬ f 123 i = 0 ∧ ¬ day < f 122 i ∧ ¬ f 122 i < last
def myes (f : Nat → Nat → Int32) (day w last : Int32) (i : Nat) : Prop := f 218 (6 * i) = w ∧ f 218 (6 * i + 2) = 1 ∧ ¬ day < f 218 (6 * i + 1) ∧ ¬ f 218 (6 * i + 1) < last
noncomputable def cip (p : Prop) (a b : Int32 × Int32) : Int32 × Int32 := @ite _ p (Classical.propDecidable p) a b
theorem cip_t {p : Prop} {a b : Int32 × Int32} (h : p) : cip p a b = a := @if_pos p (Classical.propDecidable p) h _ a b
theorem cip_f {p : Prop} {a b : Int32 × Int32} (h : ¬ p) : cip p a b = b := @if_neg p (Classical.propDecidable p) h _ a b
noncomputable def stp (f : Nat → Nat → Int32) (day w : Int32) : Nat → Int32 × Int32
  | 0 => (0, 0)
  | i + 1 => cip (cyes f day w (stp f day w i).2 i) (if f 124 i = 0 then 1 else 2, f 122 i) (stp f day w i)
noncomputable def smp (f : Nat → Nat → Int32) (day w : Int32) : Nat → Int32 × Int32
  | 0 => (0, -1)
  | i + 1 => cip (myes f day w (smp f day w i).2 i) (if f 218 (6 * i + 5) = 1 then 2 else 1, f 218 (6 * i + 1)) (smp f day w i)
theorem st_eq {f : Nat → Nat → Int32} {c : Nat} (hV : RV c f) (day w : Int32) : ∀ n, n ≤ c → (stp f day w n).1 = (smp f day w n).1 ∧ ((stp f day w n).2 = (smp f day w n).2 ∨ ((stp f day w n).2 = 0 ∧ (smp f day w n).2 = -1))
  | 0, _ => ⟨rfl, Or.inr ⟨rfl, rfl⟩⟩
  | i + 1, hn => by
    obtain ⟨ih1, ih2⟩ := st_eq hV day w i (by omega)
    obtain ⟨a0, a1, a2, _, _, a5, hd, b2, b5⟩ := hV.2.2.2 i (by omega)
    have hl : (¬ f 122 i < (stp f day w i).2) ↔ (¬ f 122 i < (smp f day w i).2) := by
      rcases ih2 with e | ⟨e1, e2⟩
      · rw [e]
      · rw [e1, e2]
        exact ⟨fun _ => i32_nlt.mpr (Int32.le_trans (by decide) hd.1), fun _ => i32_nlt.mpr hd.1⟩
    have hc : cyes f day w (stp f day w i).2 i ↔ myes f day w (smp f day w i).2 i := by
      unfold cyes myes
      rw [hl, ← a0, ← a1, ← a2]
      refine and_congr Iff.rfl (and_congr ?_ Iff.rfl)
      rcases b2 with e | e
      · rw [e]
        exact ⟨fun z => absurd rfl z, fun z => absurd z (by decide)⟩
      · rw [e]
        exact ⟨fun _ => rfl, fun _ => by decide⟩
    show (cip (cyes f day w (stp f day w i).2 i) _ _).1 = (cip (myes f day w (smp f day w i).2 i) _ _).1 ∧ ((cip (cyes f day w (stp f day w i).2 i) _ _).2 = (cip (myes f day w (smp f day w i).2 i) _ _).2 ∨ ((cip (cyes f day w (stp f day w i).2 i) _ _).2 = 0 ∧ (cip (myes f day w (smp f day w i).2 i) _ _).2 = -1))
    by_cases q : cyes f day w (stp f day w i).2 i
    · rw [cip_t q, cip_t (hc.mp q)]
      refine ⟨?_, Or.inl a1⟩
      show (if f 124 i = 0 then (1 : Int32) else 2) = (if f 218 (6 * i + 5) = 1 then 2 else 1)
      rw [← a5]
      rcases b5 with e | e
      · rw [e]; rfl
      · rw [e]; rfl
    · rw [cip_f q, cip_f (fun z => q (hc.mpr z))]
      exact ⟨ih1, ih2⟩
/-- behind the class's reckoning -/
def stF (f f' : Nat → Nat → Int32) (day : Int32) (n : Nat) : Prop := (∀ w, w < 40 → f' 127 w = (stp f day (nI w) n).1 ∧ f' 128 w = (stp f day (nI w) n).2) ∧ ∀ a i, ¬ a = 127 → ¬ a = 128 → f' a i = f a i
theorem stF_no {f f' : Nat → Nat → Int32} {day : Int32} {i w0 : Nat} (h : stF f f' day i) (hw : w0 < 40) (e : f 121 i = nI w0) (hn : ¬ cyes f day (nI w0) (stp f day (nI w0) i).2 i) : stF f f' day (i + 1) := by
  refine ⟨fun w hw' => ?_, h.2⟩
  have hc : ¬ cyes f day (nI w) (stp f day (nI w) i).2 i := by
    by_cases q : w = w0
    · subst q
      exact hn
    · exact fun z => q ((nI_eq (by omega) (by omega)).mp (z.1.symm.trans e))
  have es : stp f day (nI w) (i + 1) = stp f day (nI w) i := cip_f hc
  rw [es]
  exact h.1 w hw'
theorem stF_yes {f f' : Nat → Nat → Int32} {day v : Int32} {i w0 : Nat} (h : stF f f' day i) (hw : w0 < 40) (hy : cyes f day (nI w0) (stp f day (nI w0) i).2 i) (hv : v = if f 124 i = 0 then 1 else 2) : stF f (m_ui (m_ui f' 127 w0 v) 128 w0 (f 122 i)) day (i + 1) := by
  refine ⟨fun w hw' => ?_, fun a b h1 h2 => ?_⟩
  · by_cases q : w = w0
    · subst q
      have es : stp f day (nI w) (i + 1) = (if f 124 i = 0 then 1 else 2, f 122 i) := cip_t hy
      rw [es, m_ui_s, m_ui_o (by omega), m_ui_s]
      exact ⟨hv, rfl⟩
    · have hc : ¬ cyes f day (nI w) (stp f day (nI w) i).2 i := fun z => q ((nI_eq (by omega) (by omega)).mp (z.1.symm.trans hy.1))
      have es : stp f day (nI w) (i + 1) = stp f day (nI w) i := cip_f hc
      rw [es, m_ui_o (by omega), m_ui_o (by omega), m_ui_o (by omega), m_ui_o (by omega)]
      exact h.1 w hw'
  · rw [m_ui_o (by omega), m_ui_o (by omega)]
    exact h.2 a b h1 h2
set_option maxRecDepth 100000 in
set_option maxHeartbeats 4000000 in
theorem rk_lp {d L n : Nat} {f : Nat → Nat → Int32} {g : Nat → Nat → Int64} {day : Int32} {R : Option Value → mH → Prop} (hX : XI f) (hm : n ≤ 60) (H : ∀ f', stF f f' day n → R none (shF L, f', g)) :
    ∀ (k i : Nat) (x : Int32) (s4 : Option Value) (f' : Nat → Nat → Int32), i + k = n → x = nI i → stF f f' day i → WPe pg_X0_reckon none (Run mtab d) R (m_drop pg_X0_reckon 10) [some (.ref 119), some (.int day), some (.int (nI n)), some (.int x), s4] [] (shF L, f', g)
  | 0, i, x, s4, f', hi, hx, hS => by
    have e : i = n := by omega
    subst hx
    subst e
    refine at_X0_reckon ?_
    conv => whnf
    refine ⟨fun c => ?_, fun c => absurd (nI_le (Nat.le_refl _) (by omega)) c⟩
    conv => whnf
    exact H f' hS
  | k + 1, i, x, s4, f', hi, hx, hS => by
    subst hx
    have hcl : (nI i).toNatClampNeg = i := nI_clamp (by omega)
    have e121 : f' 121 i = f 121 i := hS.2 121 i (by omega) (by omega)
    have e122 : f' 122 i = f 122 i := hS.2 122 i (by omega) (by omega)
    have e123 : f' 123 i = f 123 i := hS.2 123 i (by omega) (by omega)
    have e124 : f' 124 i = f 124 i := hS.2 124 i (by omega) (by omega)
    obtain ⟨w0, hw9, e0⟩ := inr_nat (n := 39) rfl (xi_121 hX i)
    have hw0 : w0 < 40 := by omega
    have hcw : (nI w0).toNatClampNeg = w0 := nI_clamp (by omega)
    have e128 : f' 128 w0 = (stp f day (nI w0) i).2 := (hS.1 w0 hw0).2
    refine at_X0_reckon ?_
    conv => whnf
    refine ⟨fun c => absurd c (nI_ge (b := n) (by omega) (by omega)), fun c => ?_⟩
    conv => whnf
    refine ⟨vp_in_nI (by omega) (by decide), ?_⟩
    conv => whnf
    refine ⟨vp_in_nI (by omega) (by decide), ?_⟩
    conv => whnf
    simp only [hcl, e121, e123, e0]
    refine ⟨fun c1 => ?_, fun c1 => ?_⟩
    · conv => whnf
      exact rk_lp hX hm H k (i + 1) _ _ _ (by omega) (nI_1 i) (stF_no hS hw0 e0 (fun z => z.2.1 c1))
    · conv => whnf
      refine ⟨vp_in_nI (by omega) (by decide), ?_⟩
      conv => whnf
      simp only [hcl, e122]
      refine ⟨fun c2 => ?_, fun c2 => ?_⟩
      · conv => whnf
        exact rk_lp hX hm H k (i + 1) _ _ _ (by omega) (nI_1 i) (stF_no hS hw0 e0 (fun z => z.2.2.1 c2))
      · conv => whnf
        refine ⟨vp_in_nI (by omega) (by decide), ?_⟩
        conv => whnf
        refine ⟨vp_in_nI (by omega) (by decide), ?_⟩
        conv => whnf
        simp only [hcl, hcw, e122, e128]
        refine ⟨fun c3 => ?_, fun c3 => ?_⟩
        · conv => whnf
          exact rk_lp hX hm H k (i + 1) _ _ _ (by omega) (nI_1 i) (stF_no hS hw0 e0 (fun z => z.2.2.2 c3))
        · conv => whnf
          refine ⟨vp_in_nI (by omega) (by decide), ?_⟩
          conv => whnf
          simp only [hcl, e124]
          refine ⟨fun c4 => ?_, fun c4 => ?_⟩
          · conv => whnf
            simp only [hcw]
            refine ⟨vp_in_nI (by omega) (by decide), ?_⟩
            conv => whnf
            (try simp only [m_ui_ap, m_fil_ap, m_cpy_ap, Nat.reduceEqDiff, Nat.reduceLT, Nat.reduceLeDiff, eq_self, ↓reduceIte, false_and, and_false, true_and, and_true, and_self])
            refine ⟨vp_in_nI (by omega) (by decide), ?_⟩
            conv => whnf
            refine ⟨vp_in_nI (by omega) (by decide), ?_⟩
            conv => whnf
            have y := stF_yes (v := 1) hS hw0 ⟨e0, c1, c2, c3⟩ (by rw [if_pos c4])
            simp only [hcl, hcw, e122, m_ui_ap, m_fil_ap, m_cpy_ap, Nat.reduceEqDiff, Nat.reduceLT, Nat.reduceLeDiff, eq_self, ↓reduceIte, false_and, and_false, true_and, and_true, and_self]
            exact rk_lp hX hm H k (i + 1) _ _ _ (by omega) (nI_1 i) y
          · conv => whnf
            simp only [hcw]
            refine ⟨vp_in_nI (by omega) (by decide), ?_⟩
            conv => whnf
            (try simp only [m_ui_ap, m_fil_ap, m_cpy_ap, Nat.reduceEqDiff, Nat.reduceLT, Nat.reduceLeDiff, eq_self, ↓reduceIte, false_and, and_false, true_and, and_true, and_self])
            refine ⟨vp_in_nI (by omega) (by decide), ?_⟩
            conv => whnf
            refine ⟨vp_in_nI (by omega) (by decide), ?_⟩
            conv => whnf
            have y := stF_yes (v := 2) hS hw0 ⟨e0, c1, c2, c3⟩ (by rw [if_neg c4])
            simp only [hcl, hcw, e122, m_ui_ap, m_fil_ap, m_cpy_ap, Nat.reduceEqDiff, Nat.reduceLT, Nat.reduceLeDiff, eq_self, ↓reduceIte, false_and, and_false, true_and, and_true, and_self]
            exact rk_lp hX hm H k (i + 1) _ _ _ (by omega) (nI_1 i) y
set_option maxRecDepth 100000 in
set_option maxHeartbeats 4000000 in
theorem sf_reckonV {d L : Nat} {f : Nat → Nat → Int32} {g : Nat → Nat → Int64} {n : Nat} {day : Int32} {R : Option Value → mH → Prop} (hd : 2 ≤ d) (hX : XI f) (hm : n ≤ 60) (H : ∀ f', stF f f' day n → R none (shF L, f', g)) : Run mtab d 11 [.ref 119, .int day, .int (nI n)] (shF L, f, g) R := by
  obtain ⟨d, rfl⟩ : ∃ e, d = e + 1 := ⟨d - 1, by omega⟩
  refine go_X0_reckon rfl ?_
  conv => whnf
  refine ct_fill (n := 40) (by omega) rfl (by decide) ?_
  conv => whnf
  refine ct_fill (n := 40) (by omega) rfl (by decide) ?_
  conv => whnf
  refine rk_lp hX hm H n 0 _ _ _ (by omega) rfl ⟨fun w hw => ⟨?_, ?_⟩, fun a i h1 h2 => ?_⟩
  · rw [m_fil_o (by omega), m_fil_ap, if_pos ⟨rfl, hw⟩]
    rfl
  · rw [m_fil_ap, if_pos ⟨rfl, hw⟩]
    rfl
  · rw [m_fil_o (by omega), m_fil_o (by omega)]
set_option maxRecDepth 100000 in
set_option maxHeartbeats 4000000 in
theorem sf_reckonAll {d L : Nat} {f : Nat → Nat → Int32} {g : Nat → Nat → Int64} {n : Nat} {R : Option Value → mH → Prop} (hd : 3 ≤ d) (hX : XI f) (hb : f 119 7 = nI n) (hm : n ≤ 60) (H : ∀ f', stF f f' 9999 n → R none (shF L, f', g)) : Run mtab d 10 [.ref 119] (shF L, f, g) R := by
  obtain ⟨d, rfl⟩ : ∃ e, d = e + 1 := ⟨d - 1, by omega⟩
  refine go_X0_reckonAll rfl ?_
  conv => whnf
  simp only [hb]
  refine sf_reckonV (by omega) hX hm (fun f1 h1 => ?_)
  conv => whnf
  exact H f1 h1
set_option maxRecDepth 100000 in
set_option maxHeartbeats 4000000 in
theorem sm_lp {d L n : Nat} {f : Nat → Nat → Int32} {g : Nat → Nat → Int64} {w day : Int32} {R : Option Value → mH → Prop} (hm : n ≤ 60) (H : R (some (.int (smp f day w n).1)) (shF L, f, g)) :
    ∀ (k i : Nat) (x st last : Int32) (s7 : Option Value), i + k = n → x = nI i → st = (smp f day w i).1 → last = (smp f day w i).2 → WPe pg_X11_stateOf none (Run mtab d) R (m_drop pg_X11_stateOf 6) [some (.ref 181), some (.int w), some (.int day), some (.int (nI n)), some (.int st), some (.int last), some (.int x), s7] [] (shF L, f, g)
  | 0, i, x, st, last, s7, hi, hx, h1, h2 => by
    have e : i = n := by omega
    subst hx
    subst e
    subst h1
    refine at_X11_stateOf ?_
    conv => whnf
    refine ⟨fun c => ?_, fun c => absurd (nI_le (Nat.le_refl _) (by omega)) c⟩
    conv => whnf
    exact H
  | k + 1, i, x, st, last, s7, hi, hx, h1, h2 => by
    subst hx
    subst h1
    subst h2
    have hc0 : (nI (6 * i)).toNatClampNeg = 6 * i := nI_clamp (by omega)
    have hc1 : (nI (6 * i + 1)).toNatClampNeg = 6 * i + 1 := nI_clamp (by omega)
    have hc2 : (nI (6 * i + 2)).toNatClampNeg = 6 * i + 2 := nI_clamp (by omega)
    have hc5 : (nI (6 * i + 5)).toNatClampNeg = 6 * i + 5 := nI_clamp (by omega)
    refine at_X11_stateOf ?_
    conv => whnf
    refine ⟨fun c => absurd c (nI_ge (b := n) (by omega) (by omega)), fun c => ?_⟩
    conv => whnf
    (try simp only [nI_6m, nI_1, nI_k _ 2 2 rfl, nI_k _ 5 5 rfl])
    refine ⟨vp_in_nI (by omega) (by decide), ?_⟩
    conv => whnf
    simp only [hc0, hc1, hc2, hc5]
    refine ⟨fun c1 => ?_, fun c1 => ?_⟩
    · conv => whnf
      have es : smp f day w (i + 1) = smp f day w i := cip_f (fun z => c1 z.1)
      exact sm_lp hm H k (i + 1) _ _ _ _ (by omega) (nI_1 i) (by rw [es]) (by rw [es])
    · conv => whnf
      (try simp only [nI_6m, nI_1, nI_k _ 2 2 rfl, nI_k _ 5 5 rfl])
      refine ⟨vp_in_nI (by omega) (by decide), ?_⟩
      conv => whnf
      simp only [hc0, hc1, hc2, hc5]
      refine ⟨fun c2 => ?_, fun c2 => ?_⟩
      · conv => whnf
        have es : smp f day w (i + 1) = smp f day w i := cip_f (fun z => c2 z.2.1)
        exact sm_lp hm H k (i + 1) _ _ _ _ (by omega) (nI_1 i) (by rw [es]) (by rw [es])
      · conv => whnf
        (try simp only [nI_6m, nI_1, nI_k _ 2 2 rfl, nI_k _ 5 5 rfl])
        refine ⟨vp_in_nI (by omega) (by decide), ?_⟩
        conv => whnf
        simp only [hc0, hc1, hc2, hc5]
        refine ⟨fun c3 => ?_, fun c3 => ?_⟩
        · conv => whnf
          have es : smp f day w (i + 1) = smp f day w i := cip_f (fun z => z.2.2.1 c3)
          exact sm_lp hm H k (i + 1) _ _ _ _ (by omega) (nI_1 i) (by rw [es]) (by rw [es])
        · conv => whnf
          (try simp only [nI_6m, nI_1, nI_k _ 2 2 rfl, nI_k _ 5 5 rfl])
          refine ⟨vp_in_nI (by omega) (by decide), ?_⟩
          conv => whnf
          simp only [hc0, hc1, hc2, hc5]
          refine ⟨fun c4 => ?_, fun c4 => ?_⟩
          · conv => whnf
            have es : smp f day w (i + 1) = smp f day w i := cip_f (fun z => z.2.2.2 c4)
            exact sm_lp hm H k (i + 1) _ _ _ _ (by omega) (nI_1 i) (by rw [es]) (by rw [es])
          · conv => whnf
            (try simp only [nI_6m, nI_1, nI_k _ 2 2 rfl, nI_k _ 5 5 rfl])
            refine ⟨vp_in_nI (by omega) (by decide), ?_⟩
            conv => whnf
            (try simp only [nI_6m, nI_1, nI_k _ 2 2 rfl, nI_k _ 5 5 rfl])
            refine ⟨vp_in_nI (by omega) (by decide), ?_⟩
            conv => whnf
            simp only [hc0, hc1, hc2, hc5]
            have es : smp f day w (i + 1) = (if f 218 (6 * i + 5) = 1 then 2 else 1, f 218 (6 * i + 1)) := cip_t ⟨c1, c2, c3, c4⟩
            refine ⟨fun c5 => ?_, fun c5 => ?_⟩
            · conv => whnf
              rw [if_neg c5] at es
              exact sm_lp hm H k (i + 1) _ _ _ _ (by omega) (nI_1 i) (by rw [es]) (by rw [es])
            · conv => whnf
              rw [if_pos c5] at es
              exact sm_lp hm H k (i + 1) _ _ _ _ (by omega) (nI_1 i) (by rw [es]) (by rw [es])
set_option maxRecDepth 100000 in
set_option maxHeartbeats 4000000 in
theorem smf_stateOf {d L : Nat} {f : Nat → Nat → Int32} {g : Nat → Nat → Int64} {n : Nat} {w day : Int32} {R : Option Value → mH → Prop} (hd : 1 ≤ d) (hm : n ≤ 60) (H : R (some (.int (smp f day w n).1)) (shF L, f, g)) : Run mtab d 227 [.ref 181, .int w, .int day, .int (nI n)] (shF L, f, g) R := by
  obtain ⟨d, rfl⟩ : ∃ e, d = e + 1 := ⟨d - 1, by omega⟩
  refine go_X11_stateOf rfl ?_
  conv => whnf
  exact sm_lp hm H n 0 _ _ _ _ (by omega) rfl rfl rfl
def asofw (c : Nat) (x y : Int32) : Prop := inr 0 9999 x ∧ inr 0 (nI c) y
def SX_state (n c : Nat) (f f1 : Nat → Nat → Int32) (x1 x2 x3 v : Int32) : Prop := (¬ (hasw n x1 ∧ asofw c x2 x3) ∧ v = -1 ∧ f1 = f) ∨ (∃ j m, j < n ∧ m ≤ c ∧ x1 = nI j ∧ x3 = nI m ∧ asofw c x2 x3 ∧ v = (stp f x2 x1 m).1 ∧ stF f f1 x2 m)
def SM_state (n c : Nat) (f : Nat → Nat → Int32) (x1 x2 x3 v : Int32) : Prop := (¬ (hasw n x1 ∧ asofw c x2 x3) ∧ v = -1) ∨ (∃ j m, j < n ∧ m ≤ c ∧ x1 = nI j ∧ x3 = nI m ∧ asofw c x2 x3 ∧ v = (smp f x2 x1 m).1)
theorem as_n {c : Nat} {x y : Int32} (hc : c ≤ 60) (h : asofw c x y) : ∃ m, m ≤ c ∧ y = nI m := inr_nat (n := c) (nI_toInt (by omega)) h.2
set_option maxRecDepth 100000 in
set_option maxHeartbeats 4000000 in
theorem sf_isAsOf {d L : Nat} {f : Nat → Nat → Int32} {g : Nat → Nat → Int64} {c0 : Nat} {x y : Int32} {R : Option Value → mH → Prop} (hd : 2 ≤ d) (hb : f 119 7 = nI c0) (H1 : asofw c0 x y → R (some (.int 1)) (shF L, f, g)) (H0 : ¬ asofw c0 x y → R (some (.int 0)) (shF L, f, g)) : Run mtab d 144 [.ref 5, .int x, .int y] (shF L, f, g) R := by
  obtain ⟨d, rfl⟩ : ∃ e, d = e + 1 := ⟨d - 1, by omega⟩
  refine go_X10_isAsOf rfl ?_
  conv => whnf
  skip
  refine ct_isWithin (by omega) (fun p1 => ?_) (fun p1 => ?_)
  · conv => whnf
    (refine ⟨fun c => ?_, fun c => ?_⟩ <;> first | ((have c9 : (1 : Int32) = 0 := by with_reducible exact c); exact absurd c9 (by decide)) | exact absurd (rfl : (0 : Int32) = 0) (by with_reducible exact c) | exact absurd True.intro (by with_reducible exact c) | exact False.elim (by with_reducible exact c) | (conv => whnf))
    (try simp only [hb])
    refine ct_isWithin (by omega) (fun p2 => ?_) (fun p2 => ?_)
    · conv => whnf
      (refine ⟨fun c => ?_, fun c => ?_⟩ <;> first | ((have c9 : (1 : Int32) = 0 := by with_reducible exact c); exact absurd c9 (by decide)) | exact absurd (rfl : (0 : Int32) = 0) (by with_reducible exact c) | exact absurd True.intro (by with_reducible exact c) | exact False.elim (by with_reducible exact c) | (conv => whnf))
      exact ⟨Or.inr rfl, H1 ⟨p1, p2⟩⟩
    · conv => whnf
      (refine ⟨fun c => ?_, fun c => ?_⟩ <;> first | ((have c9 : (1 : Int32) = 0 := by with_reducible exact c); exact absurd c9 (by decide)) | exact absurd (rfl : (0 : Int32) = 0) (by with_reducible exact c) | exact absurd True.intro (by with_reducible exact c) | exact False.elim (by with_reducible exact c) | (conv => whnf))
      exact ⟨Or.inl rfl, H0 (fun z => p2 z.2)⟩
  · conv => whnf
    (refine ⟨fun c => ?_, fun c => ?_⟩ <;> first | ((have c9 : (1 : Int32) = 0 := by with_reducible exact c); exact absurd c9 (by decide)) | exact absurd (rfl : (0 : Int32) = 0) (by with_reducible exact c) | exact absurd True.intro (by with_reducible exact c) | exact False.elim (by with_reducible exact c) | (conv => whnf))
    exact ⟨Or.inl rfl, H0 (fun z => p1 z.1)⟩
set_option maxRecDepth 100000 in
set_option maxHeartbeats 4000000 in
theorem smf_isAsOf {d L : Nat} {f : Nat → Nat → Int32} {g : Nat → Nat → Int64} {c0 : Nat} {x y : Int32} {R : Option Value → mH → Prop} (hd : 2 ≤ d) (hb : f 181 48 = nI c0) (H1 : asofw c0 x y → R (some (.int 1)) (shF L, f, g)) (H0 : ¬ asofw c0 x y → R (some (.int 0)) (shF L, f, g)) : Run mtab d 228 [.ref 181, .int x, .int y] (shF L, f, g) R := by
  obtain ⟨d, rfl⟩ : ∃ e, d = e + 1 := ⟨d - 1, by omega⟩
  refine go_X11_isAsOf rfl ?_
  conv => whnf
  skip
  refine ct_i_0_9999 (by omega) (fun p1 => ?_) (fun p1 => ?_)
  · conv => whnf
    (refine ⟨fun c => ?_, fun c => ?_⟩ <;> first | ((have c9 : (1 : Int32) = 0 := by with_reducible exact c); exact absurd c9 (by decide)) | exact absurd (rfl : (0 : Int32) = 0) (by with_reducible exact c) | exact absurd True.intro (by with_reducible exact c) | exact False.elim (by with_reducible exact c) | (conv => whnf))
    (try simp only [hb])
    refine ct_i_0_v (by omega) (fun p2 => ?_) (fun p2 => ?_)
    · conv => whnf
      (refine ⟨fun c => ?_, fun c => ?_⟩ <;> first | ((have c9 : (1 : Int32) = 0 := by with_reducible exact c); exact absurd c9 (by decide)) | exact absurd (rfl : (0 : Int32) = 0) (by with_reducible exact c) | exact absurd True.intro (by with_reducible exact c) | exact False.elim (by with_reducible exact c) | (conv => whnf))
      exact ⟨Or.inr rfl, H1 ⟨p1, p2⟩⟩
    · conv => whnf
      (refine ⟨fun c => ?_, fun c => ?_⟩ <;> first | ((have c9 : (1 : Int32) = 0 := by with_reducible exact c); exact absurd c9 (by decide)) | exact absurd (rfl : (0 : Int32) = 0) (by with_reducible exact c) | exact absurd True.intro (by with_reducible exact c) | exact False.elim (by with_reducible exact c) | (conv => whnf))
      exact ⟨Or.inl rfl, H0 (fun z => p2 z.2)⟩
  · conv => whnf
    (refine ⟨fun c => ?_, fun c => ?_⟩ <;> first | ((have c9 : (1 : Int32) = 0 := by with_reducible exact c); exact absurd c9 (by decide)) | exact absurd (rfl : (0 : Int32) = 0) (by with_reducible exact c) | exact absurd True.intro (by with_reducible exact c) | exact False.elim (by with_reducible exact c) | (conv => whnf))
    exact ⟨Or.inl rfl, H0 (fun z => p1 z.1)⟩
set_option maxRecDepth 100000 in
set_option maxHeartbeats 4000000 in
theorem sf_state {d L : Nat} {f : Nat → Nat → Int32} {g : Nat → Nat → Int64} {n c0 : Nat} {x1 x2 x3 : Int32} {R : Option Value → mH → Prop} (hd : 4 ≤ d) (hX : XI f) (hb : f 6 13 = nI n) (hm : n ≤ 40) (hvb : f 119 7 = nI c0) (hvm : c0 ≤ 60) (H : ∀ v f1, SX_state n c0 f f1 x1 x2 x3 v → R (some (.int v)) (shF L, f1, g)) : Run mtab d 124 [.ref 5, .int x1, .int x2, .int x3] (shF L, f, g) R := by
  obtain ⟨d, rfl⟩ : ∃ e, d = e + 1 := ⟨d - 1, by omega⟩
  refine go_X10_state rfl ?_
  conv => whnf
  refine ct_has (by omega) hb hm (fun j hj e => ?_) (fun q => ?_)
  · subst e
    have hcl : (nI j).toNatClampNeg = j := nI_clamp (by omega)
    conv => whnf
    (refine ⟨fun c => ?_, fun c => ?_⟩ <;> first | ((have c9 : (1 : Int32) = 0 := by with_reducible exact c); exact absurd c9 (by decide)) | exact absurd (rfl : (0 : Int32) = 0) (by with_reducible exact c) | exact absurd True.intro (by with_reducible exact c) | exact False.elim (by with_reducible exact c) | (conv => whnf))
    refine sf_isAsOf (by omega) hvb (fun p => ?_) (fun p => ?_)
    · obtain ⟨m, hm9, e⟩ := as_n hvm p
      subst e
      conv => whnf
      (refine ⟨fun c => ?_, fun c => ?_⟩ <;> first | ((have c9 : (1 : Int32) = 0 := by with_reducible exact c); exact absurd c9 (by decide)) | exact absurd (rfl : (0 : Int32) = 0) (by with_reducible exact c) | exact absurd True.intro (by with_reducible exact c) | exact False.elim (by with_reducible exact c) | (conv => whnf))
      refine sf_reckonV (by omega) hX (by omega) (fun f1 h1 => ?_)
      conv => whnf
      refine ⟨vp_in_nI (by omega) (by decide), ?_⟩
      conv => whnf
      simp only [hcl, (h1.1 j (by omega)).1]
      exact H _ _ (Or.inr ⟨j, m, hj, hm9, rfl, rfl, p, rfl, h1⟩)
    · conv => whnf
      (refine ⟨fun c => ?_, fun c => ?_⟩ <;> first | ((have c9 : (1 : Int32) = 0 := by with_reducible exact c); exact absurd c9 (by decide)) | exact absurd (rfl : (0 : Int32) = 0) (by with_reducible exact c) | exact absurd True.intro (by with_reducible exact c) | exact False.elim (by with_reducible exact c) | (conv => whnf))
      exact H _ _ (Or.inl ⟨fun hh => p hh.2, rfl, rfl⟩)
  · conv => whnf
    (refine ⟨fun c => ?_, fun c => ?_⟩ <;> first | ((have c9 : (1 : Int32) = 0 := by with_reducible exact c); exact absurd c9 (by decide)) | exact absurd (rfl : (0 : Int32) = 0) (by with_reducible exact c) | exact absurd True.intro (by with_reducible exact c) | exact False.elim (by with_reducible exact c) | (conv => whnf))
    exact H _ _ (Or.inl ⟨fun hh => nhasw q hh.1, rfl, rfl⟩)
set_option maxRecDepth 100000 in
set_option maxHeartbeats 4000000 in
theorem smf_state {d L : Nat} {f : Nat → Nat → Int32} {g : Nat → Nat → Int64} {n c0 : Nat} {x1 x2 x3 : Int32} {R : Option Value → mH → Prop} (hd : 3 ≤ d) (hb : f 181 0 = nI n) (hm : n ≤ 40) (hvb : f 181 48 = nI c0) (hvm : c0 ≤ 60) (H : ∀ v, SM_state n c0 f x1 x2 x3 v → R (some (.int v)) (shF L, f, g)) : Run mtab d 229 [.ref 181, .int x1, .int x2, .int x3] (shF L, f, g) R := by
  obtain ⟨d, rfl⟩ : ∃ e, d = e + 1 := ⟨d - 1, by omega⟩
  refine go_X11_state rfl ?_
  conv => whnf
  refine ct_mIsWork (by omega) hb hm (fun j hj e => ?_) (fun q => ?_)
  · subst e
    conv => whnf
    (refine ⟨fun c => ?_, fun c => ?_⟩ <;> first | ((have c9 : (1 : Int32) = 0 := by with_reducible exact c); exact absurd c9 (by decide)) | exact absurd (rfl : (0 : Int32) = 0) (by with_reducible exact c) | exact absurd True.intro (by with_reducible exact c) | exact False.elim (by with_reducible exact c) | (conv => whnf))
    refine smf_isAsOf (by omega) hvb (fun p => ?_) (fun p => ?_)
    · obtain ⟨m, hm9, e⟩ := as_n hvm p
      subst e
      conv => whnf
      (refine ⟨fun c => ?_, fun c => ?_⟩ <;> first | ((have c9 : (1 : Int32) = 0 := by with_reducible exact c); exact absurd c9 (by decide)) | exact absurd (rfl : (0 : Int32) = 0) (by with_reducible exact c) | exact absurd True.intro (by with_reducible exact c) | exact False.elim (by with_reducible exact c) | (conv => whnf))
      refine smf_stateOf (by omega) (by omega) ?_
      conv => whnf
      exact H _ (Or.inr ⟨j, m, hj, hm9, rfl, rfl, p, rfl⟩)
    · conv => whnf
      (refine ⟨fun c => ?_, fun c => ?_⟩ <;> first | ((have c9 : (1 : Int32) = 0 := by with_reducible exact c); exact absurd c9 (by decide)) | exact absurd (rfl : (0 : Int32) = 0) (by with_reducible exact c) | exact absurd True.intro (by with_reducible exact c) | exact False.elim (by with_reducible exact c) | (conv => whnf))
      exact H _ (Or.inl ⟨fun hh => p hh.2, rfl⟩)
  · conv => whnf
    (refine ⟨fun c => ?_, fun c => ?_⟩ <;> first | ((have c9 : (1 : Int32) = 0 := by with_reducible exact c); exact absurd c9 (by decide)) | exact absurd (rfl : (0 : Int32) = 0) (by with_reducible exact c) | exact absurd True.intro (by with_reducible exact c) | exact False.elim (by with_reducible exact c) | (conv => whnf))
    exact H _ (Or.inl ⟨fun hh => nhasw q hh.1, rfl⟩)
theorem stF_kp {f f1 : Nat → Nat → Int32} {day : Int32} {n : Nat} (h : stF f f1 day n) : kp [0] f f1 := fun a i z => by
  refine h.2 a i (fun e => ?_) (fun e => ?_)
  · rw [e] at z
    exact absurd (show true = false from z) (by decide)
  · rw [e] at z
    exact absurd (show true = false from z) (by decide)
theorem stF_XI {f f1 : Nat → Nat → Int32} {day : Int32} {n : Nat} (hX : XI f) (h : stF f f1 day n) : XI f1 := fun a i => by
  by_cases e : a = 127
  · rw [e]
    exact True.intro
  · by_cases e2 : a = 128
    · rw [e2]
      exact True.intro
    · rw [h.2 a i e e2]
      exact hX a i
theorem kx_state {n c : Nat} {f f1 : Nat → Nat → Int32} {x1 x2 x3 v : Int32} (s : SX_state n c f f1 x1 x2 x3 v) : kp [0] f f1 := by
  rcases s with ⟨_, _, rfl⟩ | ⟨j, m, _, _, _, _, _, _, h⟩
  · exact kp_refl _ _
  · exact stF_kp h
theorem XI_state {n c : Nat} {f f1 : Nat → Nat → Int32} {x1 x2 x3 v : Int32} (hX : XI f) (s : SX_state n c f f1 x1 x2 x3 v) : XI f1 := by
  rcases s with ⟨_, _, rfl⟩ | ⟨j, m, _, _, _, _, _, _, h⟩
  · exact hX
  · exact stF_XI hX h
theorem smp_kp {f f1 : Nat → Nat → Int32} (h : ∀ i, f1 218 i = f 218 i) (day w : Int32) : ∀ n, smp f1 day w n = smp f day w n
  | 0 => rfl
  | i + 1 => by
    show cip (myes f1 day w (smp f1 day w i).2 i) (if f1 218 (6 * i + 5) = 1 then 2 else 1, f1 218 (6 * i + 1)) (smp f1 day w i) = cip (myes f day w (smp f day w i).2 i) (if f 218 (6 * i + 5) = 1 then 2 else 1, f 218 (6 * i + 1)) (smp f day w i)
    rw [smp_kp h day w i]
    unfold myes
    rw [h, h, h, h]
theorem fin_state {n c : Nat} {f f1 : Nat → Nat → Int32} {x1 x2 x3 v1 v2 : Int32} (hn : n ≤ 40) (hV : RV c f) (s1 : SX_state n c f f1 x1 x2 x3 v1) (s2 : SM_state n c f1 x1 x2 x3 v2) : v1 = v2 := by
  have k1 := kx_state s1
  have hc := hV.1
  rcases s1 with ⟨q1, rfl, rfl⟩ | ⟨j, m, hj, hm, e1, e3, p, rfl, h⟩
  · rcases s2 with ⟨q2, rfl⟩ | ⟨j, m, hj, hm, e1, e3, p, rfl⟩
    · rfl
    · exact absurd ⟨⟨j, hj, e1⟩, p⟩ q1
  · rcases s2 with ⟨q2, rfl⟩ | ⟨j', m', hj', hm', e1', e3', p', rfl⟩
    · exact absurd ⟨⟨j, hj, e1⟩, p⟩ q2
    · have em : m = m' := (nI_eq (by omega) (by omega)).mp (e3.symm.trans e3')
      subst em
      rw [smp_kp (fun i => k1 218 i rfl)]
      exact (st_eq hV x2 x1 m hm).1
def EXo (f : Nat → Nat → Int32) (n p i : Nat) : Prop := ∃ o, i ≤ o ∧ o < n ∧ ¬ f 127 o = 1 ∧ LC f (nI o) p
theorem EXo_s {f : Nat → Nat → Int32} {n p i : Nat} (h : ¬ (¬ f 127 i = 1 ∧ LC f (nI i) p)) : EXo f n p i ↔ EXo f n p (i + 1) := by
  constructor
  · rintro ⟨o, h1, h2, h3, h4⟩
    by_cases e : o = i
    · subst e
      exact absurd ⟨h3, h4⟩ h
    · exact ⟨o, by omega, h2, h3, h4⟩
  · rintro ⟨o, h1, h2, h3, h4⟩
    exact ⟨o, by omega, h2, h3, h4⟩
set_option maxRecDepth 100000 in
theorem lo_lp {d L n p : Nat} {f : Nat → Nat → Int32} {g : Nat → Nat → Int64} {R : Option Value → mH → Prop} (hd : 2 ≤ d) (hX : XI f) (hb : f 6 13 = nI n) (hm : n ≤ 40) (hp : p < 40) :
    ∀ (k i : Nat) (x : Int32), i + k = n → x = nI i → (EXo f n p i → R (some (.int 1)) (shF L, f, g)) → (¬ EXo f n p i → R (some (.int 0)) (shF L, f, g)) → WPe pg_X10_leansOnOneNotIn none (Run mtab d) R (m_drop pg_X10_leansOnOneNotIn 2) [some (.ref 5), some (.int (nI p)), some (.int x)] [] (shF L, f, g)
  | 0, i, x, hi, hx, H1, H0 => by
    have e : i = n := by omega
    subst hx
    subst e
    refine at_X10_leansOnOneNotIn ?_
    conv => whnf
    simp only [hb]
    refine ⟨fun c => ?_, fun c => absurd (nI_le (Nat.le_refl _) (by omega)) c⟩
    conv => whnf
    exact ⟨Or.inl rfl, H0 (fun ⟨o, h1, h2, _⟩ => by omega)⟩
  | k + 1, i, x, hi, hx, H1, H0 => by
    subst hx
    have hcl : (nI i).toNatClampNeg = i := nI_clamp (by omega)
    refine at_X10_leansOnOneNotIn ?_
    conv => whnf
    simp only [hb]
    refine ⟨fun c => absurd c (nI_ge (b := n) (by omega) (by omega)), fun c => ?_⟩
    conv => whnf
    refine ⟨vp_in_nI (by omega) (by decide), ?_⟩
    conv => whnf
    simp only [hcl]
    refine ⟨fun c1 => ?_, fun c1 => ?_⟩
    · conv => whnf
      exact lo_lp hd hX hb hm hp k (i + 1) _ (by omega) (nI_1 i) (fun q5 => H1 ((EXo_s (fun z => z.1 c1)).mpr q5)) (fun q5 => H0 (fun w => q5 ((EXo_s (fun z => z.1 c1)).mp w)))
    · conv => whnf
      refine sf_isLeaning (by omega) hX hp (fun q => ?_) (fun q => ?_)
      · conv => whnf
        (refine ⟨fun c => ?_, fun c => ?_⟩ <;> first | ((have c9 : (1 : Int32) = 0 := by with_reducible exact c); exact absurd c9 (by decide)) | exact absurd (rfl : (0 : Int32) = 0) (by with_reducible exact c) | exact absurd True.intro (by with_reducible exact c) | exact False.elim (by with_reducible exact c) | (conv => whnf))
        exact ⟨Or.inr rfl, H1 ⟨i, Nat.le_refl _, by omega, c1, q⟩⟩
      · conv => whnf
        (refine ⟨fun c => ?_, fun c => ?_⟩ <;> first | ((have c9 : (1 : Int32) = 0 := by with_reducible exact c); exact absurd c9 (by decide)) | exact absurd (rfl : (0 : Int32) = 0) (by with_reducible exact c) | exact absurd True.intro (by with_reducible exact c) | exact False.elim (by with_reducible exact c) | (conv => whnf))
        exact lo_lp hd hX hb hm hp k (i + 1) _ (by omega) (nI_1 i) (fun q5 => H1 ((EXo_s (fun z => q z.2)).mpr q5)) (fun q5 => H0 (fun w => q5 ((EXo_s (fun z => q z.2)).mp w)))
set_option maxRecDepth 100000 in
set_option maxHeartbeats 4000000 in
theorem sf_leansOn {d L : Nat} {f : Nat → Nat → Int32} {g : Nat → Nat → Int64} {n p : Nat} {R : Option Value → mH → Prop} (hd : 3 ≤ d) (hX : XI f) (hb : f 6 13 = nI n) (hm : n ≤ 40) (hp : p < 40) (H1 : EXo f n p 0 → R (some (.int 1)) (shF L, f, g)) (H0 : ¬ EXo f n p 0 → R (some (.int 0)) (shF L, f, g)) : Run mtab d 145 [.ref 5, .int (nI p)] (shF L, f, g) R := by
  obtain ⟨d, rfl⟩ : ∃ e, d = e + 1 := ⟨d - 1, by omega⟩
  refine go_X10_leansOnOneNotIn rfl ?_
  conv => whnf
  exact lo_lp (by omega) hX hb hm hp n 0 _ (by omega) rfl H1 H0
set_option maxRecDepth 100000 in
theorem us_lp {d L n : Nat} {f : Nat → Nat → Int32} {g : Nat → Nat → Int64} {w y : Int32} {R : Option Value → mH → Prop} (hd : 3 ≤ d) (hX : XI f) (hb : f 6 13 = nI n) (hm : n ≤ 40) :
    ∀ (k i : Nat) (x a : Int32), i + k = n → x = nI i → R (some (.int (cntl (fun i => f 127 i = 1 ∧ EXo f n i 0) k i a))) (shF L, f, g) → WPe pg_X10_unsure none (Run mtab d) R (m_drop pg_X10_unsure 16) [some (.ref 5), some (.int w), some (.int y), some (.int a), some (.int x)] [] (shF L, f, g)
  | 0, i, x, a, hi, hx, H => by
    have e : i = n := by omega
    subst hx
    subst e
    refine at_X10_unsure ?_
    conv => whnf
    simp only [hb]
    refine ⟨fun c => ?_, fun c => absurd (nI_le (Nat.le_refl _) (by omega)) c⟩
    conv => whnf
    exact H
  | k + 1, i, x, a, hi, hx, H => by
    subst hx
    have hcl : (nI i).toNatClampNeg = i := nI_clamp (by omega)
    refine at_X10_unsure ?_
    conv => whnf
    simp only [hb]
    refine ⟨fun c => absurd c (nI_ge (b := n) (by omega) (by omega)), fun c => ?_⟩
    conv => whnf
    refine ⟨vp_in_nI (by omega) (by decide), ?_⟩
    conv => whnf
    simp only [hcl]
    refine ⟨fun c1 => ?_, fun c1 => ?_⟩
    · conv => whnf
      exact us_lp hd hX hb hm k (i + 1) _ _ (by omega) (nI_1 i) (by rw [cnt_n (P := (fun i => f 127 i = 1 ∧ EXo f n i 0)) (k := k) (i := i) (a := a) (fun z => c1 z.1)] at H; exact H)
    · conv => whnf
      refine sf_leansOn (by omega) hX hb hm (by omega) (fun q => ?_) (fun q => ?_)
      · conv => whnf
        (refine ⟨fun c => ?_, fun c => ?_⟩ <;> first | ((have c9 : (1 : Int32) = 0 := by with_reducible exact c); exact absurd c9 (by decide)) | exact absurd (rfl : (0 : Int32) = 0) (by with_reducible exact c) | exact absurd True.intro (by with_reducible exact c) | exact False.elim (by with_reducible exact c) | (conv => whnf))
        exact us_lp hd hX hb hm k (i + 1) _ _ (by omega) (nI_1 i) (by rw [cnt_y (P := (fun i => f 127 i = 1 ∧ EXo f n i 0)) (k := k) (i := i) (a := a) (⟨c1, q⟩)] at H; exact H)
      · conv => whnf
        (refine ⟨fun c => ?_, fun c => ?_⟩ <;> first | ((have c9 : (1 : Int32) = 0 := by with_reducible exact c); exact absurd c9 (by decide)) | exact absurd (rfl : (0 : Int32) = 0) (by with_reducible exact c) | exact absurd True.intro (by with_reducible exact c) | exact False.elim (by with_reducible exact c) | (conv => whnf))
        exact us_lp hd hX hb hm k (i + 1) _ _ (by omega) (nI_1 i) (by rw [cnt_n (P := (fun i => f 127 i = 1 ∧ EXo f n i 0)) (k := k) (i := i) (a := a) (fun z => q z.2)] at H; exact H)
def SX_unsure (n c : Nat) (f f1 : Nat → Nat → Int32) (x1 x2 v : Int32) : Prop := (¬ asofw c x1 x2 ∧ v = -1 ∧ f1 = f) ∨ (∃ m, m ≤ c ∧ x2 = nI m ∧ asofw c x1 x2 ∧ stF f f1 x1 m ∧ v = cntl (fun i => f1 127 i = 1 ∧ EXo f1 n i 0) n 0 0)
set_option maxRecDepth 100000 in
set_option maxHeartbeats 4000000 in
theorem sf_unsure {d L : Nat} {f : Nat → Nat → Int32} {g : Nat → Nat → Int64} {n c0 : Nat} {x1 x2 : Int32} {R : Option Value → mH → Prop} (hd : 5 ≤ d) (hX : XI f) (hb : f 6 13 = nI n) (hm : n ≤ 40) (hvb : f 119 7 = nI c0) (hvm : c0 ≤ 60) (H : ∀ v f1, SX_unsure n c0 f f1 x1 x2 v → R (some (.int v)) (shF L, f1, g)) : Run mtab d 125 [.ref 5, .int x1, .int x2] (shF L, f, g) R := by
  obtain ⟨d, rfl⟩ : ∃ e, d = e + 1 := ⟨d - 1, by omega⟩
  refine go_X10_unsure rfl ?_
  conv => whnf
  refine sf_isAsOf (by omega) hvb (fun p => ?_) (fun p => ?_)
  · obtain ⟨m, hm9, e⟩ := as_n hvm p
    subst e
    conv => whnf
    (refine ⟨fun c => ?_, fun c => ?_⟩ <;> first | ((have c9 : (1 : Int32) = 0 := by with_reducible exact c); exact absurd c9 (by decide)) | exact absurd (rfl : (0 : Int32) = 0) (by with_reducible exact c) | exact absurd True.intro (by with_reducible exact c) | exact False.elim (by with_reducible exact c) | (conv => whnf))
    refine sf_reckonV (by omega) hX (by omega) (fun f1 h1 => ?_)
    conv => whnf
    exact us_lp (by omega) (stF_XI hX h1) ((h1.2 6 13 (by omega) (by omega)).trans hb) hm n 0 _ _ (by omega) rfl (H _ _ (Or.inr ⟨m, hm9, rfl, p, h1, rfl⟩))
  · conv => whnf
    (refine ⟨fun c => ?_, fun c => ?_⟩ <;> first | ((have c9 : (1 : Int32) = 0 := by with_reducible exact c); exact absurd c9 (by decide)) | exact absurd (rfl : (0 : Int32) = 0) (by with_reducible exact c) | exact absurd True.intro (by with_reducible exact c) | exact False.elim (by with_reducible exact c) | (conv => whnf))
    exact H _ _ (Or.inl ⟨p, rfl, rfl⟩)
def lnq (p : Nat → Int32) (Q : Int32 → Prop) : Nat → Int32 → Prop
  | 0, _ => False
  | k + 1, u => ¬ u < 0 ∧ (Q u ∨ lnq p Q k (p u.toNatClampNeg))
theorem lnq_ex {p : Nat → Int32} {Q : Int32 → Prop} : ∀ (k : Nat) (u : Int32), lnq p Q k u ↔ ∃ y, Q y ∧ lnl p y k u
  | 0, u => ⟨fun z => False.elim z, fun ⟨y, _, z⟩ => False.elim z⟩
  | k + 1, u => by
    have ih := lnq_ex (p := p) (Q := Q) k (p u.toNatClampNeg)
    constructor
    · rintro ⟨h, q | q⟩
      · exact ⟨u, q, h, Or.inl rfl⟩
      · obtain ⟨y, hy, z⟩ := ih.mp q
        exact ⟨y, hy, h, Or.inr z⟩
    · rintro ⟨y, hy, h, q | q⟩
      · subst q
        exact ⟨h, Or.inl hy⟩
      · exact ⟨h, Or.inr (ih.mpr ⟨y, hy, q⟩)⟩
theorem lnl_in {f : Nat → Nat → Int32} {n : Nat} (hI : MI f) (hb : f 181 0 = nI n) (hm : n ≤ 40) {y : Int32} : ∀ (t : Nat) (u : Int32), t ≤ n → u.toInt < (t : Int) → lnl (fun j => f 183 j) y t u → ∃ o, o < t ∧ y = nI o
  | 0, u, _, _, z => False.elim z
  | t + 1, u, ht, hu, z => by
    obtain ⟨h, q⟩ := z
    obtain ⟨j, hj, rfl⟩ := par_lt hu h
    rcases q with q | q
    · exact ⟨j, hj, q.symm⟩
    · have hcl : (nI j).toNatClampNeg = j := nI_clamp (by omega)
      have q2 : lnl (fun j => f 183 j) y t (f 183 j) := by
        have q3 : lnl (fun j => f 183 j) y t (f 183 (nI j).toNatClampNeg) := q
        rw [hcl] at q3
        exact q3
      have hlt := par_lt' (hI n hm hb j (by omega)).2 (by omega)
      obtain ⟨o, ho, e⟩ := lnl_in hI hb hm t (f 183 j) (by omega) (by omega) q2
      exact ⟨o, by omega, e⟩
def UM (f : Nat → Nat → Int32) (day : Int32) (v i : Nat) : Prop := lnq (fun j => f 183 j) (fun u => ¬ (smp f day u v).1 = 1) i (f 183 i) ∧ (smp f day (nI i) v).1 = 1
set_option maxRecDepth 100000 in
set_option maxHeartbeats 4000000 in
theorem um_in {d L n p v : Nat} {f : Nat → Nat → Int32} {g : Nat → Nat → Int64} {a day : Int32} {P : Prop} {R : Option Value → mH → Prop} (hd : 1 ≤ d) (hv : v ≤ 60) (hI : MI f) (hb : f 181 0 = nI n) (hm : n ≤ 40) (hp : p < n) (HO1 : (P ∧ (smp f day (nI p) v).1 = 1) → ∀ (x' : Int32) (s1 s2 : Option Value), x' = nI (p + 1) → WPe pg_X11_unsure none (Run mtab d) R (m_drop pg_X11_unsure 11) [some (.ref 181), some (.int day), some (.int (nI v)), some (.int (a + 1)), some (.int x'), s1, s2] [] (shF L, f, g)) (HO0 : ¬ (P ∧ (smp f day (nI p) v).1 = 1) → ∀ (x' : Int32) (s1 s2 : Option Value), x' = nI (p + 1) → WPe pg_X11_unsure none (Run mtab d) R (m_drop pg_X11_unsure 11) [some (.ref 181), some (.int day), some (.int (nI v)), some (.int (a + 0)), some (.int x'), s1, s2] [] (shF L, f, g)) :
    ∀ (t : Nat) (o b : Int32), t ≤ n → o.toInt < (t : Int) → (b = 0 ∨ b = 1) → (P ↔ (¬ b = 0 ∨ lnq (fun j => f 183 j) (fun u => ¬ (smp f day u v).1 = 1) t o)) → WPe pg_X11_unsure none (Run mtab d) R (m_drop pg_X11_unsure 22) [some (.ref 181), some (.int day), some (.int (nI v)), some (.int a), some (.int (nI p)), some (.int b), some (.int o)] [] (shF L, f, g)
  | 0, o, b, ht, ho, hb1, hq => by
    have h0 : o < 0 := by
      rw [Int32.lt_iff_toInt_lt]
      have e0 : (0 : Int32).toInt = 0 := rfl
      omega
    have FW : ¬ lnq (fun j => f 183 j) (fun u => ¬ (smp f day u v).1 = 1) 0 o := fun z => z
    refine at_X11_unsure ?_
    conv => whnf
    refine ⟨fun c => ?_, fun c => absurd h0 c⟩
    · rcases hb1 with rfl | rfl
      · conv => whnf
        (refine ⟨fun c => ?_, fun c => ?_⟩ <;> first | ((have c9 : (1 : Int32) = 0 := by with_reducible exact c); exact absurd c9 (by decide)) | exact absurd (rfl : (0 : Int32) = 0) (by with_reducible exact c) | exact absurd True.intro (by with_reducible exact c) | exact False.elim (by with_reducible exact c) | (conv => whnf))
        exact HO0 (fun z => (hq.mp z.1).elim (fun w => w rfl) (fun w => FW w)) _ _ _ (nI_1 p)
      · conv => whnf
        (refine ⟨fun c => ?_, fun c => ?_⟩ <;> first | ((have c9 : (1 : Int32) = 0 := by with_reducible exact c); exact absurd c9 (by decide)) | exact absurd (rfl : (0 : Int32) = 0) (by with_reducible exact c) | exact absurd True.intro (by with_reducible exact c) | exact False.elim (by with_reducible exact c) | (conv => whnf))
        refine smf_stateOf (by omega) hv ?_
        conv => whnf
        refine ⟨fun c9 => ?_, fun c9 => ?_⟩
        · conv => whnf
          exact HO0 (fun z => c9 z.2) _ _ _ (nI_1 p)
        · conv => whnf
          exact HO1 ⟨hq.mpr (Or.inl (by decide)), c9⟩ _ _ _ (nI_1 p)
  | t + 1, o, b, ht, ho, hb1, hq => by
    refine at_X11_unsure ?_
    conv => whnf
    refine ⟨fun c => ?_, fun c0 => ?_⟩
    · have FW : ¬ lnq (fun j => f 183 j) (fun u => ¬ (smp f day u v).1 = 1) (t + 1) o := fun z => z.1 c
      rcases hb1 with rfl | rfl
      · conv => whnf
        (refine ⟨fun c => ?_, fun c => ?_⟩ <;> first | ((have c9 : (1 : Int32) = 0 := by with_reducible exact c); exact absurd c9 (by decide)) | exact absurd (rfl : (0 : Int32) = 0) (by with_reducible exact c) | exact absurd True.intro (by with_reducible exact c) | exact False.elim (by with_reducible exact c) | (conv => whnf))
        exact HO0 (fun z => (hq.mp z.1).elim (fun w => w rfl) (fun w => FW w)) _ _ _ (nI_1 p)
      · conv => whnf
        (refine ⟨fun c => ?_, fun c => ?_⟩ <;> first | ((have c9 : (1 : Int32) = 0 := by with_reducible exact c); exact absurd c9 (by decide)) | exact absurd (rfl : (0 : Int32) = 0) (by with_reducible exact c) | exact absurd True.intro (by with_reducible exact c) | exact False.elim (by with_reducible exact c) | (conv => whnf))
        refine smf_stateOf (by omega) hv ?_
        conv => whnf
        refine ⟨fun c9 => ?_, fun c9 => ?_⟩
        · conv => whnf
          exact HO0 (fun z => c9 z.2) _ _ _ (nI_1 p)
        · conv => whnf
          exact HO1 ⟨hq.mpr (Or.inl (by decide)), c9⟩ _ _ _ (nI_1 p)
    · obtain ⟨u, hu, rfl⟩ := par_lt ho c0
      have hcl : (nI u).toNatClampNeg = u := nI_clamp (by omega)
      have hpu := (hI n hm hb u (by omega)).2
      have hlt : (f 183 u).toInt < (t : Int) := by have := par_lt' hpu (by omega); omega
      have un : lnq (fun j => f 183 j) (fun u => ¬ (smp f day u v).1 = 1) (t + 1) (nI u) ↔ (¬ (smp f day (nI u) v).1 = 1 ∨ lnq (fun j => f 183 j) (fun u => ¬ (smp f day u v).1 = 1) t (f 183 u)) := by
        show (¬ nI u < 0 ∧ (¬ (smp f day (nI u) v).1 = 1 ∨ lnq (fun j => f 183 j) (fun u => ¬ (smp f day u v).1 = 1) t (f 183 (nI u).toNatClampNeg))) ↔ _
        rw [hcl]
        exact ⟨fun z => z.2, fun z => ⟨c0, z⟩⟩
      have on : ∀ b' : Int32, (b' = 0 ∨ b' = 1) → (P ↔ (¬ b' = 0 ∨ lnq (fun j => f 183 j) (fun u => ¬ (smp f day u v).1 = 1) t (f 183 u))) → WPe pg_X11_unsure none (Run mtab d) R (m_drop pg_X11_unsure 22) [some (.ref 181), some (.int day), some (.int (nI v)), some (.int a), some (.int (nI p)), some (.int b'), some (.int (f 183 u))] [] (shF L, f, g) := fun b' z1 z2 => um_in hd hv hI hb hm hp HO1 HO0 t _ b' (by omega) hlt z1 z2
      rcases hb1 with rfl | rfl
      · conv => whnf
        (refine ⟨fun c => ?_, fun c => ?_⟩ <;> first | ((have c9 : (1 : Int32) = 0 := by with_reducible exact c); exact absurd c9 (by decide)) | exact absurd (rfl : (0 : Int32) = 0) (by with_reducible exact c) | exact absurd True.intro (by with_reducible exact c) | exact False.elim (by with_reducible exact c) | (conv => whnf))
        refine smf_stateOf (by omega) hv ?_
        conv => whnf
        refine ⟨fun c2 => ?_, fun c2 => ?_⟩
        · conv => whnf
          refine ⟨vp_in_nI (by omega) (by decide), ?_⟩
          conv => whnf
          simp only [hcl]
          exact on 0 (Or.inl rfl) (hq.trans (or_congr Iff.rfl (un.trans ⟨fun z => z.resolve_left (fun w => w c2), Or.inr⟩)))
        · conv => whnf
          refine ⟨vp_in_nI (by omega) (by decide), ?_⟩
          conv => whnf
          simp only [hcl]
          exact on 1 (Or.inr rfl) ⟨fun _ => Or.inl (by decide), fun _ => hq.mpr (Or.inr (un.mpr (Or.inl c2)))⟩
      · conv => whnf
        (refine ⟨fun c => ?_, fun c => ?_⟩ <;> first | ((have c9 : (1 : Int32) = 0 := by with_reducible exact c); exact absurd c9 (by decide)) | exact absurd (rfl : (0 : Int32) = 0) (by with_reducible exact c) | exact absurd True.intro (by with_reducible exact c) | exact False.elim (by with_reducible exact c) | (conv => whnf))
        refine ⟨vp_in_nI (by omega) (by decide), ?_⟩
        conv => whnf
        simp only [hcl]
        exact on 1 (Or.inr rfl) ⟨fun _ => Or.inl (by decide), fun _ => hq.mpr (Or.inl (by decide))⟩
set_option maxRecDepth 100000 in
theorem um_lp {d L n v : Nat} {f : Nat → Nat → Int32} {g : Nat → Nat → Int64} {day : Int32} {R : Option Value → mH → Prop} (hd : 1 ≤ d) (hv : v ≤ 60) (hI : MI f) (hb : f 181 0 = nI n) (hm : n ≤ 40) :
    ∀ (k i : Nat) (x a : Int32) (s1 s2 : Option Value), i + k = n → x = nI i → R (some (.int (cntl (UM f day v) k i a))) (shF L, f, g) → WPe pg_X11_unsure none (Run mtab d) R (m_drop pg_X11_unsure 11) [some (.ref 181), some (.int day), some (.int (nI v)), some (.int a), some (.int x), s1, s2] [] (shF L, f, g)
  | 0, i, x, a, s1, s2, hi, hx, H => by
    have e : i = n := by omega
    subst hx
    subst e
    refine at_X11_unsure ?_
    conv => whnf
    simp only [hb]
    refine ⟨fun c => ?_, fun c => absurd (nI_le (Nat.le_refl _) (by omega)) c⟩
    conv => whnf
    exact H
  | k + 1, i, x, a, s1, s2, hi, hx, H => by
    subst hx
    have hcl : (nI i).toNatClampNeg = i := nI_clamp (by omega)
    refine at_X11_unsure ?_
    conv => whnf
    simp only [hb]
    refine ⟨fun c => absurd c (nI_ge (b := n) (by omega) (by omega)), fun c => ?_⟩
    conv => whnf
    refine ⟨vp_in_nI (by omega) (by decide), ?_⟩
    conv => whnf
    simp only [hcl]
    refine um_in (n := n) (p := i) (P := lnq (fun j => f 183 j) (fun u => ¬ (smp f day u v).1 = 1) i (f 183 i)) hd hv hI hb hm (by omega) (fun q x' s1 s2 hx' => ?_) (fun q x' s1 s2 hx' => ?_) i _ _ (by omega) (par_lt' (hI n hm hb i (by omega)).2 (by omega)) (Or.inl rfl) ⟨fun z => Or.inr z, fun z => z.elim (fun w => absurd rfl w) (fun w => w)⟩
    · exact um_lp hd hv hI hb hm k (i + 1) x' _ s1 s2 (by omega) hx' (by rw [cnt_y (P := UM f day v) (k := k) (i := i) (a := a) q] at H; exact H)
    · have e0 : a + 0 = a := Int32.add_zero a
      rw [e0]
      exact um_lp hd hv hI hb hm k (i + 1) x' _ s1 s2 (by omega) hx' (by rw [cnt_n (P := UM f day v) (k := k) (i := i) (a := a) q] at H; exact H)
def SM_unsure (n c : Nat) (f : Nat → Nat → Int32) (x1 x2 v : Int32) : Prop := (¬ asofw c x1 x2 ∧ v = -1) ∨ (∃ m, m ≤ c ∧ x2 = nI m ∧ asofw c x1 x2 ∧ v = cntl (UM f x1 m) n 0 0)
set_option maxRecDepth 100000 in
set_option maxHeartbeats 4000000 in
theorem smf_unsure {d L : Nat} {f : Nat → Nat → Int32} {g : Nat → Nat → Int64} {n c0 : Nat} {x1 x2 : Int32} {R : Option Value → mH → Prop} (hd : 3 ≤ d) (hI : MI f) (hb : f 181 0 = nI n) (hm : n ≤ 40) (hvb : f 181 48 = nI c0) (hvm : c0 ≤ 60) (H : ∀ v, SM_unsure n c0 f x1 x2 v → R (some (.int v)) (shF L, f, g)) : Run mtab d 230 [.ref 181, .int x1, .int x2] (shF L, f, g) R := by
  obtain ⟨d, rfl⟩ : ∃ e, d = e + 1 := ⟨d - 1, by omega⟩
  refine go_X11_unsure rfl ?_
  conv => whnf
  refine smf_isAsOf (by omega) hvb (fun p => ?_) (fun p => ?_)
  · obtain ⟨m, hm9, e⟩ := as_n hvm p
    subst e
    conv => whnf
    (refine ⟨fun c => ?_, fun c => ?_⟩ <;> first | ((have c9 : (1 : Int32) = 0 := by with_reducible exact c); exact absurd c9 (by decide)) | exact absurd (rfl : (0 : Int32) = 0) (by with_reducible exact c) | exact absurd True.intro (by with_reducible exact c) | exact False.elim (by with_reducible exact c) | (conv => whnf))
    exact um_lp (by omega) (by omega) hI hb hm n 0 _ _ _ _ (by omega) rfl (H _ (Or.inr ⟨m, hm9, rfl, p, rfl⟩))
  · conv => whnf
    (refine ⟨fun c => ?_, fun c => ?_⟩ <;> first | ((have c9 : (1 : Int32) = 0 := by with_reducible exact c); exact absurd c9 (by decide)) | exact absurd (rfl : (0 : Int32) = 0) (by with_reducible exact c) | exact absurd True.intro (by with_reducible exact c) | exact False.elim (by with_reducible exact c) | (conv => whnf))
    exact H _ (Or.inl ⟨p, rfl⟩)
theorem kx_unsure {n c : Nat} {f f1 : Nat → Nat → Int32} {x1 x2 v : Int32} (s : SX_unsure n c f f1 x1 x2 v) : kp [0] f f1 := by
  rcases s with ⟨_, _, rfl⟩ | ⟨m, _, _, _, h, _⟩
  · exact kp_refl _ _
  · exact stF_kp h
theorem XI_unsure {n c : Nat} {f f1 : Nat → Nat → Int32} {x1 x2 v : Int32} (hX : XI f) (s : SX_unsure n c f f1 x1 x2 v) : XI f1 := by
  rcases s with ⟨_, _, rfl⟩ | ⟨m, _, _, _, h, _⟩
  · exact hX
  · exact stF_XI hX h
theorem fin_unsure {n c : Nat} {f f1 : Nat → Nat → Int32} {x1 x2 v1 v2 : Int32} (hW : RW n f) (hI : MI f) (hV : RV c f) (s1 : SX_unsure n c f f1 x1 x2 v1) (s2 : SM_unsure n c f1 x1 x2 v2) : v1 = v2 := by
  have k1 := kx_unsure s1
  have hc := hV.1
  have hn := hW.1
  rcases s1 with ⟨q1, rfl, rfl⟩ | ⟨m, hm, e3, p, h, rfl⟩
  · rcases s2 with ⟨q2, rfl⟩ | ⟨m, hm, e3, p, rfl⟩
    · rfl
    · exact absurd p q1
  · rcases s2 with ⟨q2, rfl⟩ | ⟨m', hm', e3', p', rfl⟩
    · exact absurd p q2
    · have em : m = m' := (nI_eq (by omega) (by omega)).mp (e3.symm.trans e3')
      subst em
      refine cntl_eq n (fun i hi => ?_) n 0 0 (by omega)
      have e8 : f1 8 = f 8 := funext (fun j => k1 8 j rfl)
      have e183 : f1 183 = f 183 := funext (fun j => k1 183 j rfl)
      have est : ∀ o, o < n → f1 127 o = (smp f1 x1 (nI o) m).1 := fun o ho => by
        rw [(h.1 o (by omega)).1, smp_kp (fun i => k1 218 i rfl)]
        exact (st_eq hV x1 (nI o) m hm).1
      have hL : ∀ o, (LC f1 (nI o) i ↔ lnl (fun j => f1 183 j) (nI o) i (f1 183 i)) := fun o => by
        have := LC_LM hW (nI o) i hi
        unfold LC LM at this
        unfold LC
        rw [e8, e183]
        exact this
      unfold UM
      rw [lnq_ex, est i hi, and_comm]
      refine and_congr ?_ Iff.rfl
      constructor
      · rintro ⟨o, _, ho, h3, h4⟩
        exact ⟨nI o, by rw [← est o ho]; exact h3, (hL o).mp h4⟩
      · rintro ⟨y, hy, z⟩
        have z2 := z
        rw [e183] at z2
        obtain ⟨o, ho, e⟩ := lnl_in hI hW.2.2.1 hn i (f 183 i) (by omega) (par_lt' (hI n hn hW.2.2.1 i hi).2 (by omega)) z2
        subst e
        exact ⟨o, Nat.zero_le _, by omega, by rw [est o (by omega)]; exact hy, (hL o).mpr z⟩
/-! edges k < m from u k to v k, of a k years; L: a year for each work -/
def Sol (m : Nat) (A : Nat → Bool) (u v : Nat → Nat) (a : Nat → Int) (X : Nat → Int) : Prop := ∀ k, k < m → A k = true → X (u k) + a k ≤ X (v k)
def rlx (A : Nat → Bool) (u v : Nat → Nat) (a : Nat → Int) (k : Nat) (L : Nat → Int) : Nat → Int := fun w => if w = v k ∧ A k = true ∧ L (v k) < L (u k) + a k then L (u k) + a k else L w
/-- the first i edges of a round -/
def rnd_ (A : Nat → Bool) (u v : Nat → Nat) (a : Nat → Int) : Nat → (Nat → Int) → (Nat → Int)
  | 0, L => L
  | i + 1, L => rlx A u v a i (rnd_ A u v a i L)
theorem rlx_ge {A : Nat → Bool} {u v : Nat → Nat} {a : Nat → Int} {k : Nat} {L : Nat → Int} (w : Nat) : L w ≤ rlx A u v a k L w := by
  unfold rlx
  by_cases h : w = v k ∧ A k = true ∧ L (v k) < L (u k) + a k
  · rw [if_pos h, h.1]
    omega
  · rw [if_neg h]
    omega
theorem rlx_le {m : Nat} {A : Nat → Bool} {u v : Nat → Nat} {a : Nat → Int} {k : Nat} {L X : Nat → Int} (hk : k < m) (hX : Sol m A u v a X) (h : ∀ w, L w ≤ X w) (w : Nat) : rlx A u v a k L w ≤ X w := by
  unfold rlx
  by_cases q : w = v k ∧ A k = true ∧ L (v k) < L (u k) + a k
  · rw [if_pos q, q.1]
    have h1 := hX k hk q.2.1
    have h2 := h (u k)
    omega
  · rw [if_neg q]
    exact h w
theorem rnd_ge {A : Nat → Bool} {u v : Nat → Nat} {a : Nat → Int} {L : Nat → Int} : ∀ (i w : Nat), L w ≤ rnd_ A u v a i L w
  | 0, w => Int.le_refl _
  | i + 1, w => Int.le_trans (rnd_ge i w) (rlx_ge w)
theorem rnd_le {m : Nat} {A : Nat → Bool} {u v : Nat → Nat} {a : Nat → Int} {L X : Nat → Int} (hX : Sol m A u v a X) (h : ∀ w, L w ≤ X w) : ∀ (i : Nat), i ≤ m → ∀ w, rnd_ A u v a i L w ≤ X w
  | 0, _, w => h w
  | i + 1, hi, w => rlx_le (by omega) hX (rnd_le hX h i (by omega)) w
theorem rnd_at {A : Nat → Bool} {u v : Nat → Nat} {a : Nat → Int} {L : Nat → Int} {k : Nat} (hA : A k = true) : rnd_ A u v a k L (u k) + a k ≤ rnd_ A u v a (k + 1) L (v k) := by
  show _ ≤ rlx A u v a k (rnd_ A u v a k L) (v k)
  unfold rlx
  by_cases h : rnd_ A u v a k L (v k) < rnd_ A u v a k L (u k) + a k
  · rw [if_pos ⟨rfl, hA, h⟩]
    omega
  · rw [if_neg (fun z => h z.2.2)]
    omega
theorem rnd_up {A : Nat → Bool} {u v : Nat → Nat} {a : Nat → Int} {L : Nat → Int} (w : Nat) : ∀ (j i : Nat), i ≤ j → rnd_ A u v a i L w ≤ rnd_ A u v a j L w
  | 0, i, h => by
    have e : i = 0 := by omega
    subst e
    exact Int.le_refl _
  | j + 1, i, h => by
    by_cases e : i = j + 1
    · subst e
      exact Int.le_refl _
    · exact Int.le_trans (rnd_up w j i (by omega)) (rlx_ge w)
/-- a round that changes nothing: all edges are kept -/
theorem rnd_fix {m : Nat} {A : Nat → Bool} {u v : Nat → Nat} {a : Nat → Int} {L : Nat → Int} (h : ∀ w, rnd_ A u v a m L w = L w) : Sol m A u v a L := fun k hk hA => by
  have h1 := rnd_at (A := A) (u := u) (v := v) (a := a) (L := L) (k := k) hA
  have h2 := rnd_ge (A := A) (u := u) (v := v) (a := a) (L := L) k (u k)
  have h3 := rnd_up (A := A) (u := u) (v := v) (a := a) (L := L) (v k) m (k + 1) (by omega)
  rw [h (v k)] at h3
  omega
theorem fix_rnd {m : Nat} {A : Nat → Bool} {u v : Nat → Nat} {a : Nat → Int} {L : Nat → Int} (hL : Sol m A u v a L) (w : Nat) : rnd_ A u v a m L w = L w := by
  have h1 := rnd_le hL (fun w => Int.le_refl (L w)) m (Nat.le_refl m) w
  have h2 := rnd_ge (A := A) (u := u) (v := v) (a := a) (L := L) m w
  omega
/-- the least solution from lo on -/
def Lst (m : Nat) (A : Nat → Bool) (u v : Nat → Nat) (a : Nat → Int) (lo X : Nat → Int) : Prop := Sol m A u v a X ∧ (∀ w, lo w ≤ X w) ∧ ∀ Y, Sol m A u v a Y → (∀ w, lo w ≤ Y w) → ∀ w, X w ≤ Y w
theorem Lst_u {m : Nat} {A : Nat → Bool} {u v : Nat → Nat} {a : Nat → Int} {lo X Y : Nat → Int} (h1 : Lst m A u v a lo X) (h2 : Lst m A u v a lo Y) (w : Nat) : X w = Y w := by
  have a1 := h1.2.2 Y h2.1 h2.2.1 w
  have a2 := h2.2.2 X h1.1 h1.2.1 w
  omega
theorem min_nat (P : Nat → Prop) : ∀ n, P n → ∃ k, P k ∧ ∀ j, P j → k ≤ j := by
  intro n
  induction n using Nat.strongRecOn with
  | ind n ih =>
    intro hn
    by_cases h : ∃ j, j < n ∧ P j
    · obtain ⟨j, hj, hp⟩ := h
      exact ih j hj hp
    · refine ⟨n, hn, fun j hj => ?_⟩
      rcases Nat.lt_or_ge j n with q | q
      · exact absurd ⟨j, q, hj⟩ h
      · exact q
theorem Lst_ex {m : Nat} {A : Nat → Bool} {u v : Nat → Nat} {a : Nat → Int} {lo X : Nat → Int} (hX : Sol m A u v a X) (hl : ∀ w, lo w ≤ X w) : ∃ Z, Lst m A u v a lo Z := by
  have key : ∀ w, ∃ k : Nat, (∃ Y, Sol m A u v a Y ∧ (∀ w, lo w ≤ Y w) ∧ Y w = lo w + (k : Int)) ∧ ∀ Y, Sol m A u v a Y → (∀ w, lo w ≤ Y w) → lo w + (k : Int) ≤ Y w := fun w => by
    obtain ⟨k, ⟨Y, y1, y2, y3⟩, hk⟩ := min_nat (fun k => ∃ Y, Sol m A u v a Y ∧ (∀ w, lo w ≤ Y w) ∧ Y w = lo w + (k : Int)) (X w - lo w).toNat ⟨X, hX, hl, by have := hl w; omega⟩
    refine ⟨k, ⟨Y, y1, y2, y3⟩, fun Z z1 z2 => ?_⟩
    have h3 := z2 w
    have := hk (Z w - lo w).toNat ⟨Z, z1, z2, by omega⟩
    omega
  have c := Classical.axiomOfChoice key
  obtain ⟨kk, hk⟩ := c
  refine ⟨fun w => lo w + (kk w : Int), fun k hkm hA => ?_, fun w => by show lo w ≤ lo w + (kk w : Int); omega, fun Y y1 y2 w => (hk w).2 Y y1 y2⟩
  obtain ⟨Y, y1, y2, y3⟩ := (hk (v k)).1
  have h1 := (hk (u k)).2 Y y1 y2
  have h2 := y1 k hkm hA
  show lo (u k) + (kk (u k) : Int) + a k ≤ lo (v k) + (kk (v k) : Int)
  omega
/-- where something is wanting, an edge gives it in the next round -/
theorem Lst_tight {m : Nat} {A : Nat → Bool} {u v : Nat → Nat} {a : Nat → Int} {lo L Z : Nat → Int} (hZ : Lst m A u v a lo Z) (h1 : ∀ w, lo w ≤ L w) (h2 : ∀ w, L w ≤ Z w) {w0 : Nat} (hw : L w0 < Z w0) : ∃ k, k < m ∧ A k = true ∧ L (u k) = Z (u k) ∧ L (v k) < Z (v k) ∧ Z (u k) + a k = Z (v k) := by
  apply Classical.byContradiction
  intro no
  have hS : Sol m A u v a (fun w => if L w < Z w then Z w - 1 else Z w) := fun k hk hA => by
    have hz := hZ.1 k hk hA
    show (if L (u k) < Z (u k) then Z (u k) - 1 else Z (u k)) + a k ≤ (if L (v k) < Z (v k) then Z (v k) - 1 else Z (v k))
    by_cases qv : L (v k) < Z (v k)
    · rw [if_pos qv]
      by_cases qu : L (u k) < Z (u k)
      · rw [if_pos qu]
        omega
      · rw [if_neg qu]
        have e : L (u k) = Z (u k) := by
          have := h2 (u k)
          omega
        have ne : ¬ Z (u k) + a k = Z (v k) := fun z => no ⟨k, hk, hA, e, qv, z⟩
        omega
    · rw [if_neg qv]
      by_cases qu : L (u k) < Z (u k)
      · rw [if_pos qu]
        omega
      · rw [if_neg qu]
        omega
  have hl : ∀ w, lo w ≤ (fun w => if L w < Z w then Z w - 1 else Z w) w := fun w => by
    show lo w ≤ (if L w < Z w then Z w - 1 else Z w)
    have a1 := h1 w
    have a2 := hZ.2.1 w
    by_cases q : L w < Z w
    · rw [if_pos q]
      omega
    · rw [if_neg q]
      exact a2
  have := hZ.2.2 _ hS hl w0
  have e : Z w0 ≤ (if L w0 < Z w0 then Z w0 - 1 else Z w0) := this
  rw [if_pos hw] at e
  omega
/-- how many edges lead to a work that lacks years -/
noncomputable def lack (v : Nat → Nat) (L Z : Nat → Int) : Nat → Nat
  | 0 => 0
  | k + 1 => lack v L Z k + (if L (v k) < Z (v k) then 1 else 0)
theorem lack_le {v : Nat → Nat} {L Z : Nat → Int} : ∀ m, lack v L Z m ≤ m
  | 0 => Nat.le_refl _
  | m + 1 => by
    have := lack_le (v := v) (L := L) (Z := Z) m
    show lack v L Z m + (if L (v m) < Z (v m) then 1 else 0) ≤ m + 1
    by_cases q : L (v m) < Z (v m)
    · rw [if_pos q]; omega
    · rw [if_neg q]; omega
theorem lack_mono {v : Nat → Nat} {L L' Z : Nat → Int} (h : ∀ w, L w ≤ L' w) : ∀ m, lack v L' Z m ≤ lack v L Z m
  | 0 => Nat.le_refl _
  | m + 1 => by
    have ih := lack_mono (v := v) (Z := Z) h m
    have hm := h (v m)
    show lack v L' Z m + (if L' (v m) < Z (v m) then 1 else 0) ≤ lack v L Z m + (if L (v m) < Z (v m) then 1 else 0)
    by_cases q : L' (v m) < Z (v m)
    · rw [if_pos q, if_pos (show L (v m) < Z (v m) by omega)]; omega
    · rw [if_neg q]
      by_cases q2 : L (v m) < Z (v m)
      · rw [if_pos q2]; omega
      · rw [if_neg q2]; omega
theorem lack_lt {v : Nat → Nat} {L L' Z : Nat → Int} (h : ∀ w, L w ≤ L' w) {k : Nat} (h1 : L (v k) < Z (v k)) (h2 : ¬ L' (v k) < Z (v k)) : ∀ m, k < m → lack v L' Z m < lack v L Z m
  | 0, hk => absurd hk (by omega)
  | m + 1, hk => by
    have hm := h (v m)
    have mono := lack_mono (v := v) (Z := Z) h m
    show lack v L' Z m + (if L' (v m) < Z (v m) then 1 else 0) < lack v L Z m + (if L (v m) < Z (v m) then 1 else 0)
    by_cases e : k = m
    · subst e
      rw [if_neg h2, if_pos h1]
      omega
    · have ih := lack_lt h h1 h2 m (by omega)
      by_cases q : L' (v m) < Z (v m)
      · rw [if_pos q, if_pos (show L (v m) < Z (v m) by omega)]; omega
      · rw [if_neg q]
        by_cases q2 : L (v m) < Z (v m)
        · rw [if_pos q2]; omega
        · rw [if_neg q2]; omega
/-- r rounds -/
def rnds (m : Nat) (A : Nat → Bool) (u v : Nat → Nat) (a : Nat → Int) : Nat → (Nat → Int) → (Nat → Int)
  | 0, L => L
  | r + 1, L => rnd_ A u v a m (rnds m A u v a r L)
theorem rnds_lack {m : Nat} {A : Nat → Bool} {u v : Nat → Nat} {a : Nat → Int} {lo Z : Nat → Int} (hZ : Lst m A u v a lo Z) : ∀ r, (∀ w, lo w ≤ rnds m A u v a r lo w) ∧ (∀ w, rnds m A u v a r lo w ≤ Z w) ∧ ((∀ w, rnds m A u v a r lo w = Z w) ∨ lack v (rnds m A u v a r lo) Z m + r ≤ m)
  | 0 => ⟨fun w => Int.le_refl _, hZ.2.1, Or.inr (by have := lack_le (v := v) (L := lo) (Z := Z) m; exact this)⟩
  | r + 1 => by
    obtain ⟨i1, i2, i3⟩ := rnds_lack hZ r
    have g1 : ∀ w, rnds m A u v a r lo w ≤ rnds m A u v a (r + 1) lo w := fun w => rnd_ge m w
    have g2 : ∀ w, rnds m A u v a (r + 1) lo w ≤ Z w := rnd_le hZ.1 i2 m (Nat.le_refl m)
    refine ⟨fun w => Int.le_trans (i1 w) (g1 w), g2, ?_⟩
    rcases i3 with e | c
    · left
      intro w
      have a1 := g1 w
      have a2 := g2 w
      rw [e w] at a1
      omega
    · by_cases q : ∃ w, rnds m A u v a r lo w < Z w
      · obtain ⟨w0, hw⟩ := q
        obtain ⟨k, hk, tA, t1, t2, t3⟩ := Lst_tight hZ i1 i2 hw
        right
        have fin : ¬ rnds m A u v a (r + 1) lo (v k) < Z (v k) := by
          have b1 := rnd_at (A := A) (u := u) (v := v) (a := a) (L := rnds m A u v a r lo) (k := k) tA
          have b2 := rnd_ge (A := A) (u := u) (v := v) (a := a) (L := rnds m A u v a r lo) k (u k)
          have b3 := rnd_up (A := A) (u := u) (v := v) (a := a) (L := rnds m A u v a r lo) (v k) m (k + 1) (by omega)
          have b4 : rnds m A u v a (r + 1) lo (v k) = rnd_ A u v a m (rnds m A u v a r lo) (v k) := rfl
          omega
        have := lack_lt (L' := rnds m A u v a (r + 1) lo) g1 t2 fin m hk
        omega
      · left
        intro w
        have a1 := g1 w
        have a2 := g2 w
        have a3 : ¬ rnds m A u v a r lo w < Z w := fun z => q ⟨w, z⟩
        omega
/-- as many rounds as edges are enough -/
theorem rnds_m {m : Nat} {A : Nat → Bool} {u v : Nat → Nat} {a : Nat → Int} {lo Z : Nat → Int} (hZ : Lst m A u v a lo Z) {r : Nat} (hr : m ≤ r) (w : Nat) : rnds m A u v a r lo w = Z w := by
  obtain ⟨i1, i2, i3⟩ := rnds_lack hZ r
  rcases i3 with e | c
  · exact e w
  · have l0 : lack v (rnds m A u v a r lo) Z m = 0 := by omega
    apply Classical.byContradiction
    intro ne
    have hw : rnds m A u v a r lo w < Z w := by
      have := i2 w
      omega
    obtain ⟨k, hk, tA, t1, t2, t3⟩ := Lst_tight hZ i1 i2 hw
    have := lack_lt (L' := Z) i2 t2 (by omega) m hk
    omega
/-- years of the works, as numbers -/
def Yh (f : Nat → Nat → Int32) (p n : Nat) : Nat → Int := fun w => if w < n then (f p w).toInt else 0
theorem Yh_t {f : Nat → Nat → Int32} {p n w : Nat} (h : w < n) : Yh f p n w = (f p w).toInt := if_pos h
/-- the clues that count, in the class's list: q i is the i-th -/
def eA (f : Nat → Nat → Int32) (q : Nat → Nat) : Nat → Bool := fun i => decide (f 137 (q i) = 0)
def eU (f : Nat → Nat → Int32) (q : Nat → Nat) : Nat → Nat := fun i => (f 130 (q i)).toNatClampNeg
def eV (f : Nat → Nat → Int32) (q : Nat → Nat) : Nat → Nat := fun i => (f 131 (q i)).toNatClampNeg
def eD (f : Nat → Nat → Int32) (q : Nat → Nat) : Nat → Int := fun i => (f 132 (q i)).toInt
def CT (f : Nat → Nat → Int32) (n m : Nat) (q : Nat → Nat) : Prop := n ≤ 40 ∧ m ≤ 20 ∧ f 6 13 = nI n ∧ f 129 11 = nI m ∧ (∀ i, i < m → q i < 20 ∧ f 136 i = nI (q i) ∧ (∃ x, x < n ∧ f 130 (q i) = nI x) ∧ (∃ y, y < n ∧ f 131 (q i) = nI y) ∧ inr (-30) 30 (f 132 (q i))) ∧ (∀ j, j < n → inr 1800 1999 (f 11 j) ∧ inr 1800 1999 (f 12 j) ∧ f 11 j ≤ f 12 j)
/-- only the least years differ from f0 -/
def o134 (f0 f : Nat → Nat → Int32) : Prop := ∀ a i, ¬ a = 134 → f a i = f0 a i
theorem i30 {d : Int32} (h : inr (-30) 30 d) : -30 ≤ d.toInt ∧ d.toInt ≤ 30 := ⟨Int32.le_iff_toInt_le.mp h.1, Int32.le_iff_toInt_le.mp h.2⟩
theorem i1800 {d : Int32} (h : inr 1800 1999 d) : 1800 ≤ d.toInt ∧ d.toInt ≤ 1999 := ⟨Int32.le_iff_toInt_le.mp h.1, Int32.le_iff_toInt_le.mp h.2⟩
theorem add_int {x d : Int32} (h1 : 1700 ≤ x.toInt) (h2 : x.toInt ≤ 2100) (h3 : -30 ≤ d.toInt) (h4 : d.toInt ≤ 30) : (x + d).toInt = x.toInt + d.toInt := by
  rw [Int32.toInt_add]
  exact Int.bmod_eq_of_le (by omega) (by omega)
theorem sub_int {x d : Int32} (h1 : 1700 ≤ x.toInt) (h2 : x.toInt ≤ 2100) (h3 : -30 ≤ d.toInt) (h4 : d.toInt ≤ 30) : (x - d).toInt = x.toInt - d.toInt := by
  rw [Int32.toInt_sub]
  exact Int.bmod_eq_of_le (by omega) (by omega)
theorem Yh_ui {f : Nat → Nat → Int32} {p n y : Nat} {v : Int32} (hy : y < n) : Yh (m_ui f p y v) p n = fun w => if w = y then v.toInt else Yh f p n w := by
  funext w
  unfold Yh
  by_cases h : w < n
  · rw [if_pos h, if_pos h]
    by_cases e : w = y
    · subst e
      rw [m_ui_s, if_pos rfl]
    · rw [m_ui_o (by omega), if_neg e]
  · rw [if_neg h, if_neg h, if_neg (by omega)]
set_option maxRecDepth 100000 in
set_option maxHeartbeats 8000000 in
theorem rl_in {d L n m r : Nat} {f0 : Nat → Nat → Int32} {g : Nat → Nat → Int64} {q : Nat → Nat} {R : Option Value → mH → Prop} (hC : CT f0 n m q)
    (H0 : ¬ (∃ X, Sol m (eA f0 q) (eU f0 q) (eV f0 q) (eD f0 q) X ∧ (∀ w, Yh f0 11 n w ≤ X w) ∧ ∀ w, w < n → X w ≤ Yh f0 12 n w) → ∀ f, o134 f0 f → R (some (.int 0)) (shF L, f, g))
    (HO : ∀ (f : Nat → Nat → Int32) (ch x : Int32) (s4 s5 s6 : Option Value), x = nI m → o134 f0 f → (∀ w, w < n → inr 1800 1999 (f 134 w) ∧ f 134 w ≤ f0 12 w) → Yh f 134 n = rnds m (eA f0 q) (eU f0 q) (eV f0 q) (eD f0 q) (r + 1) (Yh f0 11 n) → ((ch = 0 ∧ ∀ w, Yh f 134 n w = (rnds m (eA f0 q) (eU f0 q) (eV f0 q) (eD f0 q) r (Yh f0 11 n)) w) ∨ (ch = 1 ∧ ∃ w, ¬ Yh f 134 n w = (rnds m (eA f0 q) (eU f0 q) (eV f0 q) (eD f0 q) r (Yh f0 11 n)) w)) → WPe pg_X9_raiseLows none (Run mtab d) R (m_drop pg_X9_raiseLows 21) [some (.ref 129), some (.int (nI r)), some (.int ch), some (.int x), s4, s5, s6] [] (shF L, f, g)) :
    ∀ (k i : Nat) (x ch : Int32) (s4 s5 s6 : Option Value) (f : Nat → Nat → Int32), i + k = m → x = nI i → o134 f0 f → (∀ w, w < n → inr 1800 1999 (f 134 w) ∧ f 134 w ≤ f0 12 w) → Yh f 134 n = rnd_ (eA f0 q) (eU f0 q) (eV f0 q) (eD f0 q) i (rnds m (eA f0 q) (eU f0 q) (eV f0 q) (eD f0 q) r (Yh f0 11 n)) → ((ch = 0 ∧ ∀ w, Yh f 134 n w = (rnds m (eA f0 q) (eU f0 q) (eV f0 q) (eD f0 q) r (Yh f0 11 n)) w) ∨ (ch = 1 ∧ ∃ w, ¬ Yh f 134 n w = (rnds m (eA f0 q) (eU f0 q) (eV f0 q) (eD f0 q) r (Yh f0 11 n)) w)) → WPe pg_X9_raiseLows none (Run mtab d) R (m_drop pg_X9_raiseLows 21) [some (.ref 129), some (.int (nI r)), some (.int ch), some (.int x), s4, s5, s6] [] (shF L, f, g)
  | 0, i, x, ch, s4, s5, s6, f, hi, hx, hF, hr, hL, hch => by
    have e : i = m := by omega
    subst e
    exact HO f ch x s4 s5 s6 hx hF hr hL hch
  | k + 1, i, x, ch, s4, s5, s6, f, hi, hx, hF, hr, hL, hch => by
    subst hx
    obtain ⟨hn, hm, c6, c129, ce, cy⟩ := id hC
    obtain ⟨hq, e136, ⟨xu, hxu, e130⟩, ⟨yv, hyv, e131⟩, e132⟩ := ce i (by omega)
    have hcl : (nI i).toNatClampNeg = i := nI_clamp (by omega)
    have hcq : (nI (q i)).toNatClampNeg = q i := nI_clamp (by omega)
    have hcx : (nI xu).toNatClampNeg = xu := nI_clamp (by omega)
    have hcy : (nI yv).toNatClampNeg = yv := nI_clamp (by omega)
    have g129 : f 129 11 = nI m := (hF 129 11 (by omega)).trans c129
    have g136 : f 136 i = nI (q i) := (hF 136 i (by omega)).trans e136
    have g130 : f 130 (q i) = nI xu := (hF 130 _ (by omega)).trans e130
    have g131 : f 131 (q i) = nI yv := (hF 131 _ (by omega)).trans e131
    have g132 : f 132 (q i) = f0 132 (q i) := hF 132 _ (by omega)
    have g137 : f 137 (q i) = f0 137 (q i) := hF 137 _ (by omega)
    have g12 : f 12 yv = f0 12 yv := hF 12 _ (by omega)
    have hU : eU f0 q i = xu := by
      show (f0 130 (q i)).toNatClampNeg = xu
      rw [e130]
      exact hcx
    have hV : eV f0 q i = yv := by
      show (f0 131 (q i)).toNatClampNeg = yv
      rw [e131]
      exact hcy
    have r1 := i1800 (hr xu hxu).1
    have r2 := i30 e132
    have r3 := i1800 (hr yv hyv).1
    have es : (f 134 xu + f0 132 (q i)).toInt = (f 134 xu).toInt + (f0 132 (q i)).toInt := add_int (by omega) (by omega) r2.1 r2.2
    have same : ¬ (eA f0 q i = true ∧ Yh f 134 n yv < Yh f 134 n xu + eD f0 q i) → Yh f 134 n = rnd_ (eA f0 q) (eU f0 q) (eV f0 q) (eD f0 q) (i + 1) (rnds m (eA f0 q) (eU f0 q) (eV f0 q) (eD f0 q) r (Yh f0 11 n)) := fun z => by
      show Yh f 134 n = rlx (eA f0 q) (eU f0 q) (eV f0 q) (eD f0 q) i (rnd_ (eA f0 q) (eU f0 q) (eV f0 q) (eD f0 q) i (rnds m (eA f0 q) (eU f0 q) (eV f0 q) (eD f0 q) r (Yh f0 11 n)))
      rw [← hL]
      funext w
      unfold rlx
      rw [hU, hV, if_neg (fun y => z y.2)]
    have on : ∀ (s4 s5 s6 : Option Value), ¬ (eA f0 q i = true ∧ Yh f 134 n yv < Yh f 134 n xu + eD f0 q i) → WPe pg_X9_raiseLows none (Run mtab d) R (m_drop pg_X9_raiseLows 21) [some (.ref 129), some (.int (nI r)), some (.int ch), some (.int (nI i + 1)), s4, s5, s6] [] (shF L, f, g) := fun s4 s5 s6 z => rl_in hC H0 HO k (i + 1) _ ch s4 s5 s6 f (by omega) (nI_1 i) hF hr (same z) hch
    refine at_X9_raiseLows ?_
    conv => whnf
    simp only [g129]
    refine ⟨fun c => absurd c (nI_ge (b := m) (by omega) (by omega)), fun c => ?_⟩
    conv => whnf
    refine ⟨vp_in_nI (by omega) (by decide), ?_⟩
    conv => whnf
    simp only [hcl, g136]
    refine ⟨vp_in_nI (by omega) (by decide), ?_⟩
    conv => whnf
    refine ⟨vp_in_nI (by omega) (by decide), ?_⟩
    conv => whnf
    simp only [hcq, g130, g131]
    refine ⟨vp_in_nI (by omega) (by decide), ?_⟩
    conv => whnf
    refine ⟨vp_in_nI (by omega) (by decide), ?_⟩
    conv => whnf
    refine ⟨vp_in_nI (by omega) (by decide), ?_⟩
    conv => whnf
    simp only [hcq, hcx, g132, g137]
    refine ⟨fun c1 => ?_, fun c1 => ?_⟩
    · conv => whnf
      exact on _ _ _ (fun z => c1 (of_decide_eq_true z.1))
    · conv => whnf
      refine ⟨vp_in_nI (by omega) (by decide), ?_⟩
      conv => whnf
      simp only [hcy]
      refine ⟨fun c2 => ?_, fun c2 => ?_⟩
      · conv => whnf
        refine on _ _ _ (fun z => ?_)
        have z2 := z.2
        rw [Yh_t hyv, Yh_t hxu] at z2
        have c3 := Int32.le_iff_toInt_le.mp c2
        rw [es] at c3
        have e9 : eD f0 q i = (f0 132 (q i)).toInt := rfl
        omega
      · have c3 : (f 134 yv).toInt < (f 134 xu).toInt + (f0 132 (q i)).toInt := by
          have := Int32.lt_iff_toInt_lt.mp (i32_nle.mp c2)
          rw [es] at this
          exact this
        have hA : eA f0 q i = true := decide_eq_true c1
        conv => whnf
        refine ⟨vp_in_nI (by omega) (by decide), ?_⟩
        conv => whnf
        simp only [hcy, g12]
        refine ⟨fun c4 => ?_, fun c4 => ?_⟩
        · have c5 := Int32.le_iff_toInt_le.mp c4
          rw [es] at c5
          have b12 := i1800 (cy yv hyv).2.1
          conv => whnf
          refine ⟨vp_in_nI (by omega) (by decide), ?_⟩
          conv => whnf
          simp only [hcy]
          have hL2 : Yh (m_ui f 134 yv (f 134 xu + f0 132 (q i))) 134 n = rnd_ (eA f0 q) (eU f0 q) (eV f0 q) (eD f0 q) (i + 1) (rnds m (eA f0 q) (eU f0 q) (eV f0 q) (eD f0 q) r (Yh f0 11 n)) := by
            show _ = rlx (eA f0 q) (eU f0 q) (eV f0 q) (eD f0 q) i (rnd_ (eA f0 q) (eU f0 q) (eV f0 q) (eD f0 q) i (rnds m (eA f0 q) (eU f0 q) (eV f0 q) (eD f0 q) r (Yh f0 11 n)))
            rw [← hL, Yh_ui hyv]
            funext w
            unfold rlx
            rw [hU, hV]
            by_cases e : w = yv
            · rw [if_pos e, if_pos ⟨e, hA, by rw [Yh_t hyv, Yh_t hxu]; exact c3⟩, es, Yh_t hxu]
              rfl
            · rw [if_neg e, if_neg (fun z => e z.1)]
          refine rl_in hC H0 HO k (i + 1) _ _ _ _ _ _ (by omega) (nI_1 i) (fun a b h1 => by rw [m_ui_o (by omega)]; exact hF a b h1) (fun w hw => ?_) hL2 (Or.inr ⟨rfl, yv, ?_⟩)
          · by_cases e : w = yv
            · subst e
              rw [m_ui_s]
              refine ⟨⟨?_, ?_⟩, c4⟩
              · rw [Int32.le_iff_toInt_le, es]
                have e1 : (1800 : Int32).toInt = 1800 := rfl
                omega
              · rw [Int32.le_iff_toInt_le, es]
                have e1 : (1999 : Int32).toInt = 1999 := rfl
                omega
            · rw [m_ui_o (by omega)]
              exact hr w hw
          · have mono := rnd_ge (A := eA f0 q) (u := eU f0 q) (v := eV f0 q) (a := eD f0 q) (L := (rnds m (eA f0 q) (eU f0 q) (eV f0 q) (eD f0 q) r (Yh f0 11 n))) i yv
            rw [← hL, Yh_t hyv] at mono
            have e7 : Yh (m_ui f 134 yv (f 134 xu + f0 132 (q i))) 134 n yv = (f 134 xu).toInt + (f0 132 (q i)).toInt := by
              rw [Yh_t hyv, m_ui_s, es]
            omega
        · have c5 := Int32.lt_iff_toInt_lt.mp (i32_nle.mp c4)
          rw [es] at c5
          conv => whnf
          refine ⟨Or.inl rfl, H0 (fun hX => ?_) f hF⟩
          obtain ⟨X, x1, x2, x3⟩ := hX
          have l1 : ∀ r' w, rnds m (eA f0 q) (eU f0 q) (eV f0 q) (eD f0 q) r' (Yh f0 11 n) w ≤ X w := fun r' => by
            induction r' with
            | zero => exact x2
            | succ r' ih => exact rnd_le x1 ih m (Nat.le_refl m)
          have l2 := rnd_le x1 (l1 r) i (by omega) xu
          rw [← hL, Yh_t hxu] at l2
          have l3 := x1 i (by omega) hA
          rw [hU, hV] at l3
          have l4 := x3 yv hyv
          rw [Yh_t hyv] at l4
          have e9 : eD f0 q i = (f0 132 (q i)).toInt := rfl
          omega
set_option maxRecDepth 100000 in
set_option maxHeartbeats 8000000 in
theorem rl_out {d L n m : Nat} {f0 : Nat → Nat → Int32} {g : Nat → Nat → Int64} {q : Nat → Nat} {R : Option Value → mH → Prop} (hC : CT f0 n m q)
    (H0 : ¬ (∃ X, Sol m (eA f0 q) (eU f0 q) (eV f0 q) (eD f0 q) X ∧ (∀ w, Yh f0 11 n w ≤ X w) ∧ ∀ w, w < n → X w ≤ Yh f0 12 n w) → ∀ f, o134 f0 f → R (some (.int 0)) (shF L, f, g))
    (H1 : ∀ f, o134 f0 f → (∀ w, w < n → inr 1800 1999 (f 134 w) ∧ f 134 w ≤ f0 12 w) → Lst m (eA f0 q) (eU f0 q) (eV f0 q) (eD f0 q) (Yh f0 11 n) (Yh f 134 n) → R (some (.int 1)) (shF L, f, g)) :
    ∀ (k r : Nat) (x : Int32) (s2 s3 s4 s5 s6 : Option Value) (f : Nat → Nat → Int32), r + k = m + 1 → x = nI r → o134 f0 f → (∀ w, w < n → inr 1800 1999 (f 134 w) ∧ f 134 w ≤ f0 12 w) → Yh f 134 n = (rnds m (eA f0 q) (eU f0 q) (eV f0 q) (eD f0 q) r (Yh f0 11 n)) → (r = m + 1 → ∃ w, ¬ rnds m (eA f0 q) (eU f0 q) (eV f0 q) (eD f0 q) (m + 1) (Yh f0 11 n) w = rnds m (eA f0 q) (eU f0 q) (eV f0 q) (eD f0 q) m (Yh f0 11 n) w) → WPe pg_X9_raiseLows none (Run mtab d) R (m_drop pg_X9_raiseLows 13) [some (.ref 129), some (.int x), s2, s3, s4, s5, s6] [] (shF L, f, g)
  | 0, r, x, s2, s3, s4, s5, s6, f, hk, hx, hF, hr, hL, hch => by
    have e : r = m + 1 := by omega
    subst e
    subst hx
    have g129 : f 129 11 = nI m := (hF 129 11 (by omega)).trans hC.2.2.2.1
    have hm := hC.2.1
    refine at_X9_raiseLows ?_
    conv => whnf
    simp only [g129]
    refine ⟨fun c => ?_, fun c => absurd (nI_lt (by omega) (by omega)) c⟩
    conv => whnf
    refine ⟨Or.inl rfl, H0 (fun hX => ?_) f hF⟩
    obtain ⟨X, x1, x2, x3⟩ := hX
    obtain ⟨Z, hZ⟩ := Lst_ex x1 x2
    obtain ⟨w, hw⟩ := hch rfl
    exact hw ((rnds_m hZ (by omega) w).trans (rnds_m hZ (Nat.le_refl m) w).symm)
  | k + 1, r, x, s2, s3, s4, s5, s6, f, hk, hx, hF, hr, hL, hch => by
    subst hx
    have g129 : f 129 11 = nI m := (hF 129 11 (by omega)).trans hC.2.2.2.1
    have hm := hC.2.1
    refine at_X9_raiseLows ?_
    conv => whnf
    simp only [g129]
    refine ⟨fun c => absurd c (nI_nlt (by omega) (by omega)), fun c => ?_⟩
    conv => whnf
    refine rl_in hC H0 (fun f1 ch x s4 s5 s6 hx1 hF1 hr1 hL1 hch1 => ?_) m 0 _ _ _ _ _ f (by omega) rfl hF hr hL (Or.inl ⟨rfl, fun w => congrFun hL w⟩)
    subst hx1
    have k129 : f1 129 11 = nI m := (hF1 129 11 (by omega)).trans hC.2.2.2.1
    refine at_X9_raiseLows ?_
    conv => whnf
    simp only [k129]
    refine ⟨fun c => ?_, fun c => absurd (nI_le (Nat.le_refl _) (by omega)) c⟩
    rcases hch1 with ⟨rfl, h0⟩ | ⟨rfl, h0⟩
    · conv => whnf
      (refine ⟨fun z9 => ?_, fun z9 => ?_⟩ <;> first | ((have c9 : (1 : Int32) = 0 := by with_reducible exact z9); exact absurd c9 (by decide)) | exact absurd (rfl : (0 : Int32) = 0) (by with_reducible exact z9) | exact absurd True.intro (by with_reducible exact z9) | exact False.elim (by with_reducible exact z9) | (conv => whnf))
      have hS : Sol m (eA f0 q) (eU f0 q) (eV f0 q) (eD f0 q) (Yh f1 134 n) := by
        refine rnd_fix (fun w => ?_)
        have e1 : Yh f1 134 n = (rnds m (eA f0 q) (eU f0 q) (eV f0 q) (eD f0 q) r (Yh f0 11 n)) := funext h0
        rw [e1]
        exact (congrFun hL1 w).symm.trans (congrFun e1 w)
      have up : ∀ r' w, Yh f0 11 n w ≤ rnds m (eA f0 q) (eU f0 q) (eV f0 q) (eD f0 q) r' (Yh f0 11 n) w := fun r' => by
        induction r' with
        | zero => exact fun w => Int.le_refl _
        | succ r' ih => exact fun w => Int.le_trans (ih w) (rnd_ge m w)
      refine ⟨Or.inr rfl, H1 f1 hF1 hr1 ⟨hS, fun w => ?_, fun Y y1 y2 w => ?_⟩⟩
      · rw [hL1]
        exact up (r + 1) w
      · have l1 : ∀ r' w, rnds m (eA f0 q) (eU f0 q) (eV f0 q) (eD f0 q) r' (Yh f0 11 n) w ≤ Y w := fun r' => by
          induction r' with
          | zero => exact y2
          | succ r' ih => exact rnd_le y1 ih m (Nat.le_refl m)
        rw [hL1]
        exact l1 (r + 1) w
    · conv => whnf
      (refine ⟨fun z9 => ?_, fun z9 => ?_⟩ <;> first | ((have c9 : (1 : Int32) = 0 := by with_reducible exact z9); exact absurd c9 (by decide)) | exact absurd (rfl : (0 : Int32) = 0) (by with_reducible exact z9) | exact absurd True.intro (by with_reducible exact z9) | exact False.elim (by with_reducible exact z9) | (conv => whnf))
      refine rl_out hC H0 H1 k (r + 1) _ _ _ _ _ _ f1 (by omega) (nI_1 r) hF1 hr1 hL1 (fun e => ?_)
      have e1 : r = m := by omega
      subst e1
      obtain ⟨w, hw⟩ := h0
      exact ⟨w, fun z => hw ((congrFun hL1 w).trans z)⟩
theorem cp_n {n : Nat} (hn : n ≤ 40) : (nI n).toNatClampNeg = n := nI_clamp (by omega)
theorem cp_ok {n : Nat} (hn : n ≤ 40) : ¬ (0 : Int32) < 0 ∧ ¬ (0 : Int32) < 0 ∧ ¬ nI n < 0 ∧ (0 : Int32).toNatClampNeg + (nI n).toNatClampNeg ≤ 40 ∧ (0 : Int32).toNatClampNeg + (nI n).toNatClampNeg ≤ 40 := by
  rw [cp_n hn]
  have e0 : (0 : Int32).toNatClampNeg = 0 := rfl
  rw [e0]
  exact ⟨by decide, by decide, nI_pos (by omega), by omega, by omega⟩
set_option maxRecDepth 100000 in
set_option maxHeartbeats 4000000 in
theorem sf_raiseLows {d L : Nat} {f : Nat → Nat → Int32} {g : Nat → Nat → Int64} {n m : Nat} {q : Nat → Nat} {R : Option Value → mH → Prop} (hd : 2 ≤ d) (hC : CT f n m q) (H0 : ¬ (∃ X, Sol m (eA f q) (eU f q) (eV f q) (eD f q) X ∧ (∀ w, Yh f 11 n w ≤ X w) ∧ ∀ w, w < n → X w ≤ Yh f 12 n w) → ∀ f', o134 f f' → R (some (.int 0)) (shF L, f', g)) (H1 : ∀ f', o134 f f' → (∀ w, w < n → inr 1800 1999 (f' 134 w) ∧ f' 134 w ≤ f 12 w) → Lst m (eA f q) (eU f q) (eV f q) (eD f q) (Yh f 11 n) (Yh f' 134 n) → R (some (.int 1)) (shF L, f', g)) : Run mtab d 81 [.ref 129] (shF L, f, g) R := by
  obtain ⟨d, rfl⟩ : ∃ e, d = e + 1 := ⟨d - 1, by omega⟩
  refine go_X9_raiseLows rfl ?_
  conv => whnf
  obtain ⟨hn, hm, c6, c129, ce, cy⟩ := id hC
  simp only [c6]
  refine rp_cpy (a := 11) (b := 134) (by omega) rfl rfl rfl (cp_ok hn) ?_
  conv => whnf
  refine rl_out hC H0 H1 (m + 1) 0 _ _ _ _ _ _ _ (by omega) rfl (fun a i h1 => ?_) (fun w hw => ?_) ?_ (fun e => absurd e (by omega))
  · rw [m_cpy_ap, if_neg h1]
  · rw [m_cpy_ap, if_pos rfl, cp_n hn, show (0 : Int32).toNatClampNeg = 0 from rfl, if_pos (by omega), show 0 + (w - 0) = w by omega]
    exact ⟨(cy w hw).1, (cy w hw).2.2⟩
  · funext w
    unfold Yh
    by_cases h : w < n
    · rw [if_pos h, m_cpy_ap, if_pos rfl, cp_n hn, show (0 : Int32).toNatClampNeg = 0 from rfl, if_pos (by omega), show 0 + (w - 0) = w by omega]
      exact (if_pos h).symm
    · rw [if_neg h]
      exact (if_neg h).symm
/-- the clues whose bits are set -/
def mA_ (bits : Int32) : Nat → Bool := fun k => decide ((bits >>> (nI k &&& 31)) &&& 1 = 1)
def mU_ (f : Nat → Nat → Int32) : Nat → Nat := fun k => (f 196 k).toNatClampNeg
def mV_ (f : Nat → Nat → Int32) : Nat → Nat := fun k => (f 197 k).toNatClampNeg
def mD_ (f : Nat → Nat → Int32) : Nat → Int := fun k => (f 198 k).toInt
def CM (f : Nat → Nat → Int32) (n c : Nat) : Prop := n ≤ 40 ∧ c ≤ 20 ∧ f 181 0 = nI n ∧ f 181 16 = nI c ∧ (∀ k, k < c → (∃ x, x < n ∧ f 196 k = nI x) ∧ (∃ y, y < n ∧ f 197 k = nI y) ∧ inr (-30) 30 (f 198 k)) ∧ (∀ j, j < n → inr 1800 1999 (f 187 j) ∧ inr 1800 1999 (f 188 j) ∧ f 187 j ≤ f 188 j)
def o200 (f0 f : Nat → Nat → Int32) : Prop := ∀ a i, ¬ a = 200 → f a i = f0 a i
set_option maxRecDepth 100000 in
set_option maxHeartbeats 8000000 in
theorem fl_in {d L n c M : Nat} {f0 : Nat → Nat → Int32} {g : Nat → Nat → Int64} {bits : Int32} {R : Option Value → mH → Prop} (hC : CM f0 n c) (H0 : ¬ (∃ X, Sol c (mA_ bits) (mU_ f0) (mV_ f0) (mD_ f0) X ∧ (∀ w, Yh f0 187 n w ≤ X w) ∧ ∀ w, w < n → X w ≤ Yh f0 188 n w) → ∀ f, o200 f0 f → R (some (.int 0)) (shF L, f, g))
    (HO : ∀ (f : Nat → Nat → Int32) (mo : Int32) (s3 s4 : Option Value), o200 f0 f → (∀ w, w < n → inr 1800 1999 (f 200 w) ∧ f 200 w ≤ f0 188 w) → (∀ w, Yh f0 187 n w ≤ Yh f 200 n w) → (∀ X, Sol c (mA_ bits) (mU_ f0) (mV_ f0) (mD_ f0) X → (∀ w, Yh f0 187 n w ≤ X w) → ∀ w, Yh f 200 n w ≤ X w) → ((mo = 0 ∧ (∀ k, k < c → mA_ bits k = true → Yh f 200 n (mU_ f0 k) + mD_ f0 k ≤ Yh f 200 n (mV_ f0 k))) ∨ (mo = 1 ∧ mu f < M)) → WPe pg_X11_findLeast none (Run mtab d) R (m_drop pg_X11_findLeast 18) [some (.ref 181), some (.int bits), some (.int mo), s3, s4] [] (shF L, f, g)) :
    ∀ (k i : Nat) (x mo : Int32) (s4 : Option Value) (f : Nat → Nat → Int32), i + k = c → x = nI i → o200 f0 f → (∀ w, w < n → inr 1800 1999 (f 200 w) ∧ f 200 w ≤ f0 188 w) → (∀ w, Yh f0 187 n w ≤ Yh f 200 n w) → (∀ X, Sol c (mA_ bits) (mU_ f0) (mV_ f0) (mD_ f0) X → (∀ w, Yh f0 187 n w ≤ X w) → ∀ w, Yh f 200 n w ≤ X w) → mu f ≤ M → ((mo = 0 ∧ (∀ k, k < i → mA_ bits k = true → Yh f 200 n (mU_ f0 k) + mD_ f0 k ≤ Yh f 200 n (mV_ f0 k))) ∨ (mo = 1 ∧ mu f < M)) → WPe pg_X11_findLeast none (Run mtab d) R (m_drop pg_X11_findLeast 24) [some (.ref 181), some (.int bits), some (.int mo), some (.int x), s4] [] (shF L, f, g)
  | 0, i, x, mo, s4, f, hi, hx, hF, hr, hlo, hle, hM, hch => by
    have e : i = c := by omega
    subst e
    subst hx
    have g16 : f 181 16 = nI i := (hF 181 16 (by omega)).trans hC.2.2.2.1
    have hc := hC.2.1
    refine at_X11_findLeast ?_
    conv => whnf
    simp only [g16]
    refine ⟨fun q => ?_, fun q => absurd (nI_le (Nat.le_refl _) (by omega)) q⟩
    conv => whnf
    exact HO f mo _ _ hF hr hlo hle hch
  | k + 1, i, x, mo, s4, f, hi, hx, hF, hr, hlo, hle, hM, hch => by
    subst hx
    obtain ⟨hn, hc, c0, c16, ce, cy⟩ := id hC
    obtain ⟨⟨xu, hxu, e196⟩, ⟨yv, hyv, e197⟩, e198⟩ := ce i (by omega)
    have hcl : (nI i).toNatClampNeg = i := nI_clamp (by omega)
    have hcx : (nI xu).toNatClampNeg = xu := nI_clamp (by omega)
    have hcy : (nI yv).toNatClampNeg = yv := nI_clamp (by omega)
    have g16 : f 181 16 = nI c := (hF 181 16 (by omega)).trans c16
    have g196 : f 196 i = nI xu := (hF 196 _ (by omega)).trans e196
    have g197 : f 197 i = nI yv := (hF 197 _ (by omega)).trans e197
    have g198 : f 198 i = f0 198 i := hF 198 _ (by omega)
    have g188 : f 188 yv = f0 188 yv := hF 188 _ (by omega)
    have hU : mU_ f0 i = xu := by
      show (f0 196 i).toNatClampNeg = xu
      rw [e196]
      exact hcx
    have hV : mV_ f0 i = yv := by
      show (f0 197 i).toNatClampNeg = yv
      rw [e197]
      exact hcy
    have r1 := i1800 (hr xu hxu).1
    have r2 := i30 e198
    have r3 := i1800 (hr yv hyv).1
    have es : (f 200 xu + f0 198 i).toInt = (f 200 xu).toInt + (f0 198 i).toInt := add_int (by omega) (by omega) r2.1 r2.2
    have e9 : mD_ f0 i = (f0 198 i).toInt := rfl
    have hiv : ¬ ¬ f 200 yv ≤ f0 188 yv := fun z => z (hr yv hyv).2
    have on : ∀ s4 : Option Value, (mA_ bits i = true → (f 200 xu).toInt + (f0 198 i).toInt ≤ (f 200 yv).toInt) → WPe pg_X11_findLeast none (Run mtab d) R (m_drop pg_X11_findLeast 24) [some (.ref 181), some (.int bits), some (.int mo), some (.int (nI i + 1)), s4] [] (shF L, f, g) := fun s4 z => fl_in hC H0 HO k (i + 1) _ mo s4 f (by omega) (nI_1 i) hF hr hlo hle hM (hch.imp (fun w => ⟨w.1, fun k' hk' hA => by
      by_cases e : k' = i
      · subst e
        rw [hU, hV, Yh_t hxu, Yh_t hyv, e9]
        exact z hA
      · exact w.2 k' (by omega) hA⟩) id)
    refine at_X11_findLeast ?_
    conv => whnf
    simp only [g16]
    refine ⟨fun q => absurd q (nI_ge (b := c) (by omega) (by omega)), fun q => ?_⟩
    conv => whnf
    refine ⟨fun cA => ?_, fun cA => ?_⟩
    · have hA : mA_ bits i = false := decide_eq_false cA
      conv => whnf
      refine ⟨vp_in_nI (by omega) (by decide), ?_⟩
      conv => whnf
      simp only [hcl, g197]
      refine ⟨vp_in_nI (by omega) (by decide), ?_⟩
      conv => whnf
      simp only [hcy]
      refine ⟨fun c2 => ?_, fun c2 => absurd (Int32.le_iff_toInt_le.mpr (show (1800 : Int32).toInt ≤ _ from by have e1 : (1800 : Int32).toInt = 1800 := rfl; omega)) c2⟩
      conv => whnf
      refine ⟨vp_in_nI (by omega) (by decide), ?_⟩
      conv => whnf
      simp only [hcl, g197]
      refine ⟨vp_in_nI (by omega) (by decide), ?_⟩
      conv => whnf
      refine ⟨vp_in_nI (by omega) (by decide), ?_⟩
      conv => whnf
      simp only [hcl, g197]
      refine ⟨vp_in_nI (by omega) (by decide), ?_⟩
      conv => whnf
      simp only [hcy, g188]
      refine ⟨fun c4 => ?_, fun c4 => absurd c4 hiv⟩
      conv => whnf
      exact on _ (fun z => by rw [hA] at z; cases z)
    · have hA : mA_ bits i = true := decide_eq_true cA
      conv => whnf
      refine ⟨vp_in_nI (by omega) (by decide), ?_⟩
      conv => whnf
      simp only [hcl, g196]
      refine ⟨vp_in_nI (by omega) (by decide), ?_⟩
      conv => whnf
      refine ⟨vp_in_nI (by omega) (by decide), ?_⟩
      conv => whnf
      simp only [hcl, hcx, g198]
      refine ⟨vp_in_nI (by omega) (by decide), ?_⟩
      conv => whnf
      simp only [hcl, g197]
      refine ⟨vp_in_nI (by omega) (by decide), ?_⟩
      conv => whnf
      simp only [hcy]
      refine ⟨fun c2 => ?_, fun c2 => ?_⟩
      · conv => whnf
        refine ⟨vp_in_nI (by omega) (by decide), ?_⟩
        conv => whnf
        simp only [hcl, g197]
        refine ⟨vp_in_nI (by omega) (by decide), ?_⟩
        conv => whnf
        refine ⟨vp_in_nI (by omega) (by decide), ?_⟩
        conv => whnf
        simp only [hcl, g197]
        refine ⟨vp_in_nI (by omega) (by decide), ?_⟩
        conv => whnf
        simp only [hcy, g188]
        refine ⟨fun c4 => ?_, fun c4 => absurd c4 hiv⟩
        conv => whnf
        refine on _ (fun _ => ?_)
        have c3 := Int32.le_iff_toInt_le.mp c2
        rw [es] at c3
        exact c3
      · have c3 : (f 200 yv).toInt < (f 200 xu).toInt + (f0 198 i).toInt := by
          have := Int32.lt_iff_toInt_lt.mp (i32_nle.mp c2)
          rw [es] at this
          exact this
        have hmu : mu (m_ui f 200 yv (f 200 xu + f0 198 i)) < mu f := mu_up (by omega) c2
        have hF2 : o200 f0 (m_ui f 200 yv (f 200 xu + f0 198 i)) := fun a b h1 => by
          rw [m_ui_o (by omega)]
          exact hF a b h1
        have w197 : m_ui f 200 yv (f 200 xu + f0 198 i) 197 i = nI yv := (m_ui_o (by omega)).trans g197
        have w188 : m_ui f 200 yv (f 200 xu + f0 198 i) 188 yv = f0 188 yv := (m_ui_o (by omega)).trans g188
        have w200 : m_ui f 200 yv (f 200 xu + f0 198 i) 200 yv = f 200 xu + f0 198 i := m_ui_s
        conv => whnf
        refine ⟨vp_in_nI (by omega) (by decide), ?_⟩
        conv => whnf
        simp only [hcl, g197]
        refine ⟨vp_in_nI (by omega) (by decide), ?_⟩
        conv => whnf
        simp only [hcy]
        refine ⟨vp_in_nI (by omega) (by decide), ?_⟩
        conv => whnf
        simp only [hcl, g197, w197]
        refine ⟨vp_in_nI (by omega) (by decide), ?_⟩
        conv => whnf
        refine ⟨vp_in_nI (by omega) (by decide), ?_⟩
        conv => whnf
        simp only [hcl, g197, w197]
        refine ⟨vp_in_nI (by omega) (by decide), ?_⟩
        conv => whnf
        simp only [hcy, g188, w188, w200]
        refine ⟨fun c4 => ?_, fun c4 => ?_⟩
        · have c5 := Int32.le_iff_toInt_le.mp c4
          rw [es] at c5
          have b12 := i1800 (cy yv hyv).2.1
          conv => whnf
          refine fl_in hC H0 HO k (i + 1) _ _ _ _ (by omega) (nI_1 i) hF2 (fun w hw => ?_) (fun w => ?_) (fun X x1 x2 w => ?_) (by omega) (Or.inr ⟨rfl, by omega⟩)
          · by_cases e : w = yv
            · subst e
              rw [m_ui_s]
              refine ⟨⟨?_, ?_⟩, c4⟩
              · rw [Int32.le_iff_toInt_le, es]
                have e1 : (1800 : Int32).toInt = 1800 := rfl
                omega
              · rw [Int32.le_iff_toInt_le, es]
                have e1 : (1999 : Int32).toInt = 1999 := rfl
                omega
            · rw [m_ui_o (by omega)]
              exact hr w hw
          · rw [Yh_ui hyv]
            have h1 := hlo w
            show _ ≤ (if w = yv then (f 200 xu + f0 198 i).toInt else Yh f 200 n w)
            by_cases e : w = yv
            · subst e
              rw [if_pos rfl, es]
              rw [Yh_t hyv (f := f)] at h1
              omega
            · rw [if_neg e]
              exact h1
          · rw [Yh_ui hyv]
            show (if w = yv then (f 200 xu + f0 198 i).toInt else Yh f 200 n w) ≤ X w
            by_cases e : w = yv
            · subst e
              rw [if_pos rfl, es]
              have l1 := x1 i (by omega) hA
              have l2 := hle X x1 x2 xu
              rw [hU, hV] at l1
              rw [Yh_t hxu] at l2
              omega
            · rw [if_neg e]
              exact hle X x1 x2 w
        · have c5 := Int32.lt_iff_toInt_lt.mp (i32_nle.mp c4)
          rw [es] at c5
          conv => whnf
          refine ⟨Or.inl rfl, H0 (fun hX => ?_) _ hF2⟩
          obtain ⟨X, x1, x2, x3⟩ := hX
          have l1 := x1 i (by omega) hA
          have l2 := hle X x1 x2 xu
          rw [hU, hV] at l1
          rw [Yh_t hxu] at l2
          have l4 := x3 yv hyv
          rw [Yh_t hyv] at l4
          omega
set_option maxRecDepth 100000 in
set_option maxHeartbeats 8000000 in
theorem fl_out {d L n c : Nat} {f0 : Nat → Nat → Int32} {g : Nat → Nat → Int64} {bits : Int32} {R : Option Value → mH → Prop} (hC : CM f0 n c) (H0 : ¬ (∃ X, Sol c (mA_ bits) (mU_ f0) (mV_ f0) (mD_ f0) X ∧ (∀ w, Yh f0 187 n w ≤ X w) ∧ ∀ w, w < n → X w ≤ Yh f0 188 n w) → ∀ f, o200 f0 f → R (some (.int 0)) (shF L, f, g))
    (H1 : ∀ f, o200 f0 f → (∀ w, w < n → inr 1800 1999 (f 200 w) ∧ f 200 w ≤ f0 188 w) → Lst c (mA_ bits) (mU_ f0) (mV_ f0) (mD_ f0) (Yh f0 187 n) (Yh f 200 n) → R (some (.int 1)) (shF L, f, g)) :
    ∀ (N : Nat) (mo : Int32) (s3 s4 : Option Value) (f : Nat → Nat → Int32), o200 f0 f → (∀ w, w < n → inr 1800 1999 (f 200 w) ∧ f 200 w ≤ f0 188 w) → (∀ w, Yh f0 187 n w ≤ Yh f 200 n w) → (∀ X, Sol c (mA_ bits) (mU_ f0) (mV_ f0) (mD_ f0) X → (∀ w, Yh f0 187 n w ≤ X w) → ∀ w, Yh f 200 n w ≤ X w) → ((mo = 0 ∧ (∀ k, k < c → mA_ bits k = true → Yh f 200 n (mU_ f0 k) + mD_ f0 k ≤ Yh f 200 n (mV_ f0 k))) ∨ (mo = 1 ∧ mu f < N)) → WPe pg_X11_findLeast none (Run mtab d) R (m_drop pg_X11_findLeast 18) [some (.ref 181), some (.int bits), some (.int mo), s3, s4] [] (shF L, f, g) := by
  intro N
  induction N with
  | zero =>
    intro mo s3 s4 f hF hr hlo hle hch
    rcases hch with ⟨rfl, hS⟩ | ⟨_, h⟩
    · refine at_X11_findLeast ?_
      conv => whnf
      refine ⟨fun _ => ?_, fun q => absurd rfl q⟩
      conv => whnf
      exact ⟨Or.inr rfl, H1 f hF hr ⟨hS, hlo, hle⟩⟩
    · omega
  | succ N ih =>
    intro mo s3 s4 f hF hr hlo hle hch
    rcases hch with ⟨rfl, hS⟩ | ⟨rfl, h⟩
    · refine at_X11_findLeast ?_
      conv => whnf
      refine ⟨fun _ => ?_, fun q => absurd rfl q⟩
      conv => whnf
      exact ⟨Or.inr rfl, H1 f hF hr ⟨hS, hlo, hle⟩⟩
    · refine at_X11_findLeast ?_
      conv => whnf
      refine ⟨fun q => absurd q (by decide), fun _ => ?_⟩
      conv => whnf
      exact fl_in (M := mu f) hC H0 (fun f1 mo s3 s4 a1 a2 a3 a4 a5 => ih mo s3 s4 f1 a1 a2 a3 a4 (a5.imp id (fun z => ⟨z.1, by omega⟩))) c 0 _ _ _ f (by omega) rfl hF hr hlo hle (Nat.le_refl _) (Or.inl ⟨rfl, fun k hk => absurd hk (by omega)⟩)
set_option maxRecDepth 100000 in
theorem fl_cp {d L n c : Nat} {f0 : Nat → Nat → Int32} {g : Nat → Nat → Int64} {bits : Int32} {R : Option Value → mH → Prop} (hC : CM f0 n c) (H : ∀ (f : Nat → Nat → Int32) (s3 s4 : Option Value), o200 f0 f → (∀ w, w < n → f 200 w = f0 187 w) → WPe pg_X11_findLeast none (Run mtab d) R (m_drop pg_X11_findLeast 18) [some (.ref 181), some (.int bits), some (.int 1), s3, s4] [] (shF L, f, g)) :
    ∀ (k i : Nat) (x : Int32) (s3 s4 : Option Value) (f : Nat → Nat → Int32), i + k = n → x = nI i → o200 f0 f → (∀ w, w < i → f 200 w = f0 187 w) → WPe pg_X11_findLeast none (Run mtab d) R (m_drop pg_X11_findLeast 2) [some (.ref 181), some (.int bits), some (.int x), s3, s4] [] (shF L, f, g)
  | 0, i, x, s3, s4, f, hi, hx, hF, hw => by
    have e : i = n := by omega
    subst e
    subst hx
    have hn := hC.1
    have g0 : f 181 0 = nI i := (hF 181 0 (by omega)).trans hC.2.2.1
    refine at_X11_findLeast ?_
    conv => whnf
    simp only [g0]
    refine ⟨fun q => ?_, fun q => absurd (nI_le (Nat.le_refl _) (by omega)) q⟩
    conv => whnf
    exact H f _ _ hF hw
  | k + 1, i, x, s3, s4, f, hi, hx, hF, hw => by
    subst hx
    have hn := hC.1
    have hcl : (nI i).toNatClampNeg = i := nI_clamp (by omega)
    have g0 : f 181 0 = nI n := (hF 181 0 (by omega)).trans hC.2.2.1
    have g187 : f 187 i = f0 187 i := hF 187 i (by omega)
    refine at_X11_findLeast ?_
    conv => whnf
    simp only [g0]
    refine ⟨fun q => absurd q (nI_ge (b := n) (by omega) (by omega)), fun q => ?_⟩
    conv => whnf
    refine ⟨vp_in_nI (by omega) (by decide), ?_⟩
    conv => whnf
    refine ⟨vp_in_nI (by omega) (by decide), ?_⟩
    conv => whnf
    simp only [hcl, g187]
    refine fl_cp hC H k (i + 1) _ _ _ _ (by omega) (nI_1 i) (fun a b h1 => ?_) (fun w hw2 => ?_)
    · rw [m_ui_o (by omega)]
      exact hF a b h1
    · by_cases e : w = i
      · subst e
        rw [m_ui_s]
      · rw [m_ui_o (by omega)]
        exact hw w (by omega)
set_option maxRecDepth 100000 in
set_option maxHeartbeats 4000000 in
theorem smf_findLeast {d L : Nat} {f : Nat → Nat → Int32} {g : Nat → Nat → Int64} {n c : Nat} {bits : Int32} {R : Option Value → mH → Prop} (hd : 1 ≤ d) (hC : CM f n c) (H0 : ¬ (∃ X, Sol c (mA_ bits) (mU_ f) (mV_ f) (mD_ f) X ∧ (∀ w, Yh f 187 n w ≤ X w) ∧ ∀ w, w < n → X w ≤ Yh f 188 n w) → ∀ f', o200 f f' → R (some (.int 0)) (shF L, f', g)) (H1 : ∀ f', o200 f f' → (∀ w, w < n → inr 1800 1999 (f' 200 w) ∧ f' 200 w ≤ f 188 w) → Lst c (mA_ bits) (mU_ f) (mV_ f) (mD_ f) (Yh f 187 n) (Yh f' 200 n) → R (some (.int 1)) (shF L, f', g)) : Run mtab d 179 [.ref 181, .int bits] (shF L, f, g) R := by
  obtain ⟨d, rfl⟩ : ∃ e, d = e + 1 := ⟨d - 1, by omega⟩
  refine go_X11_findLeast rfl ?_
  conv => whnf
  refine fl_cp hC (fun f1 s3 s4 hF hw => ?_) n 0 _ _ _ _ (by omega) rfl (fun a b _ => rfl) (fun w hw => absurd hw (by omega))
  have eY : ∀ w, Yh f1 200 n w = Yh f 187 n w := fun w => by
    unfold Yh
    by_cases h : w < n
    · rw [if_pos h, if_pos h, hw w h]
    · rw [if_neg h, if_neg h]
  refine fl_out hC H0 H1 (mu f1 + 1) _ _ _ f1 hF (fun w h => ?_) (fun w => ?_) (fun X x1 x2 w => ?_) (Or.inr ⟨rfl, by omega⟩)
  · rw [hw w h]
    exact ⟨(hC.2.2.2.2.2 w h).1, (hC.2.2.2.2.2 w h).2.2⟩
  · rw [eY w]
    exact Int.le_refl _
  · rw [eY w]
    exact x2 w
