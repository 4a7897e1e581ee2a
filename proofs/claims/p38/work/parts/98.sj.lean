theorem bvb (b : BitVec 64) (s : Nat) (hs : s = 0 ∨ s = 8 ∨ s = 16 ∨ s = 24 ∨ s = 32 ∨ s = 40 ∨ s = 48 ∨ s = 56) : b.sshiftRight s &&& 255#64 = (((b >>> s).setWidth 32) &&& 255#32).signExtend 64 := by
  apply BitVec.eq_of_toNat_eq
  have m1 : ∀ (x : BitVec 64), (x &&& 255#64).toNat = x.toNat % 256 := fun x => by
    rw [BitVec.toNat_and]
    exact Nat.and_two_pow_sub_one_eq_mod _ 8
  have m2 : ∀ (x : BitVec 32), (x &&& 255#32).toNat = x.toNat % 256 := fun x => by
    rw [BitVec.toNat_and]
    exact Nat.and_two_pow_sub_one_eq_mod _ 8
  have m3 : ∀ (x : BitVec 32), (x &&& 255#32).msb = false := fun x => by
    rw [BitVec.msb_eq_decide, m2]
    have : x.toNat % 256 < 256 := Nat.mod_lt _ (by decide)
    simp
    omega
  rw [m1, BitVec.signExtend_eq_setWidth_of_msb_false (m3 _), BitVec.toNat_setWidth, m2, BitVec.toNat_setWidth, BitVec.toNat_ushiftRight, BitVec.toNat_sshiftRight]
  have hb := b.isLt
  generalize b.toNat = n at hb ⊢
  rcases hs with rfl | rfl | rfl | rfl | rfl | rfl | rfl | rfl <;> simp only [Nat.shiftRight_eq_div_pow] <;> split <;> omega
theorem byte_s (w a : Int64) (u : UInt64) (s : Nat) (hs : s = 0 ∨ s = 8 ∨ s = 16 ∨ s = 24 ∨ s = 32 ∨ s = 40 ∨ s = 48 ∨ s = 56) (ha : (a.toBitVec.smod 64).toNat = s) (hu : (u.toBitVec % 64).toNat = s) : (w >>> a) &&& 255 = ((w.toUInt64 >>> u).toInt64.toInt32 &&& 255).toInt64 := by
  apply Int64.toBitVec_inj.mp
  have l : ((w >>> a) &&& 255).toBitVec = w.toBitVec.sshiftRight s &&& 255#64 := by
    rw [← ha]
    rfl
  have r : ((w.toUInt64 >>> u).toInt64.toInt32 &&& 255).toInt64.toBitVec = (((w.toBitVec >>> s).setWidth 32) &&& 255#32).signExtend 64 := by
    rw [Int32.toBitVec_toInt64]
    have e : (w.toUInt64 >>> u).toInt64.toInt32.toBitVec = (w.toBitVec >>> s).setWidth 32 := by
      rw [Int64.toBitVec_toInt32, BitVec.signExtend_eq_setWidth_of_le _ (by decide), ← hu]
      rfl
    have e2 : ((w.toUInt64 >>> u).toInt64.toInt32 &&& 255).toBitVec = (w.toUInt64 >>> u).toInt64.toInt32.toBitVec &&& 255#32 := rfl
    rw [e2, e]
  rw [l, r]
  exact bvb w.toBitVec s hs
theorem byte_eq (w : Int64) (j : Nat) (hj : j < 8) : (w >>> ((8 * nI j).toInt64 &&& 63)) &&& 255 = (bAt w (nI j)).toInt64 := by
  unfold bAt
  match j, hj with
  | 0, _ => exact byte_s w _ _ 0 (by decide) (by decide) (by decide)
  | 1, _ => exact byte_s w _ _ 8 (by decide) (by decide) (by decide)
  | 2, _ => exact byte_s w _ _ 16 (by decide) (by decide) (by decide)
  | 3, _ => exact byte_s w _ _ 24 (by decide) (by decide) (by decide)
  | 4, _ => exact byte_s w _ _ 32 (by decide) (by decide) (by decide)
  | 5, _ => exact byte_s w _ _ 40 (by decide) (by decide) (by decide)
  | 6, _ => exact byte_s w _ _ 48 (by decide) (by decide) (by decide)
  | 7, _ => exact byte_s w _ _ 56 (by decide) (by decide) (by decide)
theorem chr_eq {b : Int32} (h : inr 32 126 b) : vp_nar .char ((b.toUInt32 % 65536).toInt32) = b := by
  have key : ∀ j : Nat, j < 127 → vp_nar .char (((nI j).toUInt32 % 65536).toInt32) = nI j := by decide +kernel
  have h0 : inr 0 126 b := ⟨Int32.le_trans (by decide) h.1, h.2⟩
  obtain ⟨j, hj, rfl⟩ := inr_nat (n := 126) rfl h0
  exact key j (by omega)
theorem byte_i (w : Int64) (j : Nat) (hj : j < 8) : ((w >>> ((8 * nI j).toInt64 &&& 63)) &&& 255).toInt32 = bAt w (nI j) := by
  rw [byte_eq w j hj]
  exact Int32.toInt32_toInt64 _
/-- what typing leaves: P the place of the tape's length (slot s), Q the tape's own -/
def tyL (P s Q : Nat) (f f1 : Nat → Nat → Int32) (t n : Nat) (w : Int64) : Prop := f1 P s = nI (t + n) ∧ (∀ j, j < n → f1 Q (t + j) = bAt w (nI (n - 1 - j))) ∧ (∀ a i, ¬ (a = P ∧ i = s) → ¬ (a = Q ∧ t ≤ i) → f1 a i = f a i)
def tyS (P s Q : Nat) (t : Nat) (f f1 : Nat → Nat → Int32) (w : Int64) (x v : Int32) : Prop := (¬ tyw w x ∧ v = -1 ∧ f1 = f) ∨ (∃ n, 1 ≤ n ∧ n ≤ 8 ∧ x = nI n ∧ (∀ j, j < n → okb w j) ∧ ((50 < t + n ∧ v = -3 ∧ f1 = f) ∨ (t + n ≤ 50 ∧ v = nI (t + n) ∧ tyL P s Q f f1 t n w)))
theorem tyw_n {w : Int64} {n : Nat} (hn : n ≤ 8) (h : ¬ ∀ j, j < n → okb w j) : ¬ tyw w (nI n) := fun z => h (fun j hj => z.2 j (by rw [nI_clamp (by omega)]; exact hj))
theorem tyw_y {w : Int64} {x : Int32} {n : Nat} (h1 : 1 ≤ n) (hn : n ≤ 8) (e : x = nI n) (h : ∀ j, j < n → okb w j) : tyw w x := by
  subst e
  refine ⟨⟨?_, ?_⟩, fun j hj => h j (by rw [nI_clamp (by omega)] at hj; exact hj)⟩
  · rw [Int32.le_iff_toInt_le, nI_toInt (by omega)]
    have e1 : (1 : Int32).toInt = 1 := rfl
    omega
  · rw [Int32.le_iff_toInt_le, nI_toInt (by omega)]
    have e1 : (8 : Int32).toInt = 8 := rfl
    omega
theorem fr_step {f0 f : Nat → Nat → Int32} {P s Q t m n : Nat} {v : Int32} {w : Int64} (hPQ : ¬ P = Q) (htm : t ≤ m) (hv : v = bAt w (nI (n - 1 - (m - t)))) (h1 : ∀ j, j < m - t → f Q (t + j) = bAt w (nI (n - 1 - j))) (h2 : ∀ a i, ¬ (a = P ∧ i = s) → ¬ (a = Q ∧ t ≤ i) → f a i = f0 a i) : (∀ j, j < m + 1 - t → m_ui (m_ui f Q m v) P s (nI (m + 1)) Q (t + j) = bAt w (nI (n - 1 - j))) ∧ (∀ a i, ¬ (a = P ∧ i = s) → ¬ (a = Q ∧ t ≤ i) → m_ui (m_ui f Q m v) P s (nI (m + 1)) a i = f0 a i) := by
  constructor
  · intro j hj
    rw [m_ui_o (fun z => hPQ z.1.symm)]
    by_cases e : t + j = m
    · rw [m_ui_s' e, hv, show m - t = j by omega]
    · rw [m_ui_o (fun z => e z.2)]
      exact h1 j (by omega)
  · intro a i z1 z2
    rw [m_ui_o z1, m_ui_o (fun z => z2 ⟨z.1, by omega⟩)]
    exact h2 a i z1 z2
set_option maxRecDepth 100000 in
theorem ap_lp {d L n t : Nat} {w : Int64} {f0 : Nat → Nat → Int32} {g : Nat → Nat → Int64} {R : Option Value → mH → Prop} (hd : 1 ≤ d) (hn8 : n ≤ 8) (hn : t + n ≤ 50) (hk : ∀ j, j < n → okb w j) (H : ∀ f', tyL 107 3 118 f0 f' t n w → R (some (.int (nI (t + n)))) (shF L, f', g)) :
    ∀ (k m : Nat) (f : Nat → Nat → Int32), m + k = t + n → t ≤ m → f 107 3 = nI m → (∀ j, j < m - t → f 118 (t + j) = bAt w (nI (n - 1 - j))) → (∀ a i, ¬ (a = 107 ∧ i = 3) → ¬ (a = 118 ∧ t ≤ i) → f a i = f0 a i) → WPe pg_X6_append none (Run mtab d) R (m_drop pg_X6_append 12) [some (.ref 107), some (.long w), none, some (.int (nI n)), some (.int (nI k + -1))] [] (shF L, f, g)
  | 0, m, f, hm, htm, hf, h1, h2 => by
    have e : m = t + n := by omega
    subst e
    refine at_X6_append ?_
    conv => whnf
    refine ⟨fun c => ?_, fun c => absurd (by decide) c⟩
    conv => whnf
    simp only [hf]
    exact H f ⟨hf, fun j hj => h1 j (by omega), h2⟩
  | k + 1, m, f, hm, htm, hf, h1, h2 => by
    have e : nI (k + 1) + -1 = nI k := by rw [← Int32.sub_eq_add_neg, nI_pred]
    have hcl : (nI m).toNatClampNeg = m := nI_clamp (by omega)
    have hv : vp_nar .char (((bAt w (nI k)).toUInt32 % 65536).toInt32) = bAt w (nI (n - 1 - (m - t))) := by
      rw [chr_eq (hk k (by omega)), show n - 1 - (m - t) = k by omega]
    have st := fr_step (f0 := f0) (P := 107) (s := 3) (Q := 118) (n := n) (by decide) htm hv h1 h2
    rw [e]
    refine at_X6_append ?_
    conv => whnf
    refine ⟨fun c => absurd c (nI_pos (by omega)), fun c => ?_⟩
    conv => whnf
    refine ct_byteAt hd ?_
    conv => whnf
    simp only [hf]
    refine ⟨vp_in_nI (by omega) (by decide), ?_⟩
    conv => whnf
    simp only [hf, hcl, nI_1, m_ui_ap, m_fil_ap, m_cpy_ap, Nat.reduceEqDiff, Nat.reduceLT, Nat.reduceLeDiff, eq_self, ↓reduceIte, false_and, and_false, true_and, and_true, and_self]
    exact ap_lp hd hn8 hn hk H k (m + 1) _ (by omega) (by omega) m_ui_s st.1 st.2
set_option maxRecDepth 100000 in
set_option maxHeartbeats 4000000 in
theorem sf_append {d L : Nat} {f : Nat → Nat → Int32} {g : Nat → Nat → Int64} {n t : Nat} {w : Int64} {R : Option Value → mH → Prop} (hd : 2 ≤ d) (hn8 : n ≤ 8) (ht : t ≤ 50) (hb : f 107 3 = nI t) (hk : ∀ j, j < n → okb w j) (HF : 50 < t + n → R (some (.int (-3))) (shF L, f, g)) (H : t + n ≤ 50 → ∀ f', tyL 107 3 118 f f' t n w → R (some (.int (nI (t + n)))) (shF L, f', g)) : Run mtab d 52 [.ref 107, .long w, .int (nI n)] (shF L, f, g) R := by
  obtain ⟨d, rfl⟩ : ∃ e, d = e + 1 := ⟨d - 1, by omega⟩
  refine go_X6_append rfl ?_
  conv => whnf
  simp only [hb]
  refine ⟨fun c => ?_, fun c => ?_⟩
  · have c2 : nI t + nI n ≤ nI 50 := c
    rw [nI_add, nI_leI (by omega) (by decide)] at c2
    conv => whnf
    have e2 : nI n - 1 = nI n + -1 := Int32.sub_eq_add_neg ..
    have := ap_lp (d := d) (L := L) (g := g) (w := w) (f0 := f) (n := n) (t := t) (by omega) hn8 c2 hk (H c2) n t f (by omega) (Nat.le_refl _) hb (fun j hj => absurd hj (by omega)) (fun a i _ _ => rfl)
    rw [← e2] at this
    exact this
  · have c2 : ¬ nI t + nI n ≤ nI 50 := c
    rw [nI_add, nI_leI (by omega) (by decide)] at c2
    conv => whnf
    exact HF (by omega)
set_option maxRecDepth 100000 in
theorem sf_type {d L t : Nat} {x : Int32} {w : Int64} {f : Nat → Nat → Int32} {g : Nat → Nat → Int64} {R : Option Value → mH → Prop} (hd : 6 ≤ d) (ht : t ≤ 50) (hb : f 107 3 = nI t) (H : ∀ v f1, tyS 107 3 118 t f f1 w x v → R (some (.int v)) (shF L, f1, g)) : Run mtab d 119 [.ref 5, .long w, .int x] (shF L, f, g) R := by
  obtain ⟨d, rfl⟩ : ∃ e, d = e + 1 := ⟨d - 1, by omega⟩
  refine go_X10_type rfl ?_
  conv => whnf
  refine ct_isWithin (by omega) (fun p => ?_) (fun p => ?_)
  · conv => whnf
    (refine ⟨fun c => ?_, fun c => ?_⟩ <;> first | ((have c9 : (1 : Int32) = 0 := by with_reducible exact c); exact absurd c9 (by decide)) | exact absurd (rfl : (0 : Int32) = 0) (by with_reducible exact c) | exact absurd True.intro (by with_reducible exact c) | exact False.elim (by with_reducible exact c) | (conv => whnf))
    obtain ⟨n, h1, h8, rfl⟩ := inr_18 p
    refine ct_areTypable (by omega) h8 (fun q => ?_) (fun q => ?_)
    · conv => whnf
      (refine ⟨fun c => ?_, fun c => ?_⟩ <;> first | ((have c9 : (1 : Int32) = 0 := by with_reducible exact c); exact absurd c9 (by decide)) | exact absurd (rfl : (0 : Int32) = 0) (by with_reducible exact c) | exact absurd True.intro (by with_reducible exact c) | exact False.elim (by with_reducible exact c) | (conv => whnf))
      refine sf_append (by omega) h8 ht hb q (fun z => ?_) (fun z f1 s1 => ?_)
      · conv => whnf
        exact H _ _ (Or.inr ⟨n, h1, h8, rfl, q, Or.inl ⟨z, rfl, rfl⟩⟩)
      · conv => whnf
        exact H _ _ (Or.inr ⟨n, h1, h8, rfl, q, Or.inr ⟨z, rfl, s1⟩⟩)
    · conv => whnf
      (refine ⟨fun c => ?_, fun c => ?_⟩ <;> first | ((have c9 : (1 : Int32) = 0 := by with_reducible exact c); exact absurd c9 (by decide)) | exact absurd (rfl : (0 : Int32) = 0) (by with_reducible exact c) | exact absurd True.intro (by with_reducible exact c) | exact False.elim (by with_reducible exact c) | (conv => whnf))
      exact H _ _ (Or.inl ⟨tyw_n h8 q, rfl, rfl⟩)
  · conv => whnf
    (refine ⟨fun c => ?_, fun c => ?_⟩ <;> first | ((have c9 : (1 : Int32) = 0 := by with_reducible exact c); exact absurd c9 (by decide)) | exact absurd (rfl : (0 : Int32) = 0) (by with_reducible exact c) | exact absurd True.intro (by with_reducible exact c) | exact False.elim (by with_reducible exact c) | (conv => whnf))
    exact H _ _ (Or.inl ⟨fun z => p z.1, rfl, rfl⟩)
set_option maxRecDepth 100000 in
theorem mt2_lp {d L n t : Nat} {w : Int64} {f0 : Nat → Nat → Int32} {g : Nat → Nat → Int64} {R : Option Value → mH → Prop} (hn8 : n ≤ 8) (hn : t + n ≤ 50) (H : ∀ f', tyL 181 46 217 f0 f' t n w → R (some (.int (nI (t + n)))) (shF L, f', g)) :
    ∀ (k m : Nat) (y : Int32) (f : Nat → Nat → Int32), m + k = t + n → t ≤ m → y = nI k + -1 → f 181 46 = nI m → (∀ j, j < m - t → f 217 (t + j) = bAt w (nI (n - 1 - j))) → (∀ a i, ¬ (a = 181 ∧ i = 46) → ¬ (a = 217 ∧ t ≤ i) → f a i = f0 a i) → WPe pg_X11_type none (Run mtab d) R (m_drop pg_X11_type 41) [some (.ref 181), some (.long w), none, some (.int (nI n)), some (.int y)] [] (shF L, f, g)
  | 0, m, y, f, hm, htm, hy, hf, h1, h2 => by
    have e : m = t + n := by omega
    subst e
    subst hy
    refine at_X11_type ?_
    conv => whnf
    refine ⟨fun c => ?_, fun c => absurd (by decide) c⟩
    conv => whnf
    simp only [hf]
    exact H f ⟨hf, fun j hj => h1 j (by omega), h2⟩
  | k + 1, m, y, f, hm, htm, hy, hf, h1, h2 => by
    have e : nI (k + 1) + -1 = nI k := by rw [← Int32.sub_eq_add_neg, nI_pred]
    have hcl : (nI m).toNatClampNeg = m := nI_clamp (by omega)
    have hv : ((w >>> ((8 * nI k).toInt64 &&& 63)) &&& 255).toInt32 = bAt w (nI (n - 1 - (m - t))) := by
      rw [byte_i w k (by omega), show n - 1 - (m - t) = k by omega]
    have st := fr_step (f0 := f0) (P := 181) (s := 46) (Q := 217) (n := n) (by decide) htm hv h1 h2
    rw [e] at hy
    subst hy
    refine at_X11_type ?_
    conv => whnf
    refine ⟨fun c => absurd c (nI_pos (by omega)), fun c => ?_⟩
    conv => whnf
    simp only [hf]
    refine ⟨vp_in_nI (by omega) (by decide), ?_⟩
    conv => whnf
    simp only [hf, hcl, nI_1, m_ui_ap, m_fil_ap, m_cpy_ap, Nat.reduceEqDiff, Nat.reduceLT, Nat.reduceLeDiff, eq_self, ↓reduceIte, false_and, and_false, true_and, and_true, and_self]
    exact mt2_lp hn8 hn H k (m + 1) _ _ (by omega) (by omega) rfl m_ui_s st.1 st.2
set_option maxRecDepth 100000 in
theorem mt1_lp {d L n t : Nat} {w : Int64} {f : Nat → Nat → Int32} {g : Nat → Nat → Int64} {R : Option Value → mH → Prop} (hd : 1 ≤ d) (hb : f 181 46 = nI t) (ht : t ≤ 50) (h1 : 1 ≤ n) (hn : n ≤ 8) (H : ∀ v f1, tyS 181 46 217 t f f1 w (nI n) v → R (some (.int v)) (shF L, f1, g)) :
    ∀ (k : Nat) (y : Int32), y = nI k + -1 → k ≤ n → (∀ j, k ≤ j → j < n → okb w j) → WPe pg_X11_type none (Run mtab d) R (m_drop pg_X11_type 12) [some (.ref 181), some (.long w), none, some (.int (nI n)), some (.int y)] [] (shF L, f, g)
  | 0, y, hy, hk, hp => by
    subst hy
    have q : ∀ j, j < n → okb w j := fun j hj => hp j (Nat.zero_le j) hj
    refine at_X11_type ?_
    conv => whnf
    refine ⟨fun c => ?_, fun c => absurd (by decide) c⟩
    conv => whnf
    simp only [hb]
    refine ⟨fun c => ?_, fun c => ?_⟩
    · have c2 : nI t + nI n ≤ nI 50 := c
      rw [nI_add, nI_leI (by omega) (by decide)] at c2
      conv => whnf
      exact mt2_lp (n := n) (t := t) hn c2 (fun f' s => H _ _ (Or.inr ⟨n, h1, hn, rfl, q, Or.inr ⟨c2, rfl, s⟩⟩)) n t _ f (by omega) (Nat.le_refl _) (Int32.sub_eq_add_neg ..) hb (fun j hj => absurd hj (by omega)) (fun a i _ _ => rfl)
    · have c2 : ¬ nI t + nI n ≤ nI 50 := c
      rw [nI_add, nI_leI (by omega) (by decide)] at c2
      conv => whnf
      exact H _ _ (Or.inr ⟨n, h1, hn, rfl, q, Or.inl ⟨by omega, rfl, rfl⟩⟩)
  | k + 1, y, hy, hk, hp => by
    have e : nI (k + 1) + -1 = nI k := by rw [← Int32.sub_eq_add_neg, nI_pred]
    rw [e] at hy
    subst hy
    refine at_X11_type ?_
    conv => whnf
    refine ⟨fun c => absurd c (nI_pos (by omega)), fun c => ?_⟩
    conv => whnf
    refine ct_in hd (byte_eq w k (by omega)) (lo := 32) rfl (hi := 126) rfl (fun p => ?_) (fun p => ?_)
    · conv => whnf
      (refine ⟨fun c => ?_, fun c => ?_⟩ <;> first | ((have c9 : (1 : Int32) = 0 := by with_reducible exact c); exact absurd c9 (by decide)) | exact absurd (rfl : (0 : Int32) = 0) (by with_reducible exact c) | exact absurd True.intro (by with_reducible exact c) | exact False.elim (by with_reducible exact c) | (conv => whnf))
      exact mt1_lp hd hb ht h1 hn H k _ rfl (by omega) (fun j hj hj2 => by
        by_cases e : j = k
        · subst e
          exact p
        · exact hp j (by omega) hj2)
    · conv => whnf
      (refine ⟨fun c => ?_, fun c => ?_⟩ <;> first | ((have c9 : (1 : Int32) = 0 := by with_reducible exact c); exact absurd c9 (by decide)) | exact absurd (rfl : (0 : Int32) = 0) (by with_reducible exact c) | exact absurd True.intro (by with_reducible exact c) | exact False.elim (by with_reducible exact c) | (conv => whnf))
      exact H _ _ (Or.inl ⟨tyw_n hn (fun q => p (q k (by omega))), rfl, rfl⟩)
set_option maxRecDepth 100000 in
theorem smf_type {d L t : Nat} {x : Int32} {w : Int64} {f : Nat → Nat → Int32} {g : Nat → Nat → Int64} {R : Option Value → mH → Prop} (hd : 6 ≤ d) (ht : t ≤ 50) (hb : f 181 46 = nI t) (H : ∀ v f1, tyS 181 46 217 t f f1 w x v → R (some (.int v)) (shF L, f1, g)) : Run mtab d 215 [.ref 181, .long w, .int x] (shF L, f, g) R := by
  obtain ⟨d, rfl⟩ : ∃ e, d = e + 1 := ⟨d - 1, by omega⟩
  refine go_X11_type rfl ?_
  conv => whnf
  refine ct_i_1_8 (by omega) (fun p => ?_) (fun p => ?_)
  · obtain ⟨n, h1, h8, rfl⟩ := inr_18 p
    conv => whnf
    (refine ⟨fun c => ?_, fun c => ?_⟩ <;> first | ((have c9 : (1 : Int32) = 0 := by with_reducible exact c); exact absurd c9 (by decide)) | exact absurd (rfl : (0 : Int32) = 0) (by with_reducible exact c) | exact absurd True.intro (by with_reducible exact c) | exact False.elim (by with_reducible exact c) | (conv => whnf))
    exact mt1_lp (by omega) hb ht h1 h8 H n _ (Int32.sub_eq_add_neg ..) (Nat.le_refl n) (fun j hj hj2 => absurd hj (by omega))
  · conv => whnf
    (refine ⟨fun c => ?_, fun c => ?_⟩ <;> first | ((have c9 : (1 : Int32) = 0 := by with_reducible exact c); exact absurd c9 (by decide)) | exact absurd (rfl : (0 : Int32) = 0) (by with_reducible exact c) | exact absurd True.intro (by with_reducible exact c) | exact False.elim (by with_reducible exact c) | (conv => whnf))
    exact H _ _ (Or.inl ⟨fun z => p z.1, rfl, rfl⟩)
def RT (t : Nat) (f : Nat → Nat → Int32) : Prop := t ≤ 50 ∧ f 107 3 = nI t ∧ f 181 46 = nI t ∧ ∀ j, j < t → f 118 j = f 217 j ∧ inr 32 126 (f 217 j)
def RR (f : Nat → Nat → Int32) : Prop := ∀ k t, k < 4 → t < 3 → f (109 + k) t = eC (fun k t => f (213 + t) k) k t
theorem RT_kp {l : List Nat} {t : Nat} {f f' : Nat → Nat → Int32} (k : kp l f f') (h3 : hasN l 3 = false) (h13 : hasN l 13 = false) (r : RT t f) : RT t f' := by
  obtain ⟨a, b, c, d⟩ := r
  refine ⟨a, (k 107 3 (by exact h3)).trans b, (k 181 46 (by exact h13)).trans c, fun j hj => ?_⟩
  rw [k 118 j (by exact h3), k 217 j (by exact h13)]
  exact d j hj
theorem cmp_3 {i : Nat} : ∀ a, 107 ≤ a → a ≤ 118 → cmp a i = 3 := by
  intro a h h'
  have : a = 107 ∨ a = 108 ∨ a = 109 ∨ a = 110 ∨ a = 111 ∨ a = 112 ∨ a = 113 ∨ a = 114 ∨ a = 115 ∨ a = 116 ∨ a = 117 ∨ a = 118 := by omega
  rcases this with rfl | rfl | rfl | rfl | rfl | rfl | rfl | rfl | rfl | rfl | rfl | rfl <;> rfl
theorem cmp_13 {i : Nat} : ∀ a, 213 ≤ a → a ≤ 215 → cmp a i = 13 := by
  intro a h h'
  have : a = 213 ∨ a = 214 ∨ a = 215 := by omega
  rcases this with rfl | rfl | rfl <;> rfl
theorem eC_congr {S S' : Nat → Nat → Int32} (h : ∀ k t, k < 4 → t < 3 → S k t = S' k t) {k t : Nat} (ht : t < 3) : eC S k t = eC S' k t := eC_SR (fun k hk => ⟨h k 0 hk (by omega), fun _ => ⟨h k 1 hk (by omega), h k 2 hk (by omega)⟩⟩) ht
theorem RR_kp {l : List Nat} {f f' : Nat → Nat → Int32} (k : kp l f f') (h3 : hasN l 3 = false) (h13 : hasN l 13 = false) (r : RR f) : RR f' := fun j t hj ht => by
  rw [k (109 + j) t (by rw [cmp_3 _ (by omega) (by omega)]; exact h3), r j t hj ht]
  exact eC_congr (fun k' t' hk' ht' => (k (213 + t') k' (by rw [cmp_13 _ (by omega) (by omega)]; exact h13)).symm) ht
theorem ab2_kp {l : List Nat} {f f' : Nat → Nat → Int32} (k : kp l f f') (h20 : hasN l 20 = false) (r : ab2 f) : ab2 f' := ⟨(k 2 0 (by exact h20)).trans r.1, (k 2 1 (by exact h20)).trans r.2.1, (k 2 2 (by exact h20)).trans r.2.2⟩
theorem XI_ty {f f1 : Nat → Nat → Int32} (hX : XI f) {P s Q t n : Nat} {w : Int64} (h : tyL P s Q f f1 t n w) (h1 : okv P s (f1 P s)) (hQ : ∀ i v, okv Q i v) : XI f1 := fun a i => by
  by_cases e1 : a = P ∧ i = s
  · rw [e1.1, e1.2]
    exact h1
  · by_cases e2 : a = Q ∧ t ≤ i
    · rw [e2.1]
      exact hQ _ _
    · rw [h.2.2 a i e1 e2]
      exact hX a i
theorem kx_type {t : Nat} {f f1 : Nat → Nat → Int32} {w : Int64} {x v : Int32} (s : tyS 107 3 118 t f f1 w x v) : kp [3] f f1 := by
  rcases s with ⟨_, _, rfl⟩ | ⟨n, _, _, _, _, ⟨_, _, rfl⟩ | ⟨_, _, h⟩⟩
  · exact kp_refl _ _
  · exact kp_refl _ _
  · intro a i z
    refine h.2.2 a i (fun e => ?_) (fun e => ?_)
    · rw [e.1, e.2] at z
      exact absurd (show true = false from z) (by decide)
    · rw [e.1] at z
      exact absurd (show true = false from z) (by decide)
theorem km_type {t : Nat} {f f1 : Nat → Nat → Int32} {w : Int64} {x v : Int32} (s : tyS 181 46 217 t f f1 w x v) : kp [13] f f1 := by
  rcases s with ⟨_, _, rfl⟩ | ⟨n, _, _, _, _, ⟨_, _, rfl⟩ | ⟨_, _, h⟩⟩
  · exact kp_refl _ _
  · exact kp_refl _ _
  · intro a i z
    refine h.2.2 a i (fun e => ?_) (fun e => ?_)
    · rw [e.1, e.2] at z
      exact absurd (show true = false from z) (by decide)
    · rw [e.1] at z
      exact absurd (show true = false from z) (by decide)
theorem fin_type {t : Nat} {f f1 f2 : Nat → Nat → Int32} {w : Int64} {x v1 v2 : Int32} (hX : XI f) (hT : RT t f) (s1 : tyS 107 3 118 t f f1 w x v1) (s2 : tyS 181 46 217 t f1 f2 w x v2) : XI f2 ∧ (∃ t, RT t f2) ∧ v1 = v2 := by
  have ht := hT.1
  rcases s1 with ⟨q1, rfl, rfl⟩ | ⟨n, a1, a8, e1, ok, s1⟩
  · rcases s2 with ⟨q2, rfl, rfl⟩ | ⟨n', b1, b8, e2, ok2, _⟩
    · exact ⟨hX, ⟨t, hT⟩, rfl⟩
    · exact absurd (tyw_y b1 b8 e2 ok2) q1
  · rcases s2 with ⟨q2, _⟩ | ⟨n', b1, b8, e2, ok2, s2⟩
    · exact absurd (tyw_y a1 a8 e1 ok) q2
    · have en : n = n' := (nI_eq (by omega) (by omega)).mp (e1.symm.trans e2)
      subst en
      rcases s1 with ⟨z1, rfl, rfl⟩ | ⟨z1, rfl, h1⟩
      · rcases s2 with ⟨z2, rfl, rfl⟩ | ⟨z2, _⟩
        · exact ⟨hX, ⟨t, hT⟩, rfl⟩
        · omega
      · rcases s2 with ⟨z2, _⟩ | ⟨z2, rfl, h2⟩
        · omega
        · have x1 := XI_ty hX h1 (show inr 0 50 _ by rw [h1.1]; exact inr_n (m := 50) z1 rfl (by decide)) (fun i v => True.intro)
          have x2 := XI_ty x1 h2 (show inr 0 50 _ by rw [h2.1]; exact inr_n (m := 50) z1 rfl (by decide)) (fun i v => True.intro)
          refine ⟨x2, ⟨t + n, z1, ?_, h2.1, fun j hj => ?_⟩, rfl⟩
          · rw [h2.2.2 107 3 (by omega) (by omega)]
            exact h1.1
          · rw [h2.2.2 118 j (by omega) (by omega)]
            by_cases q : j < t
            · rw [h1.2.2 118 j (by omega) (by omega), h2.2.2 217 j (by omega) (by omega), h1.2.2 217 j (by omega) (by omega)]
              exact hT.2.2.2 j q
            · have ej : j = t + (j - t) := by omega
              have c1 := h1.2.1 (j - t) (by omega)
              have c2 := h2.2.1 (j - t) (by omega)
              rw [← ej] at c1 c2
              rw [c1, c2]
              exact ⟨rfl, ok _ (by omega)⟩
theorem kx_rules {m : Nat} {f f1 : Nat → Nat → Int32} {v : Int32} (s : rtC f m f1 v) : kp [3] f f1 := fun a i z => by
  by_cases e : 107 ≤ a ∧ a ≤ 118
  · by_cases e8 : a = 118
    · subst e8
      exact absurd (show true = false from z) (by decide)
    · rw [cmp_3 a e.1 e.2] at z
      exact absurd z (by decide)
  · exact s.2.1 a i (by omega) (by omega)
theorem km_rules {m : Nat} {f f1 : Nat → Nat → Int32} {v : Int32} (s : rtM f m f1 v) : kp [10, 13] f f1 := fun a i z => by
  refine s.2.2.1 a i (fun e => ?_) (fun e => ?_) (fun e => ?_)
  · rw [e.1, e.2] at z
    exact absurd (show true = false from z) (by decide)
  · rw [e.1, e.2] at z
    exact absurd (show true = false from z) (by decide)
  · by_cases e6 : a = 216
    · subst e6
      exact absurd (show true = false from z) (by decide)
    · rw [cmp_13 a e.1 (by omega)] at z
      exact absurd z (by decide)
theorem okv_rr {a i : Nat} {v : Int32} (h : 108 ≤ a) (h' : a ≤ 118) : okv a i v := by
  unfold okv
  repeat rw [if_neg (by omega)]
  trivial
theorem okv_g {a i : Nat} {v : Int32} (h : 213 ≤ a) (h' : a ≤ 216) : okv a i v := by
  unfold okv
  repeat rw [if_neg (by omega)]
  trivial
theorem okv_107 {i : Nat} {v : Int32} (h3 : i = 3 → inr 0 50 v) (h4 : i = 4 → inr 0 50 v) : okv 107 i v := by
  by_cases e3 : i = 3
  · subst e3
    exact h3 rfl
  · by_cases e4 : i = 4
    · subst e4
      exact h4 rfl
    · unfold okv
      repeat rw [if_neg (by omega)]
      trivial
theorem XI_rc {m : Nat} {f f1 : Nat → Nat → Int32} {v : Int32} (hX : XI f) (s : rtC f m f1 v) : XI f1 := fun a i => by
  obtain ⟨s1, s2, ⟨p, hp, s3⟩, _⟩ := s
  by_cases e : a = 107
  · subst e
    refine okv_107 (fun e3 => ?_) (fun e4 => ?_)
    · subst e3
      rw [s1]
      unfold inr
      decide
    · subst e4
      rw [s3]
      exact inr_n (m := 50) hp rfl (by decide)
  · by_cases e2 : 109 ≤ a ∧ a ≤ 117
    · exact okv_rr (by omega) (by omega)
    · rw [s2 a i e e2]
      exact hX a i
theorem XI_rm {m : Nat} {f f1 : Nat → Nat → Int32} {v : Int32} (hX : XI f) (s : rtM f m f1 v) : XI f1 := fun a i => by
  obtain ⟨s1, ⟨p, hp, s3⟩, s2, _⟩ := s
  by_cases e : a = 181 ∧ i = 46
  · rw [e.1, e.2]
    show inr 0 50 (f1 181 46)
    rw [s1]
    unfold inr
    decide
  · by_cases e1 : a = 181 ∧ i = 47
    · rw [e1.1, e1.2]
      show inr 0 50 (f1 181 47)
      rw [s3]
      exact inr_n (m := 50) hp rfl (by decide)
    · by_cases e2 : 213 ≤ a ∧ a ≤ 216
      · exact okv_g e2.1 e2.2
      · rw [s2 a i e e1 e2]
        exact hX a i
theorem RT_tk {t : Nat} {f f1 : Nat → Nat → Int32} (hT : RT t f) (h : ∀ j, f1 217 j = f 217 j) : tk f1 217 t = tk f 118 t := by
  funext j
  unfold tk
  by_cases q : j < t
  · rw [if_pos q, if_pos q, h, (hT.2.2.2 j q).1]
  · rw [if_neg q, if_neg q]
theorem RT_ch {t : Nat} {f : Nat → Nat → Int32} (hT : RT t f) : ∀ j, j < t → ¬ tk f 217 t j < 0 := fun j hj => by
  rw [tk_at hj]
  exact i32_nlt.mpr (Int32.le_trans (by decide) (hT.2.2.2 j hj).2.1)
theorem fin_rules {m : Nat} {f f1 f2 : Nat → Nat → Int32} {v1 v2 : Int32} (hX : XI f) (hT : RT m f) (hR : RR f) (s1 : rtC f m f1 v1) (s2 : rtM f1 m f2 v2) : XI f2 ∧ ((∃ t, RT t f2) ∧ RR f2) ∧ v1 = v2 := by
  have hm := hT.1
  have k1 := kx_rules s1
  have eT := RT_tk hT (fun j => k1 217 j rfl)
  have x2 := XI_rm (XI_rc hX s1) s2
  have r2 : RT 0 f2 := ⟨by omega, (by rw [km_rules s2 107 3 rfl]; exact s1.1), s2.1, fun j hj => absurd hj (by omega)⟩
  obtain ⟨_, _, _, s1⟩ := s1
  obtain ⟨_, _, w2, s2⟩ := s2
  rw [eT] at s2
  have bo := al_both (T := tk f 118 m) hm 3 0 0 (fun k t => if t = 0 then 0 else f (114 + k) t) (by omega) (by omega)
  have sr := al_SR (T := tk f 118 m) (m := m) 4 0 0 (fun k t => if t = 0 then 0 else f (114 + k) t) (fun _ _ => 0) (fun k hk => ⟨rfl, fun z => absurd rfl z⟩)
  have rows : ∀ j t, j < 4 → t < 3 → f2 (109 + j) t = f1 (109 + j) t := fun j t hj ht => w2 _ _ (by omega) (by omega) (by omega)
  have mrow : ∀ j t, t < 3 → f1 (213 + t) j = f (213 + t) j := fun j t ht => k1 (213 + t) j (by rw [cmp_13 _ (by omega) (by omega)]; rfl)
  cases ha : alS (tk f 118 m) m 4 0 0 (fun k t => if t = 0 then 0 else f (114 + k) t) with
  | error r =>
    obtain ⟨hr, hq⟩ := bo.1 r ha
    have h0 := sr.1 r ha
    rw [h0] at s2
    rcases s1 with ⟨_, ev1, y1⟩ | ⟨z1, _⟩
    · rcases s2 with ⟨r', e', ev2, y2⟩ | ⟨n', S', e', _⟩
      · cases e'
        refine ⟨x2, ⟨⟨0, r2⟩, fun j t hj ht => ?_⟩, ?_⟩
        · rw [rows j t hj ht, y1 j t hj ht, hR j t hj ht]
          exact eC_congr (fun k' t' hk' ht' => by rw [y2 k' t' hk' ht', mrow k' t' ht']) ht
        · rw [ev1, ev2]
          exact congrArg (fun z => -20 - z) hq
      · cases e'
    · exact absurd (hq.symm.trans z1) (nI_n1 (by omega))
  | ok v =>
    obtain ⟨n', S1⟩ := v
    obtain ⟨hn', hq⟩ := bo.2 n' S1 ha
    obtain ⟨S2, h0, hS⟩ := sr.2 n' S1 ha
    have q1 : (clsC (tk f 118 m) m 4 1 0 (-1) (fun k t => if t = 0 then 0 else f (114 + k) t)).2.1 = -1 := congrArg (fun z => z.2.1) hq
    have q0 : (clsC (tk f 118 m) m 4 1 0 (-1) (fun k t => if t = 0 then 0 else f (114 + k) t)).1 = nI n' := congrArg (fun z => z.1) hq
    have q2 : (clsC (tk f 118 m) m 4 1 0 (-1) (fun k t => if t = 0 then 0 else f (114 + k) t)).2.2 = S1 := congrArg (fun z => z.2.2) hq
    rw [h0] at s2
    rcases s1 with ⟨z1, _⟩ | ⟨_, ev1, y1⟩
    · exact absurd q1 z1
    · rcases s2 with ⟨r', e', _⟩ | ⟨n2, S3, e', ev2, y2⟩
      · cases e'
      · cases e'
        refine ⟨x2, ⟨⟨0, r2⟩, fun j t hj ht => ?_⟩, ?_⟩
        · rw [rows j t hj ht, y1 j t hj ht, q2, eC_SR hS ht]
          exact eC_congr (fun k' t' hk' ht' => (y2 k' t' hk' ht').symm) ht
        · rw [ev1, ev2, q0]
theorem fin_rule {f : Nat → Nat → Int32} {x1 x2 v1 v2 : Int32} (hR : RR f) (s1 : (¬ (inr 0 3 x1 ∧ inr 0 2 x2) ∧ v1 = -1) ∨ (∃ k t, k < 4 ∧ t < 3 ∧ x1 = nI k ∧ x2 = nI t ∧ v1 = f (109 + k) t)) (s2 : (¬ (inr 0 3 x1 ∧ inr 0 2 x2) ∧ v2 = -1) ∨ (∃ k t, k < 4 ∧ t < 3 ∧ x1 = nI k ∧ x2 = nI t ∧ v2 = eC (fun k t => f (213 + t) k) k t)) : v1 = v2 := by
  have inx : ∀ k t, k < 4 → t < 3 → x1 = nI k → x2 = nI t → (inr 0 3 x1 ∧ inr 0 2 x2) := fun k t hk ht e1 e2 => by
    rw [e1, e2]
    exact ⟨inr_n (m := 3) (by omega) rfl (by decide), inr_n (m := 2) (by omega) rfl (by decide)⟩
  rcases s1 with ⟨q1, rfl⟩ | ⟨k, t, hk, ht, e1, e2, rfl⟩
  · rcases s2 with ⟨q2, rfl⟩ | ⟨k, t, hk, ht, e1, e2, rfl⟩
    · rfl
    · exact absurd (inx k t hk ht e1 e2) q1
  · rcases s2 with ⟨q2, rfl⟩ | ⟨k', t', hk', ht', e1', e2', rfl⟩
    · exact absurd (inx k t hk ht e1 e2) q2
    · have ek : k = k' := (nI_eq (by omega) (by omega)).mp (e1.symm.trans e1')
      have et : t = t' := (nI_eq (by omega) (by omega)).mp (e2.symm.trans e2')
      subst ek
      subst et
      exact hR k t hk ht
def GK (f : Nat → Nat → Int32) : Prop := GJ f ∧ RK f ∧ (∃ c, RC c f) ∧ (∃ m, RM m f) ∧ ab2 f ∧ (∃ t, RT t f) ∧ RR f
def okn (l : List Nat) : Bool := (!hasN l 9 && (!hasN l 19 && (!hasN l 5 && (!hasN l 15 && (!hasN l 6 && (!hasN l 16 && (!hasN l 3 && (!hasN l 13 && !hasN l 20))))))))
def okk (l : List Nat) : Bool := okj l && okn l
theorem okn_of {l : List Nat} (h : okn l = true) : hasN l 9 = false ∧ hasN l 19 = false ∧ hasN l 5 = false ∧ hasN l 15 = false ∧ hasN l 6 = false ∧ hasN l 16 = false ∧ hasN l 3 = false ∧ hasN l 13 = false ∧ hasN l 20 = false := by
  unfold okn at h
  simp only [Bool.and_eq_true, Bool.not_eq_true'] at h
  exact h
theorem okk_of {l : List Nat} (h : okk l = true) : okj l = true ∧ okn l = true := by
  unfold okk at h
  simp only [Bool.and_eq_true] at h
  exact h
theorem RN3_kp {l : List Nat} {f f' : Nat → Nat → Int32} (k : kp l f f') (hl : okn l = true) (h : RK f ∧ (∃ c, RC c f) ∧ (∃ m, RM m f) ∧ ab2 f ∧ (∃ t, RT t f) ∧ RR f) : RK f' ∧ (∃ c, RC c f') ∧ (∃ m, RM m f') ∧ ab2 f' ∧ (∃ t, RT t f') ∧ RR f' := by
  obtain ⟨l9, l19, l5, l15, l6, l16, l3, l13, l20⟩ := okn_of hl
  obtain ⟨a, ⟨c, b⟩, ⟨m, e⟩, h2, ⟨t, i⟩, j⟩ := h
  exact ⟨RK_kp k l9 l19 a, ⟨c, RC_kp k l5 l15 b⟩, ⟨m, RM_kp k l6 l16 e⟩, ab2_kp k l20 h2, ⟨t, RT_kp k l3 l13 i⟩, RR_kp k l3 l13 j⟩
theorem GK_x {l : List Nat} {f f' : Nat → Nat → Int32} (h : GK f) (x : XI f') (k : kp l f f') (hl : okk l = true) : GK f' := by
  obtain ⟨l1, l2⟩ := okk_of hl
  exact ⟨GJ_x h.1 x k l1, RN3_kp k l2 h.2⟩
theorem GK_xE {f f' : Nat → Nat → Int32} (h : GK f) (x : XI f') (k : kp [0, 7] f f') (e : EI f') : GK f' := ⟨GJ_xE h.1 x k e, RN3_kp k rfl h.2⟩
theorem GK_j {l l' : List Nat} {f f1 f2 : Nat → Nat → Int32} (h : GK f) (k1 : kp l f f1) (k2 : kp l' f1 f2) (j : GJ f2) (hl : okn l = true) (hl' : okn l' = true) : GK f2 := ⟨j, RN3_kp k2 hl' (RN3_kp k1 hl h.2)⟩
theorem GJ_2 {l l' : List Nat} {f f1 f2 : Nat → Nat → Int32} (h : GJ f) (k1 : kp l f f1) (k2 : kp l' f1 f2) (x : XI f2) (hl : okj l = true) (hl' : okj l' = true) : GJ f2 := by
  obtain ⟨l0, l8, l18, l2, l12⟩ := okj_of hl
  obtain ⟨m0, m8, m18, m2, m12⟩ := okj_of hl'
  obtain ⟨a, b, c, d⟩ := h
  exact ⟨GI_2 a k1 k2 x l0 m0, RS_kp k2 m8 m18 (RS_kp k1 l8 l18 b), c, RO_kp k2 m2 m12 (RO_kp k1 l2 l12 d)⟩
theorem GK_kin {f f1 f2 : Nat → Nat → Int32} (hK : GK f) (k1 : kp [9] f f1) (k2 : kp [19] f1 f2) (x : XI f2) (r : RK f2) : GK f2 := by
  obtain ⟨a, b, ⟨c, d⟩, ⟨m, e⟩, h, ⟨t, i⟩, j⟩ := hK
  exact ⟨GJ_2 a k1 k2 x rfl rfl, r, ⟨c, RC_kp k2 rfl rfl (RC_kp k1 rfl rfl d)⟩, ⟨m, RM_kp k2 rfl rfl (RM_kp k1 rfl rfl e)⟩, ab2_kp k2 rfl (ab2_kp k1 rfl h), ⟨t, RT_kp k2 rfl rfl (RT_kp k1 rfl rfl i)⟩, RR_kp k2 rfl rfl (RR_kp k1 rfl rfl j)⟩
theorem GK_c {f f1 f2 : Nat → Nat → Int32} (hK : GK f) (k1 : kp [5] f f1) (k2 : kp [10, 15] f1 f2) (x : XI f2) (r : ∃ c, RC c f2) : GK f2 := by
  obtain ⟨a, b, ⟨c, d⟩, ⟨m, e⟩, h, ⟨t, i⟩, j⟩ := hK
  exact ⟨GJ_2 a k1 k2 x rfl rfl, RK_kp k2 rfl rfl (RK_kp k1 rfl rfl b), r, ⟨m, RM_kp k2 rfl rfl (RM_kp k1 rfl rfl e)⟩, ab2_kp k2 rfl (ab2_kp k1 rfl h), ⟨t, RT_kp k2 rfl rfl (RT_kp k1 rfl rfl i)⟩, RR_kp k2 rfl rfl (RR_kp k1 rfl rfl j)⟩
theorem GK_m {f f1 f2 : Nat → Nat → Int32} (hK : GK f) (k1 : kp [6] f f1) (k2 : kp [10, 16] f1 f2) (x : XI f2) (r : ∃ m, RM m f2) : GK f2 := by
  obtain ⟨a, b, ⟨c, d⟩, ⟨m, e⟩, h, ⟨t, i⟩, j⟩ := hK
  exact ⟨GJ_2 a k1 k2 x rfl rfl, RK_kp k2 rfl rfl (RK_kp k1 rfl rfl b), ⟨c, RC_kp k2 rfl rfl (RC_kp k1 rfl rfl d)⟩, r, ab2_kp k2 rfl (ab2_kp k1 rfl h), ⟨t, RT_kp k2 rfl rfl (RT_kp k1 rfl rfl i)⟩, RR_kp k2 rfl rfl (RR_kp k1 rfl rfl j)⟩
theorem GK_t {f f1 f2 : Nat → Nat → Int32} (hK : GK f) (k1 : kp [3] f f1) (k2 : kp [13] f1 f2) (x : XI f2) (r : (∃ t, RT t f2) ∧ RR f2) : GK f2 := by
  obtain ⟨a, b, ⟨c, d⟩, ⟨m, e⟩, h, ⟨t, i⟩, j⟩ := hK
  exact ⟨GJ_2 a k1 k2 x rfl rfl, RK_kp k2 rfl rfl (RK_kp k1 rfl rfl b), ⟨c, RC_kp k2 rfl rfl (RC_kp k1 rfl rfl d)⟩, ⟨m, RM_kp k2 rfl rfl (RM_kp k1 rfl rfl e)⟩, ab2_kp k2 rfl (ab2_kp k1 rfl h), r.1, r.2⟩
theorem GK_r {f f1 f2 : Nat → Nat → Int32} (hK : GK f) (k1 : kp [3] f f1) (k2 : kp [10, 13] f1 f2) (x : XI f2) (r : (∃ t, RT t f2) ∧ RR f2) : GK f2 := by
  obtain ⟨a, b, ⟨c, d⟩, ⟨m, e⟩, h, ⟨t, i⟩, j⟩ := hK
  exact ⟨GJ_2 a k1 k2 x rfl rfl, RK_kp k2 rfl rfl (RK_kp k1 rfl rfl b), ⟨c, RC_kp k2 rfl rfl (RC_kp k1 rfl rfl d)⟩, ⟨m, RM_kp k2 rfl rfl (RM_kp k1 rfl rfl e)⟩, ab2_kp k2 rfl (ab2_kp k1 rfl h), r.1, r.2⟩
theorem RR_ty {t : Nat} {f f1 f2 : Nat → Nat → Int32} {w : Int64} {x v1 v2 : Int32} (hR : RR f) (s1 : tyS 107 3 118 t f f1 w x v1) (s2 : tyS 181 46 217 t f1 f2 w x v2) : RR f2 := by
  have key : ∀ a i, ¬ a = 107 → ¬ a = 118 → ¬ a = 181 → ¬ a = 217 → f2 a i = f a i := fun a i h1 h2 h3 h4 => by
    have e2 : f2 a i = f1 a i := by
      rcases s2 with ⟨_, _, rfl⟩ | ⟨n, _, _, _, _, ⟨_, _, rfl⟩ | ⟨_, _, h⟩⟩
      · rfl
      · rfl
      · exact h.2.2 a i (fun z => h3 z.1) (fun z => h4 z.1)
    have e1 : f1 a i = f a i := by
      rcases s1 with ⟨_, _, rfl⟩ | ⟨n, _, _, _, _, ⟨_, _, rfl⟩ | ⟨_, _, h⟩⟩
      · rfl
      · rfl
      · exact h.2.2 a i (fun z => h1 z.1) (fun z => h2 z.1)
    exact e2.trans e1
  intro k t hk ht
  rw [key _ _ (by omega) (by omega) (by omega) (by omega), hR k t hk ht]
  exact eC_congr (fun k' t' hk' ht' => (key _ _ (by omega) (by omega) (by omega) (by omega)).symm) ht
theorem GK_ini {f : Nat → Nat → Int32} (hf : ∀ a i, 6 ≤ a → f a i = if a < 227 then inix a i else 0) (h3 : ab3 f) (h2 : ab2 f) : GK f := by
  refine ⟨GJ_ini hf h3, fun s hs => ?_, ⟨0, by omega, ?_, ?_, fun k hk => absurd hk (by omega)⟩, ⟨0, by omega, ?_, ?_, fun k hk => absurd hk (by omega)⟩, h2, ⟨0, by omega, ?_, ?_, fun k hk => absurd hk (by omega)⟩, fun k t hk ht => ?_⟩
  · rw [hf 120 s (by omega), if_pos (by omega), inix_0 _ (by decide), hf 212 s (by omega), if_pos (by omega), inix_0 _ (by decide)]
  · rw [hf 129 6 (by omega), if_pos (by omega), inix_0 _ (by decide)]
    rfl
  · rw [hf 181 16 (by omega), if_pos (by omega), inix_0 _ (by decide)]
    rfl
  · rw [hf 139 13 (by omega), if_pos (by omega), inix_0 _ (by decide)]
    rfl
  · rw [hf 181 27 (by omega), if_pos (by omega), inix_0 _ (by decide)]
    rfl
  · rw [hf 107 3 (by omega), if_pos (by omega), inix_0 _ (by decide)]
    rfl
  · rw [hf 181 46 (by omega), if_pos (by omega), inix_0 _ (by decide)]
    rfl
  · have key : ∀ k, k < 4 → ∀ t, t < 3 → (if 109 + k < 227 then inix (109 + k) t else 0) = eC (fun k t => if 213 + t < 227 then inix (213 + t) k else 0) k t := by decide
    have e := key k hk t ht
    rw [hf (109 + k) t (by omega), e]
    exact eC_congr (fun k' t' hk' ht' => (hf (213 + t') k' (by omega)).symm) ht
