theorem bvb (b : BitVec 64) (s : Nat) (hs : s = 0 ∨ s = 8 ∨ s = 16 ∨ s = 24 ∨ s = 32 ∨ s = 40 ∨ s = 48 ∨ s = 56) : b.sshiftRight s &&& 255#64 = (((b >>> s).setWidth 32) &&& 255#32).signExtend 64 := by
  apply BitVec.eq_of_toNat_eq
  have m1 : ∀ (x : BitVec 64), (x &&& 255#64).toNat = x.toNat % 256 := fun x => by
    rw [BitVec.toNat_and]
    exact Nat.and_two_pow_sub_one_eq_mod _ 8
  have m2 : ∀ (x : BitVec 32), (x &&& 255#32).toNat = x.toNat % 256 := fun x => by
    rw [BitVec.toNat_and]
    exact Nat.and_two_pow_sub_one_eq_mod _ 8
  have m3 : ∀ (x : BitVec 32), (x &&& 255#32).msb = false := fun x => by
    rw [BitVec.msb_eq_decide, m2]
    have : x.toNat % 256 < 256 := Nat.mod_lt _ (by decide)
    simp
    omega
  rw [m1, BitVec.signExtend_eq_setWidth_of_msb_false (m3 _), BitVec.toNat_setWidth, m2, BitVec.toNat_setWidth, BitVec.toNat_ushiftRight, BitVec.toNat_sshiftRight]
  have hb := b.isLt
  generalize b.toNat = n at hb ⊢
  rcases hs with rfl | rfl | rfl | rfl | rfl | rfl | rfl | rfl <;> simp only [Nat.shiftRight_eq_div_pow] <;> split <;> omega
theorem byte_s (w a : Int64) (u : UInt64) (s : Nat) (hs : s = 0 ∨ s = 8 ∨ s = 16 ∨ s = 24 ∨ s = 32 ∨ s = 40 ∨ s = 48 ∨ s = 56) (ha : (a.toBitVec.smod 64).toNat = s) (hu : (u.toBitVec % 64).toNat = s) : (w >>> a) &&& 255 = ((w.toUInt64 >>> u).toInt64.toInt32 &&& 255).toInt64 := by
  apply Int64.toBitVec_inj.mp
  have l : ((w >>> a) &&& 255).toBitVec = w.toBitVec.sshiftRight s &&& 255#64 := by
    rw [← ha]
    rfl
  have r : ((w.toUInt64 >>> u).toInt64.toInt32 &&& 255).toInt64.toBitVec = (((w.toBitVec >>> s).setWidth 32) &&& 255#32).signExtend 64 := by
    rw [Int32.toBitVec_toInt64]
    have e : (w.toUInt64 >>> u).toInt64.toInt32.toBitVec = (w.toBitVec >>> s).setWidth 32 := by
      rw [Int64.toBitVec_toInt32, BitVec.signExtend_eq_setWidth_of_le _ (by decide), ← hu]
      rfl
    have e2 : ((w.toUInt64 >>> u).toInt64.toInt32 &&& 255).toBitVec = (w.toUInt64 >>> u).toInt64.toInt32.toBitVec &&& 255#32 := rfl
    rw [e2, e]
  rw [l, r]
  exact bvb w.toBitVec s hs
theorem byte_eq (w : Int64) (j : Nat) (hj : j < 8) : (w >>> ((8 * nI j).toInt64 &&& 63)) &&& 255 = (bAt w (nI j)).toInt64 := by
  unfold bAt
  match j, hj with
  | 0, _ => exact byte_s w _ _ 0 (by decide) (by decide) (by decide)
  | 1, _ => exact byte_s w _ _ 8 (by decide) (by decide) (by decide)
  | 2, _ => exact byte_s w _ _ 16 (by decide) (by decide) (by decide)
  | 3, _ => exact byte_s w _ _ 24 (by decide) (by decide) (by decide)
  | 4, _ => exact byte_s w _ _ 32 (by decide) (by decide) (by decide)
  | 5, _ => exact byte_s w _ _ 40 (by decide) (by decide) (by decide)
  | 6, _ => exact byte_s w _ _ 48 (by decide) (by decide) (by decide)
  | 7, _ => exact byte_s w _ _ 56 (by decide) (by decide) (by decide)
theorem chr_eq {b : Int32} (h : inr 32 126 b) : vp_nar .char ((b.toUInt32 % 65536).toInt32) = b := by
  have key : ∀ j : Nat, j < 127 → vp_nar .char (((nI j).toUInt32 % 65536).toInt32) = nI j := by decide +kernel
  have h0 : inr 0 126 b := ⟨Int32.le_trans (by decide) h.1, h.2⟩
  obtain ⟨j, hj, rfl⟩ := inr_nat (n := 126) rfl h0
  exact key j (by omega)
theorem byte_i (w : Int64) (j : Nat) (hj : j < 8) : ((w >>> ((8 * nI j).toInt64 &&& 63)) &&& 255).toInt32 = bAt w (nI j) := by
  rw [byte_eq w j hj]
  exact Int32.toInt32_toInt64 _
/-- what typing leaves: P the place of the tape's length (slot s), Q the tape's own -/
def tyL (P s Q : Nat) (f f1 : Nat → Nat → Int32) (t n : Nat) (w : Int64) : Prop := f1 P s = nI (t + n) ∧ (∀ j, j < n → f1 Q (t + j) = bAt w (nI (n - 1 - j))) ∧ (∀ a i, ¬ (a = P ∧ i = s) → ¬ (a = Q ∧ t ≤ i) → f1 a i = f a i)
def tyS (P s Q : Nat) (t : Nat) (f f1 : Nat → Nat → Int32) (w : Int64) (x v : Int32) : Prop := (¬ tyw w x ∧ v = -1 ∧ f1 = f) ∨ (∃ n, 1 ≤ n ∧ n ≤ 8 ∧ x = nI n ∧ (∀ j, j < n → okb w j) ∧ ((50 < t + n ∧ v = -3 ∧ f1 = f) ∨ (t + n ≤ 50 ∧ v = nI (t + n) ∧ tyL P s Q f f1 t n w)))
theorem tyw_n {w : Int64} {n : Nat} (hn : n ≤ 8) (h : ¬ ∀ j, j < n → okb w j) : ¬ tyw w (nI n) := fun z => h (fun j hj => z.2 j (by rw [nI_clamp (by omega)]; exact hj))
theorem tyw_y {w : Int64} {x : Int32} {n : Nat} (h1 : 1 ≤ n) (hn : n ≤ 8) (e : x = nI n) (h : ∀ j, j < n → okb w j) : tyw w x := by
  subst e
  refine ⟨⟨?_, ?_⟩, fun j hj => h j (by rw [nI_clamp (by omega)] at hj; exact hj)⟩
  · rw [Int32.le_iff_toInt_le, nI_toInt (by omega)]
    have e1 : (1 : Int32).toInt = 1 := rfl
    omega
  · rw [Int32.le_iff_toInt_le, nI_toInt (by omega)]
    have e1 : (8 : Int32).toInt = 8 := rfl
    omega
theorem fr_step {f0 f : Nat → Nat → Int32} {P s Q t m n : Nat} {v : Int32} {w : Int64} (hPQ : ¬ P = Q) (htm : t ≤ m) (hv : v = bAt w (nI (n - 1 - (m - t)))) (h1 : ∀ j, j < m - t → f Q (t + j) = bAt w (nI (n - 1 - j))) (h2 : ∀ a i, ¬ (a = P ∧ i = s) → ¬ (a = Q ∧ t ≤ i) → f a i = f0 a i) : (∀ j, j < m + 1 - t → m_ui (m_ui f Q m v) P s (nI (m + 1)) Q (t + j) = bAt w (nI (n - 1 - j))) ∧ (∀ a i, ¬ (a = P ∧ i = s) → ¬ (a = Q ∧ t ≤ i) → m_ui (m_ui f Q m v) P s (nI (m + 1)) a i = f0 a i) := by
  constructor
  · intro j hj
    rw [m_ui_o (fun z => hPQ z.1.symm)]
    by_cases e : t + j = m
    · rw [m_ui_s' e, hv, show m - t = j by omega]
    · rw [m_ui_o (fun z => e z.2)]
      exact h1 j (by omega)
  · intro a i z1 z2
    rw [m_ui_o z1, m_ui_o (fun z => z2 ⟨z.1, by omega⟩)]
    exact h2 a i z1 z2
set_option maxRecDepth 100000 in
theorem ap_lp {d L n t : Nat} {w : Int64} {f0 : Nat → Nat → Int32} {g : Nat → Nat → Int64} {R : Option Value → mH → Prop} (hd : 1 ≤ d) (hn8 : n ≤ 8) (hn : t + n ≤ 50) (hk : ∀ j, j < n → okb w j) (H : ∀ f', tyL 107 3 118 f0 f' t n w → R (some (.int (nI (t + n)))) (shF L, f', g)) :
    ∀ (k m : Nat) (f : Nat → Nat → Int32), m + k = t + n → t ≤ m → f 107 3 = nI m → (∀ j, j < m - t → f 118 (t + j) = bAt w (nI (n - 1 - j))) → (∀ a i, ¬ (a = 107 ∧ i = 3) → ¬ (a = 118 ∧ t ≤ i) → f a i = f0 a i) → WPe pg_X6_append none (Run mtab d) R (m_drop pg_X6_append 12) [some (.ref 107), some (.long w), none, some (.int (nI n)), some (.int (nI k + -1))] [] (shF L, f, g)
  | 0, m, f, hm, htm, hf, h1, h2 => by
    have e : m = t + n := by omega
    subst e
    refine at_X6_append ?_
    conv => whnf
    refine ⟨fun c => ?_, fun c => absurd (by decide) c⟩
    conv => whnf
    simp only [hf]
    exact H f ⟨hf, fun j hj => h1 j (by omega), h2⟩
  | k + 1, m, f, hm, htm, hf, h1, h2 => by
    have e : nI (k + 1) + -1 = nI k := by rw [← Int32.sub_eq_add_neg, nI_pred]
    have hcl : (nI m).toNatClampNeg = m := nI_clamp (by omega)
    have hv : vp_nar .char (((bAt w (nI k)).toUInt32 % 65536).toInt32) = bAt w (nI (n - 1 - (m - t))) := by
      rw [chr_eq (hk k (by omega)), show n - 1 - (m - t) = k by omega]
    have st := fr_step (f0 := f0) (P := 107) (s := 3) (Q := 118) (n := n) (by decide) htm hv h1 h2
    rw [e]
    refine at_X6_append ?_
    conv => whnf
    refine ⟨fun c => absurd c (nI_pos (by omega)), fun c => ?_⟩
    conv => whnf
    refine ct_byteAt hd ?_
    conv => whnf
    simp only [hf]
    refine ⟨vp_in_nI (by omega) (by decide), ?_⟩
    conv => whnf
    simp only [hf, hcl, nI_1, m_ui_ap, m_fil_ap, m_cpy_ap, Nat.reduceEqDiff, Nat.reduceLT, Nat.reduceLeDiff, eq_self, ↓reduceIte, false_and, and_false, true_and, and_true, and_self]
    exact ap_lp hd hn8 hn hk H k (m + 1) _ (by omega) (by omega) m_ui_s st.1 st.2
set_option maxRecDepth 100000 in
set_option maxHeartbeats 4000000 in
theorem sf_append {d L : Nat} {f : Nat → Nat → Int32} {g : Nat → Nat → Int64} {n t : Nat} {w : Int64} {R : Option Value → mH → Prop} (hd : 2 ≤ d) (hn8 : n ≤ 8) (ht : t ≤ 50) (hb : f 107 3 = nI t) (hk : ∀ j, j < n → okb w j) (HF : 50 < t + n → R (some (.int (-3))) (shF L, f, g)) (H : t + n ≤ 50 → ∀ f', tyL 107 3 118 f f' t n w → R (some (.int (nI (t + n)))) (shF L, f', g)) : Run mtab d 52 [.ref 107, .long w, .int (nI n)] (shF L, f, g) R := by
  obtain ⟨d, rfl⟩ : ∃ e, d = e + 1 := ⟨d - 1, by omega⟩
  refine go_X6_append rfl ?_
  conv => whnf
  simp only [hb]
  refine ⟨fun c => ?_, fun c => ?_⟩
  · have c2 : nI t + nI n ≤ nI 50 := c
    rw [nI_add, nI_leI (by omega) (by decide)] at c2
    conv => whnf
    have e2 : nI n - 1 = nI n + -1 := Int32.sub_eq_add_neg ..
    have := ap_lp (d := d) (L := L) (g := g) (w := w) (f0 := f) (n := n) (t := t) (by omega) hn8 c2 hk (H c2) n t f (by omega) (Nat.le_refl _) hb (fun j hj => absurd hj (by omega)) (fun a i _ _ => rfl)
    rw [← e2] at this
    exact this
  · have c2 : ¬ nI t + nI n ≤ nI 50 := c
    rw [nI_add, nI_leI (by omega) (by decide)] at c2
    conv => whnf
    exact HF (by omega)
set_option maxRecDepth 100000 in
theorem sf_type {d L t : Nat} {x : Int32} {w : Int64} {f : Nat → Nat → Int32} {g : Nat → Nat → Int64} {R : Option Value → mH → Prop} (hd : 6 ≤ d) (ht : t ≤ 50) (hb : f 107 3 = nI t) (H : ∀ v f1, tyS 107 3 118 t f f1 w x v → R (some (.int v)) (shF L, f1, g)) : Run mtab d 119 [.ref 5, .long w, .int x] (shF L, f, g) R := by
  obtain ⟨d, rfl⟩ : ∃ e, d = e + 1 := ⟨d - 1, by omega⟩
  refine go_X10_type rfl ?_
  conv => whnf
  refine ct_isWithin (by omega) (fun p => ?_) (fun p => ?_)
  · conv => whnf
    (refine ⟨fun c => ?_, fun c => ?_⟩ <;> first | ((have c9 : (1 : Int32) = 0 := by with_reducible exact c); exact absurd c9 (by decide)) | exact absurd (rfl : (0 : Int32) = 0) (by with_reducible exact c) | exact absurd True.intro (by with_reducible exact c) | exact False.elim (by with_reducible exact c) | (conv => whnf))
    obtain ⟨n, h1, h8, rfl⟩ := inr_18 p
    refine ct_areTypable (by omega) h8 (fun q => ?_) (fun q => ?_)
    · conv => whnf
      (refine ⟨fun c => ?_, fun c => ?_⟩ <;> first | ((have c9 : (1 : Int32) = 0 := by with_reducible exact c); exact absurd c9 (by decide)) | exact absurd (rfl : (0 : Int32) = 0) (by with_reducible exact c) | exact absurd True.intro (by with_reducible exact c) | exact False.elim (by with_reducible exact c) | (conv => whnf))
      refine sf_append (by omega) h8 ht hb q (fun z => ?_) (fun z f1 s1 => ?_)
      · conv => whnf
        exact H _ _ (Or.inr ⟨n, h1, h8, rfl, q, Or.inl ⟨z, rfl, rfl⟩⟩)
      · conv => whnf
        exact H _ _ (Or.inr ⟨n, h1, h8, rfl, q, Or.inr ⟨z, rfl, s1⟩⟩)
    · conv => whnf
      (refine ⟨fun c => ?_, fun c => ?_⟩ <;> first | ((have c9 : (1 : Int32) = 0 := by with_reducible exact c); exact absurd c9 (by decide)) | exact absurd (rfl : (0 : Int32) = 0) (by with_reducible exact c) | exact absurd True.intro (by with_reducible exact c) | exact False.elim (by with_reducible exact c) | (conv => whnf))
      exact H _ _ (Or.inl ⟨tyw_n h8 q, rfl, rfl⟩)
  · conv => whnf
    (refine ⟨fun c => ?_, fun c => ?_⟩ <;> first | ((have c9 : (1 : Int32) = 0 := by with_reducible exact c); exact absurd c9 (by decide)) | exact absurd (rfl : (0 : Int32) = 0) (by with_reducible exact c) | exact absurd True.intro (by with_reducible exact c) | exact False.elim (by with_reducible exact c) | (conv => whnf))
    exact H _ _ (Or.inl ⟨fun z => p z.1, rfl, rfl⟩)
set_option maxRecDepth 100000 in
theorem mt2_lp {d L n t : Nat} {w : Int64} {f0 : Nat → Nat → Int32} {g : Nat → Nat → Int64} {R : Option Value → mH → Prop} (hn8 : n ≤ 8) (hn : t + n ≤ 50) (H : ∀ f', tyL 181 46 217 f0 f' t n w → R (some (.int (nI (t + n)))) (shF L, f', g)) :
    ∀ (k m : Nat) (y : Int32) (f : Nat → Nat → Int32), m + k = t + n → t ≤ m → y = nI k + -1 → f 181 46 = nI m → (∀ j, j < m - t → f 217 (t + j) = bAt w (nI (n - 1 - j))) → (∀ a i, ¬ (a = 181 ∧ i = 46) → ¬ (a = 217 ∧ t ≤ i) → f a i = f0 a i) → WPe pg_X11_type none (Run mtab d) R (m_drop pg_X11_type 41) [some (.ref 181), some (.long w), none, some (.int (nI n)), some (.int y)] [] (shF L, f, g)
  | 0, m, y, f, hm, htm, hy, hf, h1, h2 => by
    have e : m = t + n := by omega
    subst e
    subst hy
    refine at_X11_type ?_
    conv => whnf
    refine ⟨fun c => ?_, fun c => absurd (by decide) c⟩
    conv => whnf
    simp only [hf]
    exact H f ⟨hf, fun j hj => h1 j (by omega), h2⟩
  | k + 1, m, y, f, hm, htm, hy, hf, h1, h2 => by
    have e : nI (k + 1) + -1 = nI k := by rw [← Int32.sub_eq_add_neg, nI_pred]
    have hcl : (nI m).toNatClampNeg = m := nI_clamp (by omega)
    have hv : ((w >>> ((8 * nI k).toInt64 &&& 63)) &&& 255).toInt32 = bAt w (nI (n - 1 - (m - t))) := by
      rw [byte_i w k (by omega), show n - 1 - (m - t) = k by omega]
    have st := fr_step (f0 := f0) (P := 181) (s := 46) (Q := 217) (n := n) (by decide) htm hv h1 h2
    rw [e] at hy
    subst hy
    refine at_X11_type ?_
    conv => whnf
    refine ⟨fun c => absurd c (nI_pos (by omega)), fun c => ?_⟩
    conv => whnf
    simp only [hf]
    refine ⟨vp_in_nI (by omega) (by decide), ?_⟩
    conv => whnf
    simp only [hf, hcl, nI_1, m_ui_ap, m_fil_ap, m_cpy_ap, Nat.reduceEqDiff, Nat.reduceLT, Nat.reduceLeDiff, eq_self, ↓reduceIte, false_and, and_false, true_and, and_true, and_self]
    exact mt2_lp hn8 hn H k (m + 1) _ _ (by omega) (by omega) rfl m_ui_s st.1 st.2
set_option maxRecDepth 100000 in
theorem mt1_lp {d L n t : Nat} {w : Int64} {f : Nat → Nat → Int32} {g : Nat → Nat → Int64} {R : Option Value → mH → Prop} (hd : 1 ≤ d) (hb : f 181 46 = nI t) (ht : t ≤ 50) (h1 : 1 ≤ n) (hn : n ≤ 8) (H : ∀ v f1, tyS 181 46 217 t f f1 w (nI n) v → R (some (.int v)) (shF L, f1, g)) :
    ∀ (k : Nat) (y : Int32), y = nI k + -1 → k ≤ n → (∀ j, k ≤ j → j < n → okb w j) → WPe pg_X11_type none (Run mtab d) R (m_drop pg_X11_type 12) [some (.ref 181), some (.long w), none, some (.int (nI n)), some (.int y)] [] (shF L, f, g)
  | 0, y, hy, hk, hp => by
    subst hy
    have q : ∀ j, j < n → okb w j := fun j hj => hp j (Nat.zero_le j) hj
    refine at_X11_type ?_
    conv => whnf
    refine ⟨fun c => ?_, fun c => absurd (by decide) c⟩
    conv => whnf
    simp only [hb]
    refine ⟨fun c => ?_, fun c => ?_⟩
    · have c2 : nI t + nI n ≤ nI 50 := c
      rw [nI_add, nI_leI (by omega) (by decide)] at c2
      conv => whnf
      exact mt2_lp (n := n) (t := t) hn c2 (fun f' s => H _ _ (Or.inr ⟨n, h1, hn, rfl, q, Or.inr ⟨c2, rfl, s⟩⟩)) n t _ f (by omega) (Nat.le_refl _) (Int32.sub_eq_add_neg ..) hb (fun j hj => absurd hj (by omega)) (fun a i _ _ => rfl)
    · have c2 : ¬ nI t + nI n ≤ nI 50 := c
      rw [nI_add, nI_leI (by omega) (by decide)] at c2
      conv => whnf
      exact H _ _ (Or.inr ⟨n, h1, hn, rfl, q, Or.inl ⟨by omega, rfl, rfl⟩⟩)
  | k + 1, y, hy, hk, hp => by
    have e : nI (k + 1) + -1 = nI k := by rw [← Int32.sub_eq_add_neg, nI_pred]
    rw [e] at hy
    subst hy
    refine at_X11_type ?_
    conv => whnf
    refine ⟨fun c => absurd c (nI_pos (by omega)), fun c => ?_⟩
    conv => whnf
    refine ct_in hd (byte_eq w k (by omega)) (lo := 32) rfl (hi := 126) rfl (fun p => ?_) (fun p => ?_)
    · conv => whnf
      (refine ⟨fun c => ?_, fun c => ?_⟩ <;> first | ((have c9 : (1 : Int32) = 0 := by with_reducible exact c); exact absurd c9 (by decide)) | exact absurd (rfl : (0 : Int32) = 0) (by with_reducible exact c) | exact absurd True.intro (by with_reducible exact c) | exact False.elim (by with_reducible exact c) | (conv => whnf))
      exact mt1_lp hd hb ht h1 hn H k _ rfl (by omega) (fun j hj hj2 => by
        by_cases e : j = k
        · subst e
          exact p
        · exact hp j (by omega) hj2)
    · conv => whnf
      (refine ⟨fun c => ?_, fun c => ?_⟩ <;> first | ((have c9 : (1 : Int32) = 0 := by with_reducible exact c); exact absurd c9 (by decide)) | exact absurd (rfl : (0 : Int32) = 0) (by with_reducible exact c) | exact absurd True.intro (by with_reducible exact c) | exact False.elim (by with_reducible exact c) | (conv => whnf))
      exact H _ _ (Or.inl ⟨tyw_n hn (fun q => p (q k (by omega))), rfl, rfl⟩)
set_option maxRecDepth 100000 in
theorem smf_type {d L t : Nat} {x : Int32} {w : Int64} {f : Nat → Nat → Int32} {g : Nat → Nat → Int64} {R : Option Value → mH → Prop} (hd : 6 ≤ d) (ht : t ≤ 50) (hb : f 181 46 = nI t) (H : ∀ v f1, tyS 181 46 217 t f f1 w x v → R (some (.int v)) (shF L, f1, g)) : Run mtab d 215 [.ref 181, .long w, .int x] (shF L, f, g) R := by
  obtain ⟨d, rfl⟩ : ∃ e, d = e + 1 := ⟨d - 1, by omega⟩
  refine go_X11_type rfl ?_
  conv => whnf
  refine ct_i_1_8 (by omega) (fun p => ?_) (fun p => ?_)
  · obtain ⟨n, h1, h8, rfl⟩ := inr_18 p
    conv => whnf
    (refine ⟨fun c => ?_, fun c => ?_⟩ <;> first | ((have c9 : (1 : Int32) = 0 := by with_reducible exact c); exact absurd c9 (by decide)) | exact absurd (rfl : (0 : Int32) = 0) (by with_reducible exact c) | exact absurd True.intro (by with_reducible exact c) | exact False.elim (by with_reducible exact c) | (conv => whnf))
    exact mt1_lp (by omega) hb ht h1 h8 H n _ (Int32.sub_eq_add_neg ..) (Nat.le_refl n) (fun j hj hj2 => absurd hj (by omega))
  · conv => whnf
    (refine ⟨fun c => ?_, fun c => ?_⟩ <;> first | ((have c9 : (1 : Int32) = 0 := by with_reducible exact c); exact absurd c9 (by decide)) | exact absurd (rfl : (0 : Int32) = 0) (by with_reducible exact c) | exact absurd True.intro (by with_reducible exact c) | exact False.elim (by with_reducible exact c) | (conv => whnf))
    exact H _ _ (Or.inl ⟨fun z => p z.1, rfl, rfl⟩)
def RT (t : Nat) (f : Nat → Nat → Int32) : Prop := t ≤ 50 ∧ f 107 3 = nI t ∧ f 181 46 = nI t ∧ ∀ j, j < t → f 118 j = f 217 j ∧ inr 32 126 (f 217 j)
def RR (f : Nat → Nat → Int32) : Prop := ∀ k t, k < 4 → t < 3 → f (109 + k) t = eC (fun k t => f (213 + t) k) k t
theorem RT_kp {l : List Nat} {t : Nat} {f f' : Nat → Nat → Int32} (k : kp l f f') (h3 : hasN l 3 = false) (h13 : hasN l 13 = false) (r : RT t f) : RT t f' := by
  obtain ⟨a, b, c, d⟩ := r
  refine ⟨a, (k 107 3 (by exact h3)).trans b, (k 181 46 (by exact h13)).trans c, fun j hj => ?_⟩
  rw [k 118 j (by exact h3), k 217 j (by exact h13)]
  exact d j hj
theorem cmp_3 {i : Nat} : ∀ a, 107 ≤ a → a ≤ 118 → cmp a i = 3 := by
  intro a h h'
  have : a = 107 ∨ a = 108 ∨ a = 109 ∨ a = 110 ∨ a = 111 ∨ a = 112 ∨ a = 113 ∨ a = 114 ∨ a = 115 ∨ a = 116 ∨ a = 117 ∨ a = 118 := by omega
  rcases this with rfl | rfl | rfl | rfl | rfl | rfl | rfl | rfl | rfl | rfl | rfl | rfl <;> rfl
theorem cmp_13 {i : Nat} : ∀ a, 213 ≤ a → a ≤ 215 → cmp a i = 13 := by
  intro a h h'
  have : a = 213 ∨ a = 214 ∨ a = 215 := by omega
  rcases this with rfl | rfl | rfl <;> rfl
theorem eC_congr {S S' : Nat → Nat → Int32} (h : ∀ k t, k < 4 → t < 3 → S k t = S' k t) {k t : Nat} (ht : t < 3) : eC S k t = eC S' k t := eC_SR (fun k hk => ⟨h k 0 hk (by omega), fun _ => ⟨h k 1 hk (by omega), h k 2 hk (by omega)⟩⟩) ht
theorem RR_kp {l : List Nat} {f f' : Nat → Nat → Int32} (k : kp l f f') (h3 : hasN l 3 = false) (h13 : hasN l 13 = false) (r : RR f) : RR f' := fun j t hj ht => by
  rw [k (109 + j) t (by rw [cmp_3 _ (by omega) (by omega)]; exact h3), r j t hj ht]
  exact eC_congr (fun k' t' hk' ht' => (k (213 + t') k' (by rw [cmp_13 _ (by omega) (by omega)]; exact h13)).symm) ht
theorem ab2_kp {l : List Nat} {f f' : Nat → Nat → Int32} (k : kp l f f') (h20 : hasN l 20 = false) (r : ab2 f) : ab2 f' := ⟨(k 2 0 (by exact h20)).trans r.1, (k 2 1 (by exact h20)).trans r.2.1, (k 2 2 (by exact h20)).trans r.2.2⟩
theorem XI_ty {f f1 : Nat → Nat → Int32} (hX : XI f) {P s Q t n : Nat} {w : Int64} (h : tyL P s Q f f1 t n w) (h1 : okv P s (f1 P s)) (hQ : ∀ i v, okv Q i v) : XI f1 := fun a i => by
  by_cases e1 : a = P ∧ i = s
  · rw [e1.1, e1.2]
    exact h1
  · by_cases e2 : a = Q ∧ t ≤ i
    · rw [e2.1]
      exact hQ _ _
    · rw [h.2.2 a i e1 e2]
      exact hX a i
theorem kx_type {t : Nat} {f f1 : Nat → Nat → Int32} {w : Int64} {x v : Int32} (s : tyS 107 3 118 t f f1 w x v) : kp [3] f f1 := by
  rcases s with ⟨_, _, rfl⟩ | ⟨n, _, _, _, _, ⟨_, _, rfl⟩ | ⟨_, _, h⟩⟩
  · exact kp_refl _ _
  · exact kp_refl _ _
  · intro a i z
    refine h.2.2 a i (fun e => ?_) (fun e => ?_)
    · rw [e.1, e.2] at z
      exact absurd (show true = false from z) (by decide)
    · rw [e.1] at z
      exact absurd (show true = false from z) (by decide)
theorem km_type {t : Nat} {f f1 : Nat → Nat → Int32} {w : Int64} {x v : Int32} (s : tyS 181 46 217 t f f1 w x v) : kp [13] f f1 := by
  rcases s with ⟨_, _, rfl⟩ | ⟨n, _, _, _, _, ⟨_, _, rfl⟩ | ⟨_, _, h⟩⟩
  · exact kp_refl _ _
  · exact kp_refl _ _
  · intro a i z
    refine h.2.2 a i (fun e => ?_) (fun e => ?_)
    · rw [e.1, e.2] at z
      exact absurd (show true = false from z) (by decide)
    · rw [e.1] at z
      exact absurd (show true = false from z) (by decide)
theorem fin_type {t : Nat} {f f1 f2 : Nat → Nat → Int32} {w : Int64} {x v1 v2 : Int32} (hX : XI f) (hT : RT t f) (s1 : tyS 107 3 118 t f f1 w x v1) (s2 : tyS 181 46 217 t f1 f2 w x v2) : XI f2 ∧ (∃ t, RT t f2) ∧ v1 = v2 := by
  have ht := hT.1
  rcases s1 with ⟨q1, rfl, rfl⟩ | ⟨n, a1, a8, e1, ok, s1⟩
  · rcases s2 with ⟨q2, rfl, rfl⟩ | ⟨n', b1, b8, e2, ok2, _⟩
    · exact ⟨hX, ⟨t, hT⟩, rfl⟩
    · exact absurd (tyw_y b1 b8 e2 ok2) q1
  · rcases s2 with ⟨q2, _⟩ | ⟨n', b1, b8, e2, ok2, s2⟩
    · exact absurd (tyw_y a1 a8 e1 ok) q2
    · have en : n = n' := (nI_eq (by omega) (by omega)).mp (e1.symm.trans e2)
      subst en
      rcases s1 with ⟨z1, rfl, rfl⟩ | ⟨z1, rfl, h1⟩
      · rcases s2 with ⟨z2, rfl, rfl⟩ | ⟨z2, _⟩
        · exact ⟨hX, ⟨t, hT⟩, rfl⟩
        · omega
      · rcases s2 with ⟨z2, _⟩ | ⟨z2, rfl, h2⟩
        · omega
        · have x1 := XI_ty hX h1 (show inr 0 50 _ by rw [h1.1]; exact inr_n (m := 50) z1 rfl (by decide)) (fun i v => True.intro)
          have x2 := XI_ty x1 h2 (show inr 0 50 _ by rw [h2.1]; exact inr_n (m := 50) z1 rfl (by decide)) (fun i v => True.intro)
          refine ⟨x2, ⟨t + n, z1, ?_, h2.1, fun j hj => ?_⟩, rfl⟩
          · rw [h2.2.2 107 3 (by omega) (by omega)]
            exact h1.1
          · rw [h2.2.2 118 j (by omega) (by omega)]
            by_cases q : j < t
            · rw [h1.2.2 118 j (by omega) (by omega), h2.2.2 217 j (by omega) (by omega), h1.2.2 217 j (by omega) (by omega)]
              exact hT.2.2.2 j q
            · have ej : j = t + (j - t) := by omega
              have c1 := h1.2.1 (j - t) (by omega)
              have c2 := h2.2.1 (j - t) (by omega)
              rw [← ej] at c1 c2
              rw [c1, c2]
              exact ⟨rfl, ok _ (by omega)⟩
theorem kx_rules {m : Nat} {f f1 : Nat → Nat → Int32} {v : Int32} (s : rtC f m f1 v) : kp [3] f f1 := fun a i z => by
  by_cases e : 107 ≤ a ∧ a ≤ 118
  · by_cases e8 : a = 118
    · subst e8
      exact absurd (show true = false from z) (by decide)
    · rw [cmp_3 a e.1 e.2] at z
      exact absurd z (by decide)
  · exact s.2.1 a i (by omega) (by omega)
theorem km_rules {m : Nat} {f f1 : Nat → Nat → Int32} {v : Int32} (s : rtM f m f1 v) : kp [10, 13] f f1 := fun a i z => by
  refine s.2.2.1 a i (fun e => ?_) (fun e => ?_) (fun e => ?_)
  · rw [e.1, e.2] at z
    exact absurd (show true = false from z) (by decide)
  · rw [e.1, e.2] at z
    exact absurd (show true = false from z) (by decide)
  · by_cases e6 : a = 216
    · subst e6
      exact absurd (show true = false from z) (by decide)
    · rw [cmp_13 a e.1 (by omega)] at z
      exact absurd z (by decide)
theorem okv_rr {a i : Nat} {v : Int32} (h : 108 ≤ a) (h' : a ≤ 118) : okv a i v := by
  unfold okv
  repeat rw [if_neg (by omega)]
  trivial
theorem okv_g {a i : Nat} {v : Int32} (h : 213 ≤ a) (h' : a ≤ 216) : okv a i v := by
  unfold okv
  repeat rw [if_neg (by omega)]
  trivial
theorem okv_107 {i : Nat} {v : Int32} (h3 : i = 3 → inr 0 50 v) (h4 : i = 4 → inr 0 50 v) : okv 107 i v := by
  by_cases e3 : i = 3
  · subst e3
    exact h3 rfl
  · by_cases e4 : i = 4
    · subst e4
      exact h4 rfl
    · unfold okv
      repeat rw [if_neg (by omega)]
      trivial
theorem XI_rc {m : Nat} {f f1 : Nat → Nat → Int32} {v : Int32} (hX : XI f) (s : rtC f m f1 v) : XI f1 := fun a i => by
  obtain ⟨s1, s2, ⟨p, hp, s3⟩, _⟩ := s
  by_cases e : a = 107
  · subst e
    refine okv_107 (fun e3 => ?_) (fun e4 => ?_)
    · subst e3
      rw [s1]
      unfold inr
      decide
    · subst e4
      rw [s3]
      exact inr_n (m := 50) hp rfl (by decide)
  · by_cases e2 : 109 ≤ a ∧ a ≤ 117
    · exact okv_rr (by omega) (by omega)
    · rw [s2 a i e e2]
      exact hX a i
theorem XI_rm {m : Nat} {f f1 : Nat → Nat → Int32} {v : Int32} (hX : XI f) (s : rtM f m f1 v) : XI f1 := fun a i => by
  obtain ⟨s1, ⟨p, hp, s3⟩, s2, _⟩ := s
  by_cases e : a = 181 ∧ i = 46
  · rw [e.1, e.2]
    show inr 0 50 (f1 181 46)
    rw [s1]
    unfold inr
    decide
  · by_cases e1 : a = 181 ∧ i = 47
    · rw [e1.1, e1.2]
      show inr 0 50 (f1 181 47)
      rw [s3]
      exact inr_n (m := 50) hp rfl (by decide)
    · by_cases e2 : 213 ≤ a ∧ a ≤ 216
      · exact okv_g e2.1 e2.2
      · rw [s2 a i e e1 e2]
        exact hX a i
theorem RT_tk {t : Nat} {f f1 : Nat → Nat → Int32} (hT : RT t f) (h : ∀ j, f1 217 j = f 217 j) : tk f1 217 t = tk f 118 t := by
  funext j
  unfold tk
  by_cases q : j < t
  · rw [if_pos q, if_pos q, h, (hT.2.2.2 j q).1]
  · rw [if_neg q, if_neg q]
theorem RT_ch {t : Nat} {f : Nat → Nat → Int32} (hT : RT t f) : ∀ j, j < t → ¬ tk f 217 t j < 0 := fun j hj => by
  rw [tk_at hj]
  exact i32_nlt.mpr (Int32.le_trans (by decide) (hT.2.2.2 j hj).2.1)
theorem fin_rules {m : Nat} {f f1 f2 : Nat → Nat → Int32} {v1 v2 : Int32} (hX : XI f) (hT : RT m f) (hR : RR f) (s1 : rtC f m f1 v1) (s2 : rtM f1 m f2 v2) : XI f2 ∧ ((∃ t, RT t f2) ∧ RR f2) ∧ v1 = v2 := by
  have hm := hT.1
  have k1 := kx_rules s1
  have eT := RT_tk hT (fun j => k1 217 j rfl)
  have x2 := XI_rm (XI_rc hX s1) s2
  have r2 : RT 0 f2 := ⟨by omega, (by rw [km_rules s2 107 3 rfl]; exact s1.1), s2.1, fun j hj => absurd hj (by omega)⟩
  obtain ⟨_, _, _, s1⟩ := s1
  obtain ⟨_, _, w2, s2⟩ := s2
  rw [eT] at s2
  have bo := al_both (T := tk f 118 m) hm 3 0 0 (fun k t => if t = 0 then 0 else f (114 + k) t) (by omega) (by omega)
  have sr := al_SR (T := tk f 118 m) (m := m) 4 0 0 (fun k t => if t = 0 then 0 else f (114 + k) t) (fun _ _ => 0) (fun k hk => ⟨rfl, fun z => absurd rfl z⟩)
  have rows : ∀ j t, j < 4 → t < 3 → f2 (109 + j) t = f1 (109 + j) t := fun j t hj ht => w2 _ _ (by omega) (by omega) (by omega)
  have mrow : ∀ j t, t < 3 → f1 (213 + t) j = f (213 + t) j := fun j t ht => k1 (213 + t) j (by rw [cmp_13 _ (by omega) (by omega)]; rfl)
  cases ha : alS (tk f 118 m) m 4 0 0 (fun k t => if t = 0 then 0 else f (114 + k) t) with
  | error r =>
    obtain ⟨hr, hq⟩ := bo.1 r ha
    have h0 := sr.1 r ha
    rw [h0] at s2
    rcases s1 with ⟨_, ev1, y1⟩ | ⟨z1, _⟩
    · rcases s2 with ⟨r', e', ev2, y2⟩ | ⟨n', S', e', _⟩
      · cases e'
        refine ⟨x2, ⟨⟨0, r2⟩, fun j t hj ht => ?_⟩, ?_⟩
        · rw [rows j t hj ht, y1 j t hj ht, hR j t hj ht]
          exact eC_congr (fun k' t' hk' ht' => by rw [y2 k' t' hk' ht', mrow k' t' ht']) ht
        · rw [ev1, ev2]
          exact congrArg (fun z => -20 - z) hq
      · cases e'
    · exact absurd (hq.symm.trans z1) (nI_n1 (by omega))
  | ok v =>
    obtain ⟨n', S1⟩ := v
    obtain ⟨hn', hq⟩ := bo.2 n' S1 ha
    obtain ⟨S2, h0, hS⟩ := sr.2 n' S1 ha
    have q1 : (clsC (tk f 118 m) m 4 1 0 (-1) (fun k t => if t = 0 then 0 else f (114 + k) t)).2.1 = -1 := congrArg (fun z => z.2.1) hq
    have q0 : (clsC (tk f 118 m) m 4 1 0 (-1) (fun k t => if t = 0 then 0 else f (114 + k) t)).1 = nI n' := congrArg (fun z => z.1) hq
    have q2 : (clsC (tk f 118 m) m 4 1 0 (-1) (fun k t => if t = 0 then 0 else f (114 + k) t)).2.2 = S1 := congrArg (fun z => z.2.2) hq
    rw [h0] at s2
    rcases s1 with ⟨z1, _⟩ | ⟨_, ev1, y1⟩
    · exact absurd q1 z1
    · rcases s2 with ⟨r', e', _⟩ | ⟨n2, S3, e', ev2, y2⟩
      · cases e'
      · cases e'
        refine ⟨x2, ⟨⟨0, r2⟩, fun j t hj ht => ?_⟩, ?_⟩
        · rw [rows j t hj ht, y1 j t hj ht, q2, eC_SR hS ht]
          exact eC_congr (fun k' t' hk' ht' => (y2 k' t' hk' ht').symm) ht
        · rw [ev1, ev2, q0]
theorem fin_rule {f : Nat → Nat → Int32} {x1 x2 v1 v2 : Int32} (hR : RR f) (s1 : (¬ (inr 0 3 x1 ∧ inr 0 2 x2) ∧ v1 = -1) ∨ (∃ k t, k < 4 ∧ t < 3 ∧ x1 = nI k ∧ x2 = nI t ∧ v1 = f (109 + k) t)) (s2 : (¬ (inr 0 3 x1 ∧ inr 0 2 x2) ∧ v2 = -1) ∨ (∃ k t, k < 4 ∧ t < 3 ∧ x1 = nI k ∧ x2 = nI t ∧ v2 = eC (fun k t => f (213 + t) k) k t)) : v1 = v2 := by
  have inx : ∀ k t, k < 4 → t < 3 → x1 = nI k → x2 = nI t → (inr 0 3 x1 ∧ inr 0 2 x2) := fun k t hk ht e1 e2 => by
    rw [e1, e2]
    exact ⟨inr_n (m := 3) (by omega) rfl (by decide), inr_n (m := 2) (by omega) rfl (by decide)⟩
  rcases s1 with ⟨q1, rfl⟩ | ⟨k, t, hk, ht, e1, e2, rfl⟩
  · rcases s2 with ⟨q2, rfl⟩ | ⟨k, t, hk, ht, e1, e2, rfl⟩
    · rfl
    · exact absurd (inx k t hk ht e1 e2) q1
  · rcases s2 with ⟨q2, rfl⟩ | ⟨k', t', hk', ht', e1', e2', rfl⟩
    · exact absurd (inx k t hk ht e1 e2) q2
    · have ek : k = k' := (nI_eq (by omega) (by omega)).mp (e1.symm.trans e1')
      have et : t = t' := (nI_eq (by omega) (by omega)).mp (e2.symm.trans e2')
      subst ek
      subst et
      exact hR k t hk ht
def GK (f : Nat → Nat → Int32) : Prop := GJ f ∧ RK f ∧ (∃ c, RC c f) ∧ (∃ m, RM m f) ∧ ab2 f ∧ (∃ t, RT t f) ∧ RR f
def okn (l : List Nat) : Bool := (!hasN l 9 && (!hasN l 19 && (!hasN l 5 && (!hasN l 15 && (!hasN l 6 && (!hasN l 16 && (!hasN l 3 && (!hasN l 13 && !hasN l 20))))))))
def okk (l : List Nat) : Bool := okj l && okn l
theorem okn_of {l : List Nat} (h : okn l = true) : hasN l 9 = false ∧ hasN l 19 = false ∧ hasN l 5 = false ∧ hasN l 15 = false ∧ hasN l 6 = false ∧ hasN l 16 = false ∧ hasN l 3 = false ∧ hasN l 13 = false ∧ hasN l 20 = false := by
  unfold okn at h
  simp only [Bool.and_eq_true, Bool.not_eq_true'] at h
  exact h
theorem okk_of {l : List Nat} (h : okk l = true) : okj l = true ∧ okn l = true := by
  unfold okk at h
  simp only [Bool.and_eq_true] at h
  exact h
theorem RN3_kp {l : List Nat} {f f' : Nat → Nat → Int32} (k : kp l f f') (hl : okn l = true) (h : RK f ∧ (∃ c, RC c f) ∧ (∃ m, RM m f) ∧ ab2 f ∧ (∃ t, RT t f) ∧ RR f) : RK f' ∧ (∃ c, RC c f') ∧ (∃ m, RM m f') ∧ ab2 f' ∧ (∃ t, RT t f') ∧ RR f' := by
  obtain ⟨l9, l19, l5, l15, l6, l16, l3, l13, l20⟩ := okn_of hl
  obtain ⟨a, ⟨c, b⟩, ⟨m, e⟩, h2, ⟨t, i⟩, j⟩ := h
  exact ⟨RK_kp k l9 l19 a, ⟨c, RC_kp k l5 l15 b⟩, ⟨m, RM_kp k l6 l16 e⟩, ab2_kp k l20 h2, ⟨t, RT_kp k l3 l13 i⟩, RR_kp k l3 l13 j⟩
theorem GK_x {l : List Nat} {f f' : Nat → Nat → Int32} (h : GK f) (x : XI f') (k : kp l f f') (hl : okk l = true) : GK f' := by
  obtain ⟨l1, l2⟩ := okk_of hl
  exact ⟨GJ_x h.1 x k l1, RN3_kp k l2 h.2⟩
theorem GK_xE {f f' : Nat → Nat → Int32} (h : GK f) (x : XI f') (k : kp [0, 7] f f') (e : EI f') : GK f' := ⟨GJ_xE h.1 x k e, RN3_kp k rfl h.2⟩
theorem GK_j {l l' : List Nat} {f f1 f2 : Nat → Nat → Int32} (h : GK f) (k1 : kp l f f1) (k2 : kp l' f1 f2) (j : GJ f2) (hl : okn l = true) (hl' : okn l' = true) : GK f2 := ⟨j, RN3_kp k2 hl' (RN3_kp k1 hl h.2)⟩
theorem GJ_2 {l l' : List Nat} {f f1 f2 : Nat → Nat → Int32} (h : GJ f) (k1 : kp l f f1) (k2 : kp l' f1 f2) (x : XI f2) (hl : okj l = true) (hl' : okj l' = true) : GJ f2 := by
  obtain ⟨l0, l8, l18, l2, l12⟩ := okj_of hl
  obtain ⟨m0, m8, m18, m2, m12⟩ := okj_of hl'
  obtain ⟨a, b, c, d⟩ := h
  exact ⟨GI_2 a k1 k2 x l0 m0, RS_kp k2 m8 m18 (RS_kp k1 l8 l18 b), c, RO_kp k2 m2 m12 (RO_kp k1 l2 l12 d)⟩
theorem GK_kin {f f1 f2 : Nat → Nat → Int32} (hK : GK f) (k1 : kp [9] f f1) (k2 : kp [19] f1 f2) (x : XI f2) (r : RK f2) : GK f2 := by
  obtain ⟨a, b, ⟨c, d⟩, ⟨m, e⟩, h, ⟨t, i⟩, j⟩ := hK
  exact ⟨GJ_2 a k1 k2 x rfl rfl, r, ⟨c, RC_kp k2 rfl rfl (RC_kp k1 rfl rfl d)⟩, ⟨m, RM_kp k2 rfl rfl (RM_kp k1 rfl rfl e)⟩, ab2_kp k2 rfl (ab2_kp k1 rfl h), ⟨t, RT_kp k2 rfl rfl (RT_kp k1 rfl rfl i)⟩, RR_kp k2 rfl rfl (RR_kp k1 rfl rfl j)⟩
theorem GK_c {f f1 f2 : Nat → Nat → Int32} (hK : GK f) (k1 : kp [5] f f1) (k2 : kp [10, 15] f1 f2) (x : XI f2) (r : ∃ c, RC c f2) : GK f2 := by
  obtain ⟨a, b, ⟨c, d⟩, ⟨m, e⟩, h, ⟨t, i⟩, j⟩ := hK
  exact ⟨GJ_2 a k1 k2 x rfl rfl, RK_kp k2 rfl rfl (RK_kp k1 rfl rfl b), r, ⟨m, RM_kp k2 rfl rfl (RM_kp k1 rfl rfl e)⟩, ab2_kp k2 rfl (ab2_kp k1 rfl h), ⟨t, RT_kp k2 rfl rfl (RT_kp k1 rfl rfl i)⟩, RR_kp k2 rfl rfl (RR_kp k1 rfl rfl j)⟩
theorem GK_m {f f1 f2 : Nat → Nat → Int32} (hK : GK f) (k1 : kp [6] f f1) (k2 : kp [10, 16] f1 f2) (x : XI f2) (r : ∃ m, RM m f2) : GK f2 := by
  obtain ⟨a, b, ⟨c, d⟩, ⟨m, e⟩, h, ⟨t, i⟩, j⟩ := hK
  exact ⟨GJ_2 a k1 k2 x rfl rfl, RK_kp k2 rfl rfl (RK_kp k1 rfl rfl b), ⟨c, RC_kp k2 rfl rfl (RC_kp k1 rfl rfl d)⟩, r, ab2_kp k2 rfl (ab2_kp k1 rfl h), ⟨t, RT_kp k2 rfl rfl (RT_kp k1 rfl rfl i)⟩, RR_kp k2 rfl rfl (RR_kp k1 rfl rfl j)⟩
theorem GK_t {f f1 f2 : Nat → Nat → Int32} (hK : GK f) (k1 : kp [3] f f1) (k2 : kp [13] f1 f2) (x : XI f2) (r : (∃ t, RT t f2) ∧ RR f2) : GK f2 := by
  obtain ⟨a, b, ⟨c, d⟩, ⟨m, e⟩, h, ⟨t, i⟩, j⟩ := hK
  exact ⟨GJ_2 a k1 k2 x rfl rfl, RK_kp k2 rfl rfl (RK_kp k1 rfl rfl b), ⟨c, RC_kp k2 rfl rfl (RC_kp k1 rfl rfl d)⟩, ⟨m, RM_kp k2 rfl rfl (RM_kp k1 rfl rfl e)⟩, ab2_kp k2 rfl (ab2_kp k1 rfl h), r.1, r.2⟩
theorem GK_r {f f1 f2 : Nat → Nat → Int32} (hK : GK f) (k1 : kp [3] f f1) (k2 : kp [10, 13] f1 f2) (x : XI f2) (r : (∃ t, RT t f2) ∧ RR f2) : GK f2 := by
  obtain ⟨a, b, ⟨c, d⟩, ⟨m, e⟩, h, ⟨t, i⟩, j⟩ := hK
  exact ⟨GJ_2 a k1 k2 x rfl rfl, RK_kp k2 rfl rfl (RK_kp k1 rfl rfl b), ⟨c, RC_kp k2 rfl rfl (RC_kp k1 rfl rfl d)⟩, ⟨m, RM_kp k2 rfl rfl (RM_kp k1 rfl rfl e)⟩, ab2_kp k2 rfl (ab2_kp k1 rfl h), r.1, r.2⟩
theorem RR_ty {t : Nat} {f f1 f2 : Nat → Nat → Int32} {w : Int64} {x v1 v2 : Int32} (hR : RR f) (s1 : tyS 107 3 118 t f f1 w x v1) (s2 : tyS 181 46 217 t f1 f2 w x v2) : RR f2 := by
  have key : ∀ a i, ¬ a = 107 → ¬ a = 118 → ¬ a = 181 → ¬ a = 217 → f2 a i = f a i := fun a i h1 h2 h3 h4 => by
    have e2 : f2 a i = f1 a i := by
      rcases s2 with ⟨_, _, rfl⟩ | ⟨n, _, _, _, _, ⟨_, _, rfl⟩ | ⟨_, _, h⟩⟩
      · rfl
      · rfl
      · exact h.2.2 a i (fun z => h3 z.1) (fun z => h4 z.1)
    have e1 : f1 a i = f a i := by
      rcases s1 with ⟨_, _, rfl⟩ | ⟨n, _, _, _, _, ⟨_, _, rfl⟩ | ⟨_, _, h⟩⟩
      · rfl
      · rfl
      · exact h.2.2 a i (fun z => h1 z.1) (fun z => h2 z.1)
    exact e2.trans e1
  intro k t hk ht
  rw [key _ _ (by omega) (by omega) (by omega) (by omega), hR k t hk ht]
  exact eC_congr (fun k' t' hk' ht' => (key _ _ (by omega) (by omega) (by omega) (by omega)).symm) ht
theorem GK_ini {f : Nat → Nat → Int32} (hf : ∀ a i, 6 ≤ a → f a i = if a < 227 then inix a i else 0) (h3 : ab3 f) (h2 : ab2 f) : GK f := by
  refine ⟨GJ_ini hf h3, fun s hs => ?_, ⟨0, by omega, ?_, ?_, fun k hk => absurd hk (by omega)⟩, ⟨0, by omega, ?_, ?_, fun k hk => absurd hk (by omega)⟩, h2, ⟨0, by omega, ?_, ?_, fun k hk => absurd hk (by omega)⟩, fun k t hk ht => ?_⟩
  · rw [hf 120 s (by omega), if_pos (by omega), inix_0 _ (by decide), hf 212 s (by omega), if_pos (by omega), inix_0 _ (by decide)]
  · rw [hf 129 6 (by omega), if_pos (by omega), inix_0 _ (by decide)]
    rfl
  · rw [hf 181 16 (by omega), if_pos (by omega), inix_0 _ (by decide)]
    rfl
  · rw [hf 139 13 (by omega), if_pos (by omega), inix_0 _ (by decide)]
    rfl
  · rw [hf 181 27 (by omega), if_pos (by omega), inix_0 _ (by decide)]
    rfl
  · rw [hf 107 3 (by omega), if_pos (by omega), inix_0 _ (by decide)]
    rfl
  · rw [hf 181 46 (by omega), if_pos (by omega), inix_0 _ (by decide)]
    rfl
  · have key : ∀ k, k < 4 → ∀ t, t < 3 → (if 109 + k < 227 then inix (109 + k) t else 0) = eC (fun k t => if 213 + t < 227 then inix (213 + t) k else 0) k t := by decide
    have e := key k hk t ht
    rw [hf (109 + k) t (by omega), e]
    exact eC_congr (fun k' t' hk' ht' => (hf (213 + t') k' (by omega)).symm) ht
def bc1 (x : Int32) : Int32 := x - (((x).toUInt32 >>> ((Int32.toUInt32 1) &&& Int32.toUInt32 31)).toInt32 &&& 1431655765)
def bc2 (x : Int32) : Int32 := (x &&& 858993459) + (((x).toUInt32 >>> ((Int32.toUInt32 2) &&& Int32.toUInt32 31)).toInt32 &&& 858993459)
def bc3 (x : Int32) : Int32 := (x + ((x).toUInt32 >>> ((Int32.toUInt32 4) &&& Int32.toUInt32 31)).toInt32) &&& 252645135
def bc4 (x : Int32) : Int32 := x + ((x).toUInt32 >>> ((Int32.toUInt32 8) &&& Int32.toUInt32 31)).toInt32
def bc5 (x : Int32) : Int32 := x + ((x).toUInt32 >>> ((Int32.toUInt32 16) &&& Int32.toUInt32 31)).toInt32
/-- how many bits are set, as the library counts -/
def bcE (x : Int32) : Int32 := bc5 (bc4 (bc3 (bc2 (bc1 x)))) &&& 63
/-- as the model counts -/
def onl : Nat → Int32 → Int32 → Int32
  | 0, _, a => a
  | k + 1, l, a => if l = 0 then a else onl k (l &&& (l - 1)) (a + 1)
def onE (x : Int32) : Int32 := onl (x.toBitVec.toNat + 1) x 0
theorem sf_bitCount {d : Nat} {x : Int32} {h : mH} {R : Option Value → mH → Prop} (hd : 1 ≤ d) (H : R (some (.int (bcE x))) h) : Run mtab d 241 [.int x] h R := by
  obtain ⟨d, rfl⟩ : ∃ e, d = e + 1 := ⟨d - 1, by omega⟩
  refine go_J6_bitCount_0f7a4 rfl ?_
  conv => whnf
  exact H
theorem onf_lp {d : Nat} {h : mH} {R : Option Value → mH → Prop} : ∀ (k : Nat) (b a l : Int32), l.toBitVec.toNat < k → R (some (.int (onl k l a))) h → WPe pg_X11_ones none (Run mtab d) R (m_drop pg_X11_ones 4) [some (.int b), some (.int a), some (.int l)] [] h
  | 0, b, a, l, hk, H => absurd hk (by omega)
  | k + 1, b, a, l, hk, H => by
    refine at_X11_ones ?_
    conv => whnf
    refine ⟨fun c => ?_, fun c => ?_⟩
    · have e : onl (k + 1) l a = a := if_pos c
      rw [e] at H
      conv => whnf
      exact H
    · have e : onl (k + 1) l a = onl k (l &&& (l - 1)) (a + 1) := if_neg c
      rw [e] at H
      conv => whnf
      exact onf_lp k _ _ _ (Nat.lt_of_lt_of_le (and_dec c) (by omega)) H
theorem smf_ones {d : Nat} {x : Int32} {h : mH} {R : Option Value → mH → Prop} (hd : 1 ≤ d) (H : R (some (.int (onE x))) h) : Run mtab d 194 [.int x] h R := by
  obtain ⟨d, rfl⟩ : ∃ e, d = e + 1 := ⟨d - 1, by omega⟩
  refine go_X11_ones rfl ?_
  conv => whnf
  exact onf_lp _ _ _ _ (Nat.lt_succ_self _) H
theorem nI_bv {j : Nat} (h : j < 2 ^ 31) : (nI j).toBitVec.toNat = j := by
  show (BitVec.ofNat 32 j).toNat = j
  rw [BitVec.toNat_ofNat]
  exact Nat.mod_eq_of_lt (by omega)
theorem bv_nI (x : Int32) : x = nI x.toBitVec.toNat := by
  apply Int32.toBitVec_inj.mp
  show x.toBitVec = BitVec.ofNat 32 x.toBitVec.toNat
  rw [BitVec.ofNat_toNat, BitVec.setWidth_eq]
theorem and_255 {x y : Int32} (h : inr 0 255 x) : inr 0 255 (x &&& y) := by
  obtain ⟨j, hj, rfl⟩ := inr_nat (n := 255) rfl h
  rw [bv_nI (nI j &&& y)]
  refine inr_n (m := 255) ?_ rfl (by decide)
  show ((nI j).toBitVec &&& y.toBitVec).toNat ≤ 255
  rw [BitVec.toNat_and, nI_bv (by omega)]
  exact Nat.le_trans Nat.and_le_left hj
theorem or_255 {x y : Int32} (h : inr 0 255 x) (h2 : inr 0 255 y) : inr 0 255 (x ||| y) := by
  obtain ⟨j, hj, rfl⟩ := inr_nat (n := 255) rfl h
  obtain ⟨k, hk, rfl⟩ := inr_nat (n := 255) rfl h2
  rw [bv_nI (nI j ||| nI k)]
  refine inr_n (m := 255) ?_ rfl (by decide)
  show ((nI j).toBitVec ||| (nI k).toBitVec).toNat ≤ 255
  rw [BitVec.toNat_or, nI_bv (by omega), nI_bv (by omega)]
  have : j ||| k < 2 ^ 8 := Nat.or_lt_two_pow (by omega) (by omega)
  omega
theorem bc_8 {x : Int32} (h : inr 0 255 x) : bcE x = onE x ∧ (onE x = 0 ↔ x = 0) := by
  have key : ∀ j : Nat, j < 256 → bcE (nI j) = onE (nI j) ∧ (onE (nI j) = 0 ↔ nI j = 0) := by decide +kernel
  obtain ⟨j, hj, rfl⟩ := inr_nat (n := 255) rfl h
  exact key j (by omega)
/-- whether a vote passes: r the rules, A voters, B for -/
def passw (r : Nat → Int32) (A B : Int32) : Prop := ¬ A < r 0 ∧ ¬ B * r 2 < A * r 1
set_option maxRecDepth 100000 in
theorem ka_lp {d L : Nat} {f : Nat → Nat → Int32} {g : Nat → Nat → Int64} {w : Int32} {R : Option Value → mH → Prop} : ∀ (k i : Nat) (x a : Int32), i + k = 8 → x = nI i → R (some (.int (mayl (fun m => ¬ f 120 m &&& w = 0) (fun m => nI m) k i a))) (shF L, f, g) → WPe pg_X0_kinOfAny none (Run mtab d) R (m_drop pg_X0_kinOfAny 4) [some (.ref 119), some (.int w), some (.int a), some (.int x)] [] (shF L, f, g)
  | 0, i, x, a, hi, hx, H => by
    have e : i = 8 := by omega
    subst hx
    subst e
    refine at_X0_kinOfAny ?_
    conv => whnf
    refine ⟨fun _ => ?_, fun z => absurd (by decide) z⟩
    conv => whnf
    exact H
  | k + 1, i, x, a, hi, hx, H => by
    subst hx
    have hcl : (nI i).toNatClampNeg = i := nI_clamp (by omega)
    refine at_X0_kinOfAny ?_
    conv => whnf
    refine ⟨fun c => absurd c (nI_ge (b := 8) (by omega) (by omega)), fun c => ?_⟩
    conv => whnf
    refine ⟨vp_in_nI (by omega) (by decide), ?_⟩
    conv => whnf
    simp only [hcl]
    refine ⟨fun c1 => ?_, fun c1 => ?_⟩
    · conv => whnf
      exact ka_lp k (i + 1) _ _ (by omega) (nI_1 i) (by rw [may_n (P := fun m => ¬ f 120 m &&& w = 0) (D := fun m => nI m) (k := k) (i := i) (a := a) (fun z => z c1)] at H; exact H)
    · conv => whnf
      exact ka_lp k (i + 1) _ _ (by omega) (nI_1 i) (by rw [may_y (P := fun m => ¬ f 120 m &&& w = 0) (D := fun m => nI m) (k := k) (i := i) (a := a) c1] at H; exact H)
set_option maxRecDepth 100000 in
set_option maxHeartbeats 4000000 in
theorem sf_kinOfAny {d L : Nat} {f : Nat → Nat → Int32} {g : Nat → Nat → Int64} {w : Int32} {R : Option Value → mH → Prop} (hd : 1 ≤ d) (H : R (some (.int (mayl (fun m => ¬ f 120 m &&& w = 0) (fun m => nI m) 8 0 0))) (shF L, f, g)) : Run mtab d 7 [.ref 119, .int w] (shF L, f, g) R := by
  obtain ⟨d, rfl⟩ : ∃ e, d = e + 1 := ⟨d - 1, by omega⟩
  refine go_X0_kinOfAny rfl ?_
  conv => whnf
  exact ka_lp 8 0 _ _ (by omega) rfl H
set_option maxRecDepth 100000 in
set_option maxHeartbeats 4000000 in
theorem sf_isPassed {d L : Nat} {f : Nat → Nat → Int32} {g : Nat → Nat → Int64} {k : Nat} {x y : Int32} {R : Option Value → mH → Prop} (hd : 2 ≤ d) (hk : k < 4) (H1 : passw (fun t => f (109 + k) t) (bcE y) (bcE x) → R (some (.int 1)) (shF L, f, g)) (H0 : ¬ passw (fun t => f (109 + k) t) (bcE y) (bcE x) → R (some (.int 0)) (shF L, f, g)) : Run mtab d 53 [.ref 107, .int (nI k), .int x, .int y] (shF L, f, g) R := by
  obtain ⟨d, rfl⟩ : ∃ e, d = e + 1 := ⟨d - 1, by omega⟩
  refine go_X6_isPassed rfl ?_
  conv => whnf
  rcases c4_c hk with rfl | rfl | rfl | rfl
  · conv => whnf
    refine ⟨⟨by unfold vp_in; decide, by decide, by decide⟩, ?_⟩
    conv => whnf
    refine sf_bitCount (by omega) ?_
    conv => whnf
    refine ⟨by unfold vp_in; decide, ?_⟩
    conv => whnf
    refine ⟨fun c1 => ?_, fun c1 => ?_⟩
    · conv => whnf
      exact ⟨Or.inl rfl, H0 (fun z => z.1 c1)⟩
    · conv => whnf
      refine sf_bitCount (by omega) ?_
      conv => whnf
      refine ⟨by unfold vp_in; decide, ?_⟩
      conv => whnf
      refine ⟨by unfold vp_in; decide, ?_⟩
      conv => whnf
      refine ⟨fun c2 => ?_, fun c2 => ?_⟩
      · conv => whnf
        exact ⟨Or.inl rfl, H0 (fun z => z.2 c2)⟩
      · conv => whnf
        exact ⟨Or.inr rfl, H1 ⟨c1, c2⟩⟩
  · conv => whnf
    refine ⟨⟨by unfold vp_in; decide, by decide, by decide⟩, ?_⟩
    conv => whnf
    refine sf_bitCount (by omega) ?_
    conv => whnf
    refine ⟨by unfold vp_in; decide, ?_⟩
    conv => whnf
    refine ⟨fun c1 => ?_, fun c1 => ?_⟩
    · conv => whnf
      exact ⟨Or.inl rfl, H0 (fun z => z.1 c1)⟩
    · conv => whnf
      refine sf_bitCount (by omega) ?_
      conv => whnf
      refine ⟨by unfold vp_in; decide, ?_⟩
      conv => whnf
      refine ⟨by unfold vp_in; decide, ?_⟩
      conv => whnf
      refine ⟨fun c2 => ?_, fun c2 => ?_⟩
      · conv => whnf
        exact ⟨Or.inl rfl, H0 (fun z => z.2 c2)⟩
      · conv => whnf
        exact ⟨Or.inr rfl, H1 ⟨c1, c2⟩⟩
  · conv => whnf
    refine ⟨⟨by unfold vp_in; decide, by decide, by decide⟩, ?_⟩
    conv => whnf
    refine sf_bitCount (by omega) ?_
    conv => whnf
    refine ⟨by unfold vp_in; decide, ?_⟩
    conv => whnf
    refine ⟨fun c1 => ?_, fun c1 => ?_⟩
    · conv => whnf
      exact ⟨Or.inl rfl, H0 (fun z => z.1 c1)⟩
    · conv => whnf
      refine sf_bitCount (by omega) ?_
      conv => whnf
      refine ⟨by unfold vp_in; decide, ?_⟩
      conv => whnf
      refine ⟨by unfold vp_in; decide, ?_⟩
      conv => whnf
      refine ⟨fun c2 => ?_, fun c2 => ?_⟩
      · conv => whnf
        exact ⟨Or.inl rfl, H0 (fun z => z.2 c2)⟩
      · conv => whnf
        exact ⟨Or.inr rfl, H1 ⟨c1, c2⟩⟩
  · conv => whnf
    refine ⟨⟨by unfold vp_in; decide, by decide, by decide⟩, ?_⟩
    conv => whnf
    refine sf_bitCount (by omega) ?_
    conv => whnf
    refine ⟨by unfold vp_in; decide, ?_⟩
    conv => whnf
    refine ⟨fun c1 => ?_, fun c1 => ?_⟩
    · conv => whnf
      exact ⟨Or.inl rfl, H0 (fun z => z.1 c1)⟩
    · conv => whnf
      refine sf_bitCount (by omega) ?_
      conv => whnf
      refine ⟨by unfold vp_in; decide, ?_⟩
      conv => whnf
      refine ⟨by unfold vp_in; decide, ?_⟩
      conv => whnf
      refine ⟨fun c2 => ?_, fun c2 => ?_⟩
      · conv => whnf
        exact ⟨Or.inl rfl, H0 (fun z => z.2 c2)⟩
      · conv => whnf
        exact ⟨Or.inr rfl, H1 ⟨c1, c2⟩⟩
def vadd0 (f : Nat → Nat → Int32) (c : Nat) (x1 x2 x5 ps : Int32) : Nat → Nat → Int32 := (m_ui (m_ui (m_ui (m_ui (m_ui f 121 c x1) 122 c x2) 124 c (vp_nar .boolean x5)) 123 c (vp_nar .boolean ps)) 119 7 (nI c + 1))
def vadd (f : Nat → Nat → Int32) (c : Nat) (x1 x2 x5 ps vo lo : Int32) : Nat → Nat → Int32 := (m_ui (m_ui (vadd0 f c x1 x2 x5 ps) 125 c vo) 126 c lo)
def mvadd (f : Nat → Nat → Int32) (c : Nat) (x1 x2 x5 ps vo lo : Int32) : Nat → Nat → Int32 := (m_ui (m_ui (m_ui (m_ui (m_ui (m_ui (m_ui (m_ui f 218 (6 * c) x1) 218 (6 * c + 1) x2) 218 (6 * c + 2) ps) 218 (6 * c + 3) vo) 218 (6 * c + 4) lo) 218 (6 * c + 5) (fr x5)) 181 48 (nI (c + 1))) 181 29 0)
def votew (n : Nat) (x1 x2 x3 x4 : Int32) : Prop := hasw n x1 ∧ inr 0 9999 x2 ∧ inr 0 255 x3 ∧ inr 0 255 x4 ∧ x3 &&& x4 = 0
set_option maxRecDepth 100000 in
set_option maxHeartbeats 4000000 in
theorem sf_Cadd {d L : Nat} {f : Nat → Nat → Int32} {g : Nat → Nat → Int64} {c : Nat} {x1 x2 x5 ps : Int32} {R : Option Value → mH → Prop} (hd : 1 ≤ d) (hb : f 119 7 = nI c) (hm : c ≤ 60) (HF : c = 60 → R (some (.int (-3))) (shF L, f, g)) (H : c < 60 → R (some (.int (nI c))) (shF L, vadd0 f c x1 x2 x5 ps, g)) : Run mtab d 8 [.ref 119, .int x1, .int x2, .int x5, .int ps] (shF L, f, g) R := by
  obtain ⟨d, rfl⟩ : ∃ e, d = e + 1 := ⟨d - 1, by omega⟩
  refine go_X0_add rfl ?_
  conv => whnf
  by_cases hq : c = 60
  · subst hq
    simp only [hb]
    refine ⟨fun c => absurd (by decide) c, fun _ => ?_⟩
    conv => whnf
    exact HF rfl
  · have hlt : c < 60 := by omega
    have hcl : (nI c).toNatClampNeg = c := nI_clamp (by omega)
    simp only [hb]
    refine ⟨fun _ => ?_, fun e => absurd ((nI_eq (b := 60) (by omega) (by decide)).mp e) hq⟩
    conv => whnf
    (try simp only [hb, m_ui_ap, m_fil_ap, m_cpy_ap, Nat.reduceEqDiff, Nat.reduceLT, Nat.reduceLeDiff, eq_self, ↓reduceIte, false_and, and_false, true_and, and_true, and_self])
    refine ⟨vp_in_nI (by omega) (by decide), ?_⟩
    conv => whnf
    (try simp only [hb, m_ui_ap, m_fil_ap, m_cpy_ap, Nat.reduceEqDiff, Nat.reduceLT, Nat.reduceLeDiff, eq_self, ↓reduceIte, false_and, and_false, true_and, and_true, and_self])
    refine ⟨vp_in_nI (by omega) (by decide), ?_⟩
    conv => whnf
    (try simp only [hb, m_ui_ap, m_fil_ap, m_cpy_ap, Nat.reduceEqDiff, Nat.reduceLT, Nat.reduceLeDiff, eq_self, ↓reduceIte, false_and, and_false, true_and, and_true, and_self])
    refine ⟨vp_in_nI (by omega) (by decide), ?_⟩
    conv => whnf
    (try simp only [hb, m_ui_ap, m_fil_ap, m_cpy_ap, Nat.reduceEqDiff, Nat.reduceLT, Nat.reduceLeDiff, eq_self, ↓reduceIte, false_and, and_false, true_and, and_true, and_self])
    refine ⟨vp_in_nI (by omega) (by decide), ?_⟩
    conv => whnf
    simp only [hb, hcl, m_ui_ap, m_fil_ap, m_cpy_ap, Nat.reduceEqDiff, Nat.reduceLT, Nat.reduceLeDiff, eq_self, ↓reduceIte, false_and, and_false, true_and, and_true, and_self]
    exact H hlt
set_option maxRecDepth 100000 in
set_option maxHeartbeats 4000000 in
theorem sf_note {d L : Nat} {f : Nat → Nat → Int32} {g : Nat → Nat → Int64} {c : Nat} {vo lo : Int32} {R : Option Value → mH → Prop} (hd : 1 ≤ d) (hc : c < 60) (H : R none (shF L, m_ui (m_ui f 125 c vo) 126 c lo, g)) : Run mtab d 9 [.ref 119, .int (nI c), .int vo, .int lo] (shF L, f, g) R := by
  obtain ⟨d, rfl⟩ : ∃ e, d = e + 1 := ⟨d - 1, by omega⟩
  refine go_X0_noteVoters rfl ?_
  conv => whnf
  have hcl : (nI c).toNatClampNeg = c := nI_clamp (by omega)
  refine ⟨vp_in_nI (by omega) (by decide), ?_⟩
  conv => whnf
  refine ⟨vp_in_nI (by omega) (by decide), ?_⟩
  conv => whnf
  simp only [hcl]
  exact H
def SX_vote (n h c : Nat) (f f1 : Nat → Nat → Int32) (x1 x2 x3 x4 x5 v : Int32) : Prop := (¬ votew n x1 x2 x3 x4 ∧ v = -1 ∧ f1 = f) ∨ (∃ j, j < n ∧ x1 = nI j ∧ votew n x1 x2 x3 x4 ∧ (((((x3 ||| x4) &&& ((mayl (fun m => ¬ f 120 m &&& (mayl (PO f 103 106 x1 (1900 + x2 / 100)) (fun i => f 102 i) h 0 0) = 0) (fun m => nI m) 8 0 0) ^^^ -1)) = 0) ∧ v = -2 ∧ f1 = f) ∨ (¬ ((x3 ||| x4) &&& ((mayl (fun m => ¬ f 120 m &&& (mayl (PO f 103 106 x1 (1900 + x2 / 100)) (fun i => f 102 i) h 0 0) = 0) (fun m => nI m) 8 0 0) ^^^ -1)) = 0 ∧ c = 60 ∧ v = -3 ∧ f1 = f) ∨ (¬ ((x3 ||| x4) &&& ((mayl (fun m => ¬ f 120 m &&& (mayl (PO f 103 106 x1 (1900 + x2 / 100)) (fun i => f 102 i) h 0 0) = 0) (fun m => nI m) 8 0 0) ^^^ -1)) = 0 ∧ c < 60 ∧ ∃ k, k < 4 ∧ f 7 j = nI k ∧ ((passw (fun t => f (109 + k) t) (bcE ((x3 ||| x4) &&& ((mayl (fun m => ¬ f 120 m &&& (mayl (PO f 103 106 x1 (1900 + x2 / 100)) (fun i => f 102 i) h 0 0) = 0) (fun m => nI m) 8 0 0) ^^^ -1))) (bcE (x3 &&& ((mayl (fun m => ¬ f 120 m &&& (mayl (PO f 103 106 x1 (1900 + x2 / 100)) (fun i => f 102 i) h 0 0) = 0) (fun m => nI m) 8 0 0) ^^^ -1))) ∧ v = 1) ∨ (¬ passw (fun t => f (109 + k) t) (bcE ((x3 ||| x4) &&& ((mayl (fun m => ¬ f 120 m &&& (mayl (PO f 103 106 x1 (1900 + x2 / 100)) (fun i => f 102 i) h 0 0) = 0) (fun m => nI m) 8 0 0) ^^^ -1))) (bcE (x3 &&& ((mayl (fun m => ¬ f 120 m &&& (mayl (PO f 103 106 x1 (1900 + x2 / 100)) (fun i => f 102 i) h 0 0) = 0) (fun m => nI m) 8 0 0) ^^^ -1))) ∧ v = 0)) ∧ f1 = vadd f c x1 x2 x5 v ((x3 ||| x4) &&& ((mayl (fun m => ¬ f 120 m &&& (mayl (PO f 103 106 x1 (1900 + x2 / 100)) (fun i => f 102 i) h 0 0) = 0) (fun m => nI m) 8 0 0) ^^^ -1)) ((x3 ||| x4) &&& (mayl (fun m => ¬ f 120 m &&& (mayl (PO f 103 106 x1 (1900 + x2 / 100)) (fun i => f 102 i) h 0 0) = 0) (fun m => nI m) 8 0 0)))))
def SM_vote (n h c : Nat) (f f1 : Nat → Nat → Int32) (x1 x2 x3 x4 x5 v : Int32) : Prop := (¬ votew n x1 x2 x3 x4 ∧ v = -1 ∧ f1 = f) ∨ (∃ j, j < n ∧ x1 = nI j ∧ votew n x1 x2 x3 x4 ∧ (((((x3 ||| x4) &&& ((mayl (fun m => ¬ f 212 m &&& (mayl (PM f 2 5 x1 (1900 + x2 / 100)) (fun i => f 195 (6 * i + 1)) h 0 0) = 0) (fun m => nI m) 8 0 0) ^^^ -1)) = 0) ∧ v = -2 ∧ f1 = f) ∨ (¬ ((x3 ||| x4) &&& ((mayl (fun m => ¬ f 212 m &&& (mayl (PM f 2 5 x1 (1900 + x2 / 100)) (fun i => f 195 (6 * i + 1)) h 0 0) = 0) (fun m => nI m) 8 0 0) ^^^ -1)) = 0 ∧ c = 60 ∧ v = -3 ∧ f1 = f) ∨ (¬ ((x3 ||| x4) &&& ((mayl (fun m => ¬ f 212 m &&& (mayl (PM f 2 5 x1 (1900 + x2 / 100)) (fun i => f 195 (6 * i + 1)) h 0 0) = 0) (fun m => nI m) 8 0 0) ^^^ -1)) = 0 ∧ c < 60 ∧ ∃ k, k < 4 ∧ f 182 j = nI k ∧ ((passw (fun t => eC (fun k t => f (213 + t) k) k t) (onE ((x3 ||| x4) &&& ((mayl (fun m => ¬ f 212 m &&& (mayl (PM f 2 5 x1 (1900 + x2 / 100)) (fun i => f 195 (6 * i + 1)) h 0 0) = 0) (fun m => nI m) 8 0 0) ^^^ -1))) (onE (x3 &&& ((mayl (fun m => ¬ f 212 m &&& (mayl (PM f 2 5 x1 (1900 + x2 / 100)) (fun i => f 195 (6 * i + 1)) h 0 0) = 0) (fun m => nI m) 8 0 0) ^^^ -1))) ∧ v = 1) ∨ (¬ passw (fun t => eC (fun k t => f (213 + t) k) k t) (onE ((x3 ||| x4) &&& ((mayl (fun m => ¬ f 212 m &&& (mayl (PM f 2 5 x1 (1900 + x2 / 100)) (fun i => f 195 (6 * i + 1)) h 0 0) = 0) (fun m => nI m) 8 0 0) ^^^ -1))) (onE (x3 &&& ((mayl (fun m => ¬ f 212 m &&& (mayl (PM f 2 5 x1 (1900 + x2 / 100)) (fun i => f 195 (6 * i + 1)) h 0 0) = 0) (fun m => nI m) 8 0 0) ^^^ -1))) ∧ v = 0)) ∧ f1 = mvadd f c x1 x2 x5 v ((x3 ||| x4) &&& ((mayl (fun m => ¬ f 212 m &&& (mayl (PM f 2 5 x1 (1900 + x2 / 100)) (fun i => f 195 (6 * i + 1)) h 0 0) = 0) (fun m => nI m) 8 0 0) ^^^ -1)) ((x3 ||| x4) &&& (mayl (fun m => ¬ f 212 m &&& (mayl (PM f 2 5 x1 (1900 + x2 / 100)) (fun i => f 195 (6 * i + 1)) h 0 0) = 0) (fun m => nI m) 8 0 0)))))
set_option maxRecDepth 100000 in
set_option maxHeartbeats 4000000 in
theorem sf_vote {d L : Nat} {f : Nat → Nat → Int32} {g : Nat → Nat → Int64} {n h c : Nat} {x1 x2 x3 x4 x5 : Int32} {R : Option Value → mH → Prop} (hd : 6 ≤ d) (hb : f 6 13 = nI n) (hm : n ≤ 40) (hhb : f 100 6 = nI h) (hhm : h ≤ 60) (hcb : f 119 7 = nI c) (hcm : c ≤ 60) (hkd : ∀ j, inr 0 3 (f 7 j)) (H : ∀ v f1, SX_vote n h c f f1 x1 x2 x3 x4 x5 v → R (some (.int v)) (shF L, f1, g)) : Run mtab d 122 [.ref 5, .int x1, .int x2, .int x3, .int x4, .int x5] (shF L, f, g) R := by
  obtain ⟨d, rfl⟩ : ∃ e, d = e + 1 := ⟨d - 1, by omega⟩
  refine go_X10_vote rfl ?_
  conv => whnf
  refine ct_has (by omega) hb hm (fun j hj e => ?_) (fun q => ?_)
  · subst e
    have hcl : (nI j).toNatClampNeg = j := nI_clamp (by omega)
    obtain ⟨kd, hk3, hk⟩ := inr_nat (n := 3) rfl (hkd j)
    have hk4 : kd < 4 := by omega
    conv => whnf
    (refine ⟨fun c => ?_, fun c => ?_⟩ <;> first | ((have c9 : (1 : Int32) = 0 := by with_reducible exact c); exact absurd c9 (by decide)) | exact absurd (rfl : (0 : Int32) = 0) (by with_reducible exact c) | exact absurd True.intro (by with_reducible exact c) | exact False.elim (by with_reducible exact c) | (conv => whnf))
    refine ct_isWithin (by omega) (fun p2 => ?_) (fun p2 => ?_)
    · conv => whnf
      (refine ⟨fun c => ?_, fun c => ?_⟩ <;> first | ((have c9 : (1 : Int32) = 0 := by with_reducible exact c); exact absurd c9 (by decide)) | exact absurd (rfl : (0 : Int32) = 0) (by with_reducible exact c) | exact absurd True.intro (by with_reducible exact c) | exact False.elim (by with_reducible exact c) | (conv => whnf))
      refine ct_isBits8 (by omega) (fun p3 => ?_) (fun p3 => ?_)
      · conv => whnf
        (refine ⟨fun c => ?_, fun c => ?_⟩ <;> first | ((have c9 : (1 : Int32) = 0 := by with_reducible exact c); exact absurd c9 (by decide)) | exact absurd (rfl : (0 : Int32) = 0) (by with_reducible exact c) | exact absurd True.intro (by with_reducible exact c) | exact False.elim (by with_reducible exact c) | (conv => whnf))
        refine ct_isBits8 (by omega) (fun p4 => ?_) (fun p4 => ?_)
        · conv => whnf
          (refine ⟨fun c => ?_, fun c => ?_⟩ <;> first | ((have c9 : (1 : Int32) = 0 := by with_reducible exact c); exact absurd c9 (by decide)) | exact absurd (rfl : (0 : Int32) = 0) (by with_reducible exact c) | exact absurd True.intro (by with_reducible exact c) | exact False.elim (by with_reducible exact c) | (conv => whnf))
          refine ⟨fun e0 => ?_, fun e0 => ?_⟩
          · conv => whnf
            have hw : votew n (nI j) x2 x3 x4 := ⟨⟨j, hj, rfl⟩, p2, p3, p4, e0⟩
            refine ⟨by decide, ?_⟩
            conv => whnf
            refine sf_whoMay (by omega) hhb hhm ?_
            conv => whnf
            refine sf_kinOfAny (by omega) ?_
            conv => whnf
            generalize hB : (mayl (fun m => ¬ f 120 m &&& (mayl (PO f 103 106 (nI j) (1900 + x2 / 100)) (fun i => f 102 i) h 0 0) = 0) (fun m => nI m) 8 0 0) = B
            refine ⟨fun e1 => ?_, fun e1 => ?_⟩
            · conv => whnf
              refine ⟨vp_in_nI (by omega) (by decide), ?_⟩
              conv => whnf
              simp only [hcl, hk]
              refine sf_isPassed (by omega) hk4 (fun ps => ?_) (fun ps => ?_)
              · conv => whnf
                refine sf_Cadd (by omega) hcb hcm (fun q => ?_) (fun q => ?_)
                · conv => whnf
                  refine ⟨fun c => absurd c (by decide), fun _ => ?_⟩
                  conv => whnf
                  exact H _ _ (Or.inr ⟨j, hj, rfl, hw, Or.inr (Or.inl ⟨by rw [hB]; exact e1, q, rfl, rfl⟩)⟩)
                · conv => whnf
                  refine ⟨fun _ => ?_, fun c => absurd (i32_nlt.mp (nI_pos (by omega))) c⟩
                  conv => whnf
                  refine sf_note (by omega) q ?_
                  conv => whnf
                  refine ct_bit (by omega) (fun z => ?_) (fun z => ?_)
                  · conv => whnf
                    exact H _ _ (Or.inr ⟨j, hj, rfl, hw, Or.inr (Or.inr ⟨by rw [hB]; exact e1, q, kd, hk4, hk, Or.inl ⟨by rw [hB]; exact ps, rfl⟩, by rw [hB]; rfl⟩)⟩)
                  · exact absurd z (by decide)
              · conv => whnf
                refine sf_Cadd (by omega) hcb hcm (fun q => ?_) (fun q => ?_)
                · conv => whnf
                  refine ⟨fun c => absurd c (by decide), fun _ => ?_⟩
                  conv => whnf
                  exact H _ _ (Or.inr ⟨j, hj, rfl, hw, Or.inr (Or.inl ⟨by rw [hB]; exact e1, q, rfl, rfl⟩)⟩)
                · conv => whnf
                  refine ⟨fun _ => ?_, fun c => absurd (i32_nlt.mp (nI_pos (by omega))) c⟩
                  conv => whnf
                  refine sf_note (by omega) q ?_
                  conv => whnf
                  refine ct_bit (by omega) (fun z => ?_) (fun z => ?_)
                  · exact absurd rfl z
                  · conv => whnf
                    exact H _ _ (Or.inr ⟨j, hj, rfl, hw, Or.inr (Or.inr ⟨by rw [hB]; exact e1, q, kd, hk4, hk, Or.inr ⟨by rw [hB]; exact ps, rfl⟩, by rw [hB]; rfl⟩)⟩)
            · conv => whnf
              exact H _ _ (Or.inr ⟨j, hj, rfl, hw, Or.inl ⟨by rw [hB]; exact e1, rfl, rfl⟩⟩)
          · conv => whnf
            exact H _ _ (Or.inl ⟨fun hh => e0 hh.2.2.2.2, rfl, rfl⟩)
        · conv => whnf
          (refine ⟨fun c => ?_, fun c => ?_⟩ <;> first | ((have c9 : (1 : Int32) = 0 := by with_reducible exact c); exact absurd c9 (by decide)) | exact absurd (rfl : (0 : Int32) = 0) (by with_reducible exact c) | exact absurd True.intro (by with_reducible exact c) | exact False.elim (by with_reducible exact c) | (conv => whnf))
          exact H _ _ (Or.inl ⟨fun hh => p4 hh.2.2.2.1, rfl, rfl⟩)
      · conv => whnf
        (refine ⟨fun c => ?_, fun c => ?_⟩ <;> first | ((have c9 : (1 : Int32) = 0 := by with_reducible exact c); exact absurd c9 (by decide)) | exact absurd (rfl : (0 : Int32) = 0) (by with_reducible exact c) | exact absurd True.intro (by with_reducible exact c) | exact False.elim (by with_reducible exact c) | (conv => whnf))
        exact H _ _ (Or.inl ⟨fun hh => p3 hh.2.2.1, rfl, rfl⟩)
    · conv => whnf
      (refine ⟨fun c => ?_, fun c => ?_⟩ <;> first | ((have c9 : (1 : Int32) = 0 := by with_reducible exact c); exact absurd c9 (by decide)) | exact absurd (rfl : (0 : Int32) = 0) (by with_reducible exact c) | exact absurd True.intro (by with_reducible exact c) | exact False.elim (by with_reducible exact c) | (conv => whnf))
      exact H _ _ (Or.inl ⟨fun hh => p2 hh.2.1, rfl, rfl⟩)
  · conv => whnf
    (refine ⟨fun c => ?_, fun c => ?_⟩ <;> first | ((have c9 : (1 : Int32) = 0 := by with_reducible exact c); exact absurd c9 (by decide)) | exact absurd (rfl : (0 : Int32) = 0) (by with_reducible exact c) | exact absurd True.intro (by with_reducible exact c) | exact False.elim (by with_reducible exact c) | (conv => whnf))
    exact H _ _ (Or.inl ⟨fun hh => nhasw q hh.1, rfl, rfl⟩)
set_option maxRecDepth 100000 in
set_option maxHeartbeats 8000000 in
theorem vm_lp {d L n h c j : Nat} {f : Nat → Nat → Int32} {g : Nat → Nat → Int64} {x2 x3 x4 x5 w : Int32} {R : Option Value → mH → Prop} (hd : 5 ≤ d) (hj : j < n) (hm : n ≤ 40) (hcb : f 181 48 = nI c) (hcm : c ≤ 60) (hkd : ∀ j, inr 0 3 (f 182 j)) (hw : votew n (nI j) x2 x3 x4) (ew : (mayl (PM f 2 5 (nI j) (1900 + x2 / 100)) (fun i => f 195 (6 * i + 1)) h 0 0) = w) (H : ∀ v f1, SM_vote n h c f f1 (nI j) x2 x3 x4 x5 v → R (some (.int v)) (shF L, f1, g)) :
    ∀ (k i : Nat) (x a : Int32) (s9 s10 s11 s12 : Option Value), i + k = 8 → x = nI i → mayl (fun m => ¬ f 212 m &&& w = 0) (fun m => nI m) k i a = mayl (fun m => ¬ f 212 m &&& w = 0) (fun m => nI m) 8 0 0 → WPe pg_X11_vote none (Run mtab d) R (m_drop pg_X11_vote 41) [some (.ref 181), some (.int (nI j)), some (.int x2), some (.int x3), some (.int x4), some (.int x5), some (.int w), some (.int a), some (.int x), s9, s10, s11, s12] [] (shF L, f, g)
  | 0, i, x, a, s9, s10, s11, s12, hi, hx, he => by
    have e : i = 8 := by omega
    subst hx
    subst e
    have hcl : (nI j).toNatClampNeg = j := nI_clamp (by omega)
    obtain ⟨kd, hk3, hk⟩ := inr_nat (n := 3) rfl (hkd j)
    have hk4 : kd < 4 := by omega
    have hB : (mayl (fun m => ¬ f 212 m &&& (mayl (PM f 2 5 (nI j) (1900 + x2 / 100)) (fun i => f 195 (6 * i + 1)) h 0 0) = 0) (fun m => nI m) 8 0 0) = a := by
      rw [ew]
      exact he.symm
    have tv := bc_8 (and_255 (y := a ^^^ -1) (or_255 hw.2.2.1 hw.2.2.2.1))
    refine at_X11_vote ?_
    conv => whnf
    refine ⟨fun _ => ?_, fun z => absurd (by decide) z⟩
    conv => whnf
    refine smf_ones (by omega) ?_
    conv => whnf
    refine ⟨fun e1 => ?_, fun e1 => ?_⟩
    · conv => whnf
      simp only [hcb]
      have e1 := fun z => e1 ((tv).2.mpr z)
      by_cases hq : c = 60
      · subst hq
        refine ⟨fun c => absurd (by decide) c, fun _ => ?_⟩
        conv => whnf
        exact H _ _ (Or.inr ⟨j, hj, rfl, hw, Or.inr (Or.inl ⟨by rw [hB]; exact e1, rfl, rfl, rfl⟩)⟩)
      · refine ⟨fun _ => ?_, fun e => absurd ((nI_eq (b := 60) (by omega) (by decide)).mp e) hq⟩
        have hc0 : (nI (6 * c)).toNatClampNeg = 6 * c := nI_clamp (by omega)
        have hc1 : (nI (6 * c + 1)).toNatClampNeg = 6 * c + 1 := nI_clamp (by omega)
        have hc2 : (nI (6 * c + 2)).toNatClampNeg = 6 * c + 2 := nI_clamp (by omega)
        have hc3 : (nI (6 * c + 3)).toNatClampNeg = 6 * c + 3 := nI_clamp (by omega)
        have hc4 : (nI (6 * c + 4)).toNatClampNeg = 6 * c + 4 := nI_clamp (by omega)
        have hc5 : (nI (6 * c + 5)).toNatClampNeg = 6 * c + 5 := nI_clamp (by omega)
        conv => whnf
        refine ⟨vp_in_nI (by omega) (by decide), ?_⟩
        conv => whnf
        simp only [hcl, hk]
        refine smf_rulePart (k := kd) (t := 0) (by omega) hk4 (by omega) ?_
        conv => whnf
        refine ⟨fun z1 => ?_, fun z1 => ?_⟩
        · conv => whnf
          (try simp only [hcb, nI_6m, nI_1, nI_k _ 2 2 rfl, nI_k _ 3 3 rfl, nI_k _ 4 4 rfl, nI_k _ 5 5 rfl, m_ui_ap, m_fil_ap, m_cpy_ap, Nat.reduceEqDiff, Nat.reduceLT, Nat.reduceLeDiff, eq_self, ↓reduceIte, false_and, and_false, true_and, and_true, and_self])
          refine ⟨vp_in_nI (by omega) (by decide), ?_⟩
          conv => whnf
          (try simp only [hcb, nI_6m, nI_1, nI_k _ 2 2 rfl, nI_k _ 3 3 rfl, nI_k _ 4 4 rfl, nI_k _ 5 5 rfl, m_ui_ap, m_fil_ap, m_cpy_ap, Nat.reduceEqDiff, Nat.reduceLT, Nat.reduceLeDiff, eq_self, ↓reduceIte, false_and, and_false, true_and, and_true, and_self])
          refine ⟨vp_in_nI (by omega) (by decide), ?_⟩
          conv => whnf
          (try (refine ⟨fun c => ?_, fun c => ?_⟩ <;> first | ((have c9 : (1 : Int32) = 0 := by with_reducible exact c); exact absurd c9 (by decide)) | exact absurd (rfl : (0 : Int32) = 0) (by with_reducible exact c) | exact absurd True.intro (by with_reducible exact c) | exact False.elim (by with_reducible exact c) | (conv => whnf)))
          (try simp only [hcb, nI_6m, nI_1, nI_k _ 2 2 rfl, nI_k _ 3 3 rfl, nI_k _ 4 4 rfl, nI_k _ 5 5 rfl, m_ui_ap, m_fil_ap, m_cpy_ap, Nat.reduceEqDiff, Nat.reduceLT, Nat.reduceLeDiff, eq_self, ↓reduceIte, false_and, and_false, true_and, and_true, and_self])
          refine ⟨vp_in_nI (by omega) (by decide), ?_⟩
          conv => whnf
          (try simp only [hcb, nI_6m, nI_1, nI_k _ 2 2 rfl, nI_k _ 3 3 rfl, nI_k _ 4 4 rfl, nI_k _ 5 5 rfl, m_ui_ap, m_fil_ap, m_cpy_ap, Nat.reduceEqDiff, Nat.reduceLT, Nat.reduceLeDiff, eq_self, ↓reduceIte, false_and, and_false, true_and, and_true, and_self])
          refine ⟨vp_in_nI (by omega) (by decide), ?_⟩
          conv => whnf
          (try simp only [hcb, nI_6m, nI_1, nI_k _ 2 2 rfl, nI_k _ 3 3 rfl, nI_k _ 4 4 rfl, nI_k _ 5 5 rfl, m_ui_ap, m_fil_ap, m_cpy_ap, Nat.reduceEqDiff, Nat.reduceLT, Nat.reduceLeDiff, eq_self, ↓reduceIte, false_and, and_false, true_and, and_true, and_self])
          refine ⟨vp_in_nI (by omega) (by decide), ?_⟩
          conv => whnf
          refine ⟨fun c5 => ?_, fun c5 => ?_⟩
          · conv => whnf
            (try simp only [hcb, nI_6m, nI_1, nI_k _ 2 2 rfl, nI_k _ 3 3 rfl, nI_k _ 4 4 rfl, nI_k _ 5 5 rfl, m_ui_ap, m_fil_ap, m_cpy_ap, Nat.reduceEqDiff, Nat.reduceLT, Nat.reduceLeDiff, eq_self, ↓reduceIte, false_and, and_false, true_and, and_true, and_self])
            refine ⟨vp_in_nI (by omega) (by decide), ?_⟩
            conv => whnf
            (try refine ⟨by first | exact Or.inl rfl | exact Or.inl True.intro, ?_⟩)
            (try (conv => whnf))
            (try (refine ⟨fun c => ?_, fun c => ?_⟩ <;> first | ((have c9 : (1 : Int32) = 0 := by with_reducible exact c); exact absurd c9 (by decide)) | exact absurd (rfl : (0 : Int32) = 0) (by with_reducible exact c) | exact absurd True.intro (by with_reducible exact c) | exact False.elim (by with_reducible exact c) | (conv => whnf)))
            have e7 : fr x5 = 0 := if_pos c5
            have H2 := H _ _ (Or.inr ⟨j, hj, rfl, hw, Or.inr (Or.inr ⟨by rw [hB]; exact e1, by omega, kd, hk4, hk, Or.inr ⟨by rw [hB]; exact fun z => z.1 z1, rfl⟩, rfl⟩)⟩)
            unfold mvadd at H2
            rw [e7, hB] at H2
            simp only [hc0, hc1, hc2, hc3, hc4, hc5, hcb, nI_6m, nI_1, nI_k _ 2 2 rfl, nI_k _ 3 3 rfl, nI_k _ 4 4 rfl, nI_k _ 5 5 rfl]
            (try simp only [hcb, nI_1, m_ui_ap, m_fil_ap, m_cpy_ap, Nat.reduceEqDiff, Nat.reduceLT, Nat.reduceLeDiff, eq_self, ↓reduceIte, false_and, and_false, true_and, and_true, and_self])
            exact H2
          · conv => whnf
            (try simp only [hcb, nI_6m, nI_1, nI_k _ 2 2 rfl, nI_k _ 3 3 rfl, nI_k _ 4 4 rfl, nI_k _ 5 5 rfl, m_ui_ap, m_fil_ap, m_cpy_ap, Nat.reduceEqDiff, Nat.reduceLT, Nat.reduceLeDiff, eq_self, ↓reduceIte, false_and, and_false, true_and, and_true, and_self])
            refine ⟨vp_in_nI (by omega) (by decide), ?_⟩
            conv => whnf
            (try refine ⟨by first | exact Or.inl rfl | exact Or.inl True.intro, ?_⟩)
            (try (conv => whnf))
            (try (refine ⟨fun c => ?_, fun c => ?_⟩ <;> first | ((have c9 : (1 : Int32) = 0 := by with_reducible exact c); exact absurd c9 (by decide)) | exact absurd (rfl : (0 : Int32) = 0) (by with_reducible exact c) | exact absurd True.intro (by with_reducible exact c) | exact False.elim (by with_reducible exact c) | (conv => whnf)))
            have e7 : fr x5 = 1 := if_neg c5
            have H2 := H _ _ (Or.inr ⟨j, hj, rfl, hw, Or.inr (Or.inr ⟨by rw [hB]; exact e1, by omega, kd, hk4, hk, Or.inr ⟨by rw [hB]; exact fun z => z.1 z1, rfl⟩, rfl⟩)⟩)
            unfold mvadd at H2
            rw [e7, hB] at H2
            simp only [hc0, hc1, hc2, hc3, hc4, hc5, hcb, nI_6m, nI_1, nI_k _ 2 2 rfl, nI_k _ 3 3 rfl, nI_k _ 4 4 rfl, nI_k _ 5 5 rfl]
            (try simp only [hcb, nI_1, m_ui_ap, m_fil_ap, m_cpy_ap, Nat.reduceEqDiff, Nat.reduceLT, Nat.reduceLeDiff, eq_self, ↓reduceIte, false_and, and_false, true_and, and_true, and_self])
            exact H2
        · conv => whnf
          refine smf_ones (by omega) ?_
          conv => whnf
          refine smf_rulePart (k := kd) (t := 2) (by omega) hk4 (by omega) ?_
          conv => whnf
          refine smf_rulePart (k := kd) (t := 1) (by omega) hk4 (by omega) ?_
          conv => whnf
          refine ⟨fun z2 => ?_, fun z2 => ?_⟩
          · conv => whnf
            (try simp only [hcb, nI_6m, nI_1, nI_k _ 2 2 rfl, nI_k _ 3 3 rfl, nI_k _ 4 4 rfl, nI_k _ 5 5 rfl, m_ui_ap, m_fil_ap, m_cpy_ap, Nat.reduceEqDiff, Nat.reduceLT, Nat.reduceLeDiff, eq_self, ↓reduceIte, false_and, and_false, true_and, and_true, and_self])
            refine ⟨vp_in_nI (by omega) (by decide), ?_⟩
            conv => whnf
            (try simp only [hcb, nI_6m, nI_1, nI_k _ 2 2 rfl, nI_k _ 3 3 rfl, nI_k _ 4 4 rfl, nI_k _ 5 5 rfl, m_ui_ap, m_fil_ap, m_cpy_ap, Nat.reduceEqDiff, Nat.reduceLT, Nat.reduceLeDiff, eq_self, ↓reduceIte, false_and, and_false, true_and, and_true, and_self])
            refine ⟨vp_in_nI (by omega) (by decide), ?_⟩
            conv => whnf
            (try (refine ⟨fun c => ?_, fun c => ?_⟩ <;> first | ((have c9 : (1 : Int32) = 0 := by with_reducible exact c); exact absurd c9 (by decide)) | exact absurd (rfl : (0 : Int32) = 0) (by with_reducible exact c) | exact absurd True.intro (by with_reducible exact c) | exact False.elim (by with_reducible exact c) | (conv => whnf)))
            (try simp only [hcb, nI_6m, nI_1, nI_k _ 2 2 rfl, nI_k _ 3 3 rfl, nI_k _ 4 4 rfl, nI_k _ 5 5 rfl, m_ui_ap, m_fil_ap, m_cpy_ap, Nat.reduceEqDiff, Nat.reduceLT, Nat.reduceLeDiff, eq_self, ↓reduceIte, false_and, and_false, true_and, and_true, and_self])
            refine ⟨vp_in_nI (by omega) (by decide), ?_⟩
            conv => whnf
            (try simp only [hcb, nI_6m, nI_1, nI_k _ 2 2 rfl, nI_k _ 3 3 rfl, nI_k _ 4 4 rfl, nI_k _ 5 5 rfl, m_ui_ap, m_fil_ap, m_cpy_ap, Nat.reduceEqDiff, Nat.reduceLT, Nat.reduceLeDiff, eq_self, ↓reduceIte, false_and, and_false, true_and, and_true, and_self])
            refine ⟨vp_in_nI (by omega) (by decide), ?_⟩
            conv => whnf
            (try simp only [hcb, nI_6m, nI_1, nI_k _ 2 2 rfl, nI_k _ 3 3 rfl, nI_k _ 4 4 rfl, nI_k _ 5 5 rfl, m_ui_ap, m_fil_ap, m_cpy_ap, Nat.reduceEqDiff, Nat.reduceLT, Nat.reduceLeDiff, eq_self, ↓reduceIte, false_and, and_false, true_and, and_true, and_self])
            refine ⟨vp_in_nI (by omega) (by decide), ?_⟩
            conv => whnf
            refine ⟨fun c5 => ?_, fun c5 => ?_⟩
            · conv => whnf
              (try simp only [hcb, nI_6m, nI_1, nI_k _ 2 2 rfl, nI_k _ 3 3 rfl, nI_k _ 4 4 rfl, nI_k _ 5 5 rfl, m_ui_ap, m_fil_ap, m_cpy_ap, Nat.reduceEqDiff, Nat.reduceLT, Nat.reduceLeDiff, eq_self, ↓reduceIte, false_and, and_false, true_and, and_true, and_self])
              refine ⟨vp_in_nI (by omega) (by decide), ?_⟩
              conv => whnf
              (try refine ⟨by first | exact Or.inl rfl | exact Or.inl True.intro, ?_⟩)
              (try (conv => whnf))
              (try (refine ⟨fun c => ?_, fun c => ?_⟩ <;> first | ((have c9 : (1 : Int32) = 0 := by with_reducible exact c); exact absurd c9 (by decide)) | exact absurd (rfl : (0 : Int32) = 0) (by with_reducible exact c) | exact absurd True.intro (by with_reducible exact c) | exact False.elim (by with_reducible exact c) | (conv => whnf)))
              have e7 : fr x5 = 0 := if_pos c5
              have H2 := H _ _ (Or.inr ⟨j, hj, rfl, hw, Or.inr (Or.inr ⟨by rw [hB]; exact e1, by omega, kd, hk4, hk, Or.inr ⟨by rw [hB]; exact fun z => z.2 z2, rfl⟩, rfl⟩)⟩)
              unfold mvadd at H2
              rw [e7, hB] at H2
              simp only [hc0, hc1, hc2, hc3, hc4, hc5, hcb, nI_6m, nI_1, nI_k _ 2 2 rfl, nI_k _ 3 3 rfl, nI_k _ 4 4 rfl, nI_k _ 5 5 rfl]
              (try simp only [hcb, nI_1, m_ui_ap, m_fil_ap, m_cpy_ap, Nat.reduceEqDiff, Nat.reduceLT, Nat.reduceLeDiff, eq_self, ↓reduceIte, false_and, and_false, true_and, and_true, and_self])
              exact H2
            · conv => whnf
              (try simp only [hcb, nI_6m, nI_1, nI_k _ 2 2 rfl, nI_k _ 3 3 rfl, nI_k _ 4 4 rfl, nI_k _ 5 5 rfl, m_ui_ap, m_fil_ap, m_cpy_ap, Nat.reduceEqDiff, Nat.reduceLT, Nat.reduceLeDiff, eq_self, ↓reduceIte, false_and, and_false, true_and, and_true, and_self])
              refine ⟨vp_in_nI (by omega) (by decide), ?_⟩
              conv => whnf
              (try refine ⟨by first | exact Or.inl rfl | exact Or.inl True.intro, ?_⟩)
              (try (conv => whnf))
              (try (refine ⟨fun c => ?_, fun c => ?_⟩ <;> first | ((have c9 : (1 : Int32) = 0 := by with_reducible exact c); exact absurd c9 (by decide)) | exact absurd (rfl : (0 : Int32) = 0) (by with_reducible exact c) | exact absurd True.intro (by with_reducible exact c) | exact False.elim (by with_reducible exact c) | (conv => whnf)))
              have e7 : fr x5 = 1 := if_neg c5
              have H2 := H _ _ (Or.inr ⟨j, hj, rfl, hw, Or.inr (Or.inr ⟨by rw [hB]; exact e1, by omega, kd, hk4, hk, Or.inr ⟨by rw [hB]; exact fun z => z.2 z2, rfl⟩, rfl⟩)⟩)
              unfold mvadd at H2
              rw [e7, hB] at H2
              simp only [hc0, hc1, hc2, hc3, hc4, hc5, hcb, nI_6m, nI_1, nI_k _ 2 2 rfl, nI_k _ 3 3 rfl, nI_k _ 4 4 rfl, nI_k _ 5 5 rfl]
              (try simp only [hcb, nI_1, m_ui_ap, m_fil_ap, m_cpy_ap, Nat.reduceEqDiff, Nat.reduceLT, Nat.reduceLeDiff, eq_self, ↓reduceIte, false_and, and_false, true_and, and_true, and_self])
              exact H2
          · conv => whnf
            (try simp only [hcb, nI_6m, nI_1, nI_k _ 2 2 rfl, nI_k _ 3 3 rfl, nI_k _ 4 4 rfl, nI_k _ 5 5 rfl, m_ui_ap, m_fil_ap, m_cpy_ap, Nat.reduceEqDiff, Nat.reduceLT, Nat.reduceLeDiff, eq_self, ↓reduceIte, false_and, and_false, true_and, and_true, and_self])
            refine ⟨vp_in_nI (by omega) (by decide), ?_⟩
            conv => whnf
            (try simp only [hcb, nI_6m, nI_1, nI_k _ 2 2 rfl, nI_k _ 3 3 rfl, nI_k _ 4 4 rfl, nI_k _ 5 5 rfl, m_ui_ap, m_fil_ap, m_cpy_ap, Nat.reduceEqDiff, Nat.reduceLT, Nat.reduceLeDiff, eq_self, ↓reduceIte, false_and, and_false, true_and, and_true, and_self])
            refine ⟨vp_in_nI (by omega) (by decide), ?_⟩
            conv => whnf
            (try (refine ⟨fun c => ?_, fun c => ?_⟩ <;> first | ((have c9 : (1 : Int32) = 0 := by with_reducible exact c); exact absurd c9 (by decide)) | exact absurd (rfl : (0 : Int32) = 0) (by with_reducible exact c) | exact absurd True.intro (by with_reducible exact c) | exact False.elim (by with_reducible exact c) | (conv => whnf)))
            (try simp only [hcb, nI_6m, nI_1, nI_k _ 2 2 rfl, nI_k _ 3 3 rfl, nI_k _ 4 4 rfl, nI_k _ 5 5 rfl, m_ui_ap, m_fil_ap, m_cpy_ap, Nat.reduceEqDiff, Nat.reduceLT, Nat.reduceLeDiff, eq_self, ↓reduceIte, false_and, and_false, true_and, and_true, and_self])
            refine ⟨vp_in_nI (by omega) (by decide), ?_⟩
            conv => whnf
            (try simp only [hcb, nI_6m, nI_1, nI_k _ 2 2 rfl, nI_k _ 3 3 rfl, nI_k _ 4 4 rfl, nI_k _ 5 5 rfl, m_ui_ap, m_fil_ap, m_cpy_ap, Nat.reduceEqDiff, Nat.reduceLT, Nat.reduceLeDiff, eq_self, ↓reduceIte, false_and, and_false, true_and, and_true, and_self])
            refine ⟨vp_in_nI (by omega) (by decide), ?_⟩
            conv => whnf
            (try simp only [hcb, nI_6m, nI_1, nI_k _ 2 2 rfl, nI_k _ 3 3 rfl, nI_k _ 4 4 rfl, nI_k _ 5 5 rfl, m_ui_ap, m_fil_ap, m_cpy_ap, Nat.reduceEqDiff, Nat.reduceLT, Nat.reduceLeDiff, eq_self, ↓reduceIte, false_and, and_false, true_and, and_true, and_self])
            refine ⟨vp_in_nI (by omega) (by decide), ?_⟩
            conv => whnf
            refine ⟨fun c5 => ?_, fun c5 => ?_⟩
            · conv => whnf
              (try simp only [hcb, nI_6m, nI_1, nI_k _ 2 2 rfl, nI_k _ 3 3 rfl, nI_k _ 4 4 rfl, nI_k _ 5 5 rfl, m_ui_ap, m_fil_ap, m_cpy_ap, Nat.reduceEqDiff, Nat.reduceLT, Nat.reduceLeDiff, eq_self, ↓reduceIte, false_and, and_false, true_and, and_true, and_self])
              refine ⟨vp_in_nI (by omega) (by decide), ?_⟩
              conv => whnf
              (try refine ⟨by first | exact Or.inl rfl | exact Or.inl True.intro, ?_⟩)
              (try (conv => whnf))
              (try (refine ⟨fun c => ?_, fun c => ?_⟩ <;> first | ((have c9 : (1 : Int32) = 0 := by with_reducible exact c); exact absurd c9 (by decide)) | exact absurd (rfl : (0 : Int32) = 0) (by with_reducible exact c) | exact absurd True.intro (by with_reducible exact c) | exact False.elim (by with_reducible exact c) | (conv => whnf)))
              have e7 : fr x5 = 0 := if_pos c5
              have H2 := H _ _ (Or.inr ⟨j, hj, rfl, hw, Or.inr (Or.inr ⟨by rw [hB]; exact e1, by omega, kd, hk4, hk, Or.inl ⟨by rw [hB]; exact ⟨z1, z2⟩, rfl⟩, rfl⟩)⟩)
              unfold mvadd at H2
              rw [e7, hB] at H2
              simp only [hc0, hc1, hc2, hc3, hc4, hc5, hcb, nI_6m, nI_1, nI_k _ 2 2 rfl, nI_k _ 3 3 rfl, nI_k _ 4 4 rfl, nI_k _ 5 5 rfl]
              (try simp only [hcb, nI_1, m_ui_ap, m_fil_ap, m_cpy_ap, Nat.reduceEqDiff, Nat.reduceLT, Nat.reduceLeDiff, eq_self, ↓reduceIte, false_and, and_false, true_and, and_true, and_self])
              exact H2
            · conv => whnf
              (try simp only [hcb, nI_6m, nI_1, nI_k _ 2 2 rfl, nI_k _ 3 3 rfl, nI_k _ 4 4 rfl, nI_k _ 5 5 rfl, m_ui_ap, m_fil_ap, m_cpy_ap, Nat.reduceEqDiff, Nat.reduceLT, Nat.reduceLeDiff, eq_self, ↓reduceIte, false_and, and_false, true_and, and_true, and_self])
              refine ⟨vp_in_nI (by omega) (by decide), ?_⟩
              conv => whnf
              (try refine ⟨by first | exact Or.inl rfl | exact Or.inl True.intro, ?_⟩)
              (try (conv => whnf))
              (try (refine ⟨fun c => ?_, fun c => ?_⟩ <;> first | ((have c9 : (1 : Int32) = 0 := by with_reducible exact c); exact absurd c9 (by decide)) | exact absurd (rfl : (0 : Int32) = 0) (by with_reducible exact c) | exact absurd True.intro (by with_reducible exact c) | exact False.elim (by with_reducible exact c) | (conv => whnf)))
              have e7 : fr x5 = 1 := if_neg c5
              have H2 := H _ _ (Or.inr ⟨j, hj, rfl, hw, Or.inr (Or.inr ⟨by rw [hB]; exact e1, by omega, kd, hk4, hk, Or.inl ⟨by rw [hB]; exact ⟨z1, z2⟩, rfl⟩, rfl⟩)⟩)
              unfold mvadd at H2
              rw [e7, hB] at H2
              simp only [hc0, hc1, hc2, hc3, hc4, hc5, hcb, nI_6m, nI_1, nI_k _ 2 2 rfl, nI_k _ 3 3 rfl, nI_k _ 4 4 rfl, nI_k _ 5 5 rfl]
              (try simp only [hcb, nI_1, m_ui_ap, m_fil_ap, m_cpy_ap, Nat.reduceEqDiff, Nat.reduceLT, Nat.reduceLeDiff, eq_self, ↓reduceIte, false_and, and_false, true_and, and_true, and_self])
              exact H2
    · conv => whnf
      exact H _ _ (Or.inr ⟨j, hj, rfl, hw, Or.inl ⟨by rw [hB]; exact (tv).2.mp e1, rfl, rfl⟩⟩)
  | k + 1, i, x, a, s9, s10, s11, s12, hi, hx, he => by
    subst hx
    have hcl : (nI i).toNatClampNeg = i := nI_clamp (by omega)
    refine at_X11_vote ?_
    conv => whnf
    refine ⟨fun c => absurd c (nI_ge (b := 8) (by omega) (by omega)), fun c => ?_⟩
    conv => whnf
    refine ⟨vp_in_nI (by omega) (by decide), ?_⟩
    conv => whnf
    simp only [hcl]
    refine ⟨fun c1 => ?_, fun c1 => ?_⟩
    · conv => whnf
      refine vm_lp hd hj hm hcb hcm hkd hw ew H k (i + 1) _ _ _ _ _ _ (by omega) (nI_1 i) ?_
      rw [may_n (P := fun m => ¬ f 212 m &&& w = 0) (D := fun m => nI m) (k := k) (i := i) (a := a) (fun z => z c1)] at he
      show mayl (fun m => ¬ f 212 m &&& w = 0) (fun m => nI m) k (i + 1) (a ||| 0) = _
      rw [or_0]
      exact he
    · conv => whnf
      refine vm_lp hd hj hm hcb hcm hkd hw ew H k (i + 1) _ _ _ _ _ _ (by omega) (nI_1 i) ?_
      rw [may_y (P := fun m => ¬ f 212 m &&& w = 0) (D := fun m => nI m) (k := k) (i := i) (a := a) c1] at he
      exact he
set_option maxRecDepth 100000 in
set_option maxHeartbeats 4000000 in
theorem smf_vote {d L : Nat} {f : Nat → Nat → Int32} {g : Nat → Nat → Int64} {n h c : Nat} {x1 x2 x3 x4 x5 : Int32} {R : Option Value → mH → Prop} (hd : 6 ≤ d) (hb : f 181 0 = nI n) (hm : n ≤ 40) (hhb : f 181 14 = nI h) (hhm : h ≤ 60) (hcb : f 181 48 = nI c) (hcm : c ≤ 60) (hkd : ∀ j, inr 0 3 (f 182 j)) (H : ∀ v f1, SM_vote n h c f f1 x1 x2 x3 x4 x5 v → R (some (.int v)) (shF L, f1, g)) : Run mtab d 225 [.ref 181, .int x1, .int x2, .int x3, .int x4, .int x5] (shF L, f, g) R := by
  obtain ⟨d, rfl⟩ : ∃ e, d = e + 1 := ⟨d - 1, by omega⟩
  refine go_X11_vote rfl ?_
  conv => whnf
  refine ct_mIsWork (by omega) hb hm (fun j hj e => ?_) (fun q => ?_)
  · subst e
    conv => whnf
    (refine ⟨fun c => ?_, fun c => ?_⟩ <;> first | ((have c9 : (1 : Int32) = 0 := by with_reducible exact c); exact absurd c9 (by decide)) | exact absurd (rfl : (0 : Int32) = 0) (by with_reducible exact c) | exact absurd True.intro (by with_reducible exact c) | exact False.elim (by with_reducible exact c) | (conv => whnf))
    refine ct_i_0_9999 (by omega) (fun p2 => ?_) (fun p2 => ?_)
    · conv => whnf
      (refine ⟨fun c => ?_, fun c => ?_⟩ <;> first | ((have c9 : (1 : Int32) = 0 := by with_reducible exact c); exact absurd c9 (by decide)) | exact absurd (rfl : (0 : Int32) = 0) (by with_reducible exact c) | exact absurd True.intro (by with_reducible exact c) | exact False.elim (by with_reducible exact c) | (conv => whnf))
      refine ct_i_0_255 (by omega) (fun p3 => ?_) (fun p3 => ?_)
      · conv => whnf
        (refine ⟨fun c => ?_, fun c => ?_⟩ <;> first | ((have c9 : (1 : Int32) = 0 := by with_reducible exact c); exact absurd c9 (by decide)) | exact absurd (rfl : (0 : Int32) = 0) (by with_reducible exact c) | exact absurd True.intro (by with_reducible exact c) | exact False.elim (by with_reducible exact c) | (conv => whnf))
        refine ct_i_0_255 (by omega) (fun p4 => ?_) (fun p4 => ?_)
        · conv => whnf
          (refine ⟨fun c => ?_, fun c => ?_⟩ <;> first | ((have c9 : (1 : Int32) = 0 := by with_reducible exact c); exact absurd c9 (by decide)) | exact absurd (rfl : (0 : Int32) = 0) (by with_reducible exact c) | exact absurd True.intro (by with_reducible exact c) | exact False.elim (by with_reducible exact c) | (conv => whnf))
          refine ⟨fun e0 => ?_, fun e0 => ?_⟩
          · conv => whnf
            have hw : votew n (nI j) x2 x3 x4 := ⟨⟨j, hj, rfl⟩, p2, p3, p4, e0⟩
            refine ⟨by decide, ?_⟩
            conv => whnf
            refine smf_mayHold (by omega) hhb hhm ?_
            conv => whnf
            exact vm_lp (by omega) hj hm hcb hcm hkd hw rfl H 8 0 _ _ _ _ _ _ (by omega) rfl rfl
          · conv => whnf
            exact H _ _ (Or.inl ⟨fun hh => e0 hh.2.2.2.2, rfl, rfl⟩)
        · conv => whnf
          (refine ⟨fun c => ?_, fun c => ?_⟩ <;> first | ((have c9 : (1 : Int32) = 0 := by with_reducible exact c); exact absurd c9 (by decide)) | exact absurd (rfl : (0 : Int32) = 0) (by with_reducible exact c) | exact absurd True.intro (by with_reducible exact c) | exact False.elim (by with_reducible exact c) | (conv => whnf))
          exact H _ _ (Or.inl ⟨fun hh => p4 hh.2.2.2.1, rfl, rfl⟩)
      · conv => whnf
        (refine ⟨fun c => ?_, fun c => ?_⟩ <;> first | ((have c9 : (1 : Int32) = 0 := by with_reducible exact c); exact absurd c9 (by decide)) | exact absurd (rfl : (0 : Int32) = 0) (by with_reducible exact c) | exact absurd True.intro (by with_reducible exact c) | exact False.elim (by with_reducible exact c) | (conv => whnf))
        exact H _ _ (Or.inl ⟨fun hh => p3 hh.2.2.1, rfl, rfl⟩)
    · conv => whnf
      (refine ⟨fun c => ?_, fun c => ?_⟩ <;> first | ((have c9 : (1 : Int32) = 0 := by with_reducible exact c); exact absurd c9 (by decide)) | exact absurd (rfl : (0 : Int32) = 0) (by with_reducible exact c) | exact absurd True.intro (by with_reducible exact c) | exact False.elim (by with_reducible exact c) | (conv => whnf))
      exact H _ _ (Or.inl ⟨fun hh => p2 hh.2.1, rfl, rfl⟩)
  · conv => whnf
    (refine ⟨fun c => ?_, fun c => ?_⟩ <;> first | ((have c9 : (1 : Int32) = 0 := by with_reducible exact c); exact absurd c9 (by decide)) | exact absurd (rfl : (0 : Int32) = 0) (by with_reducible exact c) | exact absurd True.intro (by with_reducible exact c) | exact False.elim (by with_reducible exact c) | (conv => whnf))
    exact H _ _ (Or.inl ⟨fun hh => nhasw q hh.1, rfl, rfl⟩)
def RVk (f : Nat → Nat → Int32) (k : Nat) : Prop := f 121 k = f 218 (6 * k) ∧ f 122 k = f 218 (6 * k + 1) ∧ f 123 k = f 218 (6 * k + 2) ∧ f 125 k = f 218 (6 * k + 3) ∧ f 126 k = f 218 (6 * k + 4) ∧ f 124 k = f 218 (6 * k + 5) ∧ inr 0 9999 (f 122 k) ∧ (f 123 k = 0 ∨ f 123 k = 1) ∧ (f 124 k = 0 ∨ f 124 k = 1)
/-- both objects have the same votes -/
def RV (v : Nat) (f : Nat → Nat → Int32) : Prop := v ≤ 60 ∧ f 119 7 = nI v ∧ f 181 48 = nI v ∧ ∀ k, k < v → RVk f k
theorem cmp_4 {i : Nat} : ∀ a, 119 ≤ a → a ≤ 126 → ¬ a = 120 → cmp a i = 4 := by
  intro a h h' h2
  have : a = 119 ∨ a = 121 ∨ a = 122 ∨ a = 123 ∨ a = 124 ∨ a = 125 ∨ a = 126 := by omega
  rcases this with rfl | rfl | rfl | rfl | rfl | rfl | rfl <;> rfl
theorem RV_kp {l : List Nat} {v : Nat} {f f' : Nat → Nat → Int32} (k : kp l f f') (h4 : hasN l 4 = false) (h14 : hasN l 14 = false) (r : RV v f) : RV v f' := by
  obtain ⟨a, b, c, d⟩ := r
  have e : ∀ p i, 119 ≤ p → p ≤ 126 → ¬ p = 120 → f' p i = f p i := fun p i h1 h2 h3 => k p i (by rw [cmp_4 p h1 h2 h3]; exact h4)
  have e2 : ∀ i, f' 218 i = f 218 i := fun i => k 218 i (by exact h14)
  refine ⟨a, (e 119 7 (by omega) (by omega) (by omega)).trans b, (k 181 48 (by exact h14)).trans c, fun j hj => ?_⟩
  unfold RVk
  rw [e 121 j (by omega) (by omega) (by omega), e 122 j (by omega) (by omega) (by omega), e 123 j (by omega) (by omega) (by omega), e 124 j (by omega) (by omega) (by omega), e 125 j (by omega) (by omega) (by omega), e 126 j (by omega) (by omega) (by omega)]
  simp only [e2]
  exact d j hj
theorem passw_congr {r r' : Nat → Int32} {A B A' B' : Int32} (h : ∀ t, t < 3 → r t = r' t) (hA : A = A') (hB : B = B') : passw r A B ↔ passw r' A' B' := by
  subst hA
  subst hB
  unfold passw
  rw [h 0 (by omega), h 1 (by omega), h 2 (by omega)]
theorem va_121 {f : Nat → Nat → Int32} {c k : Nat} {x1 x2 x5 ps vo lo : Int32} : mvadd (vadd f c x1 x2 x5 ps vo lo) c x1 x2 x5 ps vo lo 121 k = if k = c then x1 else f 121 k := by
  unfold mvadd vadd vadd0
  by_cases e : k = c
  · subst e
    rw [m_ui_o (by omega), m_ui_o (by omega), m_ui_o (by omega), m_ui_o (by omega), m_ui_o (by omega), m_ui_o (by omega), m_ui_o (by omega), m_ui_o (by omega), m_ui_o (by omega), m_ui_o (by omega), m_ui_o (by omega), m_ui_o (by omega), m_ui_o (by omega), m_ui_o (by omega), m_ui_s, if_pos rfl]
  · rw [m_ui_o (by omega), m_ui_o (by omega), m_ui_o (by omega), m_ui_o (by omega), m_ui_o (by omega), m_ui_o (by omega), m_ui_o (by omega), m_ui_o (by omega), m_ui_o (by omega), m_ui_o (by omega), m_ui_o (by omega), m_ui_o (by omega), m_ui_o (by omega), m_ui_o (by omega), m_ui_o (by omega), if_neg e]
theorem va_122 {f : Nat → Nat → Int32} {c k : Nat} {x1 x2 x5 ps vo lo : Int32} : mvadd (vadd f c x1 x2 x5 ps vo lo) c x1 x2 x5 ps vo lo 122 k = if k = c then x2 else f 122 k := by
  unfold mvadd vadd vadd0
  by_cases e : k = c
  · subst e
    rw [m_ui_o (by omega), m_ui_o (by omega), m_ui_o (by omega), m_ui_o (by omega), m_ui_o (by omega), m_ui_o (by omega), m_ui_o (by omega), m_ui_o (by omega), m_ui_o (by omega), m_ui_o (by omega), m_ui_o (by omega), m_ui_o (by omega), m_ui_o (by omega), m_ui_s, if_pos rfl]
  · rw [m_ui_o (by omega), m_ui_o (by omega), m_ui_o (by omega), m_ui_o (by omega), m_ui_o (by omega), m_ui_o (by omega), m_ui_o (by omega), m_ui_o (by omega), m_ui_o (by omega), m_ui_o (by omega), m_ui_o (by omega), m_ui_o (by omega), m_ui_o (by omega), m_ui_o (by omega), m_ui_o (by omega), if_neg e]
theorem va_123 {f : Nat → Nat → Int32} {c k : Nat} {x1 x2 x5 ps vo lo : Int32} : mvadd (vadd f c x1 x2 x5 ps vo lo) c x1 x2 x5 ps vo lo 123 k = if k = c then (vp_nar .boolean ps) else f 123 k := by
  unfold mvadd vadd vadd0
  by_cases e : k = c
  · subst e
    rw [m_ui_o (by omega), m_ui_o (by omega), m_ui_o (by omega), m_ui_o (by omega), m_ui_o (by omega), m_ui_o (by omega), m_ui_o (by omega), m_ui_o (by omega), m_ui_o (by omega), m_ui_o (by omega), m_ui_o (by omega), m_ui_s, if_pos rfl]
  · rw [m_ui_o (by omega), m_ui_o (by omega), m_ui_o (by omega), m_ui_o (by omega), m_ui_o (by omega), m_ui_o (by omega), m_ui_o (by omega), m_ui_o (by omega), m_ui_o (by omega), m_ui_o (by omega), m_ui_o (by omega), m_ui_o (by omega), m_ui_o (by omega), m_ui_o (by omega), m_ui_o (by omega), if_neg e]
theorem va_124 {f : Nat → Nat → Int32} {c k : Nat} {x1 x2 x5 ps vo lo : Int32} : mvadd (vadd f c x1 x2 x5 ps vo lo) c x1 x2 x5 ps vo lo 124 k = if k = c then (vp_nar .boolean x5) else f 124 k := by
  unfold mvadd vadd vadd0
  by_cases e : k = c
  · subst e
    rw [m_ui_o (by omega), m_ui_o (by omega), m_ui_o (by omega), m_ui_o (by omega), m_ui_o (by omega), m_ui_o (by omega), m_ui_o (by omega), m_ui_o (by omega), m_ui_o (by omega), m_ui_o (by omega), m_ui_o (by omega), m_ui_o (by omega), m_ui_s, if_pos rfl]
  · rw [m_ui_o (by omega), m_ui_o (by omega), m_ui_o (by omega), m_ui_o (by omega), m_ui_o (by omega), m_ui_o (by omega), m_ui_o (by omega), m_ui_o (by omega), m_ui_o (by omega), m_ui_o (by omega), m_ui_o (by omega), m_ui_o (by omega), m_ui_o (by omega), m_ui_o (by omega), m_ui_o (by omega), if_neg e]
theorem va_125 {f : Nat → Nat → Int32} {c k : Nat} {x1 x2 x5 ps vo lo : Int32} : mvadd (vadd f c x1 x2 x5 ps vo lo) c x1 x2 x5 ps vo lo 125 k = if k = c then vo else f 125 k := by
  unfold mvadd vadd vadd0
  by_cases e : k = c
  · subst e
    rw [m_ui_o (by omega), m_ui_o (by omega), m_ui_o (by omega), m_ui_o (by omega), m_ui_o (by omega), m_ui_o (by omega), m_ui_o (by omega), m_ui_o (by omega), m_ui_o (by omega), m_ui_s, if_pos rfl]
  · rw [m_ui_o (by omega), m_ui_o (by omega), m_ui_o (by omega), m_ui_o (by omega), m_ui_o (by omega), m_ui_o (by omega), m_ui_o (by omega), m_ui_o (by omega), m_ui_o (by omega), m_ui_o (by omega), m_ui_o (by omega), m_ui_o (by omega), m_ui_o (by omega), m_ui_o (by omega), m_ui_o (by omega), if_neg e]
theorem va_126 {f : Nat → Nat → Int32} {c k : Nat} {x1 x2 x5 ps vo lo : Int32} : mvadd (vadd f c x1 x2 x5 ps vo lo) c x1 x2 x5 ps vo lo 126 k = if k = c then lo else f 126 k := by
  unfold mvadd vadd vadd0
  by_cases e : k = c
  · subst e
    rw [m_ui_o (by omega), m_ui_o (by omega), m_ui_o (by omega), m_ui_o (by omega), m_ui_o (by omega), m_ui_o (by omega), m_ui_o (by omega), m_ui_o (by omega), m_ui_s, if_pos rfl]
  · rw [m_ui_o (by omega), m_ui_o (by omega), m_ui_o (by omega), m_ui_o (by omega), m_ui_o (by omega), m_ui_o (by omega), m_ui_o (by omega), m_ui_o (by omega), m_ui_o (by omega), m_ui_o (by omega), m_ui_o (by omega), m_ui_o (by omega), m_ui_o (by omega), m_ui_o (by omega), m_ui_o (by omega), if_neg e]
theorem vm_0 {f : Nat → Nat → Int32} {c k : Nat} {x1 x2 x5 ps vo lo : Int32} : mvadd (vadd f c x1 x2 x5 ps vo lo) c x1 x2 x5 ps vo lo 218 (6 * k) = if k = c then x1 else f 218 (6 * k) := by
  unfold mvadd vadd vadd0
  by_cases e : k = c
  · subst e
    rw [m_ui_o (by omega), m_ui_o (by omega), m_ui_o (by omega), m_ui_o (by omega), m_ui_o (by omega), m_ui_o (by omega), m_ui_o (by omega), m_ui_s, if_pos rfl]
  · rw [m_ui_o (by omega), m_ui_o (by omega), m_ui_o (by omega), m_ui_o (by omega), m_ui_o (by omega), m_ui_o (by omega), m_ui_o (by omega), m_ui_o (by omega), m_ui_o (by omega), m_ui_o (by omega), m_ui_o (by omega), m_ui_o (by omega), m_ui_o (by omega), m_ui_o (by omega), m_ui_o (by omega), if_neg e]
theorem vm_1 {f : Nat → Nat → Int32} {c k : Nat} {x1 x2 x5 ps vo lo : Int32} : mvadd (vadd f c x1 x2 x5 ps vo lo) c x1 x2 x5 ps vo lo 218 (6 * k + 1) = if k = c then x2 else f 218 (6 * k + 1) := by
  unfold mvadd vadd vadd0
  by_cases e : k = c
  · subst e
    rw [m_ui_o (by omega), m_ui_o (by omega), m_ui_o (by omega), m_ui_o (by omega), m_ui_o (by omega), m_ui_o (by omega), m_ui_s, if_pos rfl]
  · rw [m_ui_o (by omega), m_ui_o (by omega), m_ui_o (by omega), m_ui_o (by omega), m_ui_o (by omega), m_ui_o (by omega), m_ui_o (by omega), m_ui_o (by omega), m_ui_o (by omega), m_ui_o (by omega), m_ui_o (by omega), m_ui_o (by omega), m_ui_o (by omega), m_ui_o (by omega), m_ui_o (by omega), if_neg e]
theorem vm_2 {f : Nat → Nat → Int32} {c k : Nat} {x1 x2 x5 ps vo lo : Int32} : mvadd (vadd f c x1 x2 x5 ps vo lo) c x1 x2 x5 ps vo lo 218 (6 * k + 2) = if k = c then ps else f 218 (6 * k + 2) := by
  unfold mvadd vadd vadd0
  by_cases e : k = c
  · subst e
    rw [m_ui_o (by omega), m_ui_o (by omega), m_ui_o (by omega), m_ui_o (by omega), m_ui_o (by omega), m_ui_s, if_pos rfl]
  · rw [m_ui_o (by omega), m_ui_o (by omega), m_ui_o (by omega), m_ui_o (by omega), m_ui_o (by omega), m_ui_o (by omega), m_ui_o (by omega), m_ui_o (by omega), m_ui_o (by omega), m_ui_o (by omega), m_ui_o (by omega), m_ui_o (by omega), m_ui_o (by omega), m_ui_o (by omega), m_ui_o (by omega), if_neg e]
theorem vm_3 {f : Nat → Nat → Int32} {c k : Nat} {x1 x2 x5 ps vo lo : Int32} : mvadd (vadd f c x1 x2 x5 ps vo lo) c x1 x2 x5 ps vo lo 218 (6 * k + 3) = if k = c then vo else f 218 (6 * k + 3) := by
  unfold mvadd vadd vadd0
  by_cases e : k = c
  · subst e
    rw [m_ui_o (by omega), m_ui_o (by omega), m_ui_o (by omega), m_ui_o (by omega), m_ui_s, if_pos rfl]
  · rw [m_ui_o (by omega), m_ui_o (by omega), m_ui_o (by omega), m_ui_o (by omega), m_ui_o (by omega), m_ui_o (by omega), m_ui_o (by omega), m_ui_o (by omega), m_ui_o (by omega), m_ui_o (by omega), m_ui_o (by omega), m_ui_o (by omega), m_ui_o (by omega), m_ui_o (by omega), m_ui_o (by omega), if_neg e]
theorem vm_4 {f : Nat → Nat → Int32} {c k : Nat} {x1 x2 x5 ps vo lo : Int32} : mvadd (vadd f c x1 x2 x5 ps vo lo) c x1 x2 x5 ps vo lo 218 (6 * k + 4) = if k = c then lo else f 218 (6 * k + 4) := by
  unfold mvadd vadd vadd0
  by_cases e : k = c
  · subst e
    rw [m_ui_o (by omega), m_ui_o (by omega), m_ui_o (by omega), m_ui_s, if_pos rfl]
  · rw [m_ui_o (by omega), m_ui_o (by omega), m_ui_o (by omega), m_ui_o (by omega), m_ui_o (by omega), m_ui_o (by omega), m_ui_o (by omega), m_ui_o (by omega), m_ui_o (by omega), m_ui_o (by omega), m_ui_o (by omega), m_ui_o (by omega), m_ui_o (by omega), m_ui_o (by omega), m_ui_o (by omega), if_neg e]
theorem vm_5 {f : Nat → Nat → Int32} {c k : Nat} {x1 x2 x5 ps vo lo : Int32} : mvadd (vadd f c x1 x2 x5 ps vo lo) c x1 x2 x5 ps vo lo 218 (6 * k + 5) = if k = c then (fr x5) else f 218 (6 * k + 5) := by
  unfold mvadd vadd vadd0
  by_cases e : k = c
  · subst e
    rw [m_ui_o (by omega), m_ui_o (by omega), m_ui_s, if_pos rfl]
  · rw [m_ui_o (by omega), m_ui_o (by omega), m_ui_o (by omega), m_ui_o (by omega), m_ui_o (by omega), m_ui_o (by omega), m_ui_o (by omega), m_ui_o (by omega), m_ui_o (by omega), m_ui_o (by omega), m_ui_o (by omega), m_ui_o (by omega), m_ui_o (by omega), m_ui_o (by omega), m_ui_o (by omega), if_neg e]
theorem kx_vote {n h c : Nat} {f f1 : Nat → Nat → Int32} {x1 x2 x3 x4 x5 v : Int32} (s : SX_vote n h c f f1 x1 x2 x3 x4 x5 v) : kp [4] f f1 := by
  rcases s with ⟨_, _, rfl⟩ | ⟨j, _, _, _, ⟨_, _, rfl⟩ | ⟨_, _, _, rfl⟩ | ⟨_, _, k, _, _, _, rfl⟩⟩
  · exact kp_refl _ _
  · exact kp_refl _ _
  · exact kp_refl _ _
  · unfold vadd vadd0
    exact kp_ui rfl (kp_ui rfl (kp_ui rfl (kp_ui rfl (kp_ui rfl (kp_ui rfl (kp_ui rfl (kp_refl _ _)))))))
theorem km_vote {n h c : Nat} {f f1 : Nat → Nat → Int32} {x1 x2 x3 x4 x5 v : Int32} (s : SM_vote n h c f f1 x1 x2 x3 x4 x5 v) : kp [10, 14] f f1 := by
  rcases s with ⟨_, _, rfl⟩ | ⟨j, _, _, _, ⟨_, _, rfl⟩ | ⟨_, _, _, rfl⟩ | ⟨_, _, k, _, _, _, rfl⟩⟩
  · exact kp_refl _ _
  · exact kp_refl _ _
  · exact kp_refl _ _
  · unfold mvadd
    exact kp_ui rfl (kp_ui rfl (kp_ui rfl (kp_ui rfl (kp_ui rfl (kp_ui rfl (kp_ui rfl (kp_ui rfl (kp_refl _ _))))))))
theorem XI_va {f : Nat → Nat → Int32} {c : Nat} {x1 x2 x5 ps vo lo : Int32} (hX : XI f) (hc : c < 60) (h1 : inr 0 39 x1) : XI (mvadd (vadd f c x1 x2 x5 ps vo lo) c x1 x2 x5 ps vo lo) := by
  unfold mvadd vadd vadd0
  exact XI_ui (XI_ui (XI_ui (XI_ui (XI_ui (XI_ui (XI_ui (XI_ui (XI_ui (XI_ui (XI_ui (XI_ui (XI_ui (XI_ui (XI_ui hX h1) True.intro) True.intro) True.intro) (show inr 0 60 _ from inr_n1 (m := 60) (by omega) rfl (by decide))) True.intro) True.intro) True.intro) True.intro) True.intro) True.intro) True.intro) True.intro) (show inr 0 60 _ from inr_n (m := 60) (by omega) rfl (by decide))) True.intro
theorem fin_vote {n h c : Nat} {f f1 f2 : Nat → Nat → Int32} {x1 x2 x3 x4 x5 v1 v2 : Int32} (hX : XI f) (hW : RW n f) (hO : RO h f) (hK : RK f) (hR : RR f) (hV : RV c f) (h5 : x5 = 0 ∨ x5 = 1) (s1 : SX_vote n h c f f1 x1 x2 x3 x4 x5 v1) (s2 : SM_vote n h c f1 f2 x1 x2 x3 x4 x5 v2) : XI f2 ∧ (∃ c, RV c f2) ∧ v1 = v2 := by
  have k1 := kx_vote s1
  have e195 : f1 195 = f 195 := funext (fun i => k1 195 i rfl)
  have e212 : f1 212 = f 212 := funext (fun i => k1 212 i rfl)
  have e182 : f1 182 = f 182 := funext (fun i => k1 182 i rfl)
  have ePM : PM f1 = PM f := by
    funext lo hi w y i
    unfold PM
    rw [e195]
  have hBB : (mayl (fun m => ¬ f 120 m &&& (mayl (PO f 103 106 x1 (1900 + x2 / 100)) (fun i => f 102 i) h 0 0) = 0) (fun m => nI m) 8 0 0) = (mayl (fun m => ¬ f 212 m &&& (mayl (PM f 2 5 x1 (1900 + x2 / 100)) (fun i => f 195 (6 * i + 1)) h 0 0) = 0) (fun m => nI m) 8 0 0) := by
    rw [may_RO hO]
    refine mayl_eq 8 (fun i hi => ?_) (fun i hi => rfl) 8 0 _ (by omega)
    rw [hK i hi]
  have eR : ∀ k t, k < 4 → t < 3 → eC (fun k t => f1 (213 + t) k) k t = f (109 + k) t := fun k t hk ht => by
    rw [hR k t hk ht]
    exact eC_congr (fun k' t' hk' ht' => k1 (213 + t') k' (by rw [cmp_13 _ (by omega) (by omega)]; rfl)) ht
  unfold SM_vote at s2
  rw [e195, e212, e182, ePM, ← hBB] at s2
  unfold SX_vote at s1
  generalize (mayl (fun m => ¬ f 120 m &&& (mayl (PO f 103 106 x1 (1900 + x2 / 100)) (fun i => f 102 i) h 0 0) = 0) (fun m => nI m) 8 0 0) = B at s1 s2
  rcases s1 with ⟨q1, rfl, rfl⟩ | ⟨j, hj, ej, w1, s1⟩
  · rcases s2 with ⟨q2, rfl, rfl⟩ | ⟨j2, _, _, w2, _⟩
    · exact ⟨hX, ⟨c, hV⟩, rfl⟩
    · exact absurd w2 q1
  · rcases s2 with ⟨q2, _⟩ | ⟨j2, hj2, ej2, w2, s2⟩
    · exact absurd w1 q2
    · have hn := hW.1
      have ejj : j = j2 := (nI_eq (by omega) (by omega)).mp (ej.symm.trans ej2)
      subst ejj
      rcases s1 with ⟨z1, rfl, rfl⟩ | ⟨z1, y1, rfl, rfl⟩ | ⟨z1, y1, k, hk, ek, p1, rfl⟩
      · rcases s2 with ⟨z2, rfl, rfl⟩ | ⟨z2, _⟩ | ⟨z2, _⟩
        · exact ⟨hX, ⟨c, hV⟩, rfl⟩
        · exact absurd z1 z2
        · exact absurd z1 z2
      · rcases s2 with ⟨z2, _⟩ | ⟨z2, y2, rfl, rfl⟩ | ⟨z2, y2, _⟩
        · exact absurd z2 z1
        · exact ⟨hX, ⟨c, hV⟩, rfl⟩
        · omega
      · rcases s2 with ⟨z2, _⟩ | ⟨z2, y2, _⟩ | ⟨z2, y2, k', hk', ek', p2, rfl⟩
        · exact absurd z2 z1
        · omega
        · have ekk : k = k' := (nI_eq (by omega) (by omega)).mp (ek.symm.trans ((hW.2.2.2.1 j hj).1.trans ek'))
          subst ekk
          have t1 := (bc_8 (and_255 (y := B ^^^ -1) (or_255 w1.2.2.1 w1.2.2.2.1))).1
          have t2 := (bc_8 (and_255 (y := B ^^^ -1) w1.2.2.1)).1
          have hp := passw_congr (r := fun t => f (109 + k) t) (fun t ht => (eR k t hk ht).symm) t1 t2
          have ev : v1 = v2 := by
            rcases p1 with ⟨a1, b1⟩ | ⟨a1, b1⟩
            · rcases p2 with ⟨_, b2⟩ | ⟨a2, _⟩
              · rw [b1, b2]
              · exact absurd (hp.mp a1) a2
            · rcases p2 with ⟨a2, _⟩ | ⟨_, b2⟩
              · exact absurd (hp.mpr a2) a1
              · rw [b1, b2]
          have hv : v1 = 0 ∨ v1 = 1 := p1.elim (fun z => Or.inr z.2) (fun z => Or.inl z.2)
          subst ev
          obtain ⟨a, b, e, d⟩ := hV
          refine ⟨XI_va hX y1 (by rw [ej]; exact inr_n (m := 39) (by omega) rfl (by decide)), ⟨c + 1, by omega, ?_, ?_, fun k hk => ?_⟩, rfl⟩
          · unfold mvadd vadd vadd0
            rw [m_ui_o (by omega), m_ui_o (by omega), m_ui_o (by omega), m_ui_o (by omega), m_ui_o (by omega), m_ui_o (by omega), m_ui_o (by omega), m_ui_o (by omega), m_ui_o (by omega), m_ui_o (by omega), m_ui_s]
            exact nI_1 c
          · unfold mvadd
            rw [m_ui_o (by omega), m_ui_s]
          · unfold RVk
            rw [va_121, va_122, va_123, va_124, va_125, va_126, vm_0, vm_1, vm_2, vm_3, vm_4, vm_5]
            by_cases q : k = c
            · simp only [if_pos q]
              rcases h5 with rfl | rfl
              · rcases hv with rfl | rfl
                · exact ⟨trivial, trivial, rfl, trivial, trivial, rfl, w1.2.1, Or.inl rfl, Or.inl rfl⟩
                · exact ⟨trivial, trivial, rfl, trivial, trivial, rfl, w1.2.1, Or.inr rfl, Or.inl rfl⟩
              · rcases hv with rfl | rfl
                · exact ⟨trivial, trivial, rfl, trivial, trivial, rfl, w1.2.1, Or.inl rfl, Or.inr rfl⟩
                · exact ⟨trivial, trivial, rfl, trivial, trivial, rfl, w1.2.1, Or.inr rfl, Or.inr rfl⟩
            · simp only [if_neg q]
              exact d k (by omega)
def vC (f : Nat → Nat → Int32) (k t : Nat) : Int32 := if t = 0 then f 121 k else if t = 1 then f 122 k else if t = 2 then fr (f 123 k) else if t = 3 then f 125 k else if t = 4 then f 126 k else fr (f 124 k)
def SX_votes (c : Nat) (f : Nat → Nat → Int32) (x1 x2 v : Int32) : Prop := (¬ (hasw c x1 ∧ inr 0 5 x2) ∧ v = -1) ∨ (∃ k t, k < c ∧ t < 6 ∧ x1 = nI k ∧ x2 = nI t ∧ v = vC f k t)
def SM_votes (c : Nat) (f : Nat → Nat → Int32) (x1 x2 v : Int32) : Prop := (¬ (hasw c x1 ∧ inr 0 5 x2) ∧ v = -1) ∨ (∃ k t, k < c ∧ t < 6 ∧ x1 = nI k ∧ x2 = nI t ∧ v = f 218 (6 * k + t))
theorem in5 {x : Int32} (h : inr 0 5 x) : ∃ t : Nat, t < 6 ∧ x = nI t := by
  obtain ⟨t, ht, e⟩ := inr_nat (n := 5) rfl h
  exact ⟨t, by omega, e⟩
theorem c6_c {t : Nat} (ht : t < 6) : t = 0 ∨ t = 1 ∨ t = 2 ∨ t = 3 ∨ t = 4 ∨ t = 5 := by omega
theorem sw_no {x : Int32} (h : ¬ inr 0 5 x) : ¬ x = 0 ∧ ¬ x = 1 ∧ ¬ x = 2 ∧ ¬ x = 3 ∧ ¬ x = 4 ∧ ¬ x = 5 := by
  refine ⟨?_, ?_, ?_, ?_, ?_, ?_⟩ <;> (intro e; subst e; exact h (by unfold inr; decide))
set_option maxRecDepth 100000 in
set_option maxHeartbeats 4000000 in
theorem sf_votes {d L : Nat} {f : Nat → Nat → Int32} {g : Nat → Nat → Int64} {c0 : Nat} {x1 x2 : Int32} {R : Option Value → mH → Prop} (hd : 2 ≤ d) (hvb : f 119 7 = nI c0) (hvm : c0 ≤ 60) (H : ∀ v, SX_votes c0 f x1 x2 v → R (some (.int v)) (shF L, f, g)) : Run mtab d 123 [.ref 5, .int x1, .int x2] (shF L, f, g) R := by
  obtain ⟨d, rfl⟩ : ∃ e, d = e + 1 := ⟨d - 1, by omega⟩
  refine go_X10_votes rfl ?_
  conv => whnf
  simp only [hvb]
  refine ct_isWithin (by omega) (fun p => ?_) (fun p => ?_)
  · obtain ⟨k, hk, rfl⟩ := inr_cnt (by omega) p
    have hcl : (nI k).toNatClampNeg = k := nI_clamp (by omega)
    conv => whnf
    (refine ⟨fun c => ?_, fun c => ?_⟩ <;> first | ((have c9 : (1 : Int32) = 0 := by with_reducible exact c); exact absurd c9 (by decide)) | exact absurd (rfl : (0 : Int32) = 0) (by with_reducible exact c) | exact absurd True.intro (by with_reducible exact c) | exact False.elim (by with_reducible exact c) | (conv => whnf))
    refine ⟨fun c => ?_, fun c => ?_, fun c => ?_, fun c => ?_, fun c => ?_, fun c => ?_, fun c => ?_⟩
    · conv => whnf
      refine ⟨vp_in_nI (by omega) (by decide), ?_⟩
      conv => whnf
      simp only [hcl]
      exact H _ (Or.inr ⟨k, 0, hk, by decide, rfl, c, rfl⟩)
    · conv => whnf
      refine ⟨vp_in_nI (by omega) (by decide), ?_⟩
      conv => whnf
      simp only [hcl]
      exact H _ (Or.inr ⟨k, 1, hk, by decide, rfl, c, rfl⟩)
    · conv => whnf
      refine ⟨vp_in_nI (by omega) (by decide), ?_⟩
      conv => whnf
      simp only [hcl]
      have H2 := H _ (Or.inr ⟨k, 2, hk, by decide, rfl, c, rfl⟩)
      refine ct_bit (by omega) (fun z => ?_) (fun z => ?_)
      · have e : vC f k 2 = 1 := if_neg z
        rw [e] at H2
        conv => whnf
        exact H2
      · have e : vC f k 2 = 0 := if_pos z
        rw [e] at H2
        conv => whnf
        exact H2
    · conv => whnf
      refine ⟨vp_in_nI (by omega) (by decide), ?_⟩
      conv => whnf
      simp only [hcl]
      exact H _ (Or.inr ⟨k, 3, hk, by decide, rfl, c, rfl⟩)
    · conv => whnf
      refine ⟨vp_in_nI (by omega) (by decide), ?_⟩
      conv => whnf
      simp only [hcl]
      exact H _ (Or.inr ⟨k, 4, hk, by decide, rfl, c, rfl⟩)
    · conv => whnf
      refine ⟨vp_in_nI (by omega) (by decide), ?_⟩
      conv => whnf
      simp only [hcl]
      have H2 := H _ (Or.inr ⟨k, 5, hk, by decide, rfl, c, rfl⟩)
      refine ct_bit (by omega) (fun z => ?_) (fun z => ?_)
      · have e : vC f k 5 = 1 := if_neg z
        rw [e] at H2
        conv => whnf
        exact H2
      · have e : vC f k 5 = 0 := if_pos z
        rw [e] at H2
        conv => whnf
        exact H2
    · conv => whnf
      exact H _ (Or.inl ⟨fun hh => by
        obtain ⟨t, ht, e⟩ := in5 hh.2
        rcases c6_c ht with rfl | rfl | rfl | rfl | rfl | rfl
        all_goals (subst e; revert c; decide), rfl⟩)
  · conv => whnf
    (refine ⟨fun c => ?_, fun c => ?_⟩ <;> first | ((have c9 : (1 : Int32) = 0 := by with_reducible exact c); exact absurd c9 (by decide)) | exact absurd (rfl : (0 : Int32) = 0) (by with_reducible exact c) | exact absurd True.intro (by with_reducible exact c) | exact False.elim (by with_reducible exact c) | (conv => whnf))
    exact H _ (Or.inl ⟨fun hh => cnt_no (by omega) p hh.1, rfl⟩)
set_option maxRecDepth 100000 in
set_option maxHeartbeats 4000000 in
theorem smf_votes {d L : Nat} {f : Nat → Nat → Int32} {g : Nat → Nat → Int64} {c0 : Nat} {x1 x2 : Int32} {R : Option Value → mH → Prop} (hd : 2 ≤ d) (hvb : f 181 48 = nI c0) (hvm : c0 ≤ 60) (H : ∀ v, SM_votes c0 f x1 x2 v → R (some (.int v)) (shF L, f, g)) : Run mtab d 226 [.ref 181, .int x1, .int x2] (shF L, f, g) R := by
  obtain ⟨d, rfl⟩ : ∃ e, d = e + 1 := ⟨d - 1, by omega⟩
  refine go_X11_votes rfl ?_
  conv => whnf
  simp only [hvb]
  refine ct_i_0_v (by omega) (fun p => ?_) (fun p => ?_)
  · obtain ⟨k, hk, rfl⟩ := inr_cnt (by omega) p
    conv => whnf
    (refine ⟨fun c => ?_, fun c => ?_⟩ <;> first | ((have c9 : (1 : Int32) = 0 := by with_reducible exact c); exact absurd c9 (by decide)) | exact absurd (rfl : (0 : Int32) = 0) (by with_reducible exact c) | exact absurd True.intro (by with_reducible exact c) | exact False.elim (by with_reducible exact c) | (conv => whnf))
    refine ct_i_0_5 (by omega) (fun p2 => ?_) (fun p2 => ?_)
    · obtain ⟨t, ht, rfl⟩ := in5 p2
      have hcl : (nI (6 * k + t)).toNatClampNeg = 6 * k + t := nI_clamp (by omega)
      conv => whnf
      (refine ⟨fun c => ?_, fun c => ?_⟩ <;> first | ((have c9 : (1 : Int32) = 0 := by with_reducible exact c); exact absurd c9 (by decide)) | exact absurd (rfl : (0 : Int32) = 0) (by with_reducible exact c) | exact absurd True.intro (by with_reducible exact c) | exact False.elim (by with_reducible exact c) | (conv => whnf))
      simp only [nI_6m, nI_add]
      refine ⟨vp_in_nI (by omega) (by decide), ?_⟩
      conv => whnf
      simp only [hcl]
      exact H _ (Or.inr ⟨k, t, hk, ht, rfl, rfl, rfl⟩)
    · conv => whnf
      (refine ⟨fun c => ?_, fun c => ?_⟩ <;> first | ((have c9 : (1 : Int32) = 0 := by with_reducible exact c); exact absurd c9 (by decide)) | exact absurd (rfl : (0 : Int32) = 0) (by with_reducible exact c) | exact absurd True.intro (by with_reducible exact c) | exact False.elim (by with_reducible exact c) | (conv => whnf))
      exact H _ (Or.inl ⟨fun hh => p2 hh.2, rfl⟩)
  · conv => whnf
    (refine ⟨fun c => ?_, fun c => ?_⟩ <;> first | ((have c9 : (1 : Int32) = 0 := by with_reducible exact c); exact absurd c9 (by decide)) | exact absurd (rfl : (0 : Int32) = 0) (by with_reducible exact c) | exact absurd True.intro (by with_reducible exact c) | exact False.elim (by with_reducible exact c) | (conv => whnf))
    exact H _ (Or.inl ⟨fun hh => cnt_no (by omega) p hh.1, rfl⟩)
theorem fr_b {x : Int32} (h : x = 0 ∨ x = 1) : fr x = x := by
  rcases h with rfl | rfl <;> rfl
theorem fin_votes {c : Nat} {f : Nat → Nat → Int32} {x1 x2 v1 v2 : Int32} (hV : RV c f) (s1 : SX_votes c f x1 x2 v1) (s2 : SM_votes c f x1 x2 v2) : v1 = v2 := by
  have hc := hV.1
  have inx : ∀ k t, k < c → t < 6 → x1 = nI k → x2 = nI t → (hasw c x1 ∧ inr 0 5 x2) := fun k t hk ht e1 e2 => ⟨⟨k, hk, e1⟩, by
    rw [e2]
    exact inr_n (m := 5) (by omega) rfl (by decide)⟩
  rcases s1 with ⟨q1, rfl⟩ | ⟨k, t, hk, ht, e1, e2, rfl⟩
  · rcases s2 with ⟨q2, rfl⟩ | ⟨k, t, hk, ht, e1, e2, rfl⟩
    · rfl
    · exact absurd (inx k t hk ht e1 e2) q1
  · rcases s2 with ⟨q2, rfl⟩ | ⟨k', t', hk', ht', e1', e2', rfl⟩
    · exact absurd (inx k t hk ht e1 e2) q2
    · have ek : k = k' := (nI_eq (by omega) (by omega)).mp (e1.symm.trans e1')
      have et : t = t' := (nI_eq (by omega) (by omega)).mp (e2.symm.trans e2')
      subst ek
      subst et
      obtain ⟨a0, a1, a2, a3, a4, a5, _, b2, b5⟩ := hV.2.2.2 k hk
      rcases c6_c ht with rfl | rfl | rfl | rfl | rfl | rfl
      · exact a0
      · exact a1
      · exact (fr_b b2).trans a2
      · exact a3
      · exact a4
      · exact (fr_b b5).trans a5
/-- a work's state by the first votes, and the day of the one that made it: the class -/
def cyes (f : Nat → Nat → Int32) (day w last : Int32) (i : Nat) : Prop := f 121 i = w ∧ ¬ f 123 i = 0 ∧ ¬ day < f 122 i ∧ ¬ f 122 i < last
def myes (f : Nat → Nat → Int32) (day w last : Int32) (i : Nat) : Prop := f 218 (6 * i) = w ∧ f 218 (6 * i + 2) = 1 ∧ ¬ day < f 218 (6 * i + 1) ∧ ¬ f 218 (6 * i + 1) < last
noncomputable def cip (p : Prop) (a b : Int32 × Int32) : Int32 × Int32 := @ite _ p (Classical.propDecidable p) a b
theorem cip_t {p : Prop} {a b : Int32 × Int32} (h : p) : cip p a b = a := @if_pos p (Classical.propDecidable p) h _ a b
theorem cip_f {p : Prop} {a b : Int32 × Int32} (h : ¬ p) : cip p a b = b := @if_neg p (Classical.propDecidable p) h _ a b
noncomputable def stp (f : Nat → Nat → Int32) (day w : Int32) : Nat → Int32 × Int32
  | 0 => (0, 0)
  | i + 1 => cip (cyes f day w (stp f day w i).2 i) (if f 124 i = 0 then 1 else 2, f 122 i) (stp f day w i)
noncomputable def smp (f : Nat → Nat → Int32) (day w : Int32) : Nat → Int32 × Int32
  | 0 => (0, -1)
  | i + 1 => cip (myes f day w (smp f day w i).2 i) (if f 218 (6 * i + 5) = 1 then 2 else 1, f 218 (6 * i + 1)) (smp f day w i)
theorem st_eq {f : Nat → Nat → Int32} {c : Nat} (hV : RV c f) (day w : Int32) : ∀ n, n ≤ c → (stp f day w n).1 = (smp f day w n).1 ∧ ((stp f day w n).2 = (smp f day w n).2 ∨ ((stp f day w n).2 = 0 ∧ (smp f day w n).2 = -1))
  | 0, _ => ⟨rfl, Or.inr ⟨rfl, rfl⟩⟩
  | i + 1, hn => by
    obtain ⟨ih1, ih2⟩ := st_eq hV day w i (by omega)
    obtain ⟨a0, a1, a2, _, _, a5, hd, b2, b5⟩ := hV.2.2.2 i (by omega)
    have hl : (¬ f 122 i < (stp f day w i).2) ↔ (¬ f 122 i < (smp f day w i).2) := by
      rcases ih2 with e | ⟨e1, e2⟩
      · rw [e]
      · rw [e1, e2]
        exact ⟨fun _ => i32_nlt.mpr (Int32.le_trans (by decide) hd.1), fun _ => i32_nlt.mpr hd.1⟩
    have hc : cyes f day w (stp f day w i).2 i ↔ myes f day w (smp f day w i).2 i := by
      unfold cyes myes
      rw [hl, ← a0, ← a1, ← a2]
      refine and_congr Iff.rfl (and_congr ?_ Iff.rfl)
      rcases b2 with e | e
      · rw [e]
        exact ⟨fun z => absurd rfl z, fun z => absurd z (by decide)⟩
      · rw [e]
        exact ⟨fun _ => rfl, fun _ => by decide⟩
    show (cip (cyes f day w (stp f day w i).2 i) _ _).1 = (cip (myes f day w (smp f day w i).2 i) _ _).1 ∧ ((cip (cyes f day w (stp f day w i).2 i) _ _).2 = (cip (myes f day w (smp f day w i).2 i) _ _).2 ∨ ((cip (cyes f day w (stp f day w i).2 i) _ _).2 = 0 ∧ (cip (myes f day w (smp f day w i).2 i) _ _).2 = -1))
    by_cases q : cyes f day w (stp f day w i).2 i
    · rw [cip_t q, cip_t (hc.mp q)]
      refine ⟨?_, Or.inl a1⟩
      show (if f 124 i = 0 then (1 : Int32) else 2) = (if f 218 (6 * i + 5) = 1 then 2 else 1)
      rw [← a5]
      rcases b5 with e | e
      · rw [e]; rfl
      · rw [e]; rfl
    · rw [cip_f q, cip_f (fun z => q (hc.mpr z))]
      exact ⟨ih1, ih2⟩
/-- behind the class's reckoning -/
def stF (f f' : Nat → Nat → Int32) (day : Int32) (n : Nat) : Prop := (∀ w, w < 40 → f' 127 w = (stp f day (nI w) n).1 ∧ f' 128 w = (stp f day (nI w) n).2) ∧ ∀ a i, ¬ a = 127 → ¬ a = 128 → f' a i = f a i
theorem stF_no {f f' : Nat → Nat → Int32} {day : Int32} {i w0 : Nat} (h : stF f f' day i) (hw : w0 < 40) (e : f 121 i = nI w0) (hn : ¬ cyes f day (nI w0) (stp f day (nI w0) i).2 i) : stF f f' day (i + 1) := by
  refine ⟨fun w hw' => ?_, h.2⟩
  have hc : ¬ cyes f day (nI w) (stp f day (nI w) i).2 i := by
    by_cases q : w = w0
    · subst q
      exact hn
    · exact fun z => q ((nI_eq (by omega) (by omega)).mp (z.1.symm.trans e))
  have es : stp f day (nI w) (i + 1) = stp f day (nI w) i := cip_f hc
  rw [es]
  exact h.1 w hw'
theorem stF_yes {f f' : Nat → Nat → Int32} {day v : Int32} {i w0 : Nat} (h : stF f f' day i) (hw : w0 < 40) (hy : cyes f day (nI w0) (stp f day (nI w0) i).2 i) (hv : v = if f 124 i = 0 then 1 else 2) : stF f (m_ui (m_ui f' 127 w0 v) 128 w0 (f 122 i)) day (i + 1) := by
  refine ⟨fun w hw' => ?_, fun a b h1 h2 => ?_⟩
  · by_cases q : w = w0
    · subst q
      have es : stp f day (nI w) (i + 1) = (if f 124 i = 0 then 1 else 2, f 122 i) := cip_t hy
      rw [es, m_ui_s, m_ui_o (by omega), m_ui_s]
      exact ⟨hv, rfl⟩
    · have hc : ¬ cyes f day (nI w) (stp f day (nI w) i).2 i := fun z => q ((nI_eq (by omega) (by omega)).mp (z.1.symm.trans hy.1))
      have es : stp f day (nI w) (i + 1) = stp f day (nI w) i := cip_f hc
      rw [es, m_ui_o (by omega), m_ui_o (by omega), m_ui_o (by omega), m_ui_o (by omega)]
      exact h.1 w hw'
  · rw [m_ui_o (by omega), m_ui_o (by omega)]
    exact h.2 a b h1 h2
set_option maxRecDepth 100000 in
set_option maxHeartbeats 4000000 in
theorem rk_lp {d L n : Nat} {f : Nat → Nat → Int32} {g : Nat → Nat → Int64} {day : Int32} {R : Option Value → mH → Prop} (hX : XI f) (hm : n ≤ 60) (H : ∀ f', stF f f' day n → R none (shF L, f', g)) :
    ∀ (k i : Nat) (x : Int32) (s4 : Option Value) (f' : Nat → Nat → Int32), i + k = n → x = nI i → stF f f' day i → WPe pg_X0_reckon none (Run mtab d) R (m_drop pg_X0_reckon 10) [some (.ref 119), some (.int day), some (.int (nI n)), some (.int x), s4] [] (shF L, f', g)
  | 0, i, x, s4, f', hi, hx, hS => by
    have e : i = n := by omega
    subst hx
    subst e
    refine at_X0_reckon ?_
    conv => whnf
    refine ⟨fun c => ?_, fun c => absurd (nI_le (Nat.le_refl _) (by omega)) c⟩
    conv => whnf
    exact H f' hS
  | k + 1, i, x, s4, f', hi, hx, hS => by
    subst hx
    have hcl : (nI i).toNatClampNeg = i := nI_clamp (by omega)
    have e121 : f' 121 i = f 121 i := hS.2 121 i (by omega) (by omega)
    have e122 : f' 122 i = f 122 i := hS.2 122 i (by omega) (by omega)
    have e123 : f' 123 i = f 123 i := hS.2 123 i (by omega) (by omega)
    have e124 : f' 124 i = f 124 i := hS.2 124 i (by omega) (by omega)
    obtain ⟨w0, hw9, e0⟩ := inr_nat (n := 39) rfl (xi_121 hX i)
    have hw0 : w0 < 40 := by omega
    have hcw : (nI w0).toNatClampNeg = w0 := nI_clamp (by omega)
    have e128 : f' 128 w0 = (stp f day (nI w0) i).2 := (hS.1 w0 hw0).2
    refine at_X0_reckon ?_
    conv => whnf
    refine ⟨fun c => absurd c (nI_ge (b := n) (by omega) (by omega)), fun c => ?_⟩
    conv => whnf
    refine ⟨vp_in_nI (by omega) (by decide), ?_⟩
    conv => whnf
    refine ⟨vp_in_nI (by omega) (by decide), ?_⟩
    conv => whnf
    simp only [hcl, e121, e123, e0]
    refine ⟨fun c1 => ?_, fun c1 => ?_⟩
    · conv => whnf
      exact rk_lp hX hm H k (i + 1) _ _ _ (by omega) (nI_1 i) (stF_no hS hw0 e0 (fun z => z.2.1 c1))
    · conv => whnf
      refine ⟨vp_in_nI (by omega) (by decide), ?_⟩
      conv => whnf
      simp only [hcl, e122]
      refine ⟨fun c2 => ?_, fun c2 => ?_⟩
      · conv => whnf
        exact rk_lp hX hm H k (i + 1) _ _ _ (by omega) (nI_1 i) (stF_no hS hw0 e0 (fun z => z.2.2.1 c2))
      · conv => whnf
        refine ⟨vp_in_nI (by omega) (by decide), ?_⟩
        conv => whnf
        refine ⟨vp_in_nI (by omega) (by decide), ?_⟩
        conv => whnf
        simp only [hcl, hcw, e122, e128]
        refine ⟨fun c3 => ?_, fun c3 => ?_⟩
        · conv => whnf
          exact rk_lp hX hm H k (i + 1) _ _ _ (by omega) (nI_1 i) (stF_no hS hw0 e0 (fun z => z.2.2.2 c3))
        · conv => whnf
          refine ⟨vp_in_nI (by omega) (by decide), ?_⟩
          conv => whnf
          simp only [hcl, e124]
          refine ⟨fun c4 => ?_, fun c4 => ?_⟩
          · conv => whnf
            simp only [hcw]
            refine ⟨vp_in_nI (by omega) (by decide), ?_⟩
            conv => whnf
            (try simp only [m_ui_ap, m_fil_ap, m_cpy_ap, Nat.reduceEqDiff, Nat.reduceLT, Nat.reduceLeDiff, eq_self, ↓reduceIte, false_and, and_false, true_and, and_true, and_self])
            refine ⟨vp_in_nI (by omega) (by decide), ?_⟩
            conv => whnf
            refine ⟨vp_in_nI (by omega) (by decide), ?_⟩
            conv => whnf
            have y := stF_yes (v := 1) hS hw0 ⟨e0, c1, c2, c3⟩ (by rw [if_pos c4])
            simp only [hcl, hcw, e122, m_ui_ap, m_fil_ap, m_cpy_ap, Nat.reduceEqDiff, Nat.reduceLT, Nat.reduceLeDiff, eq_self, ↓reduceIte, false_and, and_false, true_and, and_true, and_self]
            exact rk_lp hX hm H k (i + 1) _ _ _ (by omega) (nI_1 i) y
          · conv => whnf
            simp only [hcw]
            refine ⟨vp_in_nI (by omega) (by decide), ?_⟩
            conv => whnf
            (try simp only [m_ui_ap, m_fil_ap, m_cpy_ap, Nat.reduceEqDiff, Nat.reduceLT, Nat.reduceLeDiff, eq_self, ↓reduceIte, false_and, and_false, true_and, and_true, and_self])
            refine ⟨vp_in_nI (by omega) (by decide), ?_⟩
            conv => whnf
            refine ⟨vp_in_nI (by omega) (by decide), ?_⟩
            conv => whnf
            have y := stF_yes (v := 2) hS hw0 ⟨e0, c1, c2, c3⟩ (by rw [if_neg c4])
            simp only [hcl, hcw, e122, m_ui_ap, m_fil_ap, m_cpy_ap, Nat.reduceEqDiff, Nat.reduceLT, Nat.reduceLeDiff, eq_self, ↓reduceIte, false_and, and_false, true_and, and_true, and_self]
            exact rk_lp hX hm H k (i + 1) _ _ _ (by omega) (nI_1 i) y
set_option maxRecDepth 100000 in
set_option maxHeartbeats 4000000 in
theorem sf_reckonV {d L : Nat} {f : Nat → Nat → Int32} {g : Nat → Nat → Int64} {n : Nat} {day : Int32} {R : Option Value → mH → Prop} (hd : 2 ≤ d) (hX : XI f) (hm : n ≤ 60) (H : ∀ f', stF f f' day n → R none (shF L, f', g)) : Run mtab d 11 [.ref 119, .int day, .int (nI n)] (shF L, f, g) R := by
  obtain ⟨d, rfl⟩ : ∃ e, d = e + 1 := ⟨d - 1, by omega⟩
  refine go_X0_reckon rfl ?_
  conv => whnf
  refine ct_fill (n := 40) (by omega) rfl (by decide) ?_
  conv => whnf
  refine ct_fill (n := 40) (by omega) rfl (by decide) ?_
  conv => whnf
  refine rk_lp hX hm H n 0 _ _ _ (by omega) rfl ⟨fun w hw => ⟨?_, ?_⟩, fun a i h1 h2 => ?_⟩
  · rw [m_fil_o (by omega), m_fil_ap, if_pos ⟨rfl, hw⟩]
    rfl
  · rw [m_fil_ap, if_pos ⟨rfl, hw⟩]
    rfl
  · rw [m_fil_o (by omega), m_fil_o (by omega)]
set_option maxRecDepth 100000 in
set_option maxHeartbeats 4000000 in
theorem sf_reckonAll {d L : Nat} {f : Nat → Nat → Int32} {g : Nat → Nat → Int64} {n : Nat} {R : Option Value → mH → Prop} (hd : 3 ≤ d) (hX : XI f) (hb : f 119 7 = nI n) (hm : n ≤ 60) (H : ∀ f', stF f f' 9999 n → R none (shF L, f', g)) : Run mtab d 10 [.ref 119] (shF L, f, g) R := by
  obtain ⟨d, rfl⟩ : ∃ e, d = e + 1 := ⟨d - 1, by omega⟩
  refine go_X0_reckonAll rfl ?_
  conv => whnf
  simp only [hb]
  refine sf_reckonV (by omega) hX hm (fun f1 h1 => ?_)
  conv => whnf
  exact H f1 h1
set_option maxRecDepth 100000 in
set_option maxHeartbeats 4000000 in
theorem sm_lp {d L n : Nat} {f : Nat → Nat → Int32} {g : Nat → Nat → Int64} {w day : Int32} {R : Option Value → mH → Prop} (hm : n ≤ 60) (H : R (some (.int (smp f day w n).1)) (shF L, f, g)) :
    ∀ (k i : Nat) (x st last : Int32) (s7 : Option Value), i + k = n → x = nI i → st = (smp f day w i).1 → last = (smp f day w i).2 → WPe pg_X11_stateOf none (Run mtab d) R (m_drop pg_X11_stateOf 6) [some (.ref 181), some (.int w), some (.int day), some (.int (nI n)), some (.int st), some (.int last), some (.int x), s7] [] (shF L, f, g)
  | 0, i, x, st, last, s7, hi, hx, h1, h2 => by
    have e : i = n := by omega
    subst hx
    subst e
    subst h1
    refine at_X11_stateOf ?_
    conv => whnf
    refine ⟨fun c => ?_, fun c => absurd (nI_le (Nat.le_refl _) (by omega)) c⟩
    conv => whnf
    exact H
  | k + 1, i, x, st, last, s7, hi, hx, h1, h2 => by
    subst hx
    subst h1
    subst h2
    have hc0 : (nI (6 * i)).toNatClampNeg = 6 * i := nI_clamp (by omega)
    have hc1 : (nI (6 * i + 1)).toNatClampNeg = 6 * i + 1 := nI_clamp (by omega)
    have hc2 : (nI (6 * i + 2)).toNatClampNeg = 6 * i + 2 := nI_clamp (by omega)
    have hc5 : (nI (6 * i + 5)).toNatClampNeg = 6 * i + 5 := nI_clamp (by omega)
    refine at_X11_stateOf ?_
    conv => whnf
    refine ⟨fun c => absurd c (nI_ge (b := n) (by omega) (by omega)), fun c => ?_⟩
    conv => whnf
    (try simp only [nI_6m, nI_1, nI_k _ 2 2 rfl, nI_k _ 5 5 rfl])
    refine ⟨vp_in_nI (by omega) (by decide), ?_⟩
    conv => whnf
    simp only [hc0, hc1, hc2, hc5]
    refine ⟨fun c1 => ?_, fun c1 => ?_⟩
    · conv => whnf
      have es : smp f day w (i + 1) = smp f day w i := cip_f (fun z => c1 z.1)
      exact sm_lp hm H k (i + 1) _ _ _ _ (by omega) (nI_1 i) (by rw [es]) (by rw [es])
    · conv => whnf
      (try simp only [nI_6m, nI_1, nI_k _ 2 2 rfl, nI_k _ 5 5 rfl])
      refine ⟨vp_in_nI (by omega) (by decide), ?_⟩
      conv => whnf
      simp only [hc0, hc1, hc2, hc5]
      refine ⟨fun c2 => ?_, fun c2 => ?_⟩
      · conv => whnf
        have es : smp f day w (i + 1) = smp f day w i := cip_f (fun z => c2 z.2.1)
        exact sm_lp hm H k (i + 1) _ _ _ _ (by omega) (nI_1 i) (by rw [es]) (by rw [es])
      · conv => whnf
        (try simp only [nI_6m, nI_1, nI_k _ 2 2 rfl, nI_k _ 5 5 rfl])
        refine ⟨vp_in_nI (by omega) (by decide), ?_⟩
        conv => whnf
        simp only [hc0, hc1, hc2, hc5]
        refine ⟨fun c3 => ?_, fun c3 => ?_⟩
        · conv => whnf
          have es : smp f day w (i + 1) = smp f day w i := cip_f (fun z => z.2.2.1 c3)
          exact sm_lp hm H k (i + 1) _ _ _ _ (by omega) (nI_1 i) (by rw [es]) (by rw [es])
        · conv => whnf
          (try simp only [nI_6m, nI_1, nI_k _ 2 2 rfl, nI_k _ 5 5 rfl])
          refine ⟨vp_in_nI (by omega) (by decide), ?_⟩
          conv => whnf
          simp only [hc0, hc1, hc2, hc5]
          refine ⟨fun c4 => ?_, fun c4 => ?_⟩
          · conv => whnf
            have es : smp f day w (i + 1) = smp f day w i := cip_f (fun z => z.2.2.2 c4)
            exact sm_lp hm H k (i + 1) _ _ _ _ (by omega) (nI_1 i) (by rw [es]) (by rw [es])
          · conv => whnf
            (try simp only [nI_6m, nI_1, nI_k _ 2 2 rfl, nI_k _ 5 5 rfl])
            refine ⟨vp_in_nI (by omega) (by decide), ?_⟩
            conv => whnf
            (try simp only [nI_6m, nI_1, nI_k _ 2 2 rfl, nI_k _ 5 5 rfl])
            refine ⟨vp_in_nI (by omega) (by decide), ?_⟩
            conv => whnf
            simp only [hc0, hc1, hc2, hc5]
            have es : smp f day w (i + 1) = (if f 218 (6 * i + 5) = 1 then 2 else 1, f 218 (6 * i + 1)) := cip_t ⟨c1, c2, c3, c4⟩
            refine ⟨fun c5 => ?_, fun c5 => ?_⟩
            · conv => whnf
              rw [if_neg c5] at es
              exact sm_lp hm H k (i + 1) _ _ _ _ (by omega) (nI_1 i) (by rw [es]) (by rw [es])
            · conv => whnf
              rw [if_pos c5] at es
              exact sm_lp hm H k (i + 1) _ _ _ _ (by omega) (nI_1 i) (by rw [es]) (by rw [es])
set_option maxRecDepth 100000 in
set_option maxHeartbeats 4000000 in
theorem smf_stateOf {d L : Nat} {f : Nat → Nat → Int32} {g : Nat → Nat → Int64} {n : Nat} {w day : Int32} {R : Option Value → mH → Prop} (hd : 1 ≤ d) (hm : n ≤ 60) (H : R (some (.int (smp f day w n).1)) (shF L, f, g)) : Run mtab d 227 [.ref 181, .int w, .int day, .int (nI n)] (shF L, f, g) R := by
  obtain ⟨d, rfl⟩ : ∃ e, d = e + 1 := ⟨d - 1, by omega⟩
  refine go_X11_stateOf rfl ?_
  conv => whnf
  exact sm_lp hm H n 0 _ _ _ _ (by omega) rfl rfl rfl
def asofw (c : Nat) (x y : Int32) : Prop := inr 0 9999 x ∧ inr 0 (nI c) y
def SX_state (n c : Nat) (f f1 : Nat → Nat → Int32) (x1 x2 x3 v : Int32) : Prop := (¬ (hasw n x1 ∧ asofw c x2 x3) ∧ v = -1 ∧ f1 = f) ∨ (∃ j m, j < n ∧ m ≤ c ∧ x1 = nI j ∧ x3 = nI m ∧ asofw c x2 x3 ∧ v = (stp f x2 x1 m).1 ∧ stF f f1 x2 m)
def SM_state (n c : Nat) (f : Nat → Nat → Int32) (x1 x2 x3 v : Int32) : Prop := (¬ (hasw n x1 ∧ asofw c x2 x3) ∧ v = -1) ∨ (∃ j m, j < n ∧ m ≤ c ∧ x1 = nI j ∧ x3 = nI m ∧ asofw c x2 x3 ∧ v = (smp f x2 x1 m).1)
theorem as_n {c : Nat} {x y : Int32} (hc : c ≤ 60) (h : asofw c x y) : ∃ m, m ≤ c ∧ y = nI m := inr_nat (n := c) (nI_toInt (by omega)) h.2
set_option maxRecDepth 100000 in
set_option maxHeartbeats 4000000 in
theorem sf_isAsOf {d L : Nat} {f : Nat → Nat → Int32} {g : Nat → Nat → Int64} {c0 : Nat} {x y : Int32} {R : Option Value → mH → Prop} (hd : 2 ≤ d) (hb : f 119 7 = nI c0) (H1 : asofw c0 x y → R (some (.int 1)) (shF L, f, g)) (H0 : ¬ asofw c0 x y → R (some (.int 0)) (shF L, f, g)) : Run mtab d 144 [.ref 5, .int x, .int y] (shF L, f, g) R := by
  obtain ⟨d, rfl⟩ : ∃ e, d = e + 1 := ⟨d - 1, by omega⟩
  refine go_X10_isAsOf rfl ?_
  conv => whnf
  skip
  refine ct_isWithin (by omega) (fun p1 => ?_) (fun p1 => ?_)
  · conv => whnf
    (refine ⟨fun c => ?_, fun c => ?_⟩ <;> first | ((have c9 : (1 : Int32) = 0 := by with_reducible exact c); exact absurd c9 (by decide)) | exact absurd (rfl : (0 : Int32) = 0) (by with_reducible exact c) | exact absurd True.intro (by with_reducible exact c) | exact False.elim (by with_reducible exact c) | (conv => whnf))
    (try simp only [hb])
    refine ct_isWithin (by omega) (fun p2 => ?_) (fun p2 => ?_)
    · conv => whnf
      (refine ⟨fun c => ?_, fun c => ?_⟩ <;> first | ((have c9 : (1 : Int32) = 0 := by with_reducible exact c); exact absurd c9 (by decide)) | exact absurd (rfl : (0 : Int32) = 0) (by with_reducible exact c) | exact absurd True.intro (by with_reducible exact c) | exact False.elim (by with_reducible exact c) | (conv => whnf))
      exact ⟨Or.inr rfl, H1 ⟨p1, p2⟩⟩
    · conv => whnf
      (refine ⟨fun c => ?_, fun c => ?_⟩ <;> first | ((have c9 : (1 : Int32) = 0 := by with_reducible exact c); exact absurd c9 (by decide)) | exact absurd (rfl : (0 : Int32) = 0) (by with_reducible exact c) | exact absurd True.intro (by with_reducible exact c) | exact False.elim (by with_reducible exact c) | (conv => whnf))
      exact ⟨Or.inl rfl, H0 (fun z => p2 z.2)⟩
  · conv => whnf
    (refine ⟨fun c => ?_, fun c => ?_⟩ <;> first | ((have c9 : (1 : Int32) = 0 := by with_reducible exact c); exact absurd c9 (by decide)) | exact absurd (rfl : (0 : Int32) = 0) (by with_reducible exact c) | exact absurd True.intro (by with_reducible exact c) | exact False.elim (by with_reducible exact c) | (conv => whnf))
    exact ⟨Or.inl rfl, H0 (fun z => p1 z.1)⟩
set_option maxRecDepth 100000 in
set_option maxHeartbeats 4000000 in
theorem smf_isAsOf {d L : Nat} {f : Nat → Nat → Int32} {g : Nat → Nat → Int64} {c0 : Nat} {x y : Int32} {R : Option Value → mH → Prop} (hd : 2 ≤ d) (hb : f 181 48 = nI c0) (H1 : asofw c0 x y → R (some (.int 1)) (shF L, f, g)) (H0 : ¬ asofw c0 x y → R (some (.int 0)) (shF L, f, g)) : Run mtab d 228 [.ref 181, .int x, .int y] (shF L, f, g) R := by
  obtain ⟨d, rfl⟩ : ∃ e, d = e + 1 := ⟨d - 1, by omega⟩
  refine go_X11_isAsOf rfl ?_
  conv => whnf
  skip
  refine ct_i_0_9999 (by omega) (fun p1 => ?_) (fun p1 => ?_)
  · conv => whnf
    (refine ⟨fun c => ?_, fun c => ?_⟩ <;> first | ((have c9 : (1 : Int32) = 0 := by with_reducible exact c); exact absurd c9 (by decide)) | exact absurd (rfl : (0 : Int32) = 0) (by with_reducible exact c) | exact absurd True.intro (by with_reducible exact c) | exact False.elim (by with_reducible exact c) | (conv => whnf))
    (try simp only [hb])
    refine ct_i_0_v (by omega) (fun p2 => ?_) (fun p2 => ?_)
    · conv => whnf
      (refine ⟨fun c => ?_, fun c => ?_⟩ <;> first | ((have c9 : (1 : Int32) = 0 := by with_reducible exact c); exact absurd c9 (by decide)) | exact absurd (rfl : (0 : Int32) = 0) (by with_reducible exact c) | exact absurd True.intro (by with_reducible exact c) | exact False.elim (by with_reducible exact c) | (conv => whnf))
      exact ⟨Or.inr rfl, H1 ⟨p1, p2⟩⟩
    · conv => whnf
      (refine ⟨fun c => ?_, fun c => ?_⟩ <;> first | ((have c9 : (1 : Int32) = 0 := by with_reducible exact c); exact absurd c9 (by decide)) | exact absurd (rfl : (0 : Int32) = 0) (by with_reducible exact c) | exact absurd True.intro (by with_reducible exact c) | exact False.elim (by with_reducible exact c) | (conv => whnf))
      exact ⟨Or.inl rfl, H0 (fun z => p2 z.2)⟩
  · conv => whnf
    (refine ⟨fun c => ?_, fun c => ?_⟩ <;> first | ((have c9 : (1 : Int32) = 0 := by with_reducible exact c); exact absurd c9 (by decide)) | exact absurd (rfl : (0 : Int32) = 0) (by with_reducible exact c) | exact absurd True.intro (by with_reducible exact c) | exact False.elim (by with_reducible exact c) | (conv => whnf))
    exact ⟨Or.inl rfl, H0 (fun z => p1 z.1)⟩
set_option maxRecDepth 100000 in
set_option maxHeartbeats 4000000 in
theorem sf_state {d L : Nat} {f : Nat → Nat → Int32} {g : Nat → Nat → Int64} {n c0 : Nat} {x1 x2 x3 : Int32} {R : Option Value → mH → Prop} (hd : 4 ≤ d) (hX : XI f) (hb : f 6 13 = nI n) (hm : n ≤ 40) (hvb : f 119 7 = nI c0) (hvm : c0 ≤ 60) (H : ∀ v f1, SX_state n c0 f f1 x1 x2 x3 v → R (some (.int v)) (shF L, f1, g)) : Run mtab d 124 [.ref 5, .int x1, .int x2, .int x3] (shF L, f, g) R := by
  obtain ⟨d, rfl⟩ : ∃ e, d = e + 1 := ⟨d - 1, by omega⟩
  refine go_X10_state rfl ?_
  conv => whnf
  refine ct_has (by omega) hb hm (fun j hj e => ?_) (fun q => ?_)
  · subst e
    have hcl : (nI j).toNatClampNeg = j := nI_clamp (by omega)
    conv => whnf
    (refine ⟨fun c => ?_, fun c => ?_⟩ <;> first | ((have c9 : (1 : Int32) = 0 := by with_reducible exact c); exact absurd c9 (by decide)) | exact absurd (rfl : (0 : Int32) = 0) (by with_reducible exact c) | exact absurd True.intro (by with_reducible exact c) | exact False.elim (by with_reducible exact c) | (conv => whnf))
    refine sf_isAsOf (by omega) hvb (fun p => ?_) (fun p => ?_)
    · obtain ⟨m, hm9, e⟩ := as_n hvm p
      subst e
      conv => whnf
      (refine ⟨fun c => ?_, fun c => ?_⟩ <;> first | ((have c9 : (1 : Int32) = 0 := by with_reducible exact c); exact absurd c9 (by decide)) | exact absurd (rfl : (0 : Int32) = 0) (by with_reducible exact c) | exact absurd True.intro (by with_reducible exact c) | exact False.elim (by with_reducible exact c) | (conv => whnf))
      refine sf_reckonV (by omega) hX (by omega) (fun f1 h1 => ?_)
      conv => whnf
      refine ⟨vp_in_nI (by omega) (by decide), ?_⟩
      conv => whnf
      simp only [hcl, (h1.1 j (by omega)).1]
      exact H _ _ (Or.inr ⟨j, m, hj, hm9, rfl, rfl, p, rfl, h1⟩)
    · conv => whnf
      (refine ⟨fun c => ?_, fun c => ?_⟩ <;> first | ((have c9 : (1 : Int32) = 0 := by with_reducible exact c); exact absurd c9 (by decide)) | exact absurd (rfl : (0 : Int32) = 0) (by with_reducible exact c) | exact absurd True.intro (by with_reducible exact c) | exact False.elim (by with_reducible exact c) | (conv => whnf))
      exact H _ _ (Or.inl ⟨fun hh => p hh.2, rfl, rfl⟩)
  · conv => whnf
    (refine ⟨fun c => ?_, fun c => ?_⟩ <;> first | ((have c9 : (1 : Int32) = 0 := by with_reducible exact c); exact absurd c9 (by decide)) | exact absurd (rfl : (0 : Int32) = 0) (by with_reducible exact c) | exact absurd True.intro (by with_reducible exact c) | exact False.elim (by with_reducible exact c) | (conv => whnf))
    exact H _ _ (Or.inl ⟨fun hh => nhasw q hh.1, rfl, rfl⟩)
set_option maxRecDepth 100000 in
set_option maxHeartbeats 4000000 in
theorem smf_state {d L : Nat} {f : Nat → Nat → Int32} {g : Nat → Nat → Int64} {n c0 : Nat} {x1 x2 x3 : Int32} {R : Option Value → mH → Prop} (hd : 3 ≤ d) (hb : f 181 0 = nI n) (hm : n ≤ 40) (hvb : f 181 48 = nI c0) (hvm : c0 ≤ 60) (H : ∀ v, SM_state n c0 f x1 x2 x3 v → R (some (.int v)) (shF L, f, g)) : Run mtab d 229 [.ref 181, .int x1, .int x2, .int x3] (shF L, f, g) R := by
  obtain ⟨d, rfl⟩ : ∃ e, d = e + 1 := ⟨d - 1, by omega⟩
  refine go_X11_state rfl ?_
  conv => whnf
  refine ct_mIsWork (by omega) hb hm (fun j hj e => ?_) (fun q => ?_)
  · subst e
    conv => whnf
    (refine ⟨fun c => ?_, fun c => ?_⟩ <;> first | ((have c9 : (1 : Int32) = 0 := by with_reducible exact c); exact absurd c9 (by decide)) | exact absurd (rfl : (0 : Int32) = 0) (by with_reducible exact c) | exact absurd True.intro (by with_reducible exact c) | exact False.elim (by with_reducible exact c) | (conv => whnf))
    refine smf_isAsOf (by omega) hvb (fun p => ?_) (fun p => ?_)
    · obtain ⟨m, hm9, e⟩ := as_n hvm p
      subst e
      conv => whnf
      (refine ⟨fun c => ?_, fun c => ?_⟩ <;> first | ((have c9 : (1 : Int32) = 0 := by with_reducible exact c); exact absurd c9 (by decide)) | exact absurd (rfl : (0 : Int32) = 0) (by with_reducible exact c) | exact absurd True.intro (by with_reducible exact c) | exact False.elim (by with_reducible exact c) | (conv => whnf))
      refine smf_stateOf (by omega) (by omega) ?_
      conv => whnf
      exact H _ (Or.inr ⟨j, m, hj, hm9, rfl, rfl, p, rfl⟩)
    · conv => whnf
      (refine ⟨fun c => ?_, fun c => ?_⟩ <;> first | ((have c9 : (1 : Int32) = 0 := by with_reducible exact c); exact absurd c9 (by decide)) | exact absurd (rfl : (0 : Int32) = 0) (by with_reducible exact c) | exact absurd True.intro (by with_reducible exact c) | exact False.elim (by with_reducible exact c) | (conv => whnf))
      exact H _ (Or.inl ⟨fun hh => p hh.2, rfl⟩)
  · conv => whnf
    (refine ⟨fun c => ?_, fun c => ?_⟩ <;> first | ((have c9 : (1 : Int32) = 0 := by with_reducible exact c); exact absurd c9 (by decide)) | exact absurd (rfl : (0 : Int32) = 0) (by with_reducible exact c) | exact absurd True.intro (by with_reducible exact c) | exact False.elim (by with_reducible exact c) | (conv => whnf))
    exact H _ (Or.inl ⟨fun hh => nhasw q hh.1, rfl⟩)
theorem stF_kp {f f1 : Nat → Nat → Int32} {day : Int32} {n : Nat} (h : stF f f1 day n) : kp [0] f f1 := fun a i z => by
  refine h.2 a i (fun e => ?_) (fun e => ?_)
  · rw [e] at z
    exact absurd (show true = false from z) (by decide)
  · rw [e] at z
    exact absurd (show true = false from z) (by decide)
theorem stF_XI {f f1 : Nat → Nat → Int32} {day : Int32} {n : Nat} (hX : XI f) (h : stF f f1 day n) : XI f1 := fun a i => by
  by_cases e : a = 127
  · rw [e]
    exact True.intro
  · by_cases e2 : a = 128
    · rw [e2]
      exact True.intro
    · rw [h.2 a i e e2]
      exact hX a i
theorem kx_state {n c : Nat} {f f1 : Nat → Nat → Int32} {x1 x2 x3 v : Int32} (s : SX_state n c f f1 x1 x2 x3 v) : kp [0] f f1 := by
  rcases s with ⟨_, _, rfl⟩ | ⟨j, m, _, _, _, _, _, _, h⟩
  · exact kp_refl _ _
  · exact stF_kp h
theorem XI_state {n c : Nat} {f f1 : Nat → Nat → Int32} {x1 x2 x3 v : Int32} (hX : XI f) (s : SX_state n c f f1 x1 x2 x3 v) : XI f1 := by
  rcases s with ⟨_, _, rfl⟩ | ⟨j, m, _, _, _, _, _, _, h⟩
  · exact hX
  · exact stF_XI hX h
theorem smp_kp {f f1 : Nat → Nat → Int32} (h : ∀ i, f1 218 i = f 218 i) (day w : Int32) : ∀ n, smp f1 day w n = smp f day w n
  | 0 => rfl
  | i + 1 => by
    show cip (myes f1 day w (smp f1 day w i).2 i) (if f1 218 (6 * i + 5) = 1 then 2 else 1, f1 218 (6 * i + 1)) (smp f1 day w i) = cip (myes f day w (smp f day w i).2 i) (if f 218 (6 * i + 5) = 1 then 2 else 1, f 218 (6 * i + 1)) (smp f day w i)
    rw [smp_kp h day w i]
    unfold myes
    rw [h, h, h, h]
theorem fin_state {n c : Nat} {f f1 : Nat → Nat → Int32} {x1 x2 x3 v1 v2 : Int32} (hn : n ≤ 40) (hV : RV c f) (s1 : SX_state n c f f1 x1 x2 x3 v1) (s2 : SM_state n c f1 x1 x2 x3 v2) : v1 = v2 := by
  have k1 := kx_state s1
  have hc := hV.1
  rcases s1 with ⟨q1, rfl, rfl⟩ | ⟨j, m, hj, hm, e1, e3, p, rfl, h⟩
  · rcases s2 with ⟨q2, rfl⟩ | ⟨j, m, hj, hm, e1, e3, p, rfl⟩
    · rfl
    · exact absurd ⟨⟨j, hj, e1⟩, p⟩ q1
  · rcases s2 with ⟨q2, rfl⟩ | ⟨j', m', hj', hm', e1', e3', p', rfl⟩
    · exact absurd ⟨⟨j, hj, e1⟩, p⟩ q2
    · have em : m = m' := (nI_eq (by omega) (by omega)).mp (e3.symm.trans e3')
      subst em
      rw [smp_kp (fun i => k1 218 i rfl)]
      exact (st_eq hV x2 x1 m hm).1
def EXo (f : Nat → Nat → Int32) (n p i : Nat) : Prop := ∃ o, i ≤ o ∧ o < n ∧ ¬ f 127 o = 1 ∧ LC f (nI o) p
theorem EXo_s {f : Nat → Nat → Int32} {n p i : Nat} (h : ¬ (¬ f 127 i = 1 ∧ LC f (nI i) p)) : EXo f n p i ↔ EXo f n p (i + 1) := by
  constructor
  · rintro ⟨o, h1, h2, h3, h4⟩
    by_cases e : o = i
    · subst e
      exact absurd ⟨h3, h4⟩ h
    · exact ⟨o, by omega, h2, h3, h4⟩
  · rintro ⟨o, h1, h2, h3, h4⟩
    exact ⟨o, by omega, h2, h3, h4⟩
set_option maxRecDepth 100000 in
theorem lo_lp {d L n p : Nat} {f : Nat → Nat → Int32} {g : Nat → Nat → Int64} {R : Option Value → mH → Prop} (hd : 2 ≤ d) (hX : XI f) (hb : f 6 13 = nI n) (hm : n ≤ 40) (hp : p < 40) :
    ∀ (k i : Nat) (x : Int32), i + k = n → x = nI i → (EXo f n p i → R (some (.int 1)) (shF L, f, g)) → (¬ EXo f n p i → R (some (.int 0)) (shF L, f, g)) → WPe pg_X10_leansOnOneNotIn none (Run mtab d) R (m_drop pg_X10_leansOnOneNotIn 2) [some (.ref 5), some (.int (nI p)), some (.int x)] [] (shF L, f, g)
  | 0, i, x, hi, hx, H1, H0 => by
    have e : i = n := by omega
    subst hx
    subst e
    refine at_X10_leansOnOneNotIn ?_
    conv => whnf
    simp only [hb]
    refine ⟨fun c => ?_, fun c => absurd (nI_le (Nat.le_refl _) (by omega)) c⟩
    conv => whnf
    exact ⟨Or.inl rfl, H0 (fun ⟨o, h1, h2, _⟩ => by omega)⟩
  | k + 1, i, x, hi, hx, H1, H0 => by
    subst hx
    have hcl : (nI i).toNatClampNeg = i := nI_clamp (by omega)
    refine at_X10_leansOnOneNotIn ?_
    conv => whnf
    simp only [hb]
    refine ⟨fun c => absurd c (nI_ge (b := n) (by omega) (by omega)), fun c => ?_⟩
    conv => whnf
    refine ⟨vp_in_nI (by omega) (by decide), ?_⟩
    conv => whnf
    simp only [hcl]
    refine ⟨fun c1 => ?_, fun c1 => ?_⟩
    · conv => whnf
      exact lo_lp hd hX hb hm hp k (i + 1) _ (by omega) (nI_1 i) (fun q5 => H1 ((EXo_s (fun z => z.1 c1)).mpr q5)) (fun q5 => H0 (fun w => q5 ((EXo_s (fun z => z.1 c1)).mp w)))
    · conv => whnf
      refine sf_isLeaning (by omega) hX hp (fun q => ?_) (fun q => ?_)
      · conv => whnf
        (refine ⟨fun c => ?_, fun c => ?_⟩ <;> first | ((have c9 : (1 : Int32) = 0 := by with_reducible exact c); exact absurd c9 (by decide)) | exact absurd (rfl : (0 : Int32) = 0) (by with_reducible exact c) | exact absurd True.intro (by with_reducible exact c) | exact False.elim (by with_reducible exact c) | (conv => whnf))
        exact ⟨Or.inr rfl, H1 ⟨i, Nat.le_refl _, by omega, c1, q⟩⟩
      · conv => whnf
        (refine ⟨fun c => ?_, fun c => ?_⟩ <;> first | ((have c9 : (1 : Int32) = 0 := by with_reducible exact c); exact absurd c9 (by decide)) | exact absurd (rfl : (0 : Int32) = 0) (by with_reducible exact c) | exact absurd True.intro (by with_reducible exact c) | exact False.elim (by with_reducible exact c) | (conv => whnf))
        exact lo_lp hd hX hb hm hp k (i + 1) _ (by omega) (nI_1 i) (fun q5 => H1 ((EXo_s (fun z => q z.2)).mpr q5)) (fun q5 => H0 (fun w => q5 ((EXo_s (fun z => q z.2)).mp w)))
set_option maxRecDepth 100000 in
set_option maxHeartbeats 4000000 in
theorem sf_leansOn {d L : Nat} {f : Nat → Nat → Int32} {g : Nat → Nat → Int64} {n p : Nat} {R : Option Value → mH → Prop} (hd : 3 ≤ d) (hX : XI f) (hb : f 6 13 = nI n) (hm : n ≤ 40) (hp : p < 40) (H1 : EXo f n p 0 → R (some (.int 1)) (shF L, f, g)) (H0 : ¬ EXo f n p 0 → R (some (.int 0)) (shF L, f, g)) : Run mtab d 145 [.ref 5, .int (nI p)] (shF L, f, g) R := by
  obtain ⟨d, rfl⟩ : ∃ e, d = e + 1 := ⟨d - 1, by omega⟩
  refine go_X10_leansOnOneNotIn rfl ?_
  conv => whnf
  exact lo_lp (by omega) hX hb hm hp n 0 _ (by omega) rfl H1 H0
set_option maxRecDepth 100000 in
theorem us_lp {d L n : Nat} {f : Nat → Nat → Int32} {g : Nat → Nat → Int64} {w y : Int32} {R : Option Value → mH → Prop} (hd : 3 ≤ d) (hX : XI f) (hb : f 6 13 = nI n) (hm : n ≤ 40) :
    ∀ (k i : Nat) (x a : Int32), i + k = n → x = nI i → R (some (.int (cntl (fun i => f 127 i = 1 ∧ EXo f n i 0) k i a))) (shF L, f, g) → WPe pg_X10_unsure none (Run mtab d) R (m_drop pg_X10_unsure 16) [some (.ref 5), some (.int w), some (.int y), some (.int a), some (.int x)] [] (shF L, f, g)
  | 0, i, x, a, hi, hx, H => by
    have e : i = n := by omega
    subst hx
    subst e
    refine at_X10_unsure ?_
    conv => whnf
    simp only [hb]
    refine ⟨fun c => ?_, fun c => absurd (nI_le (Nat.le_refl _) (by omega)) c⟩
    conv => whnf
    exact H
  | k + 1, i, x, a, hi, hx, H => by
    subst hx
    have hcl : (nI i).toNatClampNeg = i := nI_clamp (by omega)
    refine at_X10_unsure ?_
    conv => whnf
    simp only [hb]
    refine ⟨fun c => absurd c (nI_ge (b := n) (by omega) (by omega)), fun c => ?_⟩
    conv => whnf
    refine ⟨vp_in_nI (by omega) (by decide), ?_⟩
    conv => whnf
    simp only [hcl]
    refine ⟨fun c1 => ?_, fun c1 => ?_⟩
    · conv => whnf
      exact us_lp hd hX hb hm k (i + 1) _ _ (by omega) (nI_1 i) (by rw [cnt_n (P := (fun i => f 127 i = 1 ∧ EXo f n i 0)) (k := k) (i := i) (a := a) (fun z => c1 z.1)] at H; exact H)
    · conv => whnf
      refine sf_leansOn (by omega) hX hb hm (by omega) (fun q => ?_) (fun q => ?_)
      · conv => whnf
        (refine ⟨fun c => ?_, fun c => ?_⟩ <;> first | ((have c9 : (1 : Int32) = 0 := by with_reducible exact c); exact absurd c9 (by decide)) | exact absurd (rfl : (0 : Int32) = 0) (by with_reducible exact c) | exact absurd True.intro (by with_reducible exact c) | exact False.elim (by with_reducible exact c) | (conv => whnf))
        exact us_lp hd hX hb hm k (i + 1) _ _ (by omega) (nI_1 i) (by rw [cnt_y (P := (fun i => f 127 i = 1 ∧ EXo f n i 0)) (k := k) (i := i) (a := a) (⟨c1, q⟩)] at H; exact H)
      · conv => whnf
        (refine ⟨fun c => ?_, fun c => ?_⟩ <;> first | ((have c9 : (1 : Int32) = 0 := by with_reducible exact c); exact absurd c9 (by decide)) | exact absurd (rfl : (0 : Int32) = 0) (by with_reducible exact c) | exact absurd True.intro (by with_reducible exact c) | exact False.elim (by with_reducible exact c) | (conv => whnf))
        exact us_lp hd hX hb hm k (i + 1) _ _ (by omega) (nI_1 i) (by rw [cnt_n (P := (fun i => f 127 i = 1 ∧ EXo f n i 0)) (k := k) (i := i) (a := a) (fun z => q z.2)] at H; exact H)
def SX_unsure (n c : Nat) (f f1 : Nat → Nat → Int32) (x1 x2 v : Int32) : Prop := (¬ asofw c x1 x2 ∧ v = -1 ∧ f1 = f) ∨ (∃ m, m ≤ c ∧ x2 = nI m ∧ asofw c x1 x2 ∧ stF f f1 x1 m ∧ v = cntl (fun i => f1 127 i = 1 ∧ EXo f1 n i 0) n 0 0)
set_option maxRecDepth 100000 in
set_option maxHeartbeats 4000000 in
theorem sf_unsure {d L : Nat} {f : Nat → Nat → Int32} {g : Nat → Nat → Int64} {n c0 : Nat} {x1 x2 : Int32} {R : Option Value → mH → Prop} (hd : 5 ≤ d) (hX : XI f) (hb : f 6 13 = nI n) (hm : n ≤ 40) (hvb : f 119 7 = nI c0) (hvm : c0 ≤ 60) (H : ∀ v f1, SX_unsure n c0 f f1 x1 x2 v → R (some (.int v)) (shF L, f1, g)) : Run mtab d 125 [.ref 5, .int x1, .int x2] (shF L, f, g) R := by
  obtain ⟨d, rfl⟩ : ∃ e, d = e + 1 := ⟨d - 1, by omega⟩
  refine go_X10_unsure rfl ?_
  conv => whnf
  refine sf_isAsOf (by omega) hvb (fun p => ?_) (fun p => ?_)
  · obtain ⟨m, hm9, e⟩ := as_n hvm p
    subst e
    conv => whnf
    (refine ⟨fun c => ?_, fun c => ?_⟩ <;> first | ((have c9 : (1 : Int32) = 0 := by with_reducible exact c); exact absurd c9 (by decide)) | exact absurd (rfl : (0 : Int32) = 0) (by with_reducible exact c) | exact absurd True.intro (by with_reducible exact c) | exact False.elim (by with_reducible exact c) | (conv => whnf))
    refine sf_reckonV (by omega) hX (by omega) (fun f1 h1 => ?_)
    conv => whnf
    exact us_lp (by omega) (stF_XI hX h1) ((h1.2 6 13 (by omega) (by omega)).trans hb) hm n 0 _ _ (by omega) rfl (H _ _ (Or.inr ⟨m, hm9, rfl, p, h1, rfl⟩))
  · conv => whnf
    (refine ⟨fun c => ?_, fun c => ?_⟩ <;> first | ((have c9 : (1 : Int32) = 0 := by with_reducible exact c); exact absurd c9 (by decide)) | exact absurd (rfl : (0 : Int32) = 0) (by with_reducible exact c) | exact absurd True.intro (by with_reducible exact c) | exact False.elim (by with_reducible exact c) | (conv => whnf))
    exact H _ _ (Or.inl ⟨p, rfl, rfl⟩)
def lnq (p : Nat → Int32) (Q : Int32 → Prop) : Nat → Int32 → Prop
  | 0, _ => False
  | k + 1, u => ¬ u < 0 ∧ (Q u ∨ lnq p Q k (p u.toNatClampNeg))
theorem lnq_ex {p : Nat → Int32} {Q : Int32 → Prop} : ∀ (k : Nat) (u : Int32), lnq p Q k u ↔ ∃ y, Q y ∧ lnl p y k u
  | 0, u => ⟨fun z => False.elim z, fun ⟨y, _, z⟩ => False.elim z⟩
  | k + 1, u => by
    have ih := lnq_ex (p := p) (Q := Q) k (p u.toNatClampNeg)
    constructor
    · rintro ⟨h, q | q⟩
      · exact ⟨u, q, h, Or.inl rfl⟩
      · obtain ⟨y, hy, z⟩ := ih.mp q
        exact ⟨y, hy, h, Or.inr z⟩
    · rintro ⟨y, hy, h, q | q⟩
      · subst q
        exact ⟨h, Or.inl hy⟩
      · exact ⟨h, Or.inr (ih.mpr ⟨y, hy, q⟩)⟩
theorem lnl_in {f : Nat → Nat → Int32} {n : Nat} (hI : MI f) (hb : f 181 0 = nI n) (hm : n ≤ 40) {y : Int32} : ∀ (t : Nat) (u : Int32), t ≤ n → u.toInt < (t : Int) → lnl (fun j => f 183 j) y t u → ∃ o, o < t ∧ y = nI o
  | 0, u, _, _, z => False.elim z
  | t + 1, u, ht, hu, z => by
    obtain ⟨h, q⟩ := z
    obtain ⟨j, hj, rfl⟩ := par_lt hu h
    rcases q with q | q
    · exact ⟨j, hj, q.symm⟩
    · have hcl : (nI j).toNatClampNeg = j := nI_clamp (by omega)
      have q2 : lnl (fun j => f 183 j) y t (f 183 j) := by
        have q3 : lnl (fun j => f 183 j) y t (f 183 (nI j).toNatClampNeg) := q
        rw [hcl] at q3
        exact q3
      have hlt := par_lt' (hI n hm hb j (by omega)).2 (by omega)
      obtain ⟨o, ho, e⟩ := lnl_in hI hb hm t (f 183 j) (by omega) (by omega) q2
      exact ⟨o, by omega, e⟩
def UM (f : Nat → Nat → Int32) (day : Int32) (v i : Nat) : Prop := lnq (fun j => f 183 j) (fun u => ¬ (smp f day u v).1 = 1) i (f 183 i) ∧ (smp f day (nI i) v).1 = 1
set_option maxRecDepth 100000 in
set_option maxHeartbeats 4000000 in
theorem um_in {d L n p v : Nat} {f : Nat → Nat → Int32} {g : Nat → Nat → Int64} {a day : Int32} {P : Prop} {R : Option Value → mH → Prop} (hd : 1 ≤ d) (hv : v ≤ 60) (hI : MI f) (hb : f 181 0 = nI n) (hm : n ≤ 40) (hp : p < n) (HO1 : (P ∧ (smp f day (nI p) v).1 = 1) → ∀ (x' : Int32) (s1 s2 : Option Value), x' = nI (p + 1) → WPe pg_X11_unsure none (Run mtab d) R (m_drop pg_X11_unsure 11) [some (.ref 181), some (.int day), some (.int (nI v)), some (.int (a + 1)), some (.int x'), s1, s2] [] (shF L, f, g)) (HO0 : ¬ (P ∧ (smp f day (nI p) v).1 = 1) → ∀ (x' : Int32) (s1 s2 : Option Value), x' = nI (p + 1) → WPe pg_X11_unsure none (Run mtab d) R (m_drop pg_X11_unsure 11) [some (.ref 181), some (.int day), some (.int (nI v)), some (.int (a + 0)), some (.int x'), s1, s2] [] (shF L, f, g)) :
    ∀ (t : Nat) (o b : Int32), t ≤ n → o.toInt < (t : Int) → (b = 0 ∨ b = 1) → (P ↔ (¬ b = 0 ∨ lnq (fun j => f 183 j) (fun u => ¬ (smp f day u v).1 = 1) t o)) → WPe pg_X11_unsure none (Run mtab d) R (m_drop pg_X11_unsure 22) [some (.ref 181), some (.int day), some (.int (nI v)), some (.int a), some (.int (nI p)), some (.int b), some (.int o)] [] (shF L, f, g)
  | 0, o, b, ht, ho, hb1, hq => by
    have h0 : o < 0 := by
      rw [Int32.lt_iff_toInt_lt]
      have e0 : (0 : Int32).toInt = 0 := rfl
      omega
    have FW : ¬ lnq (fun j => f 183 j) (fun u => ¬ (smp f day u v).1 = 1) 0 o := fun z => z
    refine at_X11_unsure ?_
    conv => whnf
    refine ⟨fun c => ?_, fun c => absurd h0 c⟩
    · rcases hb1 with rfl | rfl
      · conv => whnf
        (refine ⟨fun c => ?_, fun c => ?_⟩ <;> first | ((have c9 : (1 : Int32) = 0 := by with_reducible exact c); exact absurd c9 (by decide)) | exact absurd (rfl : (0 : Int32) = 0) (by with_reducible exact c) | exact absurd True.intro (by with_reducible exact c) | exact False.elim (by with_reducible exact c) | (conv => whnf))
        exact HO0 (fun z => (hq.mp z.1).elim (fun w => w rfl) (fun w => FW w)) _ _ _ (nI_1 p)
      · conv => whnf
        (refine ⟨fun c => ?_, fun c => ?_⟩ <;> first | ((have c9 : (1 : Int32) = 0 := by with_reducible exact c); exact absurd c9 (by decide)) | exact absurd (rfl : (0 : Int32) = 0) (by with_reducible exact c) | exact absurd True.intro (by with_reducible exact c) | exact False.elim (by with_reducible exact c) | (conv => whnf))
        refine smf_stateOf (by omega) hv ?_
        conv => whnf
        refine ⟨fun c9 => ?_, fun c9 => ?_⟩
        · conv => whnf
          exact HO0 (fun z => c9 z.2) _ _ _ (nI_1 p)
        · conv => whnf
          exact HO1 ⟨hq.mpr (Or.inl (by decide)), c9⟩ _ _ _ (nI_1 p)
  | t + 1, o, b, ht, ho, hb1, hq => by
    refine at_X11_unsure ?_
    conv => whnf
    refine ⟨fun c => ?_, fun c0 => ?_⟩
    · have FW : ¬ lnq (fun j => f 183 j) (fun u => ¬ (smp f day u v).1 = 1) (t + 1) o := fun z => z.1 c
      rcases hb1 with rfl | rfl
      · conv => whnf
        (refine ⟨fun c => ?_, fun c => ?_⟩ <;> first | ((have c9 : (1 : Int32) = 0 := by with_reducible exact c); exact absurd c9 (by decide)) | exact absurd (rfl : (0 : Int32) = 0) (by with_reducible exact c) | exact absurd True.intro (by with_reducible exact c) | exact False.elim (by with_reducible exact c) | (conv => whnf))
        exact HO0 (fun z => (hq.mp z.1).elim (fun w => w rfl) (fun w => FW w)) _ _ _ (nI_1 p)
      · conv => whnf
        (refine ⟨fun c => ?_, fun c => ?_⟩ <;> first | ((have c9 : (1 : Int32) = 0 := by with_reducible exact c); exact absurd c9 (by decide)) | exact absurd (rfl : (0 : Int32) = 0) (by with_reducible exact c) | exact absurd True.intro (by with_reducible exact c) | exact False.elim (by with_reducible exact c) | (conv => whnf))
        refine smf_stateOf (by omega) hv ?_
        conv => whnf
        refine ⟨fun c9 => ?_, fun c9 => ?_⟩
        · conv => whnf
          exact HO0 (fun z => c9 z.2) _ _ _ (nI_1 p)
        · conv => whnf
          exact HO1 ⟨hq.mpr (Or.inl (by decide)), c9⟩ _ _ _ (nI_1 p)
    · obtain ⟨u, hu, rfl⟩ := par_lt ho c0
      have hcl : (nI u).toNatClampNeg = u := nI_clamp (by omega)
      have hpu := (hI n hm hb u (by omega)).2
      have hlt : (f 183 u).toInt < (t : Int) := by have := par_lt' hpu (by omega); omega
      have un : lnq (fun j => f 183 j) (fun u => ¬ (smp f day u v).1 = 1) (t + 1) (nI u) ↔ (¬ (smp f day (nI u) v).1 = 1 ∨ lnq (fun j => f 183 j) (fun u => ¬ (smp f day u v).1 = 1) t (f 183 u)) := by
        show (¬ nI u < 0 ∧ (¬ (smp f day (nI u) v).1 = 1 ∨ lnq (fun j => f 183 j) (fun u => ¬ (smp f day u v).1 = 1) t (f 183 (nI u).toNatClampNeg))) ↔ _
        rw [hcl]
        exact ⟨fun z => z.2, fun z => ⟨c0, z⟩⟩
      have on : ∀ b' : Int32, (b' = 0 ∨ b' = 1) → (P ↔ (¬ b' = 0 ∨ lnq (fun j => f 183 j) (fun u => ¬ (smp f day u v).1 = 1) t (f 183 u))) → WPe pg_X11_unsure none (Run mtab d) R (m_drop pg_X11_unsure 22) [some (.ref 181), some (.int day), some (.int (nI v)), some (.int a), some (.int (nI p)), some (.int b'), some (.int (f 183 u))] [] (shF L, f, g) := fun b' z1 z2 => um_in hd hv hI hb hm hp HO1 HO0 t _ b' (by omega) hlt z1 z2
      rcases hb1 with rfl | rfl
      · conv => whnf
        (refine ⟨fun c => ?_, fun c => ?_⟩ <;> first | ((have c9 : (1 : Int32) = 0 := by with_reducible exact c); exact absurd c9 (by decide)) | exact absurd (rfl : (0 : Int32) = 0) (by with_reducible exact c) | exact absurd True.intro (by with_reducible exact c) | exact False.elim (by with_reducible exact c) | (conv => whnf))
        refine smf_stateOf (by omega) hv ?_
        conv => whnf
        refine ⟨fun c2 => ?_, fun c2 => ?_⟩
        · conv => whnf
          refine ⟨vp_in_nI (by omega) (by decide), ?_⟩
          conv => whnf
          simp only [hcl]
          exact on 0 (Or.inl rfl) (hq.trans (or_congr Iff.rfl (un.trans ⟨fun z => z.resolve_left (fun w => w c2), Or.inr⟩)))
        · conv => whnf
          refine ⟨vp_in_nI (by omega) (by decide), ?_⟩
          conv => whnf
          simp only [hcl]
          exact on 1 (Or.inr rfl) ⟨fun _ => Or.inl (by decide), fun _ => hq.mpr (Or.inr (un.mpr (Or.inl c2)))⟩
      · conv => whnf
        (refine ⟨fun c => ?_, fun c => ?_⟩ <;> first | ((have c9 : (1 : Int32) = 0 := by with_reducible exact c); exact absurd c9 (by decide)) | exact absurd (rfl : (0 : Int32) = 0) (by with_reducible exact c) | exact absurd True.intro (by with_reducible exact c) | exact False.elim (by with_reducible exact c) | (conv => whnf))
        refine ⟨vp_in_nI (by omega) (by decide), ?_⟩
        conv => whnf
        simp only [hcl]
        exact on 1 (Or.inr rfl) ⟨fun _ => Or.inl (by decide), fun _ => hq.mpr (Or.inl (by decide))⟩
set_option maxRecDepth 100000 in
theorem um_lp {d L n v : Nat} {f : Nat → Nat → Int32} {g : Nat → Nat → Int64} {day : Int32} {R : Option Value → mH → Prop} (hd : 1 ≤ d) (hv : v ≤ 60) (hI : MI f) (hb : f 181 0 = nI n) (hm : n ≤ 40) :
    ∀ (k i : Nat) (x a : Int32) (s1 s2 : Option Value), i + k = n → x = nI i → R (some (.int (cntl (UM f day v) k i a))) (shF L, f, g) → WPe pg_X11_unsure none (Run mtab d) R (m_drop pg_X11_unsure 11) [some (.ref 181), some (.int day), some (.int (nI v)), some (.int a), some (.int x), s1, s2] [] (shF L, f, g)
  | 0, i, x, a, s1, s2, hi, hx, H => by
    have e : i = n := by omega
    subst hx
    subst e
    refine at_X11_unsure ?_
    conv => whnf
    simp only [hb]
    refine ⟨fun c => ?_, fun c => absurd (nI_le (Nat.le_refl _) (by omega)) c⟩
    conv => whnf
    exact H
  | k + 1, i, x, a, s1, s2, hi, hx, H => by
    subst hx
    have hcl : (nI i).toNatClampNeg = i := nI_clamp (by omega)
    refine at_X11_unsure ?_
    conv => whnf
    simp only [hb]
    refine ⟨fun c => absurd c (nI_ge (b := n) (by omega) (by omega)), fun c => ?_⟩
    conv => whnf
    refine ⟨vp_in_nI (by omega) (by decide), ?_⟩
    conv => whnf
    simp only [hcl]
    refine um_in (n := n) (p := i) (P := lnq (fun j => f 183 j) (fun u => ¬ (smp f day u v).1 = 1) i (f 183 i)) hd hv hI hb hm (by omega) (fun q x' s1 s2 hx' => ?_) (fun q x' s1 s2 hx' => ?_) i _ _ (by omega) (par_lt' (hI n hm hb i (by omega)).2 (by omega)) (Or.inl rfl) ⟨fun z => Or.inr z, fun z => z.elim (fun w => absurd rfl w) (fun w => w)⟩
    · exact um_lp hd hv hI hb hm k (i + 1) x' _ s1 s2 (by omega) hx' (by rw [cnt_y (P := UM f day v) (k := k) (i := i) (a := a) q] at H; exact H)
    · have e0 : a + 0 = a := Int32.add_zero a
      rw [e0]
      exact um_lp hd hv hI hb hm k (i + 1) x' _ s1 s2 (by omega) hx' (by rw [cnt_n (P := UM f day v) (k := k) (i := i) (a := a) q] at H; exact H)
def SM_unsure (n c : Nat) (f : Nat → Nat → Int32) (x1 x2 v : Int32) : Prop := (¬ asofw c x1 x2 ∧ v = -1) ∨ (∃ m, m ≤ c ∧ x2 = nI m ∧ asofw c x1 x2 ∧ v = cntl (UM f x1 m) n 0 0)
set_option maxRecDepth 100000 in
set_option maxHeartbeats 4000000 in
theorem smf_unsure {d L : Nat} {f : Nat → Nat → Int32} {g : Nat → Nat → Int64} {n c0 : Nat} {x1 x2 : Int32} {R : Option Value → mH → Prop} (hd : 3 ≤ d) (hI : MI f) (hb : f 181 0 = nI n) (hm : n ≤ 40) (hvb : f 181 48 = nI c0) (hvm : c0 ≤ 60) (H : ∀ v, SM_unsure n c0 f x1 x2 v → R (some (.int v)) (shF L, f, g)) : Run mtab d 230 [.ref 181, .int x1, .int x2] (shF L, f, g) R := by
  obtain ⟨d, rfl⟩ : ∃ e, d = e + 1 := ⟨d - 1, by omega⟩
  refine go_X11_unsure rfl ?_
  conv => whnf
  refine smf_isAsOf (by omega) hvb (fun p => ?_) (fun p => ?_)
  · obtain ⟨m, hm9, e⟩ := as_n hvm p
    subst e
    conv => whnf
    (refine ⟨fun c => ?_, fun c => ?_⟩ <;> first | ((have c9 : (1 : Int32) = 0 := by with_reducible exact c); exact absurd c9 (by decide)) | exact absurd (rfl : (0 : Int32) = 0) (by with_reducible exact c) | exact absurd True.intro (by with_reducible exact c) | exact False.elim (by with_reducible exact c) | (conv => whnf))
    exact um_lp (by omega) (by omega) hI hb hm n 0 _ _ _ _ (by omega) rfl (H _ (Or.inr ⟨m, hm9, rfl, p, rfl⟩))
  · conv => whnf
    (refine ⟨fun c => ?_, fun c => ?_⟩ <;> first | ((have c9 : (1 : Int32) = 0 := by with_reducible exact c); exact absurd c9 (by decide)) | exact absurd (rfl : (0 : Int32) = 0) (by with_reducible exact c) | exact absurd True.intro (by with_reducible exact c) | exact False.elim (by with_reducible exact c) | (conv => whnf))
    exact H _ (Or.inl ⟨p, rfl⟩)
theorem kx_unsure {n c : Nat} {f f1 : Nat → Nat → Int32} {x1 x2 v : Int32} (s : SX_unsure n c f f1 x1 x2 v) : kp [0] f f1 := by
  rcases s with ⟨_, _, rfl⟩ | ⟨m, _, _, _, h, _⟩
  · exact kp_refl _ _
  · exact stF_kp h
theorem XI_unsure {n c : Nat} {f f1 : Nat → Nat → Int32} {x1 x2 v : Int32} (hX : XI f) (s : SX_unsure n c f f1 x1 x2 v) : XI f1 := by
  rcases s with ⟨_, _, rfl⟩ | ⟨m, _, _, _, h, _⟩
  · exact hX
  · exact stF_XI hX h
theorem fin_unsure {n c : Nat} {f f1 : Nat → Nat → Int32} {x1 x2 v1 v2 : Int32} (hW : RW n f) (hI : MI f) (hV : RV c f) (s1 : SX_unsure n c f f1 x1 x2 v1) (s2 : SM_unsure n c f1 x1 x2 v2) : v1 = v2 := by
  have k1 := kx_unsure s1
  have hc := hV.1
  have hn := hW.1
  rcases s1 with ⟨q1, rfl, rfl⟩ | ⟨m, hm, e3, p, h, rfl⟩
  · rcases s2 with ⟨q2, rfl⟩ | ⟨m, hm, e3, p, rfl⟩
    · rfl
    · exact absurd p q1
  · rcases s2 with ⟨q2, rfl⟩ | ⟨m', hm', e3', p', rfl⟩
    · exact absurd p q2
    · have em : m = m' := (nI_eq (by omega) (by omega)).mp (e3.symm.trans e3')
      subst em
      refine cntl_eq n (fun i hi => ?_) n 0 0 (by omega)
      have e8 : f1 8 = f 8 := funext (fun j => k1 8 j rfl)
      have e183 : f1 183 = f 183 := funext (fun j => k1 183 j rfl)
      have est : ∀ o, o < n → f1 127 o = (smp f1 x1 (nI o) m).1 := fun o ho => by
        rw [(h.1 o (by omega)).1, smp_kp (fun i => k1 218 i rfl)]
        exact (st_eq hV x1 (nI o) m hm).1
      have hL : ∀ o, (LC f1 (nI o) i ↔ lnl (fun j => f1 183 j) (nI o) i (f1 183 i)) := fun o => by
        have := LC_LM hW (nI o) i hi
        unfold LC LM at this
        unfold LC
        rw [e8, e183]
        exact this
      unfold UM
      rw [lnq_ex, est i hi, and_comm]
      refine and_congr ?_ Iff.rfl
      constructor
      · rintro ⟨o, _, ho, h3, h4⟩
        exact ⟨nI o, by rw [← est o ho]; exact h3, (hL o).mp h4⟩
      · rintro ⟨y, hy, z⟩
        have z2 := z
        rw [e183] at z2
        obtain ⟨o, ho, e⟩ := lnl_in hI hW.2.2.1 hn i (f 183 i) (by omega) (par_lt' (hI n hn hW.2.2.1 i hi).2 (by omega)) z2
        subst e
        exact ⟨o, Nat.zero_le _, by omega, by rw [est o (by omega)]; exact hy, (hL o).mpr z⟩
def GL (f : Nat → Nat → Int32) : Prop := GK f ∧ ∃ v, RV v f
def okw (l : List Nat) : Bool := !hasN l 4 && !hasN l 14
theorem okw_of {l : List Nat} (h : okw l = true) : hasN l 4 = false ∧ hasN l 14 = false := by
  unfold okw at h
  simp only [Bool.and_eq_true, Bool.not_eq_true'] at h
  exact h
def okg (l : List Nat) : Bool := okk l && okw l
theorem okg_of {l : List Nat} (h : okg l = true) : okk l = true ∧ okw l = true := by
  unfold okg at h
  simp only [Bool.and_eq_true] at h
  exact h
theorem RVe_kp {l : List Nat} {f f' : Nat → Nat → Int32} (k : kp l f f') (hl : okw l = true) (h : ∃ v, RV v f) : ∃ v, RV v f' := by
  obtain ⟨l4, l14⟩ := okw_of hl
  obtain ⟨v, r⟩ := h
  exact ⟨v, RV_kp k l4 l14 r⟩
theorem GL_x {l : List Nat} {f f' : Nat → Nat → Int32} (h : GL f) (x : XI f') (k : kp l f f') (hl : okg l = true) : GL f' := by
  obtain ⟨l1, l2⟩ := okg_of hl
  exact ⟨GK_x h.1 x k l1, RVe_kp k l2 h.2⟩
theorem GL_xE {f f' : Nat → Nat → Int32} (h : GL f) (x : XI f') (k : kp [0, 7] f f') (e : EI f') : GL f' := ⟨GK_xE h.1 x k e, RVe_kp k rfl h.2⟩
theorem GL_j {l l' : List Nat} {f f1 f2 : Nat → Nat → Int32} (h : GL f) (k1 : kp l f f1) (k2 : kp l' f1 f2) (j : GK f2) (hl : okw l = true) (hl' : okw l' = true) : GL f2 := ⟨j, RVe_kp k2 hl' (RVe_kp k1 hl h.2)⟩
theorem GK_2 {l l' : List Nat} {f f1 f2 : Nat → Nat → Int32} (h : GK f) (k1 : kp l f f1) (k2 : kp l' f1 f2) (x : XI f2) (hl : okk l = true) (hl' : okk l' = true) : GK f2 := by
  obtain ⟨l1, l2⟩ := okk_of hl
  obtain ⟨m1, m2⟩ := okk_of hl'
  exact ⟨GJ_2 h.1 k1 k2 x l1 m1, RN3_kp k2 m2 (RN3_kp k1 l2 h.2)⟩
theorem GL_v {f f1 f2 : Nat → Nat → Int32} (h : GL f) (k1 : kp [4] f f1) (k2 : kp [10, 14] f1 f2) (x : XI f2) (r : ∃ v, RV v f2) : GL f2 := ⟨GK_2 h.1 k1 k2 x rfl rfl, r⟩
theorem GL_ini {f : Nat → Nat → Int32} (hf : ∀ a i, 6 ≤ a → f a i = if a < 227 then inix a i else 0) (h3 : ab3 f) (h2 : ab2 f) : GL f := by
  refine ⟨GK_ini hf h3 h2, 0, by omega, ?_, ?_, fun k hk => absurd hk (by omega)⟩
  · rw [hf 119 7 (by omega), if_pos (by omega), inix_0 _ (by decide)]
    rfl
  · rw [hf 181 48 (by omega), if_pos (by omega), inix_0 _ (by decide)]
    rfl
def edn (x : Int32) : Int32 := if x = 9 then 9 else x + 1
theorem edn_9 {x : Int32} (h : x = 9) : x = edn x := by
  unfold edn
  rw [if_pos h]
  exact h
theorem edn_n {x : Int32} (h : ¬ x = 9) : edn x = x + 1 := by
  unfold edn
  rw [if_neg h]
set_option maxRecDepth 100000 in
set_option maxHeartbeats 4000000 in
theorem sx_pbNb_lp {d L n : Nat} {f0 : Nat → Nat → Int32} {q : Nat} {R : Option Value → mH → Prop} (hd : 1 ≤ d) (hm : n ≤ 40) (hc0 : f0 168 7 = nI q) (hq0 : ¬ q = 0) (hq9 : q < 9) (H : ∀ v f' g', XI f' → fx 168 173 f0 f' → f' 168 7 = f0 168 7 + 1 → R (some (.int v)) (shF L, f', g'))  :
    ∀ (k i : Nat) (x : Int32) (a : Int32) (b : Int32) (s5 : Option Value) (f : Nat → Nat → Int32) (g : Nat → Nat → Int64), i + k = n → x = nI i → XI f → fx 169 172 f0 f → inr 0 40 b → WPe pg_X1_publish none (Run mtab d) R (m_drop pg_X1_publish 9) [some (.ref 168), some (.int (nI n)), some (.int a), some (.int b), some (.int x), s5] [] (shF L, f, g)
  | 0, i, x, a, b, s5, f, g, he, hx, hX, hF, hb => by
    have e : i = n := by omega
    subst hx
    have hcn : f 168 7 = nI q := (hF 168 7 (by omega)).trans hc0
    have hnz : ¬ f 168 7 = 0 := by rw [hcn]; exact nI_nz hq0 (by omega)
    subst e
    refine at_X1_publish ?_
    conv => whnf
    try simp only [hcn]
    refine ⟨fun c => ?_, fun c => absurd (nI_le (Nat.le_refl _) (by omega)) c⟩
    conv => whnf
    repeat' first
      | (simp only [hcn])
      | ((with_reducible refine ⟨vp_in_nI (by omega) (by decide), ?_⟩) <;> conv => whnf)
      | (refine ⟨Or.inl rfl, ?_⟩ <;> conv => whnf)
      | (refine ⟨Or.inr rfl, ?_⟩ <;> conv => whnf)
      | (refine ⟨Or.inl True.intro, ?_⟩ <;> conv => whnf)
      | (refine ⟨Or.inr True.intro, ?_⟩ <;> conv => whnf)
      | (refine ⟨fun c => ?_, fun c => ?_⟩ <;> first | ((have c9 : (1 : Int32) = 0 := by with_reducible exact c); exact absurd c9 (by decide)) | exact absurd (rfl : (0 : Int32) = 0) (by with_reducible exact c) | exact absurd True.intro (by with_reducible exact c) | exact False.elim (by with_reducible exact c) | (conv => whnf))
      | (refine ⟨by unfold vp_in; decide, ?_⟩ <;> conv => whnf)
      | fail
    all_goals exact H _ _ _ (XI_ui hX (show inr 0 9 _ from inr_n1 (m := 9) (by omega) rfl (by decide))) (fx_ui (by decide) (by decide) (fx_wide hF (by decide) (by decide))) (by rw [m_ui_ap, if_pos rfl, if_pos rfl, hc0])
  | k + 1, i, x, a, b, s5, f, g, he, hx, hX, hF, hb => by
    subst hx
    have hcn : f 168 7 = nI q := (hF 168 7 (by omega)).trans hc0
    have hnz : ¬ f 168 7 = 0 := by rw [hcn]; exact nI_nz hq0 (by omega)
    refine at_X1_publish ?_
    conv => whnf
    try simp only [hcn]
    refine ⟨fun c => absurd c (nI_ge (b := n) (by omega) (by omega)), fun c => ?_⟩
    conv => whnf
    repeat' first
      | exact sx_pbNb_lp hd hm hc0 hq0 hq9 H k (i + 1) _ _ _ _ _ _ (by omega) (nI_1 i) (by repeat' first | (with_reducible assumption) | (with_reducible refine XI_ui ?_ ?_) | (with_reducible refine XI_fil ?_ (fun _ => ?_)) | (with_reducible refine XI_cpy ?_ (fun _ _ => ?_)) | exact True.intro | ((show inr _ _ _); first | (with_reducible assumption) | (unfold inr; decide)) | fail) (by repeat' first | (with_reducible exact fx_refl _ _ _) | (with_reducible assumption) | (with_reducible refine fx_ui ?_ ?_ ?_) | (with_reducible refine fx_fil ?_ ?_ ?_) | (with_reducible refine fx_cpy ?_ ?_ ?_) | omega | decide | fail) (by first | (with_reducible assumption) | exact (xi_169 hX _).resolve_left (by with_reducible assumption) | exact (xi_169 h1 _).resolve_left (by with_reducible assumption))
      | ((with_reducible refine ⟨vx_172 hX _, ?_⟩) <;> conv => whnf)
      | ((with_reducible refine ⟨vx_172 h1 _, ?_⟩) <;> conv => whnf)
      | (have hk7 := k1 172 (nI i).toNatClampNeg (by omega); simp only [← hk7]; fail)
      | (simp only [hcn])
      | ((with_reducible refine ⟨vp_in_nI (by omega) (by decide), ?_⟩) <;> conv => whnf)
      | (refine ⟨Or.inl rfl, ?_⟩ <;> conv => whnf)
      | (refine ⟨Or.inr rfl, ?_⟩ <;> conv => whnf)
      | (refine ⟨Or.inl True.intro, ?_⟩ <;> conv => whnf)
      | (refine ⟨Or.inr True.intro, ?_⟩ <;> conv => whnf)
      | (refine ⟨fun c => ?_, fun c => ?_⟩ <;> first | ((have c9 : (1 : Int32) = 0 := by with_reducible exact c); exact absurd c9 (by decide)) | exact absurd (rfl : (0 : Int32) = 0) (by with_reducible exact c) | exact absurd True.intro (by with_reducible exact c) | exact False.elim (by with_reducible exact c) | (conv => whnf))
      | (refine sx_giveN (by omega) hX (vx_172 hX _) hb hnz (fun v f1 g1 hv h1 k1 => ?_) <;> (have k1' := fx_trans hF k1) <;> conv => whnf)
      | (refine ⟨by unfold vp_in; decide, ?_⟩ <;> conv => whnf)
      | fail
    all_goals exact H _ _ _ (XI_ui hX (show inr 0 9 _ from inr_n1 (m := 9) (by omega) rfl (by decide))) (fx_ui (by decide) (by decide) (fx_wide hF (by decide) (by decide))) (by rw [m_ui_ap, if_pos rfl, if_pos rfl, hc0])
set_option maxRecDepth 100000 in
set_option maxHeartbeats 4000000 in
theorem sx_pb0b_lp {d L n : Nat} {f0 : Nat → Nat → Int32} {R : Option Value → mH → Prop} (hd : 1 ≤ d) (hm : n ≤ 40) (hc0 : f0 168 7 = 0) (H : ∀ v f' g', XI f' → fx 168 173 f0 f' → f' 168 7 = f0 168 7 + 1 → R (some (.int v)) (shF L, f', g')) :
    ∀ (k i : Nat) (x a b : Int32) (s5 : Option Value) (f : Nat → Nat → Int32) (g : Nat → Nat → Int64), i + k = n → x = nI i → XI f → fx 169 172 f0 f → (∃ q, q ≤ i ∧ b = nI q) → (∀ j, j < 40 → f 169 j = -4 ∨ ∃ q, q ≤ i ∧ f 169 j = nI q) → WPe pg_X1_publish none (Run mtab d) R (m_drop pg_X1_publish 9) [some (.ref 168), some (.int (nI n)), some (.int a), some (.int b), some (.int x), s5] [] (shF L, f, g)
  | 0, i, x, a, b, s5, f, g, he, hx, hX, hF, hb, hN => by
    have e : i = n := by omega
    subst hx
    subst e
    have hz : f 168 7 = 0 := (hF 168 7 (by omega)).trans hc0
    refine at_X1_publish ?_
    conv => whnf
    refine ⟨fun c => ?_, fun c => absurd (nI_le (Nat.le_refl _) (by omega)) c⟩
    conv => whnf
    simp only [hz]
    exact H _ _ _ (XI_ui hX (show inr 0 9 _ by unfold inr; decide)) (fx_ui (by decide) (by decide) (fx_wide hF (by decide) (by decide))) (by rw [m_ui_ap, if_pos rfl, if_pos rfl, hc0])
  | k + 1, i, x, a, b, s5, f, g, he, hx, hX, hF, hb, hN => by
    subst hx
    obtain ⟨q, hqi, rfl⟩ := hb
    have hz : f 168 7 = 0 := (hF 168 7 (by omega)).trans hc0
    refine at_X1_publish ?_
    conv => whnf
    refine ⟨fun c => absurd c (nI_ge (b := n) (by omega) (by omega)), fun c => ?_⟩
    conv => whnf
    refine ⟨vp_in_nI (by omega) (by decide), ?_⟩
    conv => whnf
    refine ⟨vx_172 hX _, ?_⟩
    conv => whnf
    refine ⟨fun c2 => ?_, fun c2 => ?_⟩
    · conv => whnf
      refine ⟨vx_172 hX _, ?_⟩
      conv => whnf
      refine ⟨fun c3 => absurd c3 c2, fun c3 => ?_⟩
      conv => whnf
      refine ⟨vx_172 hX _, ?_⟩
      conv => whnf
      obtain ⟨p, hp, ep⟩ := (hN (f 172 (nI i).toNatClampNeg).toNatClampNeg (vp_lt (vx_172 hX _))).resolve_left c2
      exact sx_pb0b_lp hd hm hc0 H k (i + 1) _ _ _ _ _ _ (by omega) (nI_1 i) hX hF ⟨p, by omega, ep⟩ (fun j hj => (hN j hj).imp id (fun ⟨r, h1, h2⟩ => ⟨r, by omega, h2⟩))
    · conv => whnf
      refine sx_give0 (by omega) (vx_172 hX _) hz ?_
      conv => whnf
      refine ⟨fun c3 => absurd c3 (by decide), fun _ => ?_⟩
      conv => whnf
      refine ⟨vx_172 hX _, ?_⟩
      conv => whnf
      simp only [m_ui_ap, m_fil_ap, m_cpy_ap, Nat.reduceEqDiff, Nat.reduceLT, Nat.reduceLeDiff, eq_self, ↓reduceIte, false_and, and_false, true_and, and_true, and_self, nI_1]
      refine ⟨fun c3 => absurd c3 (nI_m4 (by omega)), fun c3 => ?_⟩
      conv => whnf
      refine ⟨vx_172 hX _, ?_⟩
      conv => whnf
      simp only [m_ui_ap, m_fil_ap, m_cpy_ap, Nat.reduceEqDiff, Nat.reduceLT, Nat.reduceLeDiff, eq_self, ↓reduceIte, false_and, and_false, true_and, and_true, and_self, nI_1]
      refine sx_pb0b_lp hd hm hc0 H k (i + 1) _ _ _ _ _ _ (by omega) rfl (XI_ui hX (Or.inr (inr_n (m := 40) (by omega) rfl (by decide)))) (fx_ui (by decide) (by decide) hF) ⟨q + 1, by omega, rfl⟩ (fun j hj => ?_)
      rw [m_ui_ap, if_pos rfl]
      split
      · exact Or.inr ⟨q + 1, by omega, rfl⟩
      · exact (hN j hj).imp id (fun ⟨r, h1, h2⟩ => ⟨r, by omega, h2⟩)
set_option maxRecDepth 100000 in
set_option maxHeartbeats 4000000 in
theorem sf_publish {d L : Nat} {f : Nat → Nat → Int32} {g : Nat → Nat → Int64} {q : Nat} {R : Option Value → mH → Prop} (hd : 4 ≤ d) (hX : XI f) (hE : EI f) (hc : f 168 7 = nI q) (hq9 : q < 9) (H : ∀ v f' g', XI f' → fx 168 173 f f' → f' 168 7 = f 168 7 + 1 → R (some (.int v)) (shF L, f', g')) : Run mtab d 14 [.ref 168] (shF L, f, g) R := by
  obtain ⟨d, rfl⟩ : ∃ e, d = e + 1 := ⟨d - 1, by omega⟩
  refine go_X1_publish rfl ?_
  conv => whnf
  refine sx_sortThoseIn (by omega) hX (fun n f1 g1 hn h1 k1 => ?_)
  conv => whnf
  have hc1 : f1 168 7 = nI q := (k1 168 7 (by omega)).trans hc
  have H' : ∀ v f' g', XI f' → fx 168 173 f1 f' → f' 168 7 = f1 168 7 + 1 → R (some (.int v)) (shF L, f', g') := fun v f' g' a b c => H v f' g' a (fx_trans (fx_wide k1 (by decide) (by decide)) b) (c.trans (by rw [k1 168 7 (by omega)]))
  by_cases hz : q = 0
  · subst hz
    have hz1 : f1 168 7 = 0 := hc1
    exact sx_pb0b_lp (by omega) hn hz1 H' n 0 _ _ _ _ _ _ (by omega) rfl h1 (fx_refl _ _ _) ⟨0, by omega, rfl⟩ (fun j hj => Or.inl ((k1 169 j (by omega)).trans (hE hc j hj)))
  · exact sx_pbNb_lp (by omega) hn hc1 hz hq9 H' n 0 _ _ _ _ _ _ (by omega) rfl h1 (fx_refl _ _ _) (show inr 0 40 0 by unfold inr; decide)
set_option maxRecDepth 100000 in
set_option maxHeartbeats 4000000 in
theorem sf_edition {d L : Nat} {f : Nat → Nat → Int32} {g : Nat → Nat → Int64}  {R : Option Value → mH → Prop} (hd : 8 ≤ d) (hX : XI f) (hE : EI f) (H : ∀ v f' g', XI f' → kp [0, 7] f f' → EI f' → f' 168 7 = edn (f 168 7) → R (some (.int v)) (shF L, f', g')) : Run mtab d 127 [.ref 5] (shF L, f, g) R := by
  obtain ⟨d, rfl⟩ : ∃ e, d = e + 1 := ⟨d - 1, by omega⟩
  refine go_X10_edition rfl ?_
  conv => whnf
  obtain ⟨q, hq, hc⟩ := inr_nat (n := 9) rfl (xi_168 hX 7)
  simp only [hc]
  by_cases e9 : q = 9
  · subst e9
    refine ⟨fun c => absurd (by decide) c, fun c => ?_⟩
    conv => whnf
    exact H _ _ _ hX (kp_refl _ _) hE (edn_9 hc)
  · have hn9 : ¬ f 168 7 = 9 := fun z => e9 ((nI_eq (b := 9) (by omega) (by decide)).mp (hc.symm.trans z))
    refine ⟨fun c => ?_, fun c => absurd ((nI_eq (b := 9) (by omega) (by decide)).mp c) e9⟩
    conv => whnf
    refine sx_reckon (by omega) hX (fun f1 g1 h1 k1 => ?_)
    conv => whnf
    refine sf_publish (q := q) (by omega) h1 (EI_kp hE k1 rfl) ((k1 168 7 rfl).trans hc) (by omega) (fun v f2 g2 h2 k2 z2 => ?_)
    conv => whnf
    have z3 : f2 168 7 = nI (q + 1) := by rw [z2, k1 168 7 rfl, hc, nI_1]
    exact H _ _ _ h2 (kp_trans (kp_wd k1 rfl) (kp_fx k2 rfl)) (fun e => absurd (z3.symm.trans e) (nI_nz (by omega) (by omega))) (by rw [edn_n hn9, z2, k1 168 7 rfl])
set_option maxRecDepth 100000 in
set_option maxHeartbeats 4000000 in
theorem smf_ed2_lp {d L n : Nat} {f0 : Nat → Nat → Int32} {ev : Int32} {R : Option Value → mH → Prop} (hd : 1 ≤ d) (hm : n ≤ 40) (H : ∀ v f' g', XI f' → kp [10, 17] f0 f' → f' 181 50 = ev + 1 → R (some (.int v)) (shF L, f', g'))  :
    ∀ (k i : Nat) (x : Int32) (a : Int32) (b : Int32) (s5 : Option Value) (s6 : Option Value) (s7 : Option Value) (f : Nat → Nat → Int32) (g : Nat → Nat → Int64), i + k = n → x = nI i → XI f → kp [10, 17] f0 f → inr 0 40 b → f 181 50 = ev → WPe pg_X11_edition none (Run mtab d) R (m_drop pg_X11_edition 64) [some (.ref 181), some (.int (nI n)), some (.int a), some (.int b), some (.int x), s5, s6, s7] [] (shF L, f, g)
  | 0, i, x, a, b, s5, s6, s7, f, g, he, hx, hX, hF, hb, he5 => by
    have e : i = n := by omega
    subst hx
    subst e
    refine at_X11_edition ?_
    conv => whnf
    try simp only [nI_1, m_ui_ap, m_fil_ap, m_cpy_ap, Nat.reduceEqDiff, Nat.reduceLT, Nat.reduceLeDiff, eq_self, ↓reduceIte, false_and, and_false, true_and, and_true, and_self]
    refine ⟨fun c => ?_, fun c => absurd (nI_le (Nat.le_refl _) (by omega)) c⟩
    conv => whnf
    repeat' first
      | ((with_reducible refine ⟨vx_223 hX _, ?_⟩) <;> conv => whnf)
      | ((with_reducible refine ⟨vpi hb (by decide), ?_⟩) <;> conv => whnf)
      | (simp only [nI_1, m_ui_ap, m_fil_ap, m_cpy_ap, Nat.reduceEqDiff, Nat.reduceLT, Nat.reduceLeDiff, eq_self, ↓reduceIte, false_and, and_false, true_and, and_true, and_self])
      | ((with_reducible refine ⟨vp_in_nI (by omega) (by decide), ?_⟩) <;> conv => whnf)
      | (refine ⟨Or.inl rfl, ?_⟩ <;> conv => whnf)
      | (refine ⟨Or.inr rfl, ?_⟩ <;> conv => whnf)
      | (refine ⟨Or.inl True.intro, ?_⟩ <;> conv => whnf)
      | (refine ⟨Or.inr True.intro, ?_⟩ <;> conv => whnf)
      | (refine ⟨fun c => ?_, fun c => ?_⟩ <;> first | ((have c9 : (1 : Int32) = 0 := by with_reducible exact c); exact absurd c9 (by decide)) | exact absurd (rfl : (0 : Int32) = 0) (by with_reducible exact c) | exact absurd True.intro (by with_reducible exact c) | exact False.elim (by with_reducible exact c) | (conv => whnf))
      | (refine ⟨by unfold vp_in; decide, ?_⟩ <;> conv => whnf)
      | fail
    all_goals exact H _ _ _ (XI_ui hX True.intro) (kp_ui rfl hF) (by rw [m_ui_ap, if_pos rfl, if_pos rfl, he5])
  | k + 1, i, x, a, b, s5, s6, s7, f, g, he, hx, hX, hF, hb, he5 => by
    subst hx
    refine at_X11_edition ?_
    conv => whnf
    try simp only [nI_1, m_ui_ap, m_fil_ap, m_cpy_ap, Nat.reduceEqDiff, Nat.reduceLT, Nat.reduceLeDiff, eq_self, ↓reduceIte, false_and, and_false, true_and, and_true, and_self]
    refine ⟨fun c => absurd c (nI_ge (b := n) (by omega) (by omega)), fun c => ?_⟩
    conv => whnf
    repeat' first
      | exact smf_ed2_lp hd hm H k (i + 1) _ _ _ _ _ _ _ _ (by omega) (by first | rfl | exact nI_1 i) (by repeat' first | (with_reducible assumption) | (with_reducible refine XI_ui ?_ ?_) | (with_reducible refine XI_fil ?_ (fun _ => ?_)) | (with_reducible refine XI_cpy ?_ (fun _ _ => ?_)) | exact True.intro | ((show inr _ _ _); first | (with_reducible assumption) | ((with_reducible refine inr_n1 (m := 40) ?_ ?_ ?_) <;> first | omega | rfl | decide) | ((with_reducible refine inr_n (m := 40) ?_ ?_ ?_) <;> first | omega | rfl | decide) | (unfold inr; decide)) | fail) (by repeat' first | (with_reducible exact kp_refl _ _) | (with_reducible assumption) | (with_reducible refine kp_ui ?_ ?_) | (with_reducible refine kp_fil ?_ ?_) | (with_reducible refine kp_cpy ?_ ?_) | rfl | fail) (by first | (with_reducible assumption) | (with_reducible exact xi_221 hX _) | (with_reducible refine inr_n (m := 40) ?_ ?_ ?_) <;> first | omega | rfl | decide) (by first | (with_reducible assumption) | ((repeat rw [m_ui_o (by omega)]); exact he5))
      | ((with_reducible refine ⟨vx_223 hX _, ?_⟩) <;> conv => whnf)
      | ((with_reducible refine ⟨vpi hb (by decide), ?_⟩) <;> conv => whnf)
      | (simp only [nI_1, m_ui_ap, m_fil_ap, m_cpy_ap, Nat.reduceEqDiff, Nat.reduceLT, Nat.reduceLeDiff, eq_self, ↓reduceIte, false_and, and_false, true_and, and_true, and_self])
      | ((with_reducible refine ⟨vp_in_nI (by omega) (by decide), ?_⟩) <;> conv => whnf)
      | (refine ⟨Or.inl rfl, ?_⟩ <;> conv => whnf)
      | (refine ⟨Or.inr rfl, ?_⟩ <;> conv => whnf)
      | (refine ⟨Or.inl True.intro, ?_⟩ <;> conv => whnf)
      | (refine ⟨Or.inr True.intro, ?_⟩ <;> conv => whnf)
      | (refine ⟨fun c => ?_, fun c => ?_⟩ <;> first | ((have c9 : (1 : Int32) = 0 := by with_reducible exact c); exact absurd c9 (by decide)) | exact absurd (rfl : (0 : Int32) = 0) (by with_reducible exact c) | exact absurd True.intro (by with_reducible exact c) | exact False.elim (by with_reducible exact c) | (conv => whnf))
      | (refine ⟨by unfold vp_in; decide, ?_⟩ <;> conv => whnf)
      | fail
    all_goals exact H _ _ _ (XI_ui hX True.intro) (kp_ui rfl hF) (by rw [m_ui_ap, if_pos rfl, if_pos rfl, he5])
set_option maxRecDepth 100000 in
set_option maxHeartbeats 4000000 in
theorem smf_ed1_lp {d L n : Nat} {f0 : Nat → Nat → Int32} {vn : Nat} {ev : Int32} {fz : Nat → Nat → Int32} {R : Option Value → mH → Prop} (hd : 3 ≤ d) (hm : n ≤ 40) (h0 : f0 181 0 = nI n) (hv0 : f0 181 48 = nI vn) (hk : vn ≤ 60) (k0 : kp [10, 17] fz f0) (hev : f0 181 50 = ev) (H : ∀ v f' g', XI f' → kp [10, 17] fz f' → f' 181 50 = ev + 1 → R (some (.int v)) (shF L, f', g'))  :
    ∀ (k i : Nat) (x : Int32) (b : Int32) (s3 : Option Value) (s4 : Option Value) (s5 : Option Value) (s6 : Option Value) (s7 : Option Value) (f : Nat → Nat → Int32) (g : Nat → Nat → Int64), i + k = n → x = nI i → XI f → fx 223 224 f0 f → (∃ q, q ≤ i ∧ b = nI q) → WPe pg_X11_edition none (Run mtab d) R (m_drop pg_X11_edition 12) [some (.ref 181), some (.int b), some (.int x), s3, s4, s5, s6, s7] [] (shF L, f, g)
  | 0, i, x, b, s3, s4, s5, s6, s7, f, g, he, hx, hX, hF, hb => by
    have e : i = n := by omega
    subst hx
    have hc : f 181 0 = nI n := (hF 181 0 (by omega)).trans h0
    have hvb : f 181 48 = nI vn := (hF 181 48 (by omega)).trans hv0
    obtain ⟨q, hqi, rfl⟩ := hb
    subst e
    refine at_X11_edition ?_
    conv => whnf
    try simp only [hc, hvb]
    refine ⟨fun c => ?_, fun c => absurd (nI_le (Nat.le_refl _) (by omega)) c⟩
    conv => whnf
    repeat' first
      | exact smf_ed2_lp (f0 := fz) (by omega) (by omega) H q 0 _ _ _ _ _ _ _ _ (by omega) rfl hX (kp_trans k0 (kp_fx hF rfl)) (show inr 0 40 0 by unfold inr; decide) ((hF 181 50 (by omega)).trans hev)
      | (simp only [hc, hvb])
      | ((with_reducible refine ⟨vp_in_nI (by omega) (by decide), ?_⟩) <;> conv => whnf)
      | (refine ⟨Or.inl rfl, ?_⟩ <;> conv => whnf)
      | (refine ⟨Or.inr rfl, ?_⟩ <;> conv => whnf)
      | (refine ⟨Or.inl True.intro, ?_⟩ <;> conv => whnf)
      | (refine ⟨Or.inr True.intro, ?_⟩ <;> conv => whnf)
      | (refine ⟨fun c => ?_, fun c => ?_⟩ <;> first | ((have c9 : (1 : Int32) = 0 := by with_reducible exact c); exact absurd c9 (by decide)) | exact absurd (rfl : (0 : Int32) = 0) (by with_reducible exact c) | exact absurd True.intro (by with_reducible exact c) | exact False.elim (by with_reducible exact c) | (conv => whnf))
      | (refine ⟨by unfold vp_in; decide, ?_⟩ <;> conv => whnf)
      | fail
    all_goals fail
  | k + 1, i, x, b, s3, s4, s5, s6, s7, f, g, he, hx, hX, hF, hb => by
    subst hx
    have hc : f 181 0 = nI n := (hF 181 0 (by omega)).trans h0
    have hvb : f 181 48 = nI vn := (hF 181 48 (by omega)).trans hv0
    obtain ⟨q, hqi, rfl⟩ := hb
    refine at_X11_edition ?_
    conv => whnf
    try simp only [hc, hvb]
    refine ⟨fun c => absurd c (nI_ge (b := n) (by omega) (by omega)), fun c => ?_⟩
    conv => whnf
    repeat' first
      | exact smf_ed1_lp hd hm h0 hv0 hk k0 hev H k (i + 1) _ _ _ _ _ _ _ _ _ (by omega) (nI_1 i) (by repeat' first | (with_reducible assumption) | (with_reducible refine XI_ui ?_ ?_) | (with_reducible refine XI_fil ?_ (fun _ => ?_)) | (with_reducible refine XI_cpy ?_ (fun _ _ => ?_)) | exact True.intro | ((show inr _ _ _); first | (with_reducible assumption) | (unfold inr; decide)) | fail) (by repeat' first | (with_reducible exact fx_refl _ _ _) | (with_reducible assumption) | (with_reducible refine fx_ui ?_ ?_ ?_) | (with_reducible refine fx_fil ?_ ?_ ?_) | (with_reducible refine fx_cpy ?_ ?_ ?_) | omega | decide | fail) ⟨q, by omega, rfl⟩
      | exact msr_in (p := i) (q := q) (by omega) (by omega) (by omega) (fun b' x' s3 f' g' hb' hx' hX' hF' => smf_ed1_lp hd hm h0 hv0 hk k0 hev H k (i + 1) x' b' s3 _ _ _ _ f' g' (by omega) hx' hX' hF' ⟨q + 1, by omega, hb'⟩) q _ _ _ (Nat.le_refl q) rfl hX hF
      | (simp only [hc, hvb])
      | ((with_reducible refine ⟨vp_in_nI (by omega) (by decide), ?_⟩) <;> conv => whnf)
      | (refine ⟨Or.inl rfl, ?_⟩ <;> conv => whnf)
      | (refine ⟨Or.inr rfl, ?_⟩ <;> conv => whnf)
      | (refine ⟨Or.inl True.intro, ?_⟩ <;> conv => whnf)
      | (refine ⟨Or.inr True.intro, ?_⟩ <;> conv => whnf)
      | (refine ⟨fun c => ?_, fun c => ?_⟩ <;> first | ((have c9 : (1 : Int32) = 0 := by with_reducible exact c); exact absurd c9 (by decide)) | exact absurd (rfl : (0 : Int32) = 0) (by with_reducible exact c) | exact absurd True.intro (by with_reducible exact c) | exact False.elim (by with_reducible exact c) | (conv => whnf))
      | (refine sm_stateOf (by omega) hX hk (fun v => ?_) <;> conv => whnf)
      | (refine ⟨by unfold vp_in; decide, ?_⟩ <;> conv => whnf)
      | fail
    all_goals fail
set_option maxRecDepth 100000 in
set_option maxHeartbeats 4000000 in
theorem smf_edition {d L : Nat} {f : Nat → Nat → Int32} {g : Nat → Nat → Int64}  {R : Option Value → mH → Prop} (hd : 9 ≤ d) (hX : XI f) (H : ∀ v f' g', XI f' → kp [10, 17] f f' → f' 181 50 = edn (f 181 50) → R (some (.int v)) (shF L, f', g')) : Run mtab d 233 [.ref 181] (shF L, f, g) R := by
  obtain ⟨d, rfl⟩ : ∃ e, d = e + 1 := ⟨d - 1, by omega⟩
  refine go_X11_edition rfl ?_
  conv => whnf
  refine ⟨fun c => ?_, fun c => ?_⟩
  · conv => whnf
    refine sm_refresh (by omega) hX (fun f1 g1 h1 k1 => ?_)
    obtain ⟨n, hm, hb⟩ := inr_nat (n := 40) rfl (xi_181_0 h1)
    obtain ⟨vn, hvm, hvb⟩ := inr_nat (n := 60) rfl (xi_181_48 h1)
    conv => whnf
    exact smf_ed1_lp (f0 := f1) (ev := f 181 50) (by omega) hm hb hvb hvm (kp_wd k1 rfl) (k1 181 50 rfl) (fun v f' g' a b z => H v f' g' a b (z.trans (edn_n c).symm)) n 0 _ _ _ _ _ _ _ _ _ (by omega) rfl h1 (fx_refl _ _ _) ⟨0, by omega, rfl⟩
  · conv => whnf
    exact H _ _ _ hX (kp_refl _ _) (edn_9 c)
noncomputable def cnX (f : Nat → Nat → Int32) (n c : Nat) (x : Int32) : Int32 := if x = 0 then f 6 13 else if x = 1 then f 100 6 else if x = 2 then f 139 13 else if x = 3 then f 129 6 else if x = 4 then f 119 7 else if x = 5 then f 168 7 else if x = 6 then cntl (fun i => (stp f 9999 (nI i) c).1 = 1) n 0 0 else if x = 7 then cntl (fun i => (stp f 9999 (nI i) c).1 = 2) n 0 0 else -1
noncomputable def cnM (f : Nat → Nat → Int32) (n c : Nat) (x : Int32) : Int32 := if x = 0 then f 181 0 else if x = 1 then f 181 14 else if x = 2 then f 181 27 else if x = 3 then f 181 16 else if x = 4 then f 181 48 else if x = 5 then f 181 50 else if x = 6 then cntl (fun i => (smp f 9999 (nI i) c).1 = x - 5) n 0 0 else if x = 7 then cntl (fun i => (smp f 9999 (nI i) c).1 = x - 5) n 0 0 else -1
def SX_count (n c : Nat) (f f1 : Nat → Nat → Int32) (x v : Int32) : Prop := v = cnX f n c x ∧ (f1 = f ∨ stF f f1 9999 c)
def SM_count (n c : Nat) (f : Nat → Nat → Int32) (x v : Int32) : Prop := v = cnM f n c x
set_option maxRecDepth 100000 in
theorem cs_lp {d L n : Nat} {f : Nat → Nat → Int32} {g : Nat → Nat → Int64} {w : Int32} {R : Option Value → mH → Prop} (hb : f 6 13 = nI n) (hm : n ≤ 40) :
    ∀ (k i : Nat) (x a : Int32), i + k = n → x = nI i → R (some (.int (cntl (fun i => f 127 i = w) k i a))) (shF L, f, g) → WPe pg_X10_countStates none (Run mtab d) R (m_drop pg_X10_countStates 7) [some (.ref 5), some (.int w), some (.int a), some (.int x)] [] (shF L, f, g)
  | 0, i, x, a, hi, hx, H => by
    have e : i = n := by omega
    subst hx
    subst e
    refine at_X10_countStates ?_
    conv => whnf
    simp only [hb]
    refine ⟨fun c => ?_, fun c => absurd (nI_le (Nat.le_refl _) (by omega)) c⟩
    conv => whnf
    exact H
  | k + 1, i, x, a, hi, hx, H => by
    subst hx
    have hcl : (nI i).toNatClampNeg = i := nI_clamp (by omega)
    refine at_X10_countStates ?_
    conv => whnf
    simp only [hb]
    refine ⟨fun c => absurd c (nI_ge (b := n) (by omega) (by omega)), fun c => ?_⟩
    conv => whnf
    refine ⟨vp_in_nI (by omega) (by decide), ?_⟩
    conv => whnf
    simp only [hcl]
    refine ⟨fun c1 => ?_, fun c1 => ?_⟩
    · conv => whnf
      exact cs_lp hb hm k (i + 1) _ _ (by omega) (nI_1 i) (by rw [cnt_n (P := (fun i => f 127 i = w)) (k := k) (i := i) (a := a) (c1)] at H; exact H)
    · conv => whnf
      exact cs_lp hb hm k (i + 1) _ _ (by omega) (nI_1 i) (by rw [cnt_y (P := (fun i => f 127 i = w)) (k := k) (i := i) (a := a) (c1)] at H; exact H)
set_option maxRecDepth 100000 in
set_option maxHeartbeats 4000000 in
theorem sf_countStates {d L : Nat} {f : Nat → Nat → Int32} {g : Nat → Nat → Int64} {n c0 : Nat} {w : Int32} {R : Option Value → mH → Prop} (hd : 5 ≤ d) (hX : XI f) (hb : f 6 13 = nI n) (hm : n ≤ 40) (hvb : f 119 7 = nI c0) (hvm : c0 ≤ 60) (H : ∀ f1, stF f f1 9999 c0 → R (some (.int (cntl (fun i => (stp f 9999 (nI i) c0).1 = w) n 0 0))) (shF L, f1, g)) : Run mtab d 146 [.ref 5, .int w] (shF L, f, g) R := by
  obtain ⟨d, rfl⟩ : ∃ e, d = e + 1 := ⟨d - 1, by omega⟩
  refine go_X10_countStates rfl ?_
  conv => whnf
  refine sf_reckonAll (by omega) hX hvb hvm (fun f1 h1 => ?_)
  conv => whnf
  refine cs_lp ((h1.2 6 13 (by omega) (by omega)).trans hb) hm n 0 _ _ (by omega) rfl ?_
  have e : cntl (fun i => f1 127 i = w) n 0 0 = cntl (fun i => (stp f 9999 (nI i) c0).1 = w) n 0 0 := cntl_eq n (fun i hi => by rw [(h1.1 i (by omega)).1]) n 0 0 (by omega)
  rw [e]
  exact H f1 h1
set_option maxRecDepth 100000 in
set_option maxHeartbeats 4000000 in
theorem sf_count {d L : Nat} {f : Nat → Nat → Int32} {g : Nat → Nat → Int64} {n c0 : Nat} {x : Int32} {R : Option Value → mH → Prop} (hd : 6 ≤ d) (hX : XI f) (hb : f 6 13 = nI n) (hm : n ≤ 40) (hvb : f 119 7 = nI c0) (hvm : c0 ≤ 60) (H : ∀ v f1, SX_count n c0 f f1 x v → R (some (.int v)) (shF L, f1, g)) : Run mtab d 129 [.ref 5, .int x] (shF L, f, g) R := by
  obtain ⟨d, rfl⟩ : ∃ e, d = e + 1 := ⟨d - 1, by omega⟩
  refine go_X10_count rfl ?_
  conv => whnf
  refine ⟨fun c => ?_, fun c => ?_, fun c => ?_, fun c => ?_, fun c => ?_, fun c => ?_, fun c => ?_, fun c => ?_, fun c => ?_⟩
  · have e : x = 0 := c.trans (by decide)
    subst e
    conv => whnf
    exact H _ _ ⟨by unfold cnX; rw [if_pos rfl], Or.inl rfl⟩
  · have e : x = 1 := c.trans (by decide)
    subst e
    conv => whnf
    exact H _ _ ⟨by unfold cnX; rw [if_neg (show ¬ (1 : Int32) = 0 by decide), if_pos rfl], Or.inl rfl⟩
  · have e : x = 2 := c.trans (by decide)
    subst e
    conv => whnf
    exact H _ _ ⟨by unfold cnX; rw [if_neg (show ¬ (2 : Int32) = 0 by decide), if_neg (show ¬ (2 : Int32) = 1 by decide), if_pos rfl], Or.inl rfl⟩
  · have e : x = 3 := c.trans (by decide)
    subst e
    conv => whnf
    exact H _ _ ⟨by unfold cnX; rw [if_neg (show ¬ (3 : Int32) = 0 by decide), if_neg (show ¬ (3 : Int32) = 1 by decide), if_neg (show ¬ (3 : Int32) = 2 by decide), if_pos rfl], Or.inl rfl⟩
  · have e : x = 4 := c.trans (by decide)
    subst e
    conv => whnf
    exact H _ _ ⟨by unfold cnX; rw [if_neg (show ¬ (4 : Int32) = 0 by decide), if_neg (show ¬ (4 : Int32) = 1 by decide), if_neg (show ¬ (4 : Int32) = 2 by decide), if_neg (show ¬ (4 : Int32) = 3 by decide), if_pos rfl], Or.inl rfl⟩
  · have e : x = 5 := c.trans (by decide)
    subst e
    conv => whnf
    exact H _ _ ⟨by unfold cnX; rw [if_neg (show ¬ (5 : Int32) = 0 by decide), if_neg (show ¬ (5 : Int32) = 1 by decide), if_neg (show ¬ (5 : Int32) = 2 by decide), if_neg (show ¬ (5 : Int32) = 3 by decide), if_neg (show ¬ (5 : Int32) = 4 by decide), if_pos rfl], Or.inl rfl⟩
  · have e : x = 6 := c.trans (by decide)
    subst e
    conv => whnf
    refine sf_countStates (by omega) hX hb hm hvb hvm (fun f1 h1 => ?_)
    conv => whnf
    exact H _ _ ⟨by unfold cnX; rw [if_neg (show ¬ (6 : Int32) = 0 by decide), if_neg (show ¬ (6 : Int32) = 1 by decide), if_neg (show ¬ (6 : Int32) = 2 by decide), if_neg (show ¬ (6 : Int32) = 3 by decide), if_neg (show ¬ (6 : Int32) = 4 by decide), if_neg (show ¬ (6 : Int32) = 5 by decide), if_pos rfl], Or.inr h1⟩
  · have e : x = 7 := c.trans (by decide)
    subst e
    conv => whnf
    refine sf_countStates (by omega) hX hb hm hvb hvm (fun f1 h1 => ?_)
    conv => whnf
    exact H _ _ ⟨by unfold cnX; rw [if_neg (show ¬ (7 : Int32) = 0 by decide), if_neg (show ¬ (7 : Int32) = 1 by decide), if_neg (show ¬ (7 : Int32) = 2 by decide), if_neg (show ¬ (7 : Int32) = 3 by decide), if_neg (show ¬ (7 : Int32) = 4 by decide), if_neg (show ¬ (7 : Int32) = 5 by decide), if_neg (show ¬ (7 : Int32) = 6 by decide), if_pos rfl], Or.inr h1⟩
  · obtain ⟨⟨⟨⟨⟨⟨⟨h0, h1⟩, h2⟩, h3⟩, h4⟩, h5⟩, h6⟩, h7⟩ := c
    conv => whnf
    have n0 : ¬ x = 0 := fun e => h0 (e.trans (by decide))
    have n1 : ¬ x = 1 := fun e => h1 (e.trans (by decide))
    have n2 : ¬ x = 2 := fun e => h2 (e.trans (by decide))
    have n3 : ¬ x = 3 := fun e => h3 (e.trans (by decide))
    have n4 : ¬ x = 4 := fun e => h4 (e.trans (by decide))
    have n5 : ¬ x = 5 := fun e => h5 (e.trans (by decide))
    have n6 : ¬ x = 6 := fun e => h6 (e.trans (by decide))
    have n7 : ¬ x = 7 := fun e => h7 (e.trans (by decide))
    exact H _ _ ⟨by unfold cnX; rw [if_neg n0, if_neg n1, if_neg n2, if_neg n3, if_neg n4, if_neg n5, if_neg n6, if_neg n7], Or.inl rfl⟩
set_option maxRecDepth 100000 in
theorem cm_lp {d L n c0 : Nat} {f : Nat → Nat → Int32} {g : Nat → Nat → Int64} {w : Int32} {R : Option Value → mH → Prop} (hd : 1 ≤ d) (hb : f 181 0 = nI n) (hm : n ≤ 40) (hvb : f 181 48 = nI c0) (hvm : c0 ≤ 60) :
    ∀ (k i : Nat) (x a : Int32), i + k = n → x = nI i → R (some (.int (cntl (fun i => (smp f 9999 (nI i) c0).1 = w - 5) k i a))) (shF L, f, g) → WPe pg_X11_count none (Run mtab d) R (m_drop pg_X11_count 24) [some (.ref 181), some (.int w), some (.int a), some (.int x)] [] (shF L, f, g)
  | 0, i, x, a, hi, hx, H => by
    have e : i = n := by omega
    subst hx
    subst e
    refine at_X11_count ?_
    conv => whnf
    simp only [hb]
    refine ⟨fun c => ?_, fun c => absurd (nI_le (Nat.le_refl _) (by omega)) c⟩
    conv => whnf
    exact H
  | k + 1, i, x, a, hi, hx, H => by
    subst hx
    refine at_X11_count ?_
    conv => whnf
    simp only [hb]
    refine ⟨fun c => absurd c (nI_ge (b := n) (by omega) (by omega)), fun c => ?_⟩
    conv => whnf
    (try simp only [hvb])
    refine smf_stateOf (by omega) hvm ?_
    conv => whnf
    refine ⟨fun c1 => ?_, fun c1 => ?_⟩
    · conv => whnf
      exact cm_lp hd hb hm hvb hvm k (i + 1) _ (a + 0) (by omega) (nI_1 i) (by rw [cnt_n (P := (fun i => (smp f 9999 (nI i) c0).1 = w - 5)) (k := k) (i := i) (a := a) (c1)] at H; rw [Int32.add_zero]; exact H)
    · conv => whnf
      exact cm_lp hd hb hm hvb hvm k (i + 1) _ _ (by omega) (nI_1 i) (by rw [cnt_y (P := (fun i => (smp f 9999 (nI i) c0).1 = w - 5)) (k := k) (i := i) (a := a) (c1)] at H; exact H)
set_option maxRecDepth 100000 in
set_option maxHeartbeats 4000000 in
theorem smf_count {d L : Nat} {f : Nat → Nat → Int32} {g : Nat → Nat → Int64} {n c0 : Nat} {x : Int32} {R : Option Value → mH → Prop} (hd : 3 ≤ d) (hb : f 181 0 = nI n) (hm : n ≤ 40) (hvb : f 181 48 = nI c0) (hvm : c0 ≤ 60) (H : ∀ v, SM_count n c0 f x v → R (some (.int v)) (shF L, f, g)) : Run mtab d 235 [.ref 181, .int x] (shF L, f, g) R := by
  obtain ⟨d, rfl⟩ : ∃ e, d = e + 1 := ⟨d - 1, by omega⟩
  refine go_X11_count rfl ?_
  conv => whnf
  refine ⟨fun c => ?_, fun c => ?_, fun c => ?_, fun c => ?_, fun c => ?_, fun c => ?_, fun c => ?_, fun c => ?_, fun c => ?_⟩
  · have e : x = 0 := c.trans (by decide)
    subst e
    conv => whnf
    exact H _ (by unfold SM_count cnM; rw [if_pos rfl])
  · have e : x = 1 := c.trans (by decide)
    subst e
    conv => whnf
    exact H _ (by unfold SM_count cnM; rw [if_neg (show ¬ (1 : Int32) = 0 by decide), if_pos rfl])
  · have e : x = 2 := c.trans (by decide)
    subst e
    conv => whnf
    exact H _ (by unfold SM_count cnM; rw [if_neg (show ¬ (2 : Int32) = 0 by decide), if_neg (show ¬ (2 : Int32) = 1 by decide), if_pos rfl])
  · have e : x = 3 := c.trans (by decide)
    subst e
    conv => whnf
    exact H _ (by unfold SM_count cnM; rw [if_neg (show ¬ (3 : Int32) = 0 by decide), if_neg (show ¬ (3 : Int32) = 1 by decide), if_neg (show ¬ (3 : Int32) = 2 by decide), if_pos rfl])
  · have e : x = 4 := c.trans (by decide)
    subst e
    conv => whnf
    exact H _ (by unfold SM_count cnM; rw [if_neg (show ¬ (4 : Int32) = 0 by decide), if_neg (show ¬ (4 : Int32) = 1 by decide), if_neg (show ¬ (4 : Int32) = 2 by decide), if_neg (show ¬ (4 : Int32) = 3 by decide), if_pos rfl])
  · have e : x = 5 := c.trans (by decide)
    subst e
    conv => whnf
    exact H _ (by unfold SM_count cnM; rw [if_neg (show ¬ (5 : Int32) = 0 by decide), if_neg (show ¬ (5 : Int32) = 1 by decide), if_neg (show ¬ (5 : Int32) = 2 by decide), if_neg (show ¬ (5 : Int32) = 3 by decide), if_neg (show ¬ (5 : Int32) = 4 by decide), if_pos rfl])
  · have e : x = 6 := c.trans (by decide)
    subst e
    conv => whnf
    refine cm_lp (by omega) hb hm hvb hvm n 0 _ _ (by omega) rfl ?_
    exact H _ (by unfold SM_count cnM; rw [if_neg (show ¬ (6 : Int32) = 0 by decide), if_neg (show ¬ (6 : Int32) = 1 by decide), if_neg (show ¬ (6 : Int32) = 2 by decide), if_neg (show ¬ (6 : Int32) = 3 by decide), if_neg (show ¬ (6 : Int32) = 4 by decide), if_neg (show ¬ (6 : Int32) = 5 by decide), if_pos rfl])
  · have e : x = 7 := c.trans (by decide)
    subst e
    conv => whnf
    refine cm_lp (by omega) hb hm hvb hvm n 0 _ _ (by omega) rfl ?_
    exact H _ (by unfold SM_count cnM; rw [if_neg (show ¬ (7 : Int32) = 0 by decide), if_neg (show ¬ (7 : Int32) = 1 by decide), if_neg (show ¬ (7 : Int32) = 2 by decide), if_neg (show ¬ (7 : Int32) = 3 by decide), if_neg (show ¬ (7 : Int32) = 4 by decide), if_neg (show ¬ (7 : Int32) = 5 by decide), if_neg (show ¬ (7 : Int32) = 6 by decide), if_pos rfl])
  · obtain ⟨⟨⟨⟨⟨⟨⟨h0, h1⟩, h2⟩, h3⟩, h4⟩, h5⟩, h6⟩, h7⟩ := c
    conv => whnf
    have n0 : ¬ x = 0 := fun e => h0 (e.trans (by decide))
    have n1 : ¬ x = 1 := fun e => h1 (e.trans (by decide))
    have n2 : ¬ x = 2 := fun e => h2 (e.trans (by decide))
    have n3 : ¬ x = 3 := fun e => h3 (e.trans (by decide))
    have n4 : ¬ x = 4 := fun e => h4 (e.trans (by decide))
    have n5 : ¬ x = 5 := fun e => h5 (e.trans (by decide))
    have n6 : ¬ x = 6 := fun e => h6 (e.trans (by decide))
    have n7 : ¬ x = 7 := fun e => h7 (e.trans (by decide))
    exact H _ (by unfold SM_count cnM; rw [if_neg n0, if_neg n1, if_neg n2, if_neg n3, if_neg n4, if_neg n5, if_neg n6, if_neg n7])
theorem kx_count {n c : Nat} {f f1 : Nat → Nat → Int32} {x v : Int32} (s : SX_count n c f f1 x v) : kp [0] f f1 := by
  rcases s.2 with rfl | h
  · exact kp_refl _ _
  · exact stF_kp h
theorem XI_count {n c : Nat} {f f1 : Nat → Nat → Int32} {x v : Int32} (hX : XI f) (s : SX_count n c f f1 x v) : XI f1 := by
  rcases s.2 with rfl | h
  · exact hX
  · exact stF_XI hX h
theorem fin_count {n h m cc c : Nat} {f f1 : Nat → Nat → Int32} {x v1 v2 : Int32} (hR : RW n f) (hO : RO h f) (hM : RM m f) (hC : RC cc f) (hV : RV c f) (hE : f 168 7 = f 181 50) (s1 : SX_count n c f f1 x v1) (s2 : SM_count n c f1 x v2) : v1 = v2 := by
  have k1 := kx_count s1
  have es : ∀ i, (smp f1 9999 (nI i) c).1 = (stp f 9999 (nI i) c).1 := fun i => by
    rw [smp_kp (fun i => k1 218 i rfl)]
    exact (st_eq hV 9999 (nI i) c (Nat.le_refl _)).1.symm
  rw [s1.1, show v2 = cnM f1 n c x from s2]
  unfold cnX cnM
  by_cases e0 : x = 0
  · rw [if_pos e0, if_pos e0]
    exact hR.2.1.trans ((k1 181 0 rfl).trans hR.2.2.1).symm
  rw [if_neg e0, if_neg e0]
  by_cases e1 : x = 1
  · rw [if_pos e1, if_pos e1]
    exact hO.2.1.trans ((k1 181 14 rfl).trans hO.2.2.1).symm
  rw [if_neg e1, if_neg e1]
  by_cases e2 : x = 2
  · rw [if_pos e2, if_pos e2]
    exact hM.2.1.trans ((k1 181 27 rfl).trans hM.2.2.1).symm
  rw [if_neg e2, if_neg e2]
  by_cases e3 : x = 3
  · rw [if_pos e3, if_pos e3]
    exact hC.2.1.trans ((k1 181 16 rfl).trans hC.2.2.1).symm
  rw [if_neg e3, if_neg e3]
  by_cases e4 : x = 4
  · rw [if_pos e4, if_pos e4]
    exact hV.2.1.trans ((k1 181 48 rfl).trans hV.2.2.1).symm
  rw [if_neg e4, if_neg e4]
  by_cases e5 : x = 5
  · rw [if_pos e5, if_pos e5]
    exact hE.trans (k1 181 50 rfl).symm
  rw [if_neg e5, if_neg e5]
  by_cases e6 : x = 6
  · rw [if_pos e6, if_pos e6]
    subst e6
    exact cntl_eq n (fun i _ => by rw [es i, show (6 : Int32) - 5 = 1 by decide]) n 0 0 (by omega)
  rw [if_neg e6, if_neg e6]
  by_cases e7 : x = 7
  · rw [if_pos e7, if_pos e7]
    subst e7
    exact cntl_eq n (fun i _ => by rw [es i, show (7 : Int32) - 5 = 2 by decide]) n 0 0 (by omega)
  rw [if_neg e7, if_neg e7]
/-- what holds between calls, with the editions told -/
def GE (f : Nat → Nat → Int32) : Prop := GL f ∧ f 168 7 = f 181 50
def oke (l : List Nat) : Bool := !hasN l 7 && !hasN l 17
theorem oke_of {l : List Nat} (h : oke l = true) : hasN l 7 = false ∧ hasN l 17 = false := by
  unfold oke at h
  simp only [Bool.and_eq_true, Bool.not_eq_true'] at h
  exact h
theorem RE_kp {l : List Nat} {f f' : Nat → Nat → Int32} (k : kp l f f') (hl : oke l = true) (h : f 168 7 = f 181 50) : f' 168 7 = f' 181 50 := by
  obtain ⟨l7, l17⟩ := oke_of hl
  rw [k 168 7 (by exact l7), k 181 50 (by exact l17)]
  exact h
theorem GE_x {l : List Nat} {f f' : Nat → Nat → Int32} (h : GE f) (x : XI f') (k : kp l f f') (hl : (okg l && oke l) = true) : GE f' := by
  rw [Bool.and_eq_true] at hl
  exact ⟨GL_x h.1 x k hl.1, RE_kp k hl.2 h.2⟩
theorem GE_j {l l' : List Nat} {f f1 f2 : Nat → Nat → Int32} (h : GE f) (k1 : kp l f f1) (k2 : kp l' f1 f2) (j : GK f2) (hl : (okw l && oke l) = true) (hl' : (okw l' && oke l') = true) : GE f2 := by
  rw [Bool.and_eq_true] at hl hl'
  exact ⟨GL_j h.1 k1 k2 j hl.1 hl'.1, RE_kp k2 hl'.2 (RE_kp k1 hl.2 h.2)⟩
theorem GE_v {f f1 f2 : Nat → Nat → Int32} (h : GE f) (k1 : kp [4] f f1) (k2 : kp [10, 14] f1 f2) (x : XI f2) (r : ∃ v, RV v f2) : GE f2 := ⟨GL_v h.1 k1 k2 x r, RE_kp k2 rfl (RE_kp k1 rfl h.2)⟩
theorem GE_ed {f f1 f2 : Nat → Nat → Int32} (h : GE f) (x1 : XI f1) (k1 : kp [0, 7] f f1) (e1 : EI f1) (q1 : f1 168 7 = edn (f 168 7)) (x2 : XI f2) (k2 : kp [10, 17] f1 f2) (q2 : f2 181 50 = edn (f1 181 50)) : GE f2 := by
  refine ⟨GL_x (GL_xE h.1 x1 k1 e1) x2 k2 rfl, ?_⟩
  rw [k2 168 7 rfl, q1, q2, k1 181 50 rfl, h.2]
theorem GE_ini {f : Nat → Nat → Int32} (hf : ∀ a i, 6 ≤ a → f a i = if a < 227 then inix a i else 0) (h3 : ab3 f) (h2 : ab2 f) : GE f := by
  refine ⟨GL_ini hf h3 h2, ?_⟩
  rw [hf 168 7 (by omega), if_pos (by omega), hf 181 50 (by omega), if_pos (by omega), inix_0 _ (by decide), inix_0 _ (by decide)]
