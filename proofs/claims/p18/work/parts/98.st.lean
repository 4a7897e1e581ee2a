/-! bits -/
theorem and31 {k : Nat} (hk : k < 32) : nI k &&& 31 = nI k := by
  have key : ∀ k : Nat, k < 32 → nI k &&& 31 = nI k := by decide +kernel
  exact key k hk
theorem smod32 {k : Nat} (hk : k < 32) : ((nI k).toBitVec.smod 32).toNat = k := by
  have key : ∀ k : Nat, k < 32 → ((nI k).toBitVec.smod 32).toNat = k := by decide +kernel
  exact key k hk
theorem bit_at (x : Int32) {k : Nat} (hk : k < 32) : ((x >>> (nI k &&& 31)) &&& 1 = 1) ↔ x.toBitVec.getLsbD k = true := by
  rw [and31 hk, ← Int32.toBitVec_inj]
  have e : ((x >>> nI k) &&& 1).toBitVec = (x.toBitVec.sshiftRight k) &&& 1#32 := by
    show (x >>> nI k).toBitVec &&& 1#32 = _
    rw [Int32.toBitVec_shiftRight, BitVec.sshiftRight_eq', smod32 hk]
  rw [e]
  show x.toBitVec.sshiftRight k &&& 1#32 = 1#32 ↔ _
  have g : (x.toBitVec.sshiftRight k).getLsbD 0 = x.toBitVec.getLsbD k := by
    rw [BitVec.getLsbD_sshiftRight]
    simp [hk]
  rw [← g]
  constructor
  · intro h
    have := congrArg (fun b => b.getLsbD 0) h
    simpa [BitVec.getLsbD_and] using this
  · intro h
    apply BitVec.eq_of_getLsbD_eq
    intro i hi
    rw [BitVec.getLsbD_and]
    cases i with
    | zero => rw [h]; rfl
    | succ i =>
      have : (1#32).getLsbD (i + 1) = false := by
        rw [BitVec.getLsbD_one]
        simp
      rw [this, Bool.and_false]
theorem bit_or (a : Int32) {j k : Nat} (hj : j < 32) (hk : k < 32) : (a ||| (1 <<< (nI j &&& 31))).toBitVec.getLsbD k = (a.toBitVec.getLsbD k || decide (k = j)) := by
  have key : ∀ j : Nat, j < 32 → ∀ k : Nat, k < 32 → ((1 : Int32) <<< (nI j &&& 31)).toBitVec.getLsbD k = decide (k = j) := by decide +kernel
  show (a.toBitVec ||| ((1 : Int32) <<< (nI j &&& 31)).toBitVec).getLsbD k = _
  rw [BitVec.getLsbD_or, key j hj k hk]
theorem may_bit {P : Nat → Prop} : ∀ (k i : Nat) (a : Int32), i + k ≤ 32 → ∀ b, b < 32 → ((mayl P (fun m => nI m) k i a).toBitVec.getLsbD b = true ↔ (a.toBitVec.getLsbD b = true ∨ (i ≤ b ∧ b < i + k ∧ P b)))
  | 0, i, a, h, b, hb => ⟨fun z => Or.inl z, fun z => z.elim id (fun w => absurd w.2.1 (by omega))⟩
  | k + 1, i, a, h, b, hb => by
    by_cases q : P i
    · rw [may_y q, may_bit k (i + 1) _ (by omega) b hb, bit_or a (by omega) hb, Bool.or_eq_true, decide_eq_true_eq]
      constructor
      · rintro ((z | z) | ⟨z1, z2, z3⟩)
        · exact Or.inl z
        · subst z
          exact Or.inr ⟨Nat.le_refl _, by omega, q⟩
        · exact Or.inr ⟨by omega, by omega, z3⟩
      · rintro (z | ⟨z1, z2, z3⟩)
        · exact Or.inl (Or.inl z)
        · by_cases e : b = i
          · exact Or.inl (Or.inr e)
          · exact Or.inr ⟨by omega, by omega, z3⟩
    · rw [may_n q, may_bit k (i + 1) _ (by omega) b hb]
      constructor
      · rintro (z | ⟨z1, z2, z3⟩)
        · exact Or.inl z
        · exact Or.inr ⟨by omega, by omega, z3⟩
      · rintro (z | ⟨z1, z2, z3⟩)
        · exact Or.inl z
        · by_cases e : b = i
          · subst e
            exact absurd z3 q
          · exact Or.inr ⟨by omega, by omega, z3⟩
theorem zero_bit (b : Nat) : ¬ (0 : Int32).toBitVec.getLsbD b = true := by
  show ¬ (0#32).getLsbD b = true
  rw [BitVec.getLsbD_zero]
  exact fun z => by cases z
/-- the model's bits: those that count -/
def PMc (f : Nat → Nat → Int32) (v k : Nat) : Prop := ¬ f 199 k = 0 ∧ ¬ (smp f 9999 (f 196 k) v).1 = 2 ∧ ¬ (smp f 9999 (f 197 k) v).1 = 2
theorem bits_P {f : Nat → Nat → Int32} {v c k : Nat} (hc : c ≤ 20) (hk : k < c) : mA_ (mayl (PMc f v) (fun m => nI m) c 0 0) k = true ↔ PMc f v k := by
  unfold mA_
  rw [decide_eq_true_eq, bit_at _ (by omega), may_bit c 0 0 (by omega) k (by omega)]
  exact ⟨fun z => z.elim (fun w => absurd w (zero_bit k)) (fun w => w.2.2), fun z => Or.inr ⟨Nat.zero_le _, by omega, z⟩⟩
set_option maxRecDepth 100000 in
set_option maxHeartbeats 4000000 in
theorem fc_lp {d L c v : Nat} {f : Nat → Nat → Int32} {g : Nat → Nat → Int64} {R : Option Value → mH → Prop} (hd : 1 ≤ d) (hcb : f 181 16 = nI c) (hc : c ≤ 20) (hvb : f 181 48 = nI v) (hv : v ≤ 60) :
    ∀ (k i : Nat) (x a : Int32) (s3 : Option Value), i + k = c → x = nI i → R (some (.int (mayl (PMc f v) (fun m => nI m) k i a))) (shF L, f, g) → WPe pg_X11_findCounting none (Run mtab d) R (m_drop pg_X11_findCounting 4) [some (.ref 181), some (.int a), some (.int x), s3] [] (shF L, f, g)
  | 0, i, x, a, s3, hi, hx, H => by
    have e : i = c := by omega
    subst hx
    subst e
    refine at_X11_findCounting ?_
    conv => whnf
    simp only [hcb]
    refine ⟨fun q => ?_, fun q => absurd (nI_le (Nat.le_refl _) (by omega)) q⟩
    conv => whnf
    exact H
  | k + 1, i, x, a, s3, hi, hx, H => by
    subst hx
    have hcl : (nI i).toNatClampNeg = i := nI_clamp (by omega)
    refine at_X11_findCounting ?_
    conv => whnf
    simp only [hcb]
    refine ⟨fun q => absurd q (nI_ge (b := c) (by omega) (by omega)), fun q => ?_⟩
    conv => whnf
    refine ⟨vp_in_nI (by omega) (by decide), ?_⟩
    conv => whnf
    simp only [hcl]
    refine ⟨fun c1 => ?_, fun c1 => ?_⟩
    · conv => whnf
      (refine ⟨fun z9 => ?_, fun z9 => ?_⟩ <;> first | ((have c9 : (1 : Int32) = 0 := by with_reducible exact z9); exact absurd c9 (by decide)) | exact absurd (rfl : (0 : Int32) = 0) (by with_reducible exact z9) | exact absurd True.intro (by with_reducible exact z9) | exact False.elim (by with_reducible exact z9) | (conv => whnf))
      exact fc_lp hd hcb hc hvb hv k (i + 1) _ _ _ (by omega) (nI_1 i) (by rw [may_n (P := PMc f v) (D := fun m => nI m) (k := k) (i := i) (a := a) (fun z => z.1 c1), ← or_0 a] at H; exact H)
    · conv => whnf
      refine ⟨vp_in_nI (by omega) (by decide), ?_⟩
      conv => whnf
      simp only [hcl, hvb]
      refine smf_stateOf (by omega) hv ?_
      conv => whnf
      refine ⟨fun c2 => ?_, fun c2 => ?_⟩
      · conv => whnf
        (refine ⟨fun z9 => ?_, fun z9 => ?_⟩ <;> first | ((have c9 : (1 : Int32) = 0 := by with_reducible exact z9); exact absurd c9 (by decide)) | exact absurd (rfl : (0 : Int32) = 0) (by with_reducible exact z9) | exact absurd True.intro (by with_reducible exact z9) | exact False.elim (by with_reducible exact z9) | (conv => whnf))
        exact fc_lp hd hcb hc hvb hv k (i + 1) _ _ _ (by omega) (nI_1 i) (by rw [may_n (P := PMc f v) (D := fun m => nI m) (k := k) (i := i) (a := a) (fun z => z.2.1 c2), ← or_0 a] at H; exact H)
      · conv => whnf
        refine ⟨vp_in_nI (by omega) (by decide), ?_⟩
        conv => whnf
        simp only [hcl, hvb]
        refine smf_stateOf (by omega) hv ?_
        conv => whnf
        refine ⟨fun c3 => ?_, fun c3 => ?_⟩
        · conv => whnf
          (refine ⟨fun z9 => ?_, fun z9 => ?_⟩ <;> first | ((have c9 : (1 : Int32) = 0 := by with_reducible exact z9); exact absurd c9 (by decide)) | exact absurd (rfl : (0 : Int32) = 0) (by with_reducible exact z9) | exact absurd True.intro (by with_reducible exact z9) | exact False.elim (by with_reducible exact z9) | (conv => whnf))
          exact fc_lp hd hcb hc hvb hv k (i + 1) _ _ _ (by omega) (nI_1 i) (by rw [may_n (P := PMc f v) (D := fun m => nI m) (k := k) (i := i) (a := a) (fun z => z.2.2 c3), ← or_0 a] at H; exact H)
        · conv => whnf
          (refine ⟨fun z9 => ?_, fun z9 => ?_⟩ <;> first | ((have c9 : (1 : Int32) = 0 := by with_reducible exact z9); exact absurd c9 (by decide)) | exact absurd (rfl : (0 : Int32) = 0) (by with_reducible exact z9) | exact absurd True.intro (by with_reducible exact z9) | exact False.elim (by with_reducible exact z9) | (conv => whnf))
          exact fc_lp hd hcb hc hvb hv k (i + 1) _ _ _ (by omega) (nI_1 i) (by rw [may_y (P := PMc f v) (D := fun m => nI m) (k := k) (i := i) (a := a) (⟨c1, c2, c3⟩)] at H; exact H)
set_option maxRecDepth 100000 in
set_option maxHeartbeats 4000000 in
theorem smf_findCounting {d L : Nat} {f : Nat → Nat → Int32} {g : Nat → Nat → Int64} {c v : Nat} {R : Option Value → mH → Prop} (hd : 2 ≤ d) (hcb : f 181 16 = nI c) (hc : c ≤ 20) (hvb : f 181 48 = nI v) (hv : v ≤ 60) (H : R (some (.int (mayl (PMc f v) (fun m => nI m) c 0 0))) (shF L, f, g)) : Run mtab d 178 [.ref 181] (shF L, f, g) R := by
  obtain ⟨d, rfl⟩ : ∃ e, d = e + 1 := ⟨d - 1, by omega⟩
  refine go_X11_findCounting rfl ?_
  conv => whnf
  exact fc_lp (by omega) hcb hc hvb hv c 0 _ _ _ (by omega) rfl H
/-- the class's list, over the first i clues -/
def PCc (f : Nat → Nat → Int32) (k : Nat) : Prop := ¬ f 133 k = 0 ∧ ¬ f 127 (f 130 k).toNatClampNeg = 2 ∧ ¬ f 127 (f 131 k).toNatClampNeg = 2
def lst (f0 f : Nat → Nat → Int32) (i m : Nat) (q : Nat → Nat) : Prop := m ≤ i ∧ f 129 11 = nI m ∧ (∀ j, j < m → f 136 j = nI (q j) ∧ q j < i ∧ PCc f0 (q j)) ∧ (∀ k, k < i → PCc f0 k → ∃ j, j < m ∧ q j = k) ∧ (∀ j j', j < j' → j' < m → q j < q j') ∧ (∀ a b, ¬ (a = 129 ∧ b = 11) → ¬ a = 136 → f a b = f0 a b) ∧ ∀ j, inr 0 19 (f 136 j)
theorem lst_no {f0 f : Nat → Nat → Int32} {i m : Nat} {q : Nat → Nat} (h : lst f0 f i m q) (hn : ¬ PCc f0 i) : lst f0 f (i + 1) m q := by
  obtain ⟨a, b, c, d, e, g, w⟩ := h
  refine ⟨by omega, b, fun j hj => ⟨(c j hj).1, by have := (c j hj).2.1; omega, (c j hj).2.2⟩, fun k hk hp => ?_, e, g, w⟩
  by_cases z : k = i
  · subst z
    exact absurd hp hn
  · exact d k (by omega) hp
theorem lst_yes {f0 f : Nat → Nat → Int32} {i m : Nat} {q : Nat → Nat} (h : lst f0 f i m q) (hp : PCc f0 i) (hi : i < 20) : lst f0 (m_ui (m_ui f 136 m (nI i)) 129 11 (nI (m + 1))) (i + 1) (m + 1) (fun j => if j = m then i else q j) := by
  obtain ⟨a, b, c, d, e, g, w⟩ := h
  refine ⟨by omega, m_ui_s, fun j hj => ?_, fun k hk hk2 => ?_, fun j j' h1 h2 => ?_, fun x y h1 h2 => ?_, fun j => ?_⟩
  · rw [m_ui_o (by omega)]
    by_cases z : j = m
    · subst z
      have eq : (fun j1 => if j1 = j then i else q j1) j = i := if_pos rfl
      rw [m_ui_s, eq]
      exact ⟨rfl, by omega, hp⟩
    · have eq : (fun j1 => if j1 = m then i else q j1) j = q j := if_neg z
      rw [m_ui_o (by omega), eq]
      have := c j (by omega)
      exact ⟨this.1, by omega, this.2.2⟩
  · by_cases z : k = i
    · exact ⟨m, by omega, (show (if m = m then i else q m) = k by rw [if_pos rfl]; exact z.symm)⟩
    · obtain ⟨j, hj, ej⟩ := d k (by omega) hk2
      exact ⟨j, by omega, (show (if j = m then i else q j) = k by rw [if_neg (by omega)]; exact ej)⟩
  · show (if j = m then i else q j) < (if j' = m then i else q j')
    rw [if_neg (by omega)]
    by_cases z : j' = m
    · rw [if_pos z]
      exact (c j (by omega)).2.1
    · rw [if_neg z]
      exact e j j' h1 (by omega)
  · rw [m_ui_o (by omega), m_ui_o (by omega)]
    exact g x y h1 h2
  · rw [m_ui_o (by omega)]
    by_cases z : j = m
    · subst z
      rw [m_ui_s]
      exact inr_n (m := 19) (by omega) rfl (by decide)
    · rw [m_ui_o (by omega)]
      exact w j
