/-- the tape up to its length -/
def tk (f : Nat → Nat → Int32) (a m : Nat) : Nat → Int32 := fun j => if j < m then f a j else 0
theorem tk_at {f : Nat → Nat → Int32} {a m j : Nat} (h : j < m) : tk f a m j = f a j := if_pos h
def skl (T : Nat → Int32) : Nat → Nat → Nat
  | 0, p => p
  | k + 1, p => if T p = 32 then skl T k (p + 1) else p
def sk (T : Nat → Int32) (m p : Nat) : Nat := skl T (m - p) p
theorem skl_le (T : Nat → Int32) : ∀ k p, p ≤ skl T k p ∧ skl T k p ≤ p + k
  | 0, p => ⟨Nat.le_refl _, Nat.le_refl _⟩
  | k + 1, p => by
    have ih := skl_le T k (p + 1)
    show p ≤ (if T p = 32 then skl T k (p + 1) else p) ∧ (if T p = 32 then skl T k (p + 1) else p) ≤ p + (k + 1)
    by_cases h : T p = 32
    · rw [if_pos h]
      omega
    · rw [if_neg h]
      omega
theorem skl_nb (T : Nat → Int32) : ∀ k p, skl T k p < p + k → ¬ T (skl T k p) = 32
  | 0, p, h => absurd h (by show ¬ p < p + 0; omega)
  | k + 1, p, h => by
    have ih := skl_nb T k (p + 1)
    by_cases q : T p = 32
    · have e : skl T (k + 1) p = skl T k (p + 1) := if_pos q
      rw [e] at h ⊢
      exact ih (by omega)
    · have e : skl T (k + 1) p = p := if_neg q
      rw [e]
      exact q
theorem sk_le {T : Nat → Int32} {m p : Nat} (h : p ≤ m) : p ≤ sk T m p ∧ sk T m p ≤ m := by
  have := skl_le T (m - p) p
  unfold sk
  omega
theorem sk_nb {T : Nat → Int32} {m p : Nat} (h : p ≤ m) (hl : sk T m p < m) : ¬ T (sk T m p) = 32 := skl_nb T (m - p) p (by unfold sk at hl; omega)
theorem sk_id {T : Nat → Int32} {m r : Nat} (h : r < m → ¬ T r = 32) : sk T m r = r := by
  unfold sk
  cases hk : m - r with
  | zero => rfl
  | succ k => exact if_neg (h (by omega))
def nvl (F : Int32 → Int32 → Int32) (T : Nat → Int32) : Nat → Nat → Int32 → Int32
  | 0, _, a => a
  | k + 1, p, a => if 48 ≤ T p ∧ T p ≤ 57 then nvl F T k (p + 1) (F a (T p)) else a
def nel (T : Nat → Int32) : Nat → Nat → Nat
  | 0, p => p
  | k + 1, p => if 48 ≤ T p ∧ T p ≤ 57 then nel T k (p + 1) else p
theorem nel_le (T : Nat → Int32) : ∀ k p, p ≤ nel T k p ∧ nel T k p ≤ p + k
  | 0, p => ⟨Nat.le_refl _, Nat.le_refl _⟩
  | k + 1, p => by
    have ih := nel_le T k (p + 1)
    show p ≤ (if 48 ≤ T p ∧ T p ≤ 57 then nel T k (p + 1) else p) ∧ (if 48 ≤ T p ∧ T p ≤ 57 then nel T k (p + 1) else p) ≤ p + (k + 1)
    by_cases h : 48 ≤ T p ∧ T p ≤ 57
    · rw [if_pos h]
      omega
    · rw [if_neg h]
      omega
def Fc (a c : Int32) : Int32 := mn (10 * a + c - 48) 99
def Fm (hi a c : Int32) : Int32 := if a ≤ hi then 10 * a + c - 48 else a
theorem dg_int {a c : Int32} (h1 : 0 ≤ a.toInt) (h2 : a.toInt ≤ 99) (h3 : 48 ≤ c.toInt) (h4 : c.toInt ≤ 57) : (10 * a + c - 48).toInt = 10 * a.toInt + c.toInt - 48 := by
  have e10 : (10 : Int32).toInt = 10 := rfl
  have e48 : (48 : Int32).toInt = 48 := rfl
  have m : (10 * a).toInt = 10 * a.toInt := by
    rw [Int32.toInt_mul, e10]
    exact Int.bmod_eq_of_le (by omega) (by omega)
  have s : (10 * a + c).toInt = 10 * a.toInt + c.toInt := by
    rw [Int32.toInt_add, m]
    exact Int.bmod_eq_of_le (by omega) (by omega)
  rw [Int32.toInt_sub, s, e48]
  exact Int.bmod_eq_of_le (by omega) (by omega)
def nrel (hi a b : Int32) : Prop := (a = b ∧ 0 ≤ b.toInt ∧ b.toInt ≤ hi.toInt) ∨ (hi.toInt < a.toInt ∧ hi.toInt < b.toInt ∧ a.toInt ≤ 99)
theorem nrel_step {hi a b c : Int32} (h8 : 8 ≤ hi.toInt) (h9 : hi.toInt ≤ 9) (hc : 48 ≤ c ∧ c ≤ 57) (h : nrel hi a b) : nrel hi (Fc a c) (Fm hi b c) := by
  have c1 : 48 ≤ c.toInt := Int32.le_iff_toInt_le.mp hc.1
  have c2 : c.toInt ≤ 57 := Int32.le_iff_toInt_le.mp hc.2
  have e99 : (99 : Int32).toInt = 99 := rfl
  unfold Fc Fm mn
  rcases h with ⟨rfl, h1, h2⟩ | ⟨h1, h2, h3⟩
  · have e := dg_int (a := a) (c := c) h1 (by omega) c1 c2
    have q : ¬ (99 : Int32) < 10 * a + c - 48 := by
      rw [Int32.lt_iff_toInt_lt, e, e99]
      omega
    have q2 : a ≤ hi := Int32.le_iff_toInt_le.mpr h2
    rw [if_neg q, if_pos q2]
    by_cases z : (10 * a + c - 48).toInt ≤ hi.toInt
    · exact Or.inl ⟨rfl, by rw [e]; omega, z⟩
    · exact Or.inr ⟨by omega, by omega, by rw [e]; omega⟩
  · have e := dg_int (a := a) (c := c) (by omega) h3 c1 c2
    have q2 : ¬ b ≤ hi := by
      rw [Int32.le_iff_toInt_le]
      omega
    rw [if_neg q2]
    refine Or.inr ?_
    by_cases q : (99 : Int32) < 10 * a + c - 48
    · rw [if_pos q, e99]
      omega
    · rw [if_neg q]
      have q3 : ¬ (99 : Int32).toInt < (10 * a + c - 48).toInt := fun z => q (Int32.lt_iff_toInt_lt.mpr z)
      rw [e, e99] at q3
      rw [e]
      omega
theorem nvl_rel {hi : Int32} {T : Nat → Int32} (h8 : 8 ≤ hi.toInt) (h9 : hi.toInt ≤ 9) : ∀ k p a b, nrel hi a b → nrel hi (nvl Fc T k p a) (nvl (Fm hi) T k p b)
  | 0, _, _, _, h => h
  | k + 1, p, a, b, h => by
    by_cases q : 48 ≤ T p ∧ T p ≤ 57
    · have e1 : nvl Fc T (k + 1) p a = nvl Fc T k (p + 1) (Fc a (T p)) := if_pos q
      have e2 : nvl (Fm hi) T (k + 1) p b = nvl (Fm hi) T k (p + 1) (Fm hi b (T p)) := if_pos q
      rw [e1, e2]
      exact nvl_rel h8 h9 k (p + 1) _ _ (nrel_step h8 h9 q h)
    · have e1 : nvl Fc T (k + 1) p a = a := if_neg q
      have e2 : nvl (Fm hi) T (k + 1) p b = b := if_neg q
      rw [e1, e2]
      exact h
theorem nrel_in {hi lo a b : Int32} (h : nrel hi a b) : ((lo ≤ a ∧ a ≤ hi) ↔ (lo ≤ b ∧ b ≤ hi)) ∧ ((lo ≤ b ∧ b ≤ hi) → a = b) := by
  rcases h with ⟨rfl, _, _⟩ | ⟨h1, h2, _⟩
  · exact ⟨Iff.rfl, fun _ => rfl⟩
  · have na : ¬ a ≤ hi := by
      rw [Int32.le_iff_toInt_le]
      omega
    have nb : ¬ b ≤ hi := by
      rw [Int32.le_iff_toInt_le]
      omega
    exact ⟨⟨fun z => absurd z.2 na, fun z => absurd z.2 nb⟩, fun z => absurd z.2 nb⟩
theorem nrel_0 {hi : Int32} (h8 : 8 ≤ hi.toInt) : nrel hi 0 0 := Or.inl ⟨rfl, by decide, by
  have e0 : (0 : Int32).toInt = 0 := rfl
  omega⟩
theorem let_cases (x : Int32) : m_let x = -1 ∨ m_let x = 0 ∨ m_let x = 1 ∨ m_let x = 2 ∨ m_let x = 3 := by
  unfold m_let
  by_cases h1 : x = 112
  · rw [if_pos h1]; exact Or.inr (Or.inl rfl)
  · rw [if_neg h1]
    by_cases h2 : x = 118
    · rw [if_pos h2]; exact Or.inr (Or.inr (Or.inl rfl))
    · rw [if_neg h2]
      by_cases h3 : x = 100
      · rw [if_pos h3]; exact Or.inr (Or.inr (Or.inr (Or.inl rfl)))
      · rw [if_neg h3]
        by_cases h4 : x = 114
        · rw [if_pos h4]; exact Or.inr (Or.inr (Or.inr (Or.inr rfl)))
        · rw [if_neg h4]; exact Or.inl rfl
/-! the spec: it stops at the first fault -/
def sgS (T : Nat → Int32) (m : Nat) (c : Int32) (p : Nat) : Except Nat Nat := if sk T m p < m ∧ T (sk T m p) = c then .ok (sk T m p + 1) else .error (sk T m p)
def nvS (T : Nat → Int32) (m : Nat) (hi : Int32) (p : Nat) : Int32 := nvl (Fm hi) T (m - sk T m p) (sk T m p) 0
def neS (T : Nat → Int32) (m : Nat) (p : Nat) : Nat := nel T (m - sk T m p) (sk T m p)
def nmS (T : Nat → Int32) (m : Nat) (lo hi : Int32) (p : Nat) : Except Nat (Int32 × Nat) := if lo ≤ nvS T m hi p ∧ nvS T m hi p ≤ hi then .ok (nvS T m hi p, neS T m p) else .error (sk T m p)
def kdS (T : Nat → Int32) (m p : Nat) : Except Nat (Int32 × Nat) := if sk T m p < m ∧ ¬ m_let (T (sk T m p)) = -1 then .ok (m_let (T (sk T m p)), sk T m p + 1) else .error (sk T m p)
def clS (T : Nat → Int32) (m p : Nat) : Except Nat (Int32 × Int32 × Int32 × Int32 × Nat) := match kdS T m p with
  | .error r => .error r
  | .ok (k, p1) => match nmS T m 1 8 p1 with
    | .error r => .error r
    | .ok (n1, p2) => match sgS T m 44 p2 with
      | .error r => .error r
      | .ok p3 => match nmS T m 1 9 p3 with
        | .error r => .error r
        | .ok (n2, p4) => match sgS T m 47 p4 with
          | .error r => .error r
          | .ok p5 => match nmS T m n2 9 p5 with
            | .error r => .error r
            | .ok (n3, p6) => .ok (k, n1, n2, n3, p6)
def updS (S : Nat → Nat → Int32) (k : Nat) (a b c : Int32) : Nat → Nat → Int32 := fun k' t => if k' = k then (if t = 0 then a else if t = 1 then b else c) else S k' t
def alS (T : Nat → Int32) (m : Nat) : Nat → Nat → Nat → (Nat → Nat → Int32) → Except Nat (Nat × (Nat → Nat → Int32))
  | 0, _, p, _ => .error p
  | k + 1, n, p, S => match clS T m p with
    | .error r => .error r
    | .ok (kd, a, b, c, p') => if sk T m p' < m then (if T (sk T m p') = 59 ∧ ¬ k = 0 then alS T m k (n + 1) (sk T m p' + 1) (updS S kd.toNatClampNeg a b c) else .error (sk T m p')) else .ok (n + 1, updS S kd.toNatClampNeg a b c)
/-! the class: it goes on behind a fault, q is the first one -/
def bl (q x : Int32) : Int32 := if q = -1 then x else q
theorem bl_n {q x : Int32} (h : ¬ q = -1) : bl q x = q := if_neg h
theorem bl_1 {x : Int32} : bl (-1) x = x := if_pos rfl
def sgC (T : Nat → Int32) (m : Nat) (c : Int32) (p : Nat) (q : Int32) : Nat × Int32 := if sk T m p < m ∧ T (sk T m p) = c then (sk T m p + 1, q) else (sk T m p, bl q (nI (sk T m p)))
def nvC (T : Nat → Int32) (m p : Nat) : Int32 := nvl Fc T (m - sk T m p) (sk T m p) 0
def nmC (T : Nat → Int32) (m : Nat) (lo hi : Int32) (p : Nat) (q : Int32) : Int32 × Nat × Int32 := (nvC T m p, neS T m p, if lo ≤ nvC T m p ∧ nvC T m p ≤ hi then q else bl q (nI (sk T m p)))
def kdC (T : Nat → Int32) (m p : Nat) (q : Int32) : Int32 × Nat × Int32 := if sk T m p < m ∧ ¬ m_let (T (sk T m p)) = -1 then (m_let (T (sk T m p)), sk T m p + 1, q) else (-1, sk T m p, bl q (nI (sk T m p)))
def c2 (T : Nat → Int32) (m p : Nat) (q : Int32) := nmC T m 1 8 (kdC T m p q).2.1 (kdC T m p q).2.2
def c3 (T : Nat → Int32) (m p : Nat) (q : Int32) := sgC T m 44 (c2 T m p q).2.1 (c2 T m p q).2.2
def c4 (T : Nat → Int32) (m p : Nat) (q : Int32) := nmC T m 1 9 (c3 T m p q).1 (c3 T m p q).2
def c5 (T : Nat → Int32) (m p : Nat) (q : Int32) := sgC T m 47 (c4 T m p q).2.1 (c4 T m p q).2.2
def c6 (T : Nat → Int32) (m p : Nat) (q : Int32) := nmC T m (c4 T m p q).1 9 (c5 T m p q).1 (c5 T m p q).2
def sC (T : Nat → Int32) (m p : Nat) (q : Int32) (S : Nat → Nat → Int32) : Nat → Nat → Int32 := if (kdC T m p q).1 < 0 then S else updS S (kdC T m p q).1.toNatClampNeg (c2 T m p q).1 (c4 T m p q).1 (c6 T m p q).1
def clsC (T : Nat → Int32) (m : Nat) : Nat → Nat → Nat → Int32 → (Nat → Nat → Int32) → Int32 × Int32 × (Nat → Nat → Int32)
  | 0, _, _, q, S => (4, q, S)
  | k + 1, i, p, q, S => if ¬ (c6 T m p q).2.2 = -1 ∨ sk T m (c6 T m p q).2.1 = m then (nI i, (c6 T m p q).2.2, sC T m p q S) else clsC T m k (i + 1) (sgC T m 59 (sk T m (c6 T m p q).2.1) (if i = 4 then bl (c6 T m p q).2.2 (nI (sk T m (c6 T m p q).2.1)) else (c6 T m p q).2.2)).1 (sgC T m 59 (sk T m (c6 T m p q).2.1) (if i = 4 then bl (c6 T m p q).2.2 (nI (sk T m (c6 T m p q).2.1)) else (c6 T m p q).2.2)).2 (sC T m p q S)
/-! places stay on the tape -/
theorem sgC_le {T : Nat → Int32} {m p : Nat} {c q : Int32} (h : p ≤ m) : (sgC T m c p q).1 ≤ m := by
  have := sk_le (T := T) h
  unfold sgC
  by_cases z : sk T m p < m ∧ T (sk T m p) = c
  · rw [if_pos z]
    exact z.1
  · rw [if_neg z]
    exact this.2
theorem kdC_le {T : Nat → Int32} {m p : Nat} {q : Int32} (h : p ≤ m) : (kdC T m p q).2.1 ≤ m := by
  have := sk_le (T := T) h
  unfold kdC
  by_cases z : sk T m p < m ∧ ¬ m_let (T (sk T m p)) = -1
  · rw [if_pos z]
    exact z.1
  · rw [if_neg z]
    exact this.2
theorem neS_le {T : Nat → Int32} {m p : Nat} (h : p ≤ m) : neS T m p ≤ m := by
  have h1 := sk_le (T := T) h
  have h2 := nel_le T (m - sk T m p) (sk T m p)
  unfold neS
  omega
theorem nmC_le {T : Nat → Int32} {m p : Nat} {lo hi q : Int32} (h : p ≤ m) : (nmC T m lo hi p q).2.1 ≤ m := neS_le h
/-! behind a fault it stays -/
theorem sgC_q {T : Nat → Int32} {m p : Nat} {c q : Int32} (h : ¬ q = -1) : (sgC T m c p q).2 = q := by
  unfold sgC
  by_cases z : sk T m p < m ∧ T (sk T m p) = c
  · rw [if_pos z]
  · rw [if_neg z]
    exact bl_n h
theorem nmC_q {T : Nat → Int32} {m p : Nat} {lo hi q : Int32} (h : ¬ q = -1) : (nmC T m lo hi p q).2.2 = q := by
  show (if lo ≤ nvC T m p ∧ nvC T m p ≤ hi then q else bl q (nI (sk T m p))) = q
  by_cases z : lo ≤ nvC T m p ∧ nvC T m p ≤ hi
  · rw [if_pos z]
  · rw [if_neg z]
    exact bl_n h
theorem c3_q {T : Nat → Int32} {m p : Nat} {q x : Int32} (h : (c2 T m p q).2.2 = x) (hx : ¬ x = -1) : (c3 T m p q).2 = x := by
  unfold c3
  rw [h]
  exact sgC_q hx
theorem c4_q {T : Nat → Int32} {m p : Nat} {q x : Int32} (h : (c3 T m p q).2 = x) (hx : ¬ x = -1) : (c4 T m p q).2.2 = x := by
  unfold c4
  rw [h]
  exact nmC_q hx
theorem c5_q {T : Nat → Int32} {m p : Nat} {q x : Int32} (h : (c4 T m p q).2.2 = x) (hx : ¬ x = -1) : (c5 T m p q).2 = x := by
  unfold c5
  rw [h]
  exact sgC_q hx
theorem c6_q {T : Nat → Int32} {m p : Nat} {q x : Int32} (h : (c5 T m p q).2 = x) (hx : ¬ x = -1) : (c6 T m p q).2.2 = x := by
  unfold c6
  rw [h]
  exact nmC_q hx
theorem c2_q {T : Nat → Int32} {m p : Nat} {q x : Int32} (h : (kdC T m p q).2.2 = x) (hx : ¬ x = -1) : (c2 T m p q).2.2 = x := by
  unfold c2
  rw [h]
  exact nmC_q hx
theorem kdC_q {T : Nat → Int32} {m p : Nat} {q : Int32} (h : ¬ q = -1) : (kdC T m p q).2.2 = q := by
  unfold kdC
  by_cases z : sk T m p < m ∧ ¬ m_let (T (sk T m p)) = -1
  · rw [if_pos z]
  · rw [if_neg z]
    exact bl_n h
theorem cl_q {T : Nat → Int32} {m p : Nat} {q : Int32} (h : ¬ q = -1) : (c6 T m p q).2.2 = q := c6_q (c5_q (c4_q (c3_q (c2_q (kdC_q h) h) h) h) h) h
theorem clsC_q {T : Nat → Int32} {m : Nat} {q : Int32} (h : ¬ q = -1) : ∀ (k i p : Nat) (S : Nat → Nat → Int32), (clsC T m k i p q S).2.1 = q
  | 0, _, _, _ => rfl
  | k + 1, i, p, S => by
    have e := cl_q (T := T) (m := m) (p := p) h
    show (if ¬ (c6 T m p q).2.2 = -1 ∨ sk T m (c6 T m p q).2.1 = m then _ else _ : Int32 × Int32 × (Nat → Nat → Int32)).2.1 = q
    rw [if_pos (Or.inl (by rw [e]; exact h))]
    exact e
theorem nI_n1 {r : Nat} (h : r ≤ 50) : ¬ nI r = -1 := fun e => by
  have := congrArg Int32.toInt e
  rw [nI_toInt (by omega)] at this
  have e1 : (-1 : Int32).toInt = -1 := rfl
  omega
/-! both, without a fault before -/
theorem sg_o {T : Nat → Int32} {m p p1 : Nat} {c q : Int32} (h : p ≤ m) (e : sgS T m c p = .ok p1) : sgC T m c p q = (p1, q) ∧ p1 ≤ m := by
  unfold sgS at e
  by_cases z : sk T m p < m ∧ T (sk T m p) = c
  · rw [if_pos z] at e
    cases e
    unfold sgC
    rw [if_pos z]
    exact ⟨rfl, z.1⟩
  · rw [if_neg z] at e
    cases e
theorem sg_e {T : Nat → Int32} {m p r : Nat} {c q : Int32} (h : p ≤ m) (e : sgS T m c p = .error r) : (sgC T m c p q).2 = bl q (nI r) ∧ r ≤ m := by
  have hs := sk_le (T := T) h
  unfold sgS at e
  by_cases z : sk T m p < m ∧ T (sk T m p) = c
  · rw [if_pos z] at e
    cases e
  · rw [if_neg z] at e
    cases e
    unfold sgC
    rw [if_neg z]
    exact ⟨rfl, hs.2⟩
theorem kd_o {T : Nat → Int32} {m p p1 : Nat} {k q : Int32} (h : p ≤ m) (e : kdS T m p = .ok (k, p1)) : kdC T m p q = (k, p1, q) ∧ p1 ≤ m ∧ ¬ k = -1 := by
  unfold kdS at e
  by_cases z : sk T m p < m ∧ ¬ m_let (T (sk T m p)) = -1
  · rw [if_pos z] at e
    cases e
    unfold kdC
    rw [if_pos z]
    exact ⟨rfl, z.1, z.2⟩
  · rw [if_neg z] at e
    cases e
theorem kd_e {T : Nat → Int32} {m p r : Nat} {q : Int32} (h : p ≤ m) (e : kdS T m p = .error r) : (kdC T m p q).2.2 = bl q (nI r) ∧ r ≤ m := by
  have hs := sk_le (T := T) h
  unfold kdS at e
  by_cases z : sk T m p < m ∧ ¬ m_let (T (sk T m p)) = -1
  · rw [if_pos z] at e
    cases e
  · rw [if_neg z] at e
    cases e
    unfold kdC
    rw [if_neg z]
    exact ⟨rfl, hs.2⟩
theorem nm_rel {T : Nat → Int32} {m p : Nat} {hi : Int32} (h8 : 8 ≤ hi.toInt) (h9 : hi.toInt ≤ 9) : nrel hi (nvC T m p) (nvS T m hi p) := nvl_rel h8 h9 _ _ _ _ (nrel_0 h8)
theorem nm_o {T : Nat → Int32} {m p p1 : Nat} {lo hi v q : Int32} (h8 : 8 ≤ hi.toInt) (h9 : hi.toInt ≤ 9) (h : p ≤ m) (e : nmS T m lo hi p = .ok (v, p1)) : nmC T m lo hi p q = (v, p1, q) ∧ p1 ≤ m ∧ lo ≤ v ∧ v ≤ hi := by
  have hr := nrel_in (lo := lo) (nm_rel (T := T) (m := m) (p := p) h8 h9)
  have hl := neS_le (T := T) h
  unfold nmS at e
  by_cases z : lo ≤ nvS T m hi p ∧ nvS T m hi p ≤ hi
  · rw [if_pos z] at e
    cases e
    refine ⟨?_, hl, z⟩
    show (nvC T m p, neS T m p, if lo ≤ nvC T m p ∧ nvC T m p ≤ hi then q else bl q (nI (sk T m p))) = _
    rw [if_pos (hr.1.mpr z), hr.2 z]
  · rw [if_neg z] at e
    cases e
theorem nm_er {T : Nat → Int32} {m p r : Nat} {lo hi q : Int32} (h8 : 8 ≤ hi.toInt) (h9 : hi.toInt ≤ 9) (h : p ≤ m) (e : nmS T m lo hi p = .error r) : (nmC T m lo hi p q).2.2 = bl q (nI r) ∧ r ≤ m := by
  have hr := nrel_in (lo := lo) (nm_rel (T := T) (m := m) (p := p) h8 h9)
  have hs := sk_le (T := T) h
  unfold nmS at e
  by_cases z : lo ≤ nvS T m hi p ∧ nvS T m hi p ≤ hi
  · rw [if_pos z] at e
    cases e
  · rw [if_neg z] at e
    cases e
    refine ⟨?_, hs.2⟩
    show (if lo ≤ nvC T m p ∧ nvC T m p ≤ hi then q else bl q (nI (sk T m p))) = _
    rw [if_neg (fun w => z (hr.1.mp w))]
theorem let_pos {x : Int32} (h : ¬ m_let x = -1) : ¬ m_let x < 0 := by
  rcases let_cases x with e | e | e | e | e
  · exact absurd e h
  all_goals rw [e]; decide
/-- a clause, both -/
theorem cl_both {T : Nat → Int32} {m p : Nat} {S : Nat → Nat → Int32} (hm : m ≤ 50) (h : p ≤ m) :
    (∀ r, clS T m p = .error r → r ≤ m ∧ (c6 T m p (-1)).2.2 = nI r) ∧ (∀ k a b c p', clS T m p = .ok (k, a, b, c, p') → p' ≤ m ∧ (c6 T m p (-1)).2.1 = p' ∧ (c6 T m p (-1)).2.2 = -1 ∧ sC T m p (-1) S = updS S k.toNatClampNeg a b c ∧ 1 ≤ a ∧ a ≤ 8) := by
  have e8 : (8 : Int32).toInt = 8 := rfl
  have e9 : (9 : Int32).toInt = 9 := rfl
  unfold clS
  cases h1 : kdS T m p with
  | error r1 =>
    obtain ⟨x1, y1⟩ := kd_e (q := -1) h h1
    rw [bl_1] at x1
    (try dsimp only)
    refine ⟨fun r e => ?_, fun k a b c p' e => by cases e⟩
    cases e
    have n1 := nI_n1 (r := r1) (by omega)
    exact ⟨y1, c6_q (c5_q (c4_q (c3_q (c2_q x1 n1) n1) n1) n1) n1⟩
  | ok v1 =>
    obtain ⟨k, p1⟩ := v1
    obtain ⟨x1, y1, z1⟩ := kd_o (q := -1) h h1
    have hk : kdS T m p = .ok (m_let (T (sk T m p)), sk T m p + 1) := by
      unfold kdS at h1 ⊢
      by_cases z : sk T m p < m ∧ ¬ m_let (T (sk T m p)) = -1
      · rw [if_pos z]
      · rw [if_neg z] at h1
        cases h1
    have hkp : ¬ k < 0 := by
      rw [hk] at h1
      cases h1
      exact let_pos z1
    have E2 : c2 T m p (-1) = nmC T m 1 8 p1 (-1) := by
      unfold c2
      rw [x1]
    dsimp only
    cases h2 : nmS T m 1 8 p1 with
    | error r2 =>
      obtain ⟨x2, y2⟩ := nm_er (q := -1) (by omega) (by omega) y1 h2
      rw [bl_1, ← E2] at x2
      (try dsimp only)
      refine ⟨fun r e => ?_, fun k a b c p' e => by cases e⟩
      cases e
      have n1 := nI_n1 (r := r2) (by omega)
      exact ⟨y2, c6_q (c5_q (c4_q (c3_q x2 n1) n1) n1) n1⟩
    | ok v2 =>
      obtain ⟨n1, p2⟩ := v2
      obtain ⟨x2, y2, z2⟩ := nm_o (q := -1) (by omega) (by omega) y1 h2
      rw [← E2] at x2
      have E3 : c3 T m p (-1) = sgC T m 44 p2 (-1) := by
        unfold c3
        rw [x2]
      dsimp only
      cases h3 : sgS T m 44 p2 with
      | error r3 =>
        obtain ⟨x3, y3⟩ := sg_e (q := -1) y2 h3
        rw [bl_1, ← E3] at x3
        (try dsimp only)
        refine ⟨fun r e => ?_, fun k a b c p' e => by cases e⟩
        cases e
        have n1 := nI_n1 (r := r3) (by omega)
        exact ⟨y3, c6_q (c5_q (c4_q x3 n1) n1) n1⟩
      | ok p3 =>
        obtain ⟨x3, y3⟩ := sg_o (q := -1) y2 h3
        rw [← E3] at x3
        have E4 : c4 T m p (-1) = nmC T m 1 9 p3 (-1) := by
          unfold c4
          rw [x3]
        dsimp only
        cases h4 : nmS T m 1 9 p3 with
        | error r4 =>
          obtain ⟨x4, y4⟩ := nm_er (q := -1) (by omega) (by omega) y3 h4
          rw [bl_1, ← E4] at x4
          (try dsimp only)
          refine ⟨fun r e => ?_, fun k a b c p' e => by cases e⟩
          cases e
          have n1 := nI_n1 (r := r4) (by omega)
          exact ⟨y4, c6_q (c5_q x4 n1) n1⟩
        | ok v4 =>
          obtain ⟨n2, p4⟩ := v4
          obtain ⟨x4, y4, z4⟩ := nm_o (q := -1) (by omega) (by omega) y3 h4
          rw [← E4] at x4
          have E5 : c5 T m p (-1) = sgC T m 47 p4 (-1) := by
            unfold c5
            rw [x4]
          dsimp only
          cases h5 : sgS T m 47 p4 with
          | error r5 =>
            obtain ⟨x5, y5⟩ := sg_e (q := -1) y4 h5
            rw [bl_1, ← E5] at x5
            (try dsimp only)
            refine ⟨fun r e => ?_, fun k a b c p' e => by cases e⟩
            cases e
            have n1 := nI_n1 (r := r5) (by omega)
            exact ⟨y5, c6_q x5 n1⟩
          | ok p5 =>
            obtain ⟨x5, y5⟩ := sg_o (q := -1) y4 h5
            rw [← E5] at x5
            have E6 : c6 T m p (-1) = nmC T m n2 9 p5 (-1) := by
              unfold c6
              rw [x5, x4]
            dsimp only
            cases h6 : nmS T m n2 9 p5 with
            | error r6 =>
              obtain ⟨x6, y6⟩ := nm_er (q := -1) (by omega) (by omega) y5 h6
              rw [bl_1, ← E6] at x6
              (try dsimp only)
              refine ⟨fun r e => ?_, fun k a b c p' e => by cases e⟩
              cases e
              exact ⟨y6, x6⟩
            | ok v6 =>
              obtain ⟨n3, p6⟩ := v6
              obtain ⟨x6, y6, z6⟩ := nm_o (q := -1) (by omega) (by omega) y5 h6
              rw [← E6] at x6
              (try dsimp only)
              refine ⟨fun r e => (by cases e), fun k' a b c p' e => ?_⟩
              cases e
              refine ⟨y6, by rw [x6], by rw [x6], ?_, z2⟩
              unfold sC
              rw [x1, x2, x4, x6]
              exact if_neg hkp
/-- all clauses, both -/
theorem al_both {T : Nat → Int32} {m : Nat} (hm : m ≤ 50) : ∀ (k n p : Nat) (S : Nat → Nat → Int32), k + 1 + n = 4 → p ≤ m →
    (∀ r, alS T m (k + 1) n p S = .error r → r ≤ m ∧ (clsC T m (k + 1) (n + 1) p (-1) S).2.1 = nI r) ∧ (∀ n' S', alS T m (k + 1) n p S = .ok (n', S') → n' ≤ 4 ∧ clsC T m (k + 1) (n + 1) p (-1) S = (nI n', -1, S')) := by
  intro k
  induction k with
  | zero =>
    intro n p S hn hp
    have hc := cl_both (T := T) (S := S) hm hp
    have hn3 : n = 3 := by omega
    subst hn3
    show (∀ r, (match clS T m p with
      | .error r => .error r
      | .ok (kd, a, b, c, p') => if sk T m p' < m then (if T (sk T m p') = 59 ∧ ¬ 0 = 0 then alS T m 0 (3 + 1) (sk T m p' + 1) (updS S kd.toNatClampNeg a b c) else .error (sk T m p')) else .ok (3 + 1, updS S kd.toNatClampNeg a b c) : Except Nat (Nat × (Nat → Nat → Int32))) = .error r → _) ∧ (∀ n' S', (match clS T m p with
      | .error r => .error r
      | .ok (kd, a, b, c, p') => if sk T m p' < m then (if T (sk T m p') = 59 ∧ ¬ 0 = 0 then alS T m 0 (3 + 1) (sk T m p' + 1) (updS S kd.toNatClampNeg a b c) else .error (sk T m p')) else .ok (3 + 1, updS S kd.toNatClampNeg a b c) : Except Nat (Nat × (Nat → Nat → Int32))) = .ok (n', S') → _)
    cases h1 : clS T m p with
    | error r1 =>
      obtain ⟨a1, a2⟩ := hc.1 r1 h1
      have nz := nI_n1 (r := r1) (by omega)
      dsimp only
      refine ⟨fun r e => ?_, fun n' S' e => by cases e⟩
      cases e
      refine ⟨a1, ?_⟩
      show (if ¬ (c6 T m p (-1)).2.2 = -1 ∨ sk T m (c6 T m p (-1)).2.1 = m then _ else _ : Int32 × Int32 × (Nat → Nat → Int32)).2.1 = _
      rw [if_pos (Or.inl (by rw [a2]; exact nz))]
      exact a2
    | ok v =>
      obtain ⟨kd, a, b, c, p'⟩ := v
      obtain ⟨b1, b2, b3, b4, b5⟩ := hc.2 kd a b c p' h1
      have hs := sk_le (T := T) b1
      dsimp only
      by_cases hl : sk T m p' < m
      · rw [if_pos hl, if_neg (fun z => z.2 rfl)]
        refine ⟨fun r e => ?_, fun n' S' e => by cases e⟩
        cases e
        refine ⟨hs.2, ?_⟩
        have nz := nI_n1 (r := sk T m p') (by omega)
        show (if ¬ (c6 T m p (-1)).2.2 = -1 ∨ sk T m (c6 T m p (-1)).2.1 = m then _ else _ : Int32 × Int32 × (Nat → Nat → Int32)).2.1 = _
        rw [b2, b3, if_neg (fun z => z.elim (fun w => w rfl) (fun w => by omega))]
        show (sgC T m 59 (sk T m p') (if 3 + 1 = 4 then bl (-1) (nI (sk T m p')) else -1)).2 = _
        rw [if_pos rfl, bl_1]
        exact sgC_q nz
      · rw [if_neg hl]
        refine ⟨fun r e => (by cases e), fun n' S' e => ?_⟩
        cases e
        refine ⟨by omega, ?_⟩
        show (if ¬ (c6 T m p (-1)).2.2 = -1 ∨ sk T m (c6 T m p (-1)).2.1 = m then _ else _ : Int32 × Int32 × (Nat → Nat → Int32)) = _
        rw [b2, b3, if_pos (Or.inr (by omega)), b4]
  | succ k ih =>
    intro n p S hn hp
    have hc := cl_both (T := T) (S := S) hm hp
    have ih2 := ih (n + 1)
    show (∀ r, (match clS T m p with
      | .error r => .error r
      | .ok (kd, a, b, c, p') => if sk T m p' < m then (if T (sk T m p') = 59 ∧ ¬ k + 1 = 0 then alS T m (k + 1) (n + 1) (sk T m p' + 1) (updS S kd.toNatClampNeg a b c) else .error (sk T m p')) else .ok (n + 1, updS S kd.toNatClampNeg a b c) : Except Nat (Nat × (Nat → Nat → Int32))) = .error r → _) ∧ (∀ n' S', (match clS T m p with
      | .error r => .error r
      | .ok (kd, a, b, c, p') => if sk T m p' < m then (if T (sk T m p') = 59 ∧ ¬ k + 1 = 0 then alS T m (k + 1) (n + 1) (sk T m p' + 1) (updS S kd.toNatClampNeg a b c) else .error (sk T m p')) else .ok (n + 1, updS S kd.toNatClampNeg a b c) : Except Nat (Nat × (Nat → Nat → Int32))) = .ok (n', S') → _)
    cases h1 : clS T m p with
    | error r1 =>
      obtain ⟨a1, a2⟩ := hc.1 r1 h1
      have nz := nI_n1 (r := r1) (by omega)
      dsimp only
      refine ⟨fun r e => ?_, fun n' S' e => by cases e⟩
      cases e
      refine ⟨a1, ?_⟩
      show (if ¬ (c6 T m p (-1)).2.2 = -1 ∨ sk T m (c6 T m p (-1)).2.1 = m then _ else _ : Int32 × Int32 × (Nat → Nat → Int32)).2.1 = _
      rw [if_pos (Or.inl (by rw [a2]; exact nz))]
      exact a2
    | ok v =>
      obtain ⟨kd, a, b, c, p'⟩ := v
      obtain ⟨b1, b2, b3, b4, b5⟩ := hc.2 kd a b c p' h1
      have hs := sk_le (T := T) b1
      have nz := nI_n1 (r := sk T m p') (by omega)
      have hE : ∀ z : ¬ sk T m p' = m, clsC T m (k + 1 + 1) (n + 1) p (-1) S = clsC T m (k + 1) (n + 1 + 1) (sgC T m 59 (sk T m p') (-1)).1 (sgC T m 59 (sk T m p') (-1)).2 (updS S kd.toNatClampNeg a b c) := fun z => by
        show (if ¬ (c6 T m p (-1)).2.2 = -1 ∨ sk T m (c6 T m p (-1)).2.1 = m then _ else _ : Int32 × Int32 × (Nat → Nat → Int32)) = _
        rw [b2, b3, if_neg (fun w => w.elim (fun u => u rfl) z), b4, if_neg (show ¬ n + 1 = 4 by omega)]
      dsimp only
      by_cases hl : sk T m p' < m
      · have hid : sk T m (sk T m p') = sk T m p' := sk_id (fun _ => sk_nb b1 hl)
        rw [if_pos hl]
        by_cases hq : T (sk T m p') = 59
        · rw [if_pos ⟨hq, by omega⟩, hE (by omega)]
          have e1 : sgC T m 59 (sk T m p') (-1) = (sk T m p' + 1, -1) := by
            unfold sgC
            rw [hid]
            exact if_pos ⟨hl, hq⟩
          rw [e1]
          exact ih2 (sk T m p' + 1) _ (by omega) (by omega)
        · rw [if_neg (fun z => hq z.1)]
          refine ⟨fun r e => ?_, fun n' S' e => by cases e⟩
          cases e
          refine ⟨hs.2, ?_⟩
          rw [hE (by omega)]
          have e1 : sgC T m 59 (sk T m p') (-1) = (sk T m p', nI (sk T m p')) := by
            unfold sgC
            rw [hid, bl_1]
            exact if_neg (fun z => hq z.2)
          rw [e1]
          exact clsC_q nz _ _ _ _
      · rw [if_neg hl]
        refine ⟨fun r e => (by cases e), fun n' S' e => ?_⟩
        cases e
        refine ⟨by omega, ?_⟩
        show (if ¬ (c6 T m p (-1)).2.2 = -1 ∨ sk T m (c6 T m p (-1)).2.1 = m then _ else _ : Int32 × Int32 × (Nat → Nat → Int32)) = _
        rw [b2, b3, if_pos (Or.inr (by omega)), b4]
/-! what is told, kind by kind -/
def SR (S S' : Nat → Nat → Int32) : Prop := ∀ k, k < 4 → S k 0 = S' k 0 ∧ (¬ S' k 0 = 0 → S k 1 = S' k 1 ∧ S k 2 = S' k 2)
theorem SR_upd {S S' : Nat → Nat → Int32} (h : SR S S') (j : Nat) (a b c : Int32) : SR (updS S j a b c) (updS S' j a b c) := fun k hk => by
  by_cases e : k = j
  · have key : ∀ (Z : Nat → Nat → Int32) (t : Nat), updS Z j a b c k t = (if t = 0 then a else if t = 1 then b else c) := fun Z t => if_pos e
    rw [key S 0, key S' 0, key S 1, key S' 1, key S 2, key S' 2]
    exact ⟨rfl, fun _ => ⟨rfl, rfl⟩⟩
  · have key : ∀ (Z : Nat → Nat → Int32) (t : Nat), updS Z j a b c k t = Z k t := fun Z t => if_neg e
    rw [key S 0, key S' 0, key S 1, key S' 1, key S 2, key S' 2]
    exact h k hk
theorem al_SR {T : Nat → Int32} {m : Nat} : ∀ (k n p : Nat) (S S' : Nat → Nat → Int32), SR S S' → (∀ r, alS T m k n p S = .error r → alS T m k n p S' = .error r) ∧ (∀ n' S1, alS T m k n p S = .ok (n', S1) → ∃ S1', alS T m k n p S' = .ok (n', S1') ∧ SR S1 S1') := by
  intro k
  induction k with
  | zero => exact fun n p S S' h => ⟨fun r e => e, fun n' S1 e => by cases e⟩
  | succ k ih =>
    intro n p S S' h
    show (∀ r, (match clS T m p with
      | .error r => .error r
      | .ok (kd, a, b, c, p') => if sk T m p' < m then (if T (sk T m p') = 59 ∧ ¬ k = 0 then alS T m k (n + 1) (sk T m p' + 1) (updS S kd.toNatClampNeg a b c) else .error (sk T m p')) else .ok (n + 1, updS S kd.toNatClampNeg a b c) : Except Nat (Nat × (Nat → Nat → Int32))) = .error r → (match clS T m p with
      | .error r => .error r
      | .ok (kd, a, b, c, p') => if sk T m p' < m then (if T (sk T m p') = 59 ∧ ¬ k = 0 then alS T m k (n + 1) (sk T m p' + 1) (updS S' kd.toNatClampNeg a b c) else .error (sk T m p')) else .ok (n + 1, updS S' kd.toNatClampNeg a b c) : Except Nat (Nat × (Nat → Nat → Int32))) = .error r) ∧ (∀ n' S1, (match clS T m p with
      | .error r => .error r
      | .ok (kd, a, b, c, p') => if sk T m p' < m then (if T (sk T m p') = 59 ∧ ¬ k = 0 then alS T m k (n + 1) (sk T m p' + 1) (updS S kd.toNatClampNeg a b c) else .error (sk T m p')) else .ok (n + 1, updS S kd.toNatClampNeg a b c) : Except Nat (Nat × (Nat → Nat → Int32))) = .ok (n', S1) → ∃ S1', (match clS T m p with
      | .error r => .error r
      | .ok (kd, a, b, c, p') => if sk T m p' < m then (if T (sk T m p') = 59 ∧ ¬ k = 0 then alS T m k (n + 1) (sk T m p' + 1) (updS S' kd.toNatClampNeg a b c) else .error (sk T m p')) else .ok (n + 1, updS S' kd.toNatClampNeg a b c) : Except Nat (Nat × (Nat → Nat → Int32))) = .ok (n', S1') ∧ SR S1 S1')
    cases h1 : clS T m p with
    | error r1 => exact ⟨fun r e => e, fun n' S1 e => by cases e⟩
    | ok v =>
      obtain ⟨kd, a, b, c, p'⟩ := v
      have hu := SR_upd h kd.toNatClampNeg a b c
      dsimp only
      by_cases hl : sk T m p' < m
      · rw [if_pos hl, if_pos hl]
        by_cases hq : T (sk T m p') = 59 ∧ ¬ k = 0
        · rw [if_pos hq, if_pos hq]
          exact ih (n + 1) _ _ _ hu
        · rw [if_neg hq, if_neg hq]
          exact ⟨fun r e => e, fun n' S1 e => by cases e⟩
      · rw [if_neg hl, if_neg hl]
        refine ⟨fun r e => (by cases e), fun n' S1 e => ?_⟩
        cases e
        exact ⟨_, rfl, hu⟩
/-- the rules of a kind: its own, or those of the kind above -/
def ec0 (S : Nat → Nat → Int32) (t : Nat) : Int32 := if S 0 0 = 0 then 1 else S 0 t
def ec2 (S : Nat → Nat → Int32) (t : Nat) : Int32 := if S 2 0 = 0 then ec0 S t else S 2 t
def eC (S : Nat → Nat → Int32) (k t : Nat) : Int32 := if k = 0 then ec0 S t else if k = 2 then ec2 S t else if k = 1 then (if S 1 0 = 0 then ec0 S t else S 1 t) else (if S 3 0 = 0 then ec2 S t else S 3 t)
theorem eC_SR {S S' : Nat → Nat → Int32} (h : SR S S') {k t : Nat} (ht : t < 3) : eC S k t = eC S' k t := by
  have one : ∀ j, j < 4 → ∀ X : Int32, (if S j 0 = 0 then X else S j t) = (if S' j 0 = 0 then X else S' j t) := fun j hj X => by
    obtain ⟨a, b⟩ := h j hj
    rw [a]
    by_cases z : S' j 0 = 0
    · rw [if_pos z, if_pos z]
    · rw [if_neg z, if_neg z]
      have ht3 : t = 0 ∨ t = 1 ∨ t = 2 := by omega
      rcases ht3 with rfl | rfl | rfl
      · exact a
      · exact (b z).1
      · exact (b z).2
  have e0 : ec0 S t = ec0 S' t := one 0 (by omega) 1
  have e2 : ec2 S t = ec2 S' t := by
    unfold ec2
    rw [e0]
    exact one 2 (by omega) _
  unfold eC
  rw [e0, e2, one 1 (by omega), one 3 (by omega)]
