/-! sizes that fit -/
theorem i_add {x y : Int32} (h1 : -2147483648 ≤ x.toInt + y.toInt) (h2 : x.toInt + y.toInt ≤ 2147483647) : (x + y).toInt = x.toInt + y.toInt := by
  rw [Int32.toInt_add]
  exact Int.bmod_eq_of_le (by omega) (by omega)
theorem i_sub {x y : Int32} (h1 : -2147483648 ≤ x.toInt - y.toInt) (h2 : x.toInt - y.toInt ≤ 2147483647) : (x - y).toInt = x.toInt - y.toInt := by
  rw [Int32.toInt_sub]
  exact Int.bmod_eq_of_le (by omega) (by omega)
theorem i_mul {x y : Int32} (h1 : -2147483648 ≤ x.toInt * y.toInt) (h2 : x.toInt * y.toInt ≤ 2147483647) : (x * y).toInt = x.toInt * y.toInt := by
  rw [Int32.toInt_mul]
  generalize x.toInt * y.toInt = z at h1 h2 ⊢
  exact Int.bmod_eq_of_le (by omega) (by omega)
theorem i_inr {a b x : Int32} (h : inr a b x) : a.toInt ≤ x.toInt ∧ x.toInt ≤ b.toInt := ⟨Int32.le_iff_toInt_le.mp h.1, Int32.le_iff_toInt_le.mp h.2⟩
def mu_ (U : Int32) : Int := if U = 0 then 10 else 254
def fa_ (U : Int32) : Int := if U = 0 then 50 else 127
/-- a side, with a frame of f on both ends, may stand for the number told -/
def ONE (U s H : Int32) (f : Int) : Prop := H.toInt * mu_ U - fa_ U ≤ 10 * (s.toInt + 2 * f) ∧ 10 * (s.toInt + 2 * f) ≤ H.toInt * mu_ U + fa_ U
def FIT (U F h w H W : Int32) : Prop := ∃ f : Int, ((F = 0 ∧ f = 0) ∨ (¬ F = 0 ∧ 20 ≤ f ∧ f ≤ 120)) ∧ ONE U h H f ∧ ONE U w W f
def upC (H u h : Int32) : Int32 := H * u - h * 10
def leC (a b fa : Int32) : Int32 := (if a < b then b else a) - fa
def moC (a b fa : Int32) : Int32 := (if b < a then b else a) + fa
def thC (l : Int32) : Int32 := if (l + 19) / 20 < 20 then 20 else (l + 19) / 20
theorem up_10 {H h : Int32} (rH : inr 1 6000 H) (rh : inr 10 5000 h) : (upC H 10 h).toInt = H.toInt * 10 - h.toInt * 10 := by
  have a := i_inr rH
  have b := i_inr rh
  have e1 : (1 : Int32).toInt = 1 := rfl
  have e2 : (6000 : Int32).toInt = 6000 := rfl
  have e3 : (10 : Int32).toInt = 10 := rfl
  have e4 : (5000 : Int32).toInt = 5000 := rfl
  rw [e1, e2] at a
  rw [e3, e4] at b
  have m1 : (H * 10).toInt = H.toInt * 10 := by
    rw [i_mul (by rw [e3]; omega) (by rw [e3]; omega), e3]
  have m2 : (h * 10).toInt = h.toInt * 10 := by
    rw [i_mul (by rw [e3]; omega) (by rw [e3]; omega), e3]
  unfold upC
  rw [i_sub (by rw [m1, m2]; omega) (by rw [m1, m2]; omega), m1, m2]
theorem up_254 {H h : Int32} (rH : inr 1 6000 H) (rh : inr 10 5000 h) : (upC H 254 h).toInt = H.toInt * 254 - h.toInt * 10 := by
  have a := i_inr rH
  have b := i_inr rh
  have e1 : (1 : Int32).toInt = 1 := rfl
  have e2 : (6000 : Int32).toInt = 6000 := rfl
  have e3 : (10 : Int32).toInt = 10 := rfl
  have e4 : (5000 : Int32).toInt = 5000 := rfl
  have e5 : (254 : Int32).toInt = 254 := rfl
  rw [e1, e2] at a
  rw [e3, e4] at b
  have m1 : (H * 254).toInt = H.toInt * 254 := by
    rw [i_mul (by rw [e5]; omega) (by rw [e5]; omega), e5]
  have m2 : (h * 10).toInt = h.toInt * 10 := by
    rw [i_mul (by rw [e3]; omega) (by rw [e3]; omega), e3]
  unfold upC
  rw [i_sub (by rw [m1, m2]; omega) (by rw [m1, m2]; omega), m1, m2]
theorem le_i {a b fa : Int32} (ha : -100000 ≤ a.toInt ∧ a.toInt ≤ 2000000) (hb : -100000 ≤ b.toInt ∧ b.toInt ≤ 2000000) (hf : 0 ≤ fa.toInt ∧ fa.toInt ≤ 200) : (leC a b fa).toInt + fa.toInt = max a.toInt b.toInt ∧ (moC a b fa).toInt - fa.toInt = min a.toInt b.toInt := by
  unfold leC moC
  constructor
  · by_cases q : a < b
    · rw [if_pos q, i_sub (by omega) (by omega)]
      rw [Int32.lt_iff_toInt_lt] at q
      omega
    · rw [if_neg q, i_sub (by omega) (by omega)]
      rw [Int32.lt_iff_toInt_lt] at q
      omega
  · by_cases q : b < a
    · rw [if_pos q, i_add (by omega) (by omega)]
      rw [Int32.lt_iff_toInt_lt] at q
      omega
    · rw [if_neg q, i_add (by omega) (by omega)]
      rw [Int32.lt_iff_toInt_lt] at q
      omega
theorem td20 {a : Int} : (0 ≤ a → a.tdiv 20 = a / 20) ∧ (a < 0 → a.tdiv 20 ≤ 0 ∧ a ≤ 20 * a.tdiv 20) := by
  refine ⟨fun h => Int.tdiv_eq_ediv_of_nonneg h, fun h => ?_⟩
  have e : a.tdiv 20 = -((-a) / 20) := by
    rw [← Int.tdiv_eq_ediv_of_nonneg (by omega), Int.neg_tdiv, Int.neg_neg]
  rw [e]
  omega
theorem th_i {l : Int32} (hl : -200000 ≤ l.toInt ∧ l.toInt ≤ 2000000) : 20 ≤ (thC l).toInt ∧ (thC l).toInt ≤ 200000 ∧ l.toInt ≤ 20 * (thC l).toInt ∧ ∀ f : Int, 20 ≤ f → l.toInt ≤ 20 * f → (thC l).toInt ≤ f := by
  have e19 : (19 : Int32).toInt = 19 := rfl
  have e20 : (20 : Int32).toInt = 20 := rfl
  have a1 : (l + 19).toInt = l.toInt + 19 := by
    rw [i_add (by rw [e19]; omega) (by rw [e19]; omega), e19]
  have t := @td20 (l.toInt + 19)
  have b1 : ((l + 19) / 20).toInt = (l.toInt + 19).tdiv 20 := by
    rw [Int32.toInt_div, a1, e20]
    by_cases q : 0 ≤ l.toInt + 19
    · have := t.1 q
      exact Int.bmod_eq_of_le (by omega) (by omega)
    · have := t.2 (by omega)
      exact Int.bmod_eq_of_le (by omega) (by omega)
  unfold thC
  by_cases q : (l + 19) / 20 < 20
  · rw [if_pos q, e20]
    rw [Int32.lt_iff_toInt_lt, b1, e20] at q
    refine ⟨by omega, by omega, ?_, fun f h1 h2 => h1⟩
    by_cases z : 0 ≤ l.toInt + 19
    · have := t.1 z
      omega
    · omega
  · rw [if_neg q, b1]
    rw [Int32.lt_iff_toInt_lt, b1, e20] at q
    by_cases z : 0 ≤ l.toInt + 19
    · have := t.1 z
      exact ⟨by omega, by omega, by omega, fun f h1 h2 => by omega⟩
    · have := t.2 (by omega)
      omega
/-- without a frame -/
theorem fit_u {U h w H W u fa : Int32} (hU : (U = 0 ∧ u = 10 ∧ fa = 50) ∨ (U = 1 ∧ u = 254 ∧ fa = 127)) (rh : inr 10 5000 h) (rw_ : inr 10 5000 w) (rH : inr 1 6000 H) (rW : inr 1 6000 W) : FIT U 0 h w H W ↔ (¬ 0 < leC (upC H u h) (upC W u w) fa ∧ ¬ moC (upC H u h) (upC W u w) fa < 0) := by
  have a := i_inr rH
  have b := i_inr rh
  have c := i_inr rW
  have d := i_inr rw_
  have e0 : (0 : Int32).toInt = 0 := rfl
  have e1 : (1 : Int32).toInt = 1 := rfl
  have e2 : (6000 : Int32).toInt = 6000 := rfl
  have e3 : (10 : Int32).toInt = 10 := rfl
  have e4 : (5000 : Int32).toInt = 5000 := rfl
  have e5 : (50 : Int32).toInt = 50 := rfl
  have e6 : (127 : Int32).toInt = 127 := rfl
  rw [e1, e2] at a c
  rw [e3, e4] at b d
  rw [Int32.lt_iff_toInt_lt, Int32.lt_iff_toInt_lt, e0]
  rcases hU with ⟨rfl, rfl, rfl⟩ | ⟨rfl, rfl, rfl⟩
  · have u1 := up_10 rH rh
    have u2 := up_10 rW rw_
    obtain ⟨l1, l2⟩ := le_i (a := upC H 10 h) (b := upC W 10 w) (fa := 50) (by omega) (by omega) (by rw [e5]; omega)
    rw [e5] at l1 l2
    have m1 : mu_ 0 = 10 := rfl
    have m2 : fa_ 0 = 50 := rfl
    unfold FIT ONE
    rw [m1, m2]
    constructor
    · rintro ⟨f, hf, p, q⟩
      have f0 : f = 0 := by
        rcases hf with z | z
        · exact z.2
        · exact absurd rfl z.1
      subst f0
      omega
    · intro z
      exact ⟨0, Or.inl ⟨rfl, rfl⟩, by omega, by omega⟩
  · have u1 := up_254 rH rh
    have u2 := up_254 rW rw_
    obtain ⟨l1, l2⟩ := le_i (a := upC H 254 h) (b := upC W 254 w) (fa := 127) (by omega) (by omega) (by rw [e6]; omega)
    rw [e6] at l1 l2
    have m1 : mu_ 1 = 254 := rfl
    have m2 : fa_ 1 = 127 := rfl
    unfold FIT ONE
    rw [m1, m2]
    constructor
    · rintro ⟨f, hf, p, q⟩
      have f0 : f = 0 := by
        rcases hf with z | z
        · exact z.2
        · exact absurd rfl z.1
      subst f0
      omega
    · intro z
      exact ⟨0, Or.inl ⟨rfl, rfl⟩, by omega, by omega⟩
/-- with a frame -/
theorem fit_f {U F h w H W u fa : Int32} (hF : ¬ F = 0) (hU : (U = 0 ∧ u = 10 ∧ fa = 50) ∨ (U = 1 ∧ u = 254 ∧ fa = 127)) (rh : inr 10 5000 h) (rw_ : inr 10 5000 w) (rH : inr 1 6000 H) (rW : inr 1 6000 W) : FIT U F h w H W ↔ (¬ 120 < thC (leC (upC H u h) (upC W u w) fa) ∧ ¬ moC (upC H u h) (upC W u w) fa < 20 * thC (leC (upC H u h) (upC W u w) fa)) := by
  have a := i_inr rH
  have b := i_inr rh
  have c := i_inr rW
  have d := i_inr rw_
  have e1 : (1 : Int32).toInt = 1 := rfl
  have e2 : (6000 : Int32).toInt = 6000 := rfl
  have e3 : (10 : Int32).toInt = 10 := rfl
  have e4 : (5000 : Int32).toInt = 5000 := rfl
  have e5 : (50 : Int32).toInt = 50 := rfl
  have e6 : (127 : Int32).toInt = 127 := rfl
  have e7 : (120 : Int32).toInt = 120 := rfl
  have e8 : (20 : Int32).toInt = 20 := rfl
  rw [e1, e2] at a c
  rw [e3, e4] at b d
  rw [Int32.lt_iff_toInt_lt, Int32.lt_iff_toInt_lt, e7]
  rcases hU with ⟨rfl, rfl, rfl⟩ | ⟨rfl, rfl, rfl⟩
  · have u1 := up_10 rH rh
    have u2 := up_10 rW rw_
    obtain ⟨l1, l2⟩ := le_i (a := upC H 10 h) (b := upC W 10 w) (fa := 50) (by omega) (by omega) (by rw [e5]; omega)
    rw [e5] at l1 l2
    obtain ⟨t1, t2, t3, t4⟩ := th_i (l := leC (upC H 10 h) (upC W 10 w) 50) (by omega)
    have t5 : (20 * thC (leC (upC H 10 h) (upC W 10 w) 50)).toInt = 20 * (thC (leC (upC H 10 h) (upC W 10 w) 50)).toInt := by
      rw [i_mul (by rw [e8]; omega) (by rw [e8]; omega), e8]
    rw [t5]
    have m1 : mu_ 0 = 10 := rfl
    have m2 : fa_ 0 = 50 := rfl
    unfold FIT ONE
    rw [m1, m2]
    constructor
    · rintro ⟨f, hf, p, q⟩
      have f0 : 20 ≤ f ∧ f ≤ 120 := by
        rcases hf with z | z
        · exact absurd z.1 hF
        · exact z.2
      have := t4 f f0.1 (by omega)
      omega
    · intro z
      exact ⟨(thC (leC (upC H 10 h) (upC W 10 w) 50)).toInt, Or.inr ⟨hF, by omega, by omega⟩, by omega, by omega⟩
  · have u1 := up_254 rH rh
    have u2 := up_254 rW rw_
    obtain ⟨l1, l2⟩ := le_i (a := upC H 254 h) (b := upC W 254 w) (fa := 127) (by omega) (by omega) (by rw [e6]; omega)
    rw [e6] at l1 l2
    obtain ⟨t1, t2, t3, t4⟩ := th_i (l := leC (upC H 254 h) (upC W 254 w) 127) (by omega)
    have t5 : (20 * thC (leC (upC H 254 h) (upC W 254 w) 127)).toInt = 20 * (thC (leC (upC H 254 h) (upC W 254 w) 127)).toInt := by
      rw [i_mul (by rw [e8]; omega) (by rw [e8]; omega), e8]
    rw [t5]
    have m1 : mu_ 1 = 254 := rfl
    have m2 : fa_ 1 = 127 := rfl
    unfold FIT ONE
    rw [m1, m2]
    constructor
    · rintro ⟨f, hf, p, q⟩
      have f0 : 20 ≤ f ∧ f ≤ 120 := by
        rcases hf with z | z
        · exact absurd z.1 hF
        · exact z.2
      have := t4 f f0.1 (by omega)
      omega
    · intro z
      exact ⟨(thC (leC (upC H 254 h) (upC W 254 w) 127)).toInt, Or.inr ⟨hF, by omega, by omega⟩, by omega, by omega⟩
/-- the model's way: a number stands for a side -/
theorem stn_i {U u fa H : Int32} {s : Int32} {f : Nat} (hU : (U = 0 ∧ u = 10 ∧ fa = 50) ∨ (U = 1 ∧ u = 254 ∧ fa = 127)) (rs : inr 10 5000 s) (rH : inr 1 6000 H) (hf : f ≤ 200) : inr (u * H - fa) (u * H + fa) (10 * (s + 2 * nI f)) ↔ ONE U s H (f : Int) := by
  have a := i_inr rH
  have b := i_inr rs
  have e1 : (1 : Int32).toInt = 1 := rfl
  have e2 : (6000 : Int32).toInt = 6000 := rfl
  have e3 : (10 : Int32).toInt = 10 := rfl
  have e4 : (5000 : Int32).toInt = 5000 := rfl
  have e5 : (50 : Int32).toInt = 50 := rfl
  have e6 : (127 : Int32).toInt = 127 := rfl
  have e7 : (254 : Int32).toInt = 254 := rfl
  have e8 : (2 : Int32).toInt = 2 := rfl
  have ef : (nI f).toInt = (f : Int) := nI_toInt (by omega)
  rw [e1, e2] at a
  rw [e3, e4] at b
  have c1 : (2 * nI f).toInt = 2 * (f : Int) := by
    rw [i_mul (by rw [e8, ef]; omega) (by rw [e8, ef]; omega), e8, ef]
  have c2 : (s + 2 * nI f).toInt = s.toInt + 2 * (f : Int) := by
    rw [i_add (by rw [c1]; omega) (by rw [c1]; omega), c1]
  have c3 : (10 * (s + 2 * nI f)).toInt = 10 * (s.toInt + 2 * (f : Int)) := by
    rw [i_mul (by rw [e3, c2]; omega) (by rw [e3, c2]; omega), e3, c2]
  unfold inr ONE
  rw [Int32.le_iff_toInt_le, Int32.le_iff_toInt_le, c3]
  rcases hU with ⟨rfl, rfl, rfl⟩ | ⟨rfl, rfl, rfl⟩
  · have d1 : ((10 : Int32) * H).toInt = 10 * H.toInt := by
      rw [i_mul (by rw [e3]; omega) (by rw [e3]; omega), e3]
    have d2 : ((10 : Int32) * H - 50).toInt = 10 * H.toInt - 50 := by
      rw [i_sub (by rw [d1, e5]; omega) (by rw [d1, e5]; omega), d1, e5]
    have d3 : ((10 : Int32) * H + 50).toInt = 10 * H.toInt + 50 := by
      rw [i_add (by rw [d1, e5]; omega) (by rw [d1, e5]; omega), d1, e5]
    have m1 : mu_ 0 = 10 := rfl
    have m2 : fa_ 0 = 50 := rfl
    rw [d2, d3, m1, m2]
    omega
  · have d1 : ((254 : Int32) * H).toInt = 254 * H.toInt := by
      rw [i_mul (by rw [e7]; omega) (by rw [e7]; omega), e7]
    have d2 : ((254 : Int32) * H - 127).toInt = 254 * H.toInt - 127 := by
      rw [i_sub (by rw [d1, e6]; omega) (by rw [d1, e6]; omega), d1, e6]
    have d3 : ((254 : Int32) * H + 127).toInt = 254 * H.toInt + 127 := by
      rw [i_add (by rw [d1, e6]; omega) (by rw [d1, e6]; omega), d1, e6]
    have m1 : mu_ 1 = 254 := rfl
    have m2 : fa_ 1 = 127 := rfl
    rw [d2, d3, m1, m2]
    omega
noncomputable def sc4 (s : Int32) : Int32 := if s < 4 then 0 else s
/-- the score: bad: it does not fit; B: the bits that both have; hd: who holds by the mention; ow: who holds -/
noncomputable def scv (bad : Prop) (sized : Prop) (B ow hd : Int32) : Int32 :=
  ci bad 0 (ci (¬ hd < 0 ∧ ¬ ow = hd ∧ ¬ ow = -4) 0 (sc4 (ci (¬ hd < 0 ∧ ow = hd) (ci sized (4 * B + 3) (4 * B) + 5) (ci sized (4 * B + 3) (4 * B)))))
