theorem i32_lt0 {x : Int32} (h : x < 0) (h' : ¬ x < 0) : False := h' h
theorem fin_told {n : Nat} {f : Nat → Nat → Int32} {x1 x2 v1 v2 : Int32} (hR : RW n f) (s1 : SX_told n f x1 x2 v1) (s2 : SM_told n f x1 x2 v2) : v1 = v2 := by
  have hn40 := hR.1
  rcases s1 with ⟨q1, rfl⟩ | ⟨j, hj, ej, s1⟩
  · rcases s2 with ⟨q2, rfl⟩ | ⟨j2, hj2, ej2, _⟩
    · rfl
    · exact absurd ⟨j2, hj2, ej2⟩ q1
  · rcases s2 with ⟨q2, rfl⟩ | ⟨j2, hj2, ej2, s2⟩
    · exact absurd ⟨j, hj, ej⟩ q2
    · have ejj : j = j2 := (nI_eq (by omega) (by omega)).mp (ej.symm.trans ej2)
      subst ejj
      obtain ⟨c1, c2, c3, c4, c5, c6, _, _, _⟩ := hR.2.2.2.1 j hj
      rcases s1 with ⟨e, rfl⟩ | ⟨e, rfl⟩ | ⟨e, rfl⟩ | ⟨e, rfl⟩ | ⟨e, rfl⟩ | ⟨e, rfl⟩ | ⟨e, rfl⟩ <;> rcases s2 with ⟨d, rfl⟩ | ⟨d, rfl⟩ | ⟨d, rfl⟩ | ⟨d, rfl⟩ | ⟨d, rfl⟩ | ⟨d, d2, rfl⟩ | ⟨d, d2, rfl⟩ | ⟨d, rfl⟩
      all_goals first
        | (rw [e] at d; exact absurd d (by decide))
        | (rw [d] at e; exact absurd e (by decide))
        | exact c1
        | exact c3
        | exact c4
        | exact c5
        | exact c6
        | rfl
        | (rcases c2 with ⟨u1, u2⟩ | ⟨u1, u2, u3⟩; exact u1; exact absurd d2 u2)
        | (rcases c2 with ⟨u1, u2⟩ | ⟨u1, u2, u3⟩; (rw [u2] at d2; exact absurd (by decide) d2); exact u1)
theorem lat_congr {p p' : Nat → Prop} [DecidablePred p] [DecidablePred p'] : ∀ k, (∀ i, 1 ≤ i → i ≤ k → (p i ↔ p' i)) → lat p k = lat p' k
  | 0, _ => rfl
  | k + 1, h => by
    show (if p (k + 1) then k + 1 else lat p k) = (if p' (k + 1) then k + 1 else lat p' k)
    rw [lat_congr k (fun i h1 h2 => h i h1 (by omega))]
    by_cases q : p (k + 1)
    · rw [if_pos q, if_pos ((h (k + 1) (by omega) (by omega)).mp q)]
    · rw [if_neg q, if_neg (fun e => q ((h (k + 1) (by omega) (by omega)).mpr e))]
theorem cut_eq {f : Nat → Nat → Int32} {j : Nat} {x a b a' b' : Int32} (h : (f 97 j = 2000 ∧ f 192 j = 0) ∨ (f 97 j = f 192 j ∧ inr 1800 1999 (f 192 j) ∧ b = b')) (ha : a = a') (hx : inr 1800 1999 x) : (if x < f 97 j then a else b) = (if 0 < f 192 j ∧ f 192 j ≤ x then b' else a') := by
  have p := Int32.le_iff_toInt_le.mp hx.2
  have e0 : (0 : Int32).toInt = 0 := rfl
  have e1 : (1800 : Int32).toInt = 1800 := rfl
  have e2 : (1999 : Int32).toInt = 1999 := rfl
  have e3 : (2000 : Int32).toInt = 2000 := rfl
  rcases h with ⟨u1, u2⟩ | ⟨u1, u2, u3⟩
  · rw [u1, u2, if_pos (by rw [Int32.lt_iff_toInt_lt]; omega), if_neg (fun q => absurd q.1 (by decide)), ha]
  · have b1 := Int32.le_iff_toInt_le.mp u2.1
    rw [u1]
    by_cases q : x < f 192 j
    · rw [if_pos q, if_neg (fun z => absurd q (i32_nlt.mpr z.2)), ha]
    · rw [if_neg q, if_pos ⟨by rw [Int32.lt_iff_toInt_lt]; omega, i32_nlt.mp q⟩, u3]
theorem tit_eq {f : Nat → Nat → Int32} {j q : Nat} {y : Int32} (h : TI f j q) : titC f j q y = titM f j q y := by
  obtain ⟨b1, b2, b3, b4, b5, b6⟩ := h
  unfold titC titM
  have e := lat_congr (p := fun i => f (56 + j) i ≤ y) (p' := fun i => f 190 (4 * j + i) ≤ y) (q - 1) (fun i h1 h2 => by
    show f (56 + j) i ≤ y ↔ f 190 (4 * j + i) ≤ y
    rw [b6 i h1 (by omega)])
  rw [e]
  exact b5 _ (by have := lat_le (fun i => f 190 (4 * j + i) ≤ y) (q - 1); omega)
theorem fin_then {n : Nat} {f : Nat → Nat → Int32} {x1 x2 x3 v1 v2 : Int32} (hR : RW n f) (s1 : SX_then n f x1 x2 x3 v1) (s2 : SM_then n f x1 x2 x3 v2) : v1 = v2 := by
  have hn40 := hR.1
  rcases s1 with ⟨q1, rfl⟩ | ⟨j, q, hj, ej, p1, eq, hq1, hq4, s1⟩
  · rcases s2 with ⟨q2, rfl⟩ | ⟨j2, q2, hj2, ej2, r1, r2, _⟩
    · rfl
    · exact absurd ⟨⟨j2, hj2, ej2⟩, r1⟩ q1
  · rcases s2 with ⟨q2, rfl⟩ | ⟨j2, q2, hj2, ej2, r1, r2, eq2, hq12, hq42, s2⟩
    · rcases s1 with ⟨e, rfl⟩ | ⟨e, rfl⟩ | ⟨e, rfl⟩ | ⟨e, rfl⟩
      · exact absurd ⟨⟨j, hj, ej⟩, p1, by rw [e]; unfold inr; decide⟩ q2
      · exact absurd ⟨⟨j, hj, ej⟩, p1, by rw [e]; unfold inr; decide⟩ q2
      · exact absurd ⟨⟨j, hj, ej⟩, p1, by rw [e]; unfold inr; decide⟩ q2
      · rfl
    · have ejj : j = j2 := (nI_eq (by omega) (by omega)).mp (ej.symm.trans ej2)
      subst ejj
      obtain ⟨c1, c2, c3, c4, c5, c6, _, ⟨q9, T9⟩, c9⟩ := hR.2.2.2.1 j hj
      have e9 : q9 = q := (nI_eq (by have := T9.2.1; omega) (by omega)).mp (T9.2.2.1.symm.trans eq)
      subst e9
      have e8 : q9 = q2 := (nI_eq (by omega) (by omega)).mp (T9.2.2.2.1.symm.trans eq2)
      subst e8
      have hc3 := inr_c2 r2
      rcases s1 with ⟨e, rfl⟩ | ⟨e, rfl⟩ | ⟨e, rfl⟩ | ⟨e, rfl⟩ <;> rcases s2 with ⟨d, rfl⟩ | ⟨d, rfl⟩ | ⟨d, d2, rfl⟩
      all_goals first
        | (rw [e] at d; exact absurd d (by decide))
        | (exact absurd d e.1)
        | (exact absurd d e.2.1)
        | (exact absurd e d)
        | (exact absurd e d2)
        | exact tit_eq T9
        | exact cut_eq (c9.imp id (fun z => ⟨z.1, z.2.1, z.2.2.1⟩)) c3 p1
        | exact cut_eq (c9.imp id (fun z => ⟨z.1, z.2.1, z.2.2.2⟩)) c4 p1
        | (rcases hc3 with z | z | z; exact absurd z e.1; exact absurd z e.2.1; exact absurd z e.2.2)
theorem fin_turned {n : Nat} {f : Nat → Nat → Int32} {x1 v1 v2 : Int32} (hR : RW n f) (s1 : SX_turned n f x1 v1) (s2 : SM_turned n f x1 v2) : v1 = v2 := by
  have hn40 := hR.1
  rcases s1 with ⟨q1, rfl⟩ | ⟨j, hj, ej, s1⟩
  · rcases s2 with ⟨q2, rfl⟩ | ⟨j2, hj2, ej2, _⟩
    · rfl
    · exact absurd ⟨j2, hj2, ej2⟩ q1
  · rcases s2 with ⟨q2, rfl⟩ | ⟨j2, hj2, ej2, s2⟩
    · exact absurd ⟨j, hj, ej⟩ q2
    · have ejj : j = j2 := (nI_eq (by omega) (by omega)).mp (ej.symm.trans ej2)
      subst ejj
      obtain ⟨c1, _, _, _, _, _, c7, _, _⟩ := hR.2.2.2.1 j hj
      rw [← c1] at s2
      rcases s1 with ⟨e, rfl⟩ | ⟨e, e2, rfl⟩ | ⟨e, e2, rfl⟩ <;> rcases s2 with ⟨d, rfl⟩ | ⟨d, d2, rfl⟩ | ⟨d, d2, rfl⟩
      all_goals first
        | rfl
        | exact absurd d e
        | exact absurd e d
        | exact absurd ((c7 e).trans d2) e2
        | exact absurd ((c7 e).symm.trans e2) d2
theorem inix_0 {a : Nat} (i : Nat) (h : ¬ (109 ≤ a ∧ a ≤ 112) ∧ a ≠ 169 ∧ a ≠ 180 ∧ a ≠ 224 ∧ a ≠ 213 ∧ a ≠ 214 ∧ a ≠ 215) : inix a i = 0 := by
  unfold inix
  repeat rw [if_neg (by omega)]
theorem okv_lo {a i : Nat} {v : Int32} (h : a < 6 ∨ 227 ≤ a) : okv a i v := by
  unfold okv
  repeat rw [if_neg (by omega)]
  trivial
theorem ini_169 (i : Nat) : (inix 169 i = -4 ∨ inr 0 40 (inix 169 i)) := by
  unfold inix
  rw [if_neg (by omega)]
  by_cases h : i < 40
  · rw [if_pos ⟨rfl, h⟩]
    exact Or.inl rfl
  · rw [if_neg (by omega)]
    repeat rw [if_neg (by omega)]
    exact Or.inr (by unfold inr; decide)
theorem ini_180 (i : Nat) : inr (-1) 60 (inix 180 i) := by
  unfold inix
  rw [if_neg (by omega), if_neg (by omega)]
  by_cases h : i < 4
  · rw [if_pos ⟨rfl, h⟩]
    unfold inr
    decide
  · repeat rw [if_neg (by omega)]
    unfold inr
    decide
theorem ini_ok (a i : Nat) : okv a i (inix a i) := by
  unfold okv
  by_cases h : a = 6
  · rw [if_pos h]
    subst h
    rw [inix_0 _ (by decide)]
    unfold inr
    decide
  rw [if_neg h]
  clear h
  by_cases h : a = 7
  · rw [if_pos h]
    subst h
    rw [inix_0 _ (by decide)]
    unfold inr
    decide
  rw [if_neg h]
  clear h
  by_cases h : a = 8
  · rw [if_pos h]
    subst h
    rw [inix_0 _ (by decide)]
    unfold inr
    decide
  rw [if_neg h]
  clear h
  by_cases h : a = 96
  · rw [if_pos h]
    subst h
    rw [inix_0 _ (by decide)]
    unfold inr
    decide
  rw [if_neg h]
  clear h
  by_cases h : a = 100
  · rw [if_pos h]
    subst h
    rw [inix_0 _ (by decide)]
    unfold inr
    decide
  rw [if_neg h]
  clear h
  by_cases h : a = 107 ∧ i = 3
  · rw [if_pos h]
    obtain ⟨h, h2⟩ := h
    subst h
    rw [inix_0 _ (by decide)]
    unfold inr
    decide
  rw [if_neg h]
  clear h
  by_cases h : a = 107 ∧ i = 4
  · rw [if_pos h]
    obtain ⟨h, h2⟩ := h
    subst h
    rw [inix_0 _ (by decide)]
    unfold inr
    decide
  rw [if_neg h]
  clear h
  by_cases h : a = 119
  · rw [if_pos h]
    subst h
    rw [inix_0 _ (by decide)]
    unfold inr
    decide
  rw [if_neg h]
  clear h
  by_cases h : a = 121
  · rw [if_pos h]
    subst h
    rw [inix_0 _ (by decide)]
    unfold inr
    decide
  rw [if_neg h]
  clear h
  by_cases h : a = 129
  · rw [if_pos h]
    subst h
    rw [inix_0 _ (by decide)]
    unfold inr
    decide
  rw [if_neg h]
  clear h
  by_cases h : a = 130
  · rw [if_pos h]
    subst h
    rw [inix_0 _ (by decide)]
    unfold inr
    decide
  rw [if_neg h]
  clear h
  by_cases h : a = 131
  · rw [if_pos h]
    subst h
    rw [inix_0 _ (by decide)]
    unfold inr
    decide
  rw [if_neg h]
  clear h
  by_cases h : a = 136
  · rw [if_pos h]
    subst h
    rw [inix_0 _ (by decide)]
    unfold inr
    decide
  rw [if_neg h]
  clear h
  by_cases h : a = 138
  · rw [if_pos h]
    subst h
    rw [inix_0 _ (by decide)]
    unfold inr
    decide
  rw [if_neg h]
  clear h
  by_cases h : a = 139
  · rw [if_pos h]
    subst h
    rw [inix_0 _ (by decide)]
    unfold inr
    decide
  rw [if_neg h]
  clear h
  by_cases h : a = 150 ∧ i = 7
  · rw [if_pos h]
    obtain ⟨h, h2⟩ := h
    subst h
    rw [inix_0 _ (by decide)]
    unfold inr
    decide
  rw [if_neg h]
  clear h
  by_cases h : a = 150 ∧ i = 8
  · rw [if_pos h]
    obtain ⟨h, h2⟩ := h
    subst h
    rw [inix_0 _ (by decide)]
    unfold inr
    decide
  rw [if_neg h]
  clear h
  by_cases h : a = 163
  · rw [if_pos h]
    subst h
    rw [inix_0 _ (by decide)]
    unfold inr
    decide
  rw [if_neg h]
  clear h
  by_cases h : a = 164
  · rw [if_pos h]
    subst h
    rw [inix_0 _ (by decide)]
    unfold inr
    decide
  rw [if_neg h]
  clear h
  by_cases h : a = 166
  · rw [if_pos h]
    subst h
    rw [inix_0 _ (by decide)]
    unfold inr
    decide
  rw [if_neg h]
  clear h
  by_cases h : a = 167
  · rw [if_pos h]
    subst h
    rw [inix_0 _ (by decide)]
    unfold inr
    decide
  rw [if_neg h]
  clear h
  by_cases h : a = 168
  · rw [if_pos h]
    subst h
    rw [inix_0 _ (by decide)]
    unfold inr
    decide
  rw [if_neg h]
  clear h
  by_cases h : a = 169
  · rw [if_pos h]
    subst h
    exact ini_169 i
  rw [if_neg h]
  clear h
  by_cases h : a = 172
  · rw [if_pos h]
    subst h
    rw [inix_0 _ (by decide)]
    unfold inr
    decide
  rw [if_neg h]
  clear h
  by_cases h : a = 180
  · rw [if_pos h]
    subst h
    exact ini_180 i
  rw [if_neg h]
  clear h
  by_cases h : a = 181 ∧ i = 0
  · rw [if_pos h]
    obtain ⟨h, h2⟩ := h
    subst h
    rw [inix_0 _ (by decide)]
    unfold inr
    decide
  rw [if_neg h]
  clear h
  by_cases h : a = 181 ∧ i = 14
  · rw [if_pos h]
    obtain ⟨h, h2⟩ := h
    subst h
    rw [inix_0 _ (by decide)]
    unfold inr
    decide
  rw [if_neg h]
  clear h
  by_cases h : a = 181 ∧ i = 16
  · rw [if_pos h]
    obtain ⟨h, h2⟩ := h
    subst h
    rw [inix_0 _ (by decide)]
    unfold inr
    decide
  rw [if_neg h]
  clear h
  by_cases h : a = 181 ∧ i = 27
  · rw [if_pos h]
    obtain ⟨h, h2⟩ := h
    subst h
    rw [inix_0 _ (by decide)]
    unfold inr
    decide
  rw [if_neg h]
  clear h
  by_cases h : a = 181 ∧ i = 34
  · rw [if_pos h]
    obtain ⟨h, h2⟩ := h
    subst h
    rw [inix_0 _ (by decide)]
    unfold inr
    decide
  rw [if_neg h]
  clear h
  by_cases h : a = 181 ∧ i = 46
  · rw [if_pos h]
    obtain ⟨h, h2⟩ := h
    subst h
    rw [inix_0 _ (by decide)]
    unfold inr
    decide
  rw [if_neg h]
  clear h
  by_cases h : a = 181 ∧ i = 47
  · rw [if_pos h]
    obtain ⟨h, h2⟩ := h
    subst h
    rw [inix_0 _ (by decide)]
    unfold inr
    decide
  rw [if_neg h]
  clear h
  by_cases h : a = 181 ∧ i = 48
  · rw [if_pos h]
    obtain ⟨h, h2⟩ := h
    subst h
    rw [inix_0 _ (by decide)]
    unfold inr
    decide
  rw [if_neg h]
  clear h
  by_cases h : a = 182
  · rw [if_pos h]
    subst h
    rw [inix_0 _ (by decide)]
    unfold inr
    decide
  rw [if_neg h]
  clear h
  by_cases h : a = 183
  · rw [if_pos h]
    subst h
    rw [inix_0 _ (by decide)]
    unfold inr
    decide
  rw [if_neg h]
  clear h
  by_cases h : a = 191
  · rw [if_pos h]
    subst h
    rw [inix_0 _ (by decide)]
    unfold inr
    decide
  rw [if_neg h]
  clear h
  by_cases h : a = 196
  · rw [if_pos h]
    subst h
    rw [inix_0 _ (by decide)]
    unfold inr
    decide
  rw [if_neg h]
  clear h
  by_cases h : a = 197
  · rw [if_pos h]
    subst h
    rw [inix_0 _ (by decide)]
    unfold inr
    decide
  rw [if_neg h]
  clear h
  by_cases h : a = 204
  · rw [if_pos h]
    subst h
    rw [inix_0 _ (by decide)]
    unfold inr
    decide
  rw [if_neg h]
  clear h
  by_cases h : a = 207
  · rw [if_pos h]
    subst h
    rw [inix_0 _ (by decide)]
    unfold inr
    decide
  rw [if_neg h]
  clear h
  by_cases h : a = 221
  · rw [if_pos h]
    subst h
    rw [inix_0 _ (by decide)]
    unfold inr
    decide
  rw [if_neg h]
  clear h
  by_cases h : a = 223
  · rw [if_pos h]
    subst h
    rw [inix_0 _ (by decide)]
    unfold inr
    decide
  rw [if_neg h]
  clear h
  by_cases h : a = 225
  · rw [if_pos h]
    subst h
    rw [inix_0 _ (by decide)]
    unfold inr
    decide
  rw [if_neg h]
  clear h
  trivial
theorem GI_ini {f : Nat → Nat → Int32} (hf : ∀ a i, 6 ≤ a → f a i = if a < 227 then inix a i else 0) (h3 : ab3 f) : GI f := by
  have z : ∀ a i, 6 ≤ a → a < 227 → ¬ (109 ≤ a ∧ a ≤ 112) ∧ a ≠ 169 ∧ a ≠ 180 ∧ a ≠ 224 ∧ a ≠ 213 ∧ a ≠ 214 ∧ a ≠ 215 → f a i = 0 := fun a i h1 h2 h => by
    rw [hf a i h1, if_pos h2, inix_0 i h]
  refine ⟨fun a i => ?_, fun _ j hj => ?_, h3, 0, by omega, z 6 13 (by omega) (by omega) (by decide), z 181 0 (by omega) (by omega) (by decide), fun j hj => absurd hj (by omega), fun j hj => z (56 + j) 0 (by omega) (by omega) (by omega), fun j _ => z 192 j (by omega) (by omega) (by decide)⟩
  · by_cases h : a < 6 ∨ 227 ≤ a
    · exact okv_lo h
    · rw [hf a i (by omega), if_pos (by omega)]
      exact ini_ok a i
  · rw [hf 169 j (by omega), if_pos (by omega)]
    unfold inix
    rw [if_neg (by omega), if_pos ⟨rfl, hj⟩]
