def wadd (f : Nat → Nat → Int32) (n : Nat) (kind of h w t lo hi : Int32) : Nat → Nat → Int32 := (m_ui (m_ui (m_ui (m_ui (m_ui (m_ui (m_ui (m_ui (m_ui (m_ui f 7 n kind) 8 n of) 9 n h) 10 n w) 11 n lo) 12 n hi) (15 + n) 0 t) 96 n 1) 97 n 2000) 6 13 (nI n + 1))
def wtit (f : Nat → Nat → Int32) (j q : Nat) (y t : Int32) : Nat → Nat → Int32 := (m_ui (m_ui (m_ui f (15 + j) q t) (56 + j) q y) 96 j (nI q + 1))
def wcut (f : Nat → Nat → Int32) (j : Nat) (y h w : Int32) : Nat → Nat → Int32 := (m_ui (m_ui (m_ui f 97 j y) 98 j h) 99 j w)
theorem okv_r {a i : Nat} {v : Int32} (h : 15 ≤ a) (h' : a < 96) : okv a i v := by
  unfold okv
  repeat rw [if_neg (by omega)]
  trivial
theorem ne_r {j a : Nat} (h : a < 15 ∨ 96 ≤ a) (hj : j < 40) : ¬ a = 15 + j ∧ ¬ a = 56 + j ∧ ¬ 15 + j = a ∧ ¬ 56 + j = a := by omega
theorem m_ui_ne {f : Nat → Nat → Int32} {k j : Nat} {v : Int32} {a i : Nat} (h : ¬ a = k) : m_ui f k j v a i = f a i := by rw [m_ui_ap, if_neg h]
theorem m_ui_r {n : Nat} (hn : n < 40) {f : Nat → Nat → Int32} {j : Nat} {v : Int32} {i : Nat} : m_ui f (15 + n) j v 6 i = f 6 i := m_ui_ne (by omega)
set_option maxRecDepth 100000 in
set_option maxHeartbeats 4000000 in
theorem sx_Wadd {d L : Nat} {f : Nat → Nat → Int32} {g : Nat → Nat → Int64} {n : Nat} {x1 x2 x3 x4 x5 x6 x7 : Int32} {R : Option Value → mH → Prop} (hd : 1 ≤ d) (hb : f 6 13 = nI n) (hm : n ≤ 40) (HF : n = 40 → R (some (.int (-3))) (shF L, f, g)) (H : n < 40 → R (some (.int (nI n))) (shF L, wadd f n x1 x2 x3 x4 x5 x6 x7, g)) : Run mtab d 70 [.ref 6, .int x1, .int x2, .int x3, .int x4, .int x5, .int x6, .int x7] (shF L, f, g) R := by
  obtain ⟨d, rfl⟩ : ∃ e, d = e + 1 := ⟨d - 1, by omega⟩
  refine go_X8_add rfl ?_
  conv => whnf
  by_cases hq : n = 40
  · subst hq
    repeat' first
      | (simp only [hb])
      | ((with_reducible refine ⟨vp_in_nI (by omega) (by decide), ?_⟩) <;> conv => whnf)
      | (refine ⟨Or.inl rfl, ?_⟩ <;> conv => whnf)
      | (refine ⟨Or.inr rfl, ?_⟩ <;> conv => whnf)
      | (refine ⟨Or.inl True.intro, ?_⟩ <;> conv => whnf)
      | (refine ⟨Or.inr True.intro, ?_⟩ <;> conv => whnf)
      | (refine ⟨fun c => ?_, fun c => ?_⟩ <;> first | ((have c9 : (1 : Int32) = 0 := by with_reducible exact c); exact absurd c9 (by decide)) | exact absurd (rfl : (0 : Int32) = 0) (by with_reducible exact c) | exact absurd True.intro (by with_reducible exact c) | exact False.elim (by with_reducible exact c) | exact absurd (by decide) c | (conv => whnf))
      | (refine ⟨by unfold vp_in; decide, ?_⟩ <;> conv => whnf)
      | fail
    all_goals exact HF rfl
  · have hlt : n < 40 := by omega
    have hcl : (nI n).toNatClampNeg = n := nI_clamp (by omega)
    repeat' first
      | (simp only [hb, m_ui_r hlt, m_ui_ap, m_fil_ap, m_cpy_ap, Nat.reduceEqDiff, Nat.reduceLT, Nat.reduceLeDiff, eq_self, ↓reduceIte, false_and, and_false, true_and, and_true, and_self])
      | ((with_reducible refine ⟨vp_in_nI (by omega) (by decide), ?_⟩) <;> conv => whnf)
      | (refine ⟨Or.inl rfl, ?_⟩ <;> conv => whnf)
      | (refine ⟨Or.inr rfl, ?_⟩ <;> conv => whnf)
      | (refine ⟨Or.inl True.intro, ?_⟩ <;> conv => whnf)
      | (refine ⟨Or.inr True.intro, ?_⟩ <;> conv => whnf)
      | (refine ⟨fun c => ?_, fun c => ?_⟩ <;> first | ((have c9 : (1 : Int32) = 0 := by with_reducible exact c); exact absurd c9 (by decide)) | exact absurd (rfl : (0 : Int32) = 0) (by with_reducible exact c) | exact absurd True.intro (by with_reducible exact c) | exact False.elim (by with_reducible exact c) | exact absurd ((nI_eq (b := 40) (by omega) (by decide)).mp c) hq | (conv => whnf))
      | ((refine ⟨⟨vp_in_nI (by omega) (by decide), by rw [hcl]; show n < 40; omega, by rw [hcl, row_14 n hlt]; rfl⟩, ?_⟩) <;> simp only [hcl, row_14 n hlt, Option.getD_some] <;> conv => whnf)
      | ((simp only [m_act_eq, mi, mj, m_act0, m_arr2, m_arr, shp_14 L n hlt, shp_55 L n hlt]) <;> conv => whnf)
      | (refine ⟨by unfold vp_in; decide, ?_⟩ <;> conv => whnf)
      | fail
    all_goals (simp only [hcl]; exact H hlt)
set_option maxRecDepth 100000 in
set_option maxHeartbeats 4000000 in
theorem sx_addTitle {d L : Nat} {f : Nat → Nat → Int32} {g : Nat → Nat → Int64} {j q : Nat} {x2 x3 : Int32} {R : Option Value → mH → Prop} (hd : 1 ≤ d) (hj : j < 40) (hq : f 96 j = nI q) (hq1 : 1 ≤ q) (hq4 : q ≤ 4) (HN : x2 ≤ f (56 + j) (q - 1) → R (some (.int (-2))) (shF L, f, g)) (HF : ¬ x2 ≤ f (56 + j) (q - 1) → q = 4 → R (some (.int (-3))) (shF L, f, g)) (H : ¬ x2 ≤ f (56 + j) (q - 1) → q < 4 → R (some (.int (nI q + 1))) (shF L, wtit f j q x2 x3, g)) : Run mtab d 71 [.ref 6, .int (nI j), .int x2, .int x3] (shF L, f, g) R := by
  obtain ⟨d, rfl⟩ : ∃ e, d = e + 1 := ⟨d - 1, by omega⟩
  refine go_X8_addTitle rfl ?_
  conv => whnf
  have hcl : (nI j).toNatClampNeg = j := nI_clamp (by omega)
  have hclq : (nI q).toNatClampNeg = q := nI_clamp (by omega)
  have hclp : (nI (q - 1)).toNatClampNeg = q - 1 := nI_clamp (by omega)
  have hp1 : nI q - 1 = nI (q - 1) := by
    obtain ⟨k, rfl⟩ : ∃ k, q = k + 1 := ⟨q - 1, by omega⟩
    exact nI_pred k
  have hqq : f 96 (nI j).toNatClampNeg = nI q := by rw [hcl, hq]
  by_cases h4 : q = 4
  · subst h4
    repeat' first
      | ((with_reducible refine ⟨vp_in_nI (n := 4 - 1) (by omega) (by decide), ?_⟩) <;> conv => whnf)
      | (simp only [hqq, hp1, hclp])
      | ((with_reducible refine ⟨vp_in_nI (by omega) (by decide), ?_⟩) <;> conv => whnf)
      | (refine ⟨Or.inl rfl, ?_⟩ <;> conv => whnf)
      | (refine ⟨Or.inr rfl, ?_⟩ <;> conv => whnf)
      | (refine ⟨Or.inl True.intro, ?_⟩ <;> conv => whnf)
      | (refine ⟨Or.inr True.intro, ?_⟩ <;> conv => whnf)
      | (refine ⟨fun c => ?_, fun c => ?_⟩ <;> first | ((have c9 : (1 : Int32) = 0 := by with_reducible exact c); exact absurd c9 (by decide)) | exact absurd (rfl : (0 : Int32) = 0) (by with_reducible exact c) | exact absurd True.intro (by with_reducible exact c) | exact False.elim (by with_reducible exact c) | exact absurd (by decide) c | (conv => whnf))
      | ((refine ⟨⟨vp_in_nI (by omega) (by decide), by rw [hcl]; show j < 40; omega, by rw [hcl, row_14 j hj]; rfl⟩, ?_⟩) <;> simp only [hcl, row_14 j hj, Option.getD_some] <;> conv => whnf)
      | ((refine ⟨⟨vp_in_nI (by omega) (by decide), by rw [hcl]; show j < 40; omega, by rw [hcl, row_55 j hj]; rfl⟩, ?_⟩) <;> simp only [hcl, row_55 j hj, Option.getD_some] <;> conv => whnf)
      | ((simp only [m_act_eq, mi, mj, m_act0, m_arr2, m_arr, shp_14 L j hj, shp_55 L j hj]) <;> conv => whnf)
      | (refine ⟨by unfold vp_in; decide, ?_⟩ <;> conv => whnf)
      | fail
    all_goals (first | exact HN (i32_nlt.mp ‹_›) | exact HF (i32_nle.mpr ‹_›) rfl | exact HN (by assumption) | exact HF (by assumption) rfl)
  · have hlt4 : q < 4 := by omega
    repeat' first
      | (simp only [hqq, hp1, hclp])
      | ((with_reducible refine ⟨vp_in_nI (by omega) (by decide), ?_⟩) <;> conv => whnf)
      | (refine ⟨Or.inl rfl, ?_⟩ <;> conv => whnf)
      | (refine ⟨Or.inr rfl, ?_⟩ <;> conv => whnf)
      | (refine ⟨Or.inl True.intro, ?_⟩ <;> conv => whnf)
      | (refine ⟨Or.inr True.intro, ?_⟩ <;> conv => whnf)
      | (refine ⟨fun c => ?_, fun c => ?_⟩ <;> first | ((have c9 : (1 : Int32) = 0 := by with_reducible exact c); exact absurd c9 (by decide)) | exact absurd (rfl : (0 : Int32) = 0) (by with_reducible exact c) | exact absurd True.intro (by with_reducible exact c) | exact False.elim (by with_reducible exact c) | exact absurd ((nI_eq (b := 4) (by omega) (by decide)).mp c) h4 | (conv => whnf))
      | ((refine ⟨⟨vp_in_nI (by omega) (by decide), by rw [hcl]; show j < 40; omega, by rw [hcl, row_14 j hj]; rfl⟩, ?_⟩) <;> simp only [hcl, row_14 j hj, Option.getD_some] <;> conv => whnf)
      | ((refine ⟨⟨vp_in_nI (by omega) (by decide), by rw [hcl]; show j < 40; omega, by rw [hcl, row_55 j hj]; rfl⟩, ?_⟩) <;> simp only [hcl, row_55 j hj, Option.getD_some] <;> conv => whnf)
      | ((simp only [m_act_eq, mi, mj, m_act0, m_arr2, m_arr, shp_14 L j hj, shp_55 L j hj]) <;> conv => whnf)
      | (refine ⟨by unfold vp_in; decide, ?_⟩ <;> conv => whnf)
      | fail
    all_goals (try simp only [hclq, hcl]) <;> (first | exact HN (i32_nlt.mp ‹_›) | exact H (i32_nle.mpr ‹_›) hlt4 | exact HN (by assumption) | exact H (by assumption) hlt4)
set_option maxRecDepth 100000 in
set_option maxHeartbeats 4000000 in
theorem sx_trim {d L : Nat} {f : Nat → Nat → Int32} {g : Nat → Nat → Int64} {j : Nat} {x2 x3 x4 : Int32} {R : Option Value → mH → Prop} (hd : 1 ≤ d) (hj : j < 40) (H0 : ¬ (f 97 j = 2000 ∧ x3 ≤ f 9 j ∧ x4 ≤ f 10 j ∧ ¬ (x3 = f 9 j ∧ x4 = f 10 j)) → R (some (.int (-2))) (shF L, f, g)) (H1 : (f 97 j = 2000 ∧ x3 ≤ f 9 j ∧ x4 ≤ f 10 j ∧ ¬ (x3 = f 9 j ∧ x4 = f 10 j)) → R (some (.int 1)) (shF L, wcut f j x2 x3 x4, g)) : Run mtab d 72 [.ref 6, .int (nI j), .int x2, .int x3, .int x4] (shF L, f, g) R := by
  obtain ⟨d, rfl⟩ : ∃ e, d = e + 1 := ⟨d - 1, by omega⟩
  refine go_X8_trim rfl ?_
  conv => whnf
  have hcl : (nI j).toNatClampNeg = j := nI_clamp (by omega)
  repeat' first
    | (simp only [hcl])
    | ((with_reducible refine ⟨vp_in_nI (by omega) (by decide), ?_⟩) <;> conv => whnf)
    | (refine ⟨Or.inl rfl, ?_⟩ <;> conv => whnf)
    | (refine ⟨Or.inr rfl, ?_⟩ <;> conv => whnf)
    | (refine ⟨Or.inl True.intro, ?_⟩ <;> conv => whnf)
    | (refine ⟨Or.inr True.intro, ?_⟩ <;> conv => whnf)
    | (refine ⟨fun c => ?_, fun c => ?_⟩ <;> first | ((have c9 : (1 : Int32) = 0 := by with_reducible exact c); exact absurd c9 (by decide)) | exact absurd (rfl : (0 : Int32) = 0) (by with_reducible exact c) | exact absurd True.intro (by with_reducible exact c) | exact False.elim (by with_reducible exact c) | (conv => whnf))
    | (refine ⟨by unfold vp_in; decide, ?_⟩ <;> conv => whnf)
    | fail
  all_goals first | exact H0 (by simp only [← i32_nle] at *; grind) | exact H1 (by simp only [← i32_nle] at *; grind)
