/-- one of two answers -/
def v2 (P : Prop) (a b v : Int32) : Prop := (P → v = a) ∧ (¬ P → v = b)
theorem v2_y {P : Prop} {a b : Int32} (h : P) : v2 P a b a := ⟨fun _ => rfl, fun q => absurd h q⟩
theorem v2_n {P : Prop} {a b : Int32} (h : ¬ P) : v2 P a b b := ⟨fun q => absurd q h, fun _ => rfl⟩
theorem v2_eq {P : Prop} {a b v w : Int32} (h : v2 P a b v) (h' : v2 P a b w) : v = w := by
  by_cases p : P
  · rw [h.1 p, h'.1 p]
  · rw [h.2 p, h'.2 p]
theorem vpi {x hi : Int32} {n : Nat} (h : inr 0 hi x) (hn : hi.toInt < n) : vp_in x n := by
  have h1 := Int32.le_iff_toInt_le.mp h.1
  have h2 := Int32.le_iff_toInt_le.mp h.2
  have e0 : (0 : Int32).toInt = 0 := rfl
  exact vp_in_iff.mpr ⟨by omega, by omega⟩
theorem inr_c2 {x : Int32} (h : inr 0 2 x) : x = 0 ∨ x = 1 ∨ x = 2 := by
  have h1 := Int32.le_iff_toInt_le.mp h.1
  have h2 := Int32.le_iff_toInt_le.mp h.2
  simp only [← Int32.toInt_inj]
  have e0 : (0 : Int32).toInt = 0 := rfl
  have e1 : (1 : Int32).toInt = 1 := rfl
  have e2 : (2 : Int32).toInt = 2 := rfl
  omega
theorem inr_c3 {x : Int32} (h : inr 0 3 x) : x = 0 ∨ x = 1 ∨ x = 2 ∨ x = 3 := by
  have h1 := Int32.le_iff_toInt_le.mp h.1
  have h2 := Int32.le_iff_toInt_le.mp h.2
  simp only [← Int32.toInt_inj]
  have e0 : (0 : Int32).toInt = 0 := rfl
  have e1 : (1 : Int32).toInt = 1 := rfl
  have e2 : (2 : Int32).toInt = 2 := rfl
  have e3 : (3 : Int32).toInt = 3 := rfl
  omega
theorem inr_c7 {x : Int32} (h : inr 0 7 x) : x = 0 ∨ x = 1 ∨ x = 2 ∨ x = 3 ∨ x = 4 ∨ x = 5 ∨ x = 6 ∨ x = 7 := by
  have h1 := Int32.le_iff_toInt_le.mp h.1
  have h2 := Int32.le_iff_toInt_le.mp h.2
  simp only [← Int32.toInt_inj]
  have e0 : (0 : Int32).toInt = 0 := rfl
  have e1 : (1 : Int32).toInt = 1 := rfl
  have e2 : (2 : Int32).toInt = 2 := rfl
  have e3 : (3 : Int32).toInt = 3 := rfl
  have e4 : (4 : Int32).toInt = 4 := rfl
  have e5 : (5 : Int32).toInt = 5 := rfl
  have e6 : (6 : Int32).toInt = 6 := rfl
  have e7 : (7 : Int32).toInt = 7 := rfl
  omega
theorem inr_18 {x : Int32} (h : inr 1 8 x) : ∃ n : Nat, 1 ≤ n ∧ n ≤ 8 ∧ x = nI n := by
  have h1 := Int32.le_iff_toInt_le.mp h.1
  have h2 := Int32.le_iff_toInt_le.mp h.2
  have e1 : (1 : Int32).toInt = 1 := rfl
  have e8 : (8 : Int32).toInt = 8 := rfl
  obtain ⟨j, hj, rfl⟩ := nI_of2 (x := x) (M := 8) (n := 8) rfl (by rw [Int32.lt_iff_toInt_lt]; have e0 : (0 : Int32).toInt = 0 := rfl; omega) h.2
  refine ⟨j, ?_, hj, rfl⟩
  rw [nI_toInt (by omega)] at h1
  omega
set_option maxRecDepth 100000 in
set_option maxHeartbeats 4000000 in
theorem x_asides {d L : Nat} {f : Nat → Nat → Int32} {g : Nat → Nat → Int64}  {R : Option Value → mH → Prop} (hd : 6 ≤ d) (z : z0 f) (H : ∀ f' g', fr f f' → R (some (.int 0)) (shF L, f', g')) : Run mtab d 116 [.ref 5] (shF L, f, g) R := by
  obtain ⟨d, rfl⟩ : ∃ e, d = e + 1 := ⟨d - 1, by omega⟩
  obtain ⟨z1, z2, z3, z4, z5, z6, z7⟩ := id z
  refine go_X10_asides rfl ?_
  conv => whnf
  repeat' first
    | (refine ⟨by decide, ?_⟩ <;> conv => whnf)
    | (refine ⟨by unfold vp_in; decide, ?_⟩ <;> conv => whnf)
    | (refine ⟨fun c => ?_, fun c => ?_⟩ <;> first | exact absurd c (by decide) | exact absurd (by decide) c | (conv => whnf))
    | (refine ct_reckon (by omega) z (fun f1 z1 h1 hq hc => ?_) <;> conv => whnf)
    | (refine ct_findAsides (by omega) hq ?_ <;> conv => whnf)
    | fail
  exact H _ _ h1
set_option maxRecDepth 100000 in
set_option maxHeartbeats 4000000 in
theorem x_aside {d L : Nat} {f : Nat → Nat → Int32} {g : Nat → Nat → Int64} {x : Int32} {R : Option Value → mH → Prop} (hd : 6 ≤ d) (z : z0 f) (H : ∀ f' g', fr f f' → R (some (.int (-1))) (shF L, f', g')) : Run mtab d 117 [.ref 5, .int x] (shF L, f, g) R := by
  obtain ⟨d, rfl⟩ : ∃ e, d = e + 1 := ⟨d - 1, by omega⟩
  obtain ⟨z1, z2, z3, z4, z5, z6, z7⟩ := id z
  refine go_X10_aside rfl ?_
  conv => whnf
  repeat' first
    | (refine ⟨by decide, ?_⟩ <;> conv => whnf)
    | (refine ⟨by unfold vp_in; decide, ?_⟩ <;> conv => whnf)
    | (refine ⟨fun c => ?_, fun c => ?_⟩ <;> first | exact absurd c (by decide) | exact absurd (by decide) c | (conv => whnf))
    | (refine ct_isWithin (by omega) (fun p => ?_) (fun p => ?_) <;> conv => whnf)
    | (refine ct_reckon (by omega) z (fun f1 z1 h1 hq hc => ?_) <;> conv => whnf)
    | (refine ct_findAsides (by omega) hq ?_ <;> conv => whnf)
    | fail
  all_goals first | exact H _ _ h1 | exact H _ _ (fr_refl f) | exact absurd p.1 c
set_option maxRecDepth 100000 in
set_option maxHeartbeats 4000000 in
theorem x_sum {d L : Nat} {f : Nat → Nat → Int32} {g : Nat → Nat → Int64} {x : Int32} {R : Option Value → mH → Prop} (hd : 6 ≤ d) (z : z0 f) (H : ∀ v f' g', v2 (inr 0 15 x) 0 (-1) v → fr f f' → R (some (.int v)) (shF L, f', g')) : Run mtab d 109 [.ref 5, .int x] (shF L, f, g) R := by
  obtain ⟨d, rfl⟩ : ∃ e, d = e + 1 := ⟨d - 1, by omega⟩
  obtain ⟨z1, z2, z3, z4, z5, z6, z7⟩ := id z
  refine go_X10_sum rfl ?_
  conv => whnf
  repeat' first
    | (simp only [ht])
    | (refine ⟨by decide, ?_⟩ <;> conv => whnf)
    | (refine ⟨by unfold vp_in; decide, ?_⟩ <;> conv => whnf)
    | (refine ⟨fun c => ?_, fun c => ?_⟩ <;> first | exact absurd c (by decide) | exact absurd (by decide) c | (conv => whnf))
    | (refine ct_isWithin (by omega) (fun p => ?_) (fun p => ?_) <;> conv => whnf)
    | (refine ct_reckon (by omega) z (fun f1 z1 h1 hq hc => ?_) <;> conv => whnf)
    | (refine ct_join (by omega) z1 (fun f2 g2 z2 h2 hr ht => ?_) <;> conv => whnf)
    | fail
  all_goals first | exact H _ _ _ (v2_y (by grind)) (by first | exact fr_refl _ | exact fr_trans h1 h2) | exact H _ _ _ (v2_n (by grind)) (by first | exact fr_refl _ | exact fr_trans h1 h2)
set_option maxRecDepth 100000 in
set_option maxHeartbeats 4000000 in
theorem x_mentions {d L : Nat} {f : Nat → Nat → Int32} {g : Nat → Nat → Int64} {x : Int32} {R : Option Value → mH → Prop} (hd : 6 ≤ d) (z : z0 f) (H : ∀ v f' g', v2 (inr 0 2 x) 0 (-1) v → fr f f' → R (some (.int v)) (shF L, f', g')) : Run mtab d 110 [.ref 5, .int x] (shF L, f, g) R := by
  obtain ⟨d, rfl⟩ : ∃ e, d = e + 1 := ⟨d - 1, by omega⟩
  obtain ⟨z1, z2, z3, z4, z5, z6, z7⟩ := id z
  refine go_X10_mentions rfl ?_
  conv => whnf
  repeat' first
    | (refine ⟨by decide, ?_⟩ <;> conv => whnf)
    | (refine ⟨by unfold vp_in; decide, ?_⟩ <;> conv => whnf)
    | (refine ⟨fun c => ?_, fun c => ?_⟩ <;> first | exact absurd c (by decide) | exact absurd (by decide) c | (conv => whnf))
    | (refine ct_isWithin (by omega) (fun p => ?_) (fun p => ?_) <;> conv => whnf)
    | (refine ct_reckon (by omega) z (fun f1 z1 h1 hq hc => ?_) <;> conv => whnf)
    | (refine ct_countLost (by omega) z1 ?_ <;> conv => whnf)
    | (refine ct_countJoined (by omega) z1 (fun f2 g2 z2 h2 => ?_) <;> conv => whnf)
    | fail
  all_goals first | exact H _ _ _ (v2_y (by grind)) (by first | exact fr_refl _ | exact fr_trans h1 h2 | exact h1) | exact H _ _ _ (v2_n (by grind)) (by first | exact fr_refl _ | exact fr_trans h1 h2 | exact h1)
def v3 (P Q : Prop) (a b c v : Int32) : Prop := (¬ P → v = a) ∧ (P → Q → v = b) ∧ (P → ¬ Q → v = c)
theorem v3_n {P Q : Prop} {a b c : Int32} (h : ¬ P) : v3 P Q a b c a := ⟨fun _ => rfl, fun q _ => absurd q h, fun q _ => absurd q h⟩
theorem v3_y {P Q : Prop} {a b c : Int32} (h : P) (k : Q) : v3 P Q a b c b := ⟨fun q => absurd h q, fun _ _ => rfl, fun _ q => absurd k q⟩
theorem v3_z {P Q : Prop} {a b c : Int32} (h : P) (k : ¬ Q) : v3 P Q a b c c := ⟨fun q => absurd h q, fun _ q => absurd q k, fun _ _ => rfl⟩
theorem v3_eq {P Q : Prop} {a b c v w : Int32} (h : v3 P Q a b c v) (h' : v3 P Q a b c w) : v = w := by
  by_cases p : P
  · by_cases q : Q
    · rw [h.2.1 p q, h'.2.1 p q]
    · rw [h.2.2 p q, h'.2.2 p q]
  · rw [h.1 p, h'.1 p]
set_option maxRecDepth 100000 in
set_option maxHeartbeats 4000000 in
theorem x_counted {d L : Nat} {f : Nat → Nat → Int32} {g : Nat → Nat → Int64} {x y w : Int32} {R : Option Value → mH → Prop} (hd : 6 ≤ d) (z : z0 f) (H : ∀ v f' g', v3 (inr 0 2 x ∧ inr 0 2 y ∧ ¬ x = y ∧ inr 0 4 w) (w = 3) (-1) (-4) 0 v → fr f f' → R (some (.int v)) (shF L, f', g')) : Run mtab d 111 [.ref 5, .int x, .int y, .int w] (shF L, f, g) R := by
  obtain ⟨d, rfl⟩ : ∃ e, d = e + 1 := ⟨d - 1, by omega⟩
  obtain ⟨z1, z2, z3, z4, z5, z6, z7⟩ := id z
  refine go_X10_counted rfl ?_
  conv => whnf
  repeat' first
    | (refine ⟨by decide, ?_⟩ <;> conv => whnf)
    | (refine ⟨by unfold vp_in; decide, ?_⟩ <;> conv => whnf)
    | (refine ⟨fun c => ?_, fun c => ?_⟩ <;> first | exact absurd c (by decide) | exact absurd (by decide) c | (conv => whnf))
    | (refine ct_isWithin (by omega) (fun p => ?_) (fun p => ?_) <;> conv => whnf)
    | (refine ct_reckon (by omega) z (fun f1 z1 h1 hq hc => ?_) <;> conv => whnf)
    | (refine ct_sureWorks (by omega) z1 (fun f2 g2 z2 h2 => ?_) <;> conv => whnf)
    | (refine ct_sureWorks (by omega) z2 (fun f3 g3 z3 h3 => ?_) <;> conv => whnf)
    | (refine ct_bitCountL0 (by omega) ?_ <;> conv => whnf)
    | (refine ⟨fun c => ?_, ?_⟩ <;> conv => whnf)
    | (intro c; conv => whnf)
    | fail
  all_goals first | exact H _ _ _ (v3_n (by grind)) (by first | exact fr_refl _ | exact fr_trans h1 (fr_trans h2 h3)) | exact H _ _ _ (v3_y (by grind) (by grind)) (by first | exact fr_refl _ | exact fr_trans h1 (fr_trans h2 h3)) | exact H _ _ _ (v3_z (by grind) (by grind)) (by first | exact fr_refl _ | exact fr_trans h1 (fr_trans h2 h3))
set_option maxRecDepth 100000 in
set_option maxHeartbeats 4000000 in
theorem x_edition {d L : Nat} {f : Nat → Nat → Int32} {g : Nat → Nat → Int64}  {R : Option Value → mH → Prop} (hd : 6 ≤ d) (z : z0 f) (H : ∀ f' g', fr f f' → R (some (.int 0)) (shF L, f', g')) : Run mtab d 127 [.ref 5] (shF L, f, g) R := by
  obtain ⟨d, rfl⟩ : ∃ e, d = e + 1 := ⟨d - 1, by omega⟩
  obtain ⟨z1, z2, z3, z4, z5, z6, z7⟩ := id z
  refine go_X10_edition rfl ?_
  conv => whnf
  repeat' first
    | (simp only [z1, z2, z3, z4, z5, z6, z7])
    | (refine ⟨by decide, ?_⟩ <;> conv => whnf)
    | (refine ⟨by unfold vp_in; decide, ?_⟩ <;> conv => whnf)
    | (refine ⟨fun c => ?_, fun c => ?_⟩ <;> first | exact absurd c (by decide) | exact absurd (by decide) c | (conv => whnf))
    | (refine ct_reckon (by omega) z (fun f1 z1 h1 hq hc => ?_) <;> conv => whnf)
    | (refine ct_publish (by omega) z1 (fun f2 h2 => ?_) <;> conv => whnf)
    | fail
  exact H _ _ (fr_trans h1 h2)
set_option maxRecDepth 100000 in
set_option maxHeartbeats 4000000 in
theorem x_unhold {d L : Nat} {f : Nat → Nat → Int32} {g : Nat → Nat → Int64}  {R : Option Value → mH → Prop} (hd : 1 ≤ d) (z : z0 f) (H : R (some (.int (-2))) (shF L, f, g)) : Run mtab d 99 [.ref 5] (shF L, f, g) R := by
  obtain ⟨d, rfl⟩ : ∃ e, d = e + 1 := ⟨d - 1, by omega⟩
  obtain ⟨z1, z2, z3, z4, z5, z6, z7⟩ := id z
  refine go_X10_unhold rfl ?_
  conv => whnf
  repeat' first
    | (simp only [z1, z2, z3, z4, z5, z6, z7])
    | (refine ⟨by decide, ?_⟩ <;> conv => whnf)
    | (refine ⟨by unfold vp_in; decide, ?_⟩ <;> conv => whnf)
    | (refine ⟨fun c => ?_, fun c => ?_⟩ <;> first | exact absurd c (by decide) | exact absurd (by decide) c | (conv => whnf))
    | fail
  exact H
set_option maxRecDepth 100000 in
set_option maxHeartbeats 4000000 in
theorem ct_isAsOf {d L : Nat} {f : Nat → Nat → Int32} {g : Nat → Nat → Int64} {x y : Int32} {R : Option Value → mH → Prop} (hd : 2 ≤ d) (z : z0 f) (H1 : inr 0 9999 x ∧ y = 0 → R (some (.int 1)) (shF L, f, g)) (H0 : ¬ (inr 0 9999 x ∧ y = 0) → R (some (.int 0)) (shF L, f, g)) : Run mtab d 144 [.ref 5, .int x, .int y] (shF L, f, g) R := by
  obtain ⟨d, rfl⟩ : ∃ e, d = e + 1 := ⟨d - 1, by omega⟩
  obtain ⟨z1, z2, z3, z4, z5, z6, z7⟩ := id z
  refine go_X10_isAsOf rfl ?_
  conv => whnf
  repeat' first
    | (simp only [z1, z2, z3, z4, z5, z6, z7, inr_0])
    | (refine ⟨by decide, ?_⟩ <;> conv => whnf)
    | (refine ⟨by unfold vp_in; decide, ?_⟩ <;> conv => whnf)
    | (refine ⟨fun c => ?_, fun c => ?_⟩ <;> first | exact absurd c (by decide) | exact absurd (by decide) c | (conv => whnf))
    | (refine ct_isWithin (by omega) (fun p => ?_) (fun p => ?_) <;> conv => whnf)
    | fail
  all_goals first | exact H1 (by have := inr_0 y; grind) | exact H0 (by have := inr_0 y; grind)
set_option maxRecDepth 100000 in
set_option maxHeartbeats 4000000 in
theorem x_unsure {d L : Nat} {f : Nat → Nat → Int32} {g : Nat → Nat → Int64} {x y : Int32} {R : Option Value → mH → Prop} (hd : 4 ≤ d) (z : z0 f) (H : ∀ v f' g', v2 (inr 0 9999 x ∧ y = 0) 0 (-1) v → fr f f' → R (some (.int v)) (shF L, f', g')) : Run mtab d 125 [.ref 5, .int x, .int y] (shF L, f, g) R := by
  obtain ⟨d, rfl⟩ : ∃ e, d = e + 1 := ⟨d - 1, by omega⟩
  obtain ⟨z1, z2, z3, z4, z5, z6, z7⟩ := id z
  refine go_X10_unsure rfl ?_
  conv => whnf
  repeat' first
    | (simp only [p.2, z1, z2, z3, z4, z5, z6, z7, m_ui_ap, m_fil_ap, m_cpy_ap, Nat.reduceEqDiff, Nat.reduceLT, Nat.reduceLeDiff, eq_self, ↓reduceIte, false_and, and_false, true_and, and_true, and_self])
    | (refine ⟨by decide, ?_⟩ <;> conv => whnf)
    | (refine ⟨by unfold vp_in; decide, ?_⟩ <;> conv => whnf)
    | (refine ⟨fun c => ?_, fun c => ?_⟩ <;> first | exact absurd c (by decide) | exact absurd (by decide) c | (conv => whnf))
    | (refine at_X10_unsure ?_ <;> conv => whnf)
    | (refine ct_isAsOf (by omega) z (fun p => ?_) (fun p => ?_) <;> conv => whnf)
    | (refine ct_reckon0 (by omega) ?_ <;> conv => whnf)
    | fail
  all_goals first | exact H _ _ _ (v2_y (by grind)) (by first | exact fr_refl _ | assumption | (repeat' first | exact fr_refl _ | assumption | refine fr_ui (by decide) (by decide) ?_ | refine fr_fil (by decide) (by decide) ?_)) | exact H _ _ _ (v2_n (by grind)) (by first | exact fr_refl _ | assumption | (repeat' first | exact fr_refl _ | assumption | refine fr_ui (by decide) (by decide) ?_ | refine fr_fil (by decide) (by decide) ?_))
set_option maxRecDepth 100000 in
set_option maxHeartbeats 4000000 in
theorem ct_countStates {d L : Nat} {f : Nat → Nat → Int32} {g : Nat → Nat → Int64} {x : Int32} {R : Option Value → mH → Prop} (hd : 4 ≤ d) (z : z0 f) (H : ∀ f', fr f f' → R (some (.int 0)) (shF L, f', g)) : Run mtab d 146 [.ref 5, .int x] (shF L, f, g) R := by
  obtain ⟨d, rfl⟩ : ∃ e, d = e + 1 := ⟨d - 1, by omega⟩
  obtain ⟨z1, z2, z3, z4, z5, z6, z7⟩ := id z
  refine go_X10_countStates rfl ?_
  conv => whnf
  repeat' first
    | (simp only [z1, z2, z3, z4, z5, z6, z7, m_ui_ap, m_fil_ap, m_cpy_ap, Nat.reduceEqDiff, Nat.reduceLT, Nat.reduceLeDiff, eq_self, ↓reduceIte, false_and, and_false, true_and, and_true, and_self])
    | (refine ⟨by decide, ?_⟩ <;> conv => whnf)
    | (refine ⟨by unfold vp_in; decide, ?_⟩ <;> conv => whnf)
    | (refine ⟨fun c => ?_, fun c => ?_⟩ <;> first | exact absurd c (by decide) | exact absurd (by decide) c | (conv => whnf))
    | (refine at_X10_countStates ?_ <;> conv => whnf)
    | (refine ct_reckonAll (by omega) z ?_ <;> conv => whnf)
    | fail
  exact H _ (by first | exact fr_refl _ | assumption | (repeat' first | exact fr_refl _ | assumption | refine fr_ui (by decide) (by decide) ?_ | refine fr_fil (by decide) (by decide) ?_))
set_option maxRecDepth 100000 in
set_option maxHeartbeats 4000000 in
theorem x_count {d L : Nat} {f : Nat → Nat → Int32} {g : Nat → Nat → Int64} {x : Int32} {R : Option Value → mH → Prop} (hd : 5 ≤ d) (z : z0 f) (H : ∀ v f' g', v2 (inr 0 7 x) 0 (-1) v → fr f f' → R (some (.int v)) (shF L, f', g')) : Run mtab d 129 [.ref 5, .int x] (shF L, f, g) R := by
  obtain ⟨d, rfl⟩ : ∃ e, d = e + 1 := ⟨d - 1, by omega⟩
  obtain ⟨z1, z2, z3, z4, z5, z6, z7⟩ := id z
  refine go_X10_count rfl ?_
  conv => whnf
  repeat' first
    | (simp only [z1, z2, z3, z4, z5, z6, z7])
    | (refine ⟨by decide, ?_⟩ <;> conv => whnf)
    | (refine ⟨by unfold vp_in; decide, ?_⟩ <;> conv => whnf)
    | (refine ⟨fun c => ?_, fun c => ?_⟩ <;> first | exact absurd c (by decide) | exact absurd (by decide) c | (conv => whnf))
    | (refine ct_countStates (by omega) z (fun f1 h1 => ?_) <;> conv => whnf)
    | (refine ⟨fun c => ?_, ?_⟩ <;> conv => whnf)
    | (intro c; conv => whnf)
    | fail
  all_goals first | exact H _ _ _ (v2_y (by subst c; unfold inr; decide)) (by first | exact fr_refl _ | assumption | (repeat' first | exact fr_refl _ | assumption | refine fr_ui (by decide) (by decide) ?_ | refine fr_fil (by decide) (by decide) ?_)) | exact H _ _ _ (v2_n (fun q => by have := inr_c7 q; grind)) (by first | exact fr_refl _ | assumption | (repeat' first | exact fr_refl _ | assumption | refine fr_ui (by decide) (by decide) ?_ | refine fr_fil (by decide) (by decide) ?_))
set_option maxRecDepth 100000 in
set_option maxHeartbeats 4000000 in
theorem x_kin {d L : Nat} {f : Nat → Nat → Int32} {g : Nat → Nat → Int64} {x y : Int32} {R : Option Value → mH → Prop} (hd : 3 ≤ d) (z : z0 f) (hk : ∀ i, f 120 i = 0) (H : ∀ v f' g', v2 (inr 0 7 x ∧ inr 0 1048575 y) 0 (-1) v → fr f f' → R (some (.int v)) (shF L, f', g')) : Run mtab d 118 [.ref 5, .int x, .int y] (shF L, f, g) R := by
  obtain ⟨d, rfl⟩ : ∃ e, d = e + 1 := ⟨d - 1, by omega⟩
  obtain ⟨z1, z2, z3, z4, z5, z6, z7⟩ := id z
  refine go_X10_kin rfl ?_
  conv => whnf
  repeat' first
    | (refine ⟨vpi ‹inr 0 7 _› (by decide), ?_⟩ <;> conv => whnf)
    | (simp only [hk])
    | (refine ⟨by decide, ?_⟩ <;> conv => whnf)
    | (refine ⟨by unfold vp_in; decide, ?_⟩ <;> conv => whnf)
    | (refine ⟨fun c => ?_, fun c => ?_⟩ <;> first | exact absurd c (by decide) | exact absurd (by decide) c | (conv => whnf))
    | (refine ct_isWithin (by omega) (fun p => ?_) (fun p => ?_) <;> conv => whnf)
    | (refine ct_isBits20 (by omega) (fun p => ?_) (fun p => ?_) <;> conv => whnf)
    | fail
  all_goals first | exact H _ _ _ (v2_y (by grind)) (by first | exact fr_refl _ | assumption | (repeat' first | exact fr_refl _ | assumption | refine fr_ui (by decide) (by decide) ?_ | refine fr_fil (by decide) (by decide) ?_)) | exact H _ _ _ (v2_n (by grind)) (by first | exact fr_refl _ | assumption | (repeat' first | exact fr_refl _ | assumption | refine fr_ui (by decide) (by decide) ?_ | refine fr_fil (by decide) (by decide) ?_))
def rsv (x : Int32) : Int32 := if x = 1 then 2 else 3
set_option maxRecDepth 100000 in
set_option maxHeartbeats 4000000 in
theorem x_rule {d L : Nat} {f : Nat → Nat → Int32} {g : Nat → Nat → Int64} {x y : Int32} {R : Option Value → mH → Prop} (hd : 2 ≤ d) (hr : ∀ a i, 109 ≤ a → a ≤ 112 → i < 3 → f a i = if i = 1 then 2 else 3) (H1 : inr 0 3 x ∧ inr 0 2 y → ∀ v, v = rsv y → R (some (.int v)) (shF L, f, g)) (H0 : ¬ (inr 0 3 x ∧ inr 0 2 y) → R (some (.int (-1))) (shF L, f, g)) : Run mtab d 121 [.ref 5, .int x, .int y] (shF L, f, g) R := by
  obtain ⟨d, rfl⟩ : ∃ e, d = e + 1 := ⟨d - 1, by omega⟩
  refine go_X10_rule rfl ?_
  conv => whnf
  by_cases q : inr 0 3 x ∧ inr 0 2 y
  · have H := H1 q
    rcases inr_c3 q.1 with rfl | rfl | rfl | rfl <;> rcases inr_c2 q.2 with rfl | rfl | rfl <;> revert H
    all_goals intro H
    all_goals
      repeat' first
        | exact absurd (by unfold inr; decide) p
        | (refine ⟨⟨by unfold vp_in; decide, by decide, by decide⟩, ?_⟩ <;> conv => whnf)
        | (refine ⟨by decide, ?_⟩ <;> conv => whnf)
        | (refine ⟨by unfold vp_in; decide, ?_⟩ <;> conv => whnf)
        | (refine ⟨fun c => ?_, fun c => ?_⟩ <;> first | exact absurd c (by decide) | exact absurd (by decide) c | (conv => whnf))
        | (refine ct_isWithin (by omega) (fun p => ?_) (fun p => ?_) <;> conv => whnf)
        | fail
    all_goals
      refine H _ ?_
      refine Eq.trans (hr _ _ ?_ ?_ ?_) ?_ <;> decide
  · have H := H0 q
    repeat' first
      | (exact absurd ⟨‹inr 0 3 x›, ‹inr 0 2 y›⟩ q)
      | (refine ⟨by decide, ?_⟩ <;> conv => whnf)
      | (refine ⟨by unfold vp_in; decide, ?_⟩ <;> conv => whnf)
      | (refine ⟨fun c => ?_, fun c => ?_⟩ <;> first | exact absurd c (by decide) | exact absurd (by decide) c | (conv => whnf))
      | (refine ct_isWithin (by omega) (fun p => ?_) (fun p => ?_) <;> conv => whnf)
      | fail
    all_goals exact H
set_option maxRecDepth 100000 in
set_option maxHeartbeats 4000000 in
theorem ct_lay {d L : Nat} {f : Nat → Nat → Int32} {g : Nat → Nat → Int64} {x y w : Int32} {R : Option Value → mH → Prop} (hd : 2 ≤ d) (q : inr 0 3 x) (H : ∀ f', fr f f' → R none (shF L, f', g)) : Run mtab d 64 [.ref 173, .int x, .int y, .int w] (shF L, f, g) R := by
  obtain ⟨d, rfl⟩ : ∃ e, d = e + 1 := ⟨d - 1, by omega⟩
  refine go_X7_lay rfl ?_
  conv => whnf
  rcases inr_c3 q with rfl | rfl | rfl | rfl
  all_goals
    repeat' first
      | (refine ⟨⟨by unfold vp_in; decide, by decide, by decide⟩, ?_⟩ <;> conv => whnf)
      | (refine ⟨by decide, ?_⟩ <;> conv => whnf)
      | (refine ⟨by unfold vp_in; decide, ?_⟩ <;> conv => whnf)
      | (refine ⟨fun c => ?_, fun c => ?_⟩ <;> first | exact absurd c (by decide) | exact absurd (by decide) c | (conv => whnf))
      | (refine ct_fill (n := 60) (by omega) rfl (by decide) ?_ <;> conv => whnf)
      | fail
  all_goals exact H _ (by first | exact fr_refl _ | assumption | (repeat' first | exact fr_refl _ | assumption | refine fr_ui (by decide) (by decide) ?_ | refine fr_fil (by decide) (by decide) ?_))
set_option maxRecDepth 100000 in
set_option maxHeartbeats 4000000 in
theorem x_sheet {d L : Nat} {f : Nat → Nat → Int32} {g : Nat → Nat → Int64} {x y w : Int32} {R : Option Value → mH → Prop} (hd : 3 ≤ d) (H : ∀ v f' g', v3 (inr 0 3 x ∧ inr 0 2 y ∧ ¬ 60 < w) (w < 0) (-1) (-14) w v → fr f f' → R (some (.int v)) (shF L, f', g')) : Run mtab d 130 [.ref 5, .int x, .int y, .int w] (shF L, f, g) R := by
  obtain ⟨d, rfl⟩ : ∃ e, d = e + 1 := ⟨d - 1, by omega⟩
  refine go_X10_sheet rfl ?_
  conv => whnf
  repeat' first
    | (refine ⟨by decide, ?_⟩ <;> conv => whnf)
    | (refine ⟨by unfold vp_in; decide, ?_⟩ <;> conv => whnf)
    | (refine ⟨fun c => ?_, fun c => ?_⟩ <;> first | exact absurd c (by decide) | exact absurd (by decide) c | (conv => whnf))
    | (refine ct_isSheet (by omega) (fun p => ?_) (fun p => ?_) <;> conv => whnf)
    | (refine ct_isLane (by omega) (fun p => ?_) (fun p => ?_) <;> conv => whnf)
    | (refine ct_lay (by omega) ‹inr 0 3 x› (fun f1 h1 => ?_) <;> conv => whnf)
    | fail
  all_goals first | exact H _ _ _ (v3_n (by simp only [← i32_nle] at *; grind)) (by first | exact fr_refl _ | assumption | (repeat' first | exact fr_refl _ | assumption | refine fr_ui (by decide) (by decide) ?_ | refine fr_fil (by decide) (by decide) ?_)) | exact H _ _ _ (v3_y (by simp only [← i32_nle] at *; grind) (by simp only [← i32_nle] at *; grind)) (by first | exact fr_refl _ | assumption | (repeat' first | exact fr_refl _ | assumption | refine fr_ui (by decide) (by decide) ?_ | refine fr_fil (by decide) (by decide) ?_)) | exact H _ _ _ (v3_z (by simp only [← i32_nle] at *; grind) (by simp only [← i32_nle] at *; grind)) (by first | exact fr_refl _ | assumption | (repeat' first | exact fr_refl _ | assumption | refine fr_ui (by decide) (by decide) ?_ | refine fr_fil (by decide) (by decide) ?_))
set_option maxRecDepth 100000 in
set_option maxHeartbeats 4000000 in
theorem x_drop {d L : Nat} {f : Nat → Nat → Int32} {g : Nat → Nat → Int64} {x : Int32} {R : Option Value → mH → Prop} (hd : 3 ≤ d) (hl : ∀ i, i < 4 → f 180 i = -1) (H1 : inr 0 3 x → R (some (.int (-11))) (shF L, f, g)) (H0 : ¬ inr 0 3 x → R (some (.int (-1))) (shF L, f, g)) : Run mtab d 131 [.ref 5, .int x] (shF L, f, g) R := by
  obtain ⟨d, rfl⟩ : ∃ e, d = e + 1 := ⟨d - 1, by omega⟩
  refine go_X10_drop rfl ?_
  conv => whnf
  have l0 : f 180 (Int32.toNatClampNeg 0) = -1 := hl 0 (by decide)
  have l1 : f 180 (Int32.toNatClampNeg 1) = -1 := hl 1 (by decide)
  have l2 : f 180 (Int32.toNatClampNeg 2) = -1 := hl 2 (by decide)
  have l3 : f 180 (Int32.toNatClampNeg 3) = -1 := hl 3 (by decide)
  by_cases q : inr 0 3 x
  · have H := H1 q
    rcases inr_c3 q with rfl | rfl | rfl | rfl
    all_goals
      repeat' first
        | exact absurd (by unfold inr; decide) p
        | (simp only [l0, l1, l2, l3])
        | (refine ⟨by decide, ?_⟩ <;> conv => whnf)
        | (refine ⟨by unfold vp_in; decide, ?_⟩ <;> conv => whnf)
        | (refine ⟨fun c => ?_, fun c => ?_⟩ <;> first | exact absurd c (by decide) | exact absurd (by decide) c | (conv => whnf))
        | (refine ct_isSheet (by omega) (fun p => ?_) (fun p => ?_) <;> conv => whnf)
        | fail
    all_goals exact H
  · have H := H0 q
    repeat' first
      | (exact absurd ‹inr 0 3 x› q)
      | (refine ⟨by decide, ?_⟩ <;> conv => whnf)
      | (refine ⟨by unfold vp_in; decide, ?_⟩ <;> conv => whnf)
      | (refine ⟨fun c => ?_, fun c => ?_⟩ <;> first | exact absurd c (by decide) | exact absurd (by decide) c | (conv => whnf))
      | (refine ct_isSheet (by omega) (fun p => ?_) (fun p => ?_) <;> conv => whnf)
      | fail
    all_goals exact H
set_option maxRecDepth 100000 in
set_option maxHeartbeats 4000000 in
theorem ct_refuse {d L : Nat} {f : Nat → Nat → Int32} {g : Nat → Nat → Int64} {x y w u : Int32} {R : Option Value → mH → Prop} (hd : 1 ≤ d) (hl : ∀ i, i < 4 → f 180 i = -1) (q : inr 0 3 x) (H : R (some (.int (-11))) (shF L, f, g)) : Run mtab d 65 [.ref 173, .int x, .int y, .int w, .int u] (shF L, f, g) R := by
  obtain ⟨d, rfl⟩ : ∃ e, d = e + 1 := ⟨d - 1, by omega⟩
  refine go_X7_refuse rfl ?_
  conv => whnf
  have l0 : f 180 (Int32.toNatClampNeg 0) = -1 := hl 0 (by decide)
  have l1 : f 180 (Int32.toNatClampNeg 1) = -1 := hl 1 (by decide)
  have l2 : f 180 (Int32.toNatClampNeg 2) = -1 := hl 2 (by decide)
  have l3 : f 180 (Int32.toNatClampNeg 3) = -1 := hl 3 (by decide)
  rcases inr_c3 q with rfl | rfl | rfl | rfl
  all_goals
    repeat' first
      | (simp only [l0, l1, l2, l3])
      | (refine ⟨by decide, ?_⟩ <;> conv => whnf)
      | (refine ⟨by unfold vp_in; decide, ?_⟩ <;> conv => whnf)
      | (refine ⟨fun c => ?_, fun c => ?_⟩ <;> first | exact absurd c (by decide) | exact absurd (by decide) c | (conv => whnf))
      | fail
  all_goals exact H
set_option maxRecDepth 100000 in
set_option maxHeartbeats 4000000 in
theorem x_item {d L : Nat} {f : Nat → Nat → Int32} {g : Nat → Nat → Int64} {x y w u : Int32} {R : Option Value → mH → Prop} (hd : 3 ≤ d) (hl : ∀ i, i < 4 → f 180 i = -1) (H1 : inr 0 3 x ∧ inr 0 2 y → R (some (.int (-11))) (shF L, f, g)) (H0 : ¬ (inr 0 3 x ∧ inr 0 2 y) → R (some (.int (-1))) (shF L, f, g)) : Run mtab d 132 [.ref 5, .int x, .int y, .int w, .int u] (shF L, f, g) R := by
  obtain ⟨d, rfl⟩ : ∃ e, d = e + 1 := ⟨d - 1, by omega⟩
  refine go_X10_item rfl ?_
  conv => whnf
  repeat' first
    | (refine ⟨by decide, ?_⟩ <;> conv => whnf)
    | (refine ⟨by unfold vp_in; decide, ?_⟩ <;> conv => whnf)
    | (refine ⟨fun c => ?_, fun c => ?_⟩ <;> first | exact absurd c (by decide) | exact absurd (by decide) c | (conv => whnf))
    | (refine ct_isSheet (by omega) (fun p => ?_) (fun p => ?_) <;> conv => whnf)
    | (refine ct_isLane (by omega) (fun p => ?_) (fun p => ?_) <;> conv => whnf)
    | (refine ct_refuse (by omega) hl ‹inr 0 3 x› ?_ <;> conv => whnf)
    | fail
  all_goals first | exact H1 (by grind) | exact H0 (by grind)
set_option maxRecDepth 100000 in
set_option maxHeartbeats 4000000 in
theorem x_holdings {d L : Nat} {f : Nat → Nat → Int32} {g : Nat → Nat → Int64} {x y w u : Int32} {R : Option Value → mH → Prop} (hd : 3 ≤ d) (hl : ∀ i, i < 4 → f 180 i = -1) (H1 : inr 0 3 x ∧ inr 0 2 y ∧ inr 0 10 u → R (some (.int (-11))) (shF L, f, g)) (H0 : ¬ (inr 0 3 x ∧ inr 0 2 y ∧ inr 0 10 u) → R (some (.int (-1))) (shF L, f, g)) : Run mtab d 133 [.ref 5, .int x, .int y, .int w, .int u] (shF L, f, g) R := by
  obtain ⟨d, rfl⟩ : ∃ e, d = e + 1 := ⟨d - 1, by omega⟩
  refine go_X10_holdings rfl ?_
  conv => whnf
  repeat' first
    | (refine ⟨by decide, ?_⟩ <;> conv => whnf)
    | (refine ⟨by unfold vp_in; decide, ?_⟩ <;> conv => whnf)
    | (refine ⟨fun c => ?_, fun c => ?_⟩ <;> first | exact absurd c (by decide) | exact absurd (by decide) c | (conv => whnf))
    | (refine ct_isSheet (by omega) (fun p => ?_) (fun p => ?_) <;> conv => whnf)
    | (refine ct_isLane (by omega) (fun p => ?_) (fun p => ?_) <;> conv => whnf)
    | (refine ct_isWithin (by omega) (fun p => ?_) (fun p => ?_) <;> conv => whnf)
    | (refine ct_refuse (by omega) hl ‹inr 0 3 x› ?_ <;> conv => whnf)
    | fail
  all_goals first | exact H1 (by grind) | exact H0 (by grind)
