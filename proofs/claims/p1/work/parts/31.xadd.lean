set_option maxRecDepth 100000 in
set_option maxHeartbeats 4000000 in
theorem ct_Wadd {d L : Nat} {f : Nat → Nat → Int32} {g : Nat → Nat → Int64} {x y a b c u w : Int32} {R : Option Value → mH → Prop} (hd : 1 ≤ d) (z : z0 f) (H : ∀ f', fr f f' → R (some (.int 0)) (shF L, f', g)) : Run mtab d 70 [.ref 6, .int x, .int y, .int a, .int b, .int c, .int u, .int w] (shF L, f, g) R := by
  obtain ⟨d, rfl⟩ : ∃ e, d = e + 1 := ⟨d - 1, by omega⟩
  obtain ⟨z1, z2, z3, z4, z5, z6, z7⟩ := id z
  refine go_X8_add rfl ?_
  conv => whnf
  repeat' first
    | (refine ⟨⟨by unfold vp_in; decide, by decide, by decide⟩, ?_⟩ <;> simp only [(show Int32.toNatClampNeg 0 = 0 from rfl), List.getD_cons_zero, Option.getD_some] <;> conv => whnf)
    | (simp only [z1, z2, z3, z4, z5, z6, z7, m_ui_ap, m_fil_ap, m_cpy_ap, Nat.reduceEqDiff, Nat.reduceLT, Nat.reduceLeDiff, eq_self, ↓reduceIte, false_and, and_false, true_and, and_true, and_self])
    | (refine ⟨by decide, ?_⟩ <;> conv => whnf)
    | (refine ⟨by unfold vp_in; decide, ?_⟩ <;> conv => whnf)
    | (refine ⟨fun c => ?_, fun c => ?_⟩ <;> first | exact absurd c (by decide) | exact absurd (by decide) c | (conv => whnf))
    | fail
  exact H _ (by first | exact fr_refl _ | assumption | (repeat' first | exact fr_refl _ | assumption | refine fr_ui (by decide) (by decide) ?_ | refine fr_fil (by decide) (by decide) ?_))
set_option maxRecDepth 100000 in
set_option maxHeartbeats 4000000 in
theorem x_work {d L : Nat} {f : Nat → Nat → Int32} {g : Nat → Nat → Int64} {x a b c u w : Int32} {R : Option Value → mH → Prop} (hd : 4 ≤ d) (z : z0 f) (H : ∀ v f' g', v2 ((x = 0 ∨ x = 2) ∧ toldw a b c u w) 0 (-1) v → fr f f' → R (some (.int v)) (shF L, f', g')) : Run mtab d 90 [.ref 5, .int x, .int a, .int b, .int c, .int u, .int w] (shF L, f, g) R := by
  obtain ⟨d, rfl⟩ : ∃ e, d = e + 1 := ⟨d - 1, by omega⟩
  obtain ⟨z1, z2, z3, z4, z5, z6, z7⟩ := id z
  refine go_X10_work rfl ?_
  conv => whnf
  repeat' first
    | (refine ⟨by decide, ?_⟩ <;> conv => whnf)
    | (refine ⟨by unfold vp_in; decide, ?_⟩ <;> conv => whnf)
    | (refine ⟨fun c => ?_, fun c => ?_⟩ <;> first | exact absurd c (by decide) | exact absurd (by decide) c | (conv => whnf))
    | (refine ct_isToldWell (by omega) (fun p => ?_) (fun p => ?_) <;> conv => whnf)
    | (refine ct_Wadd (by omega) z (fun f1 h1 => ?_) <;> conv => whnf)
    | fail
  all_goals first | exact H _ _ _ (v2_y (by grind)) (by first | exact fr_refl _ | assumption | (repeat' first | exact fr_refl _ | assumption | refine fr_ui (by decide) (by decide) ?_ | refine fr_fil (by decide) (by decide) ?_)) | exact H _ _ _ (v2_n (by grind)) (by first | exact fr_refl _ | assumption | (repeat' first | exact fr_refl _ | assumption | refine fr_ui (by decide) (by decide) ?_ | refine fr_fil (by decide) (by decide) ?_))
set_option maxRecDepth 100000 in
set_option maxHeartbeats 4000000 in
theorem ct_Madd {d L : Nat} {f : Nat → Nat → Int32} {g : Nat → Nat → Int64} {x y a b c : Int32} {R : Option Value → mH → Prop} (hd : 1 ≤ d) (z : z0 f) (H : ∀ f', fr f f' → R (some (.int 0)) (shF L, f', g)) : Run mtab d 35 [.ref 139, .int x, .int y, .int a, .int b, .int c] (shF L, f, g) R := by
  obtain ⟨d, rfl⟩ : ∃ e, d = e + 1 := ⟨d - 1, by omega⟩
  obtain ⟨z1, z2, z3, z4, z5, z6, z7⟩ := id z
  refine go_X4_add rfl ?_
  conv => whnf
  repeat' first
    | (simp only [z1, z2, z3, z4, z5, z6, z7, m_ui_ap, m_fil_ap, m_cpy_ap, Nat.reduceEqDiff, Nat.reduceLT, Nat.reduceLeDiff, eq_self, ↓reduceIte, false_and, and_false, true_and, and_true, and_self])
    | (refine ⟨by decide, ?_⟩ <;> conv => whnf)
    | (refine ⟨by unfold vp_in; decide, ?_⟩ <;> conv => whnf)
    | (refine ⟨fun c => ?_, fun c => ?_⟩ <;> first | exact absurd c (by decide) | exact absurd (by decide) c | (conv => whnf))
    | fail
  exact H _ (by first | exact fr_refl _ | assumption | (repeat' first | exact fr_refl _ | assumption | refine fr_ui (by decide) (by decide) ?_ | refine fr_fil (by decide) (by decide) ?_))
set_option maxRecDepth 100000 in
set_option maxHeartbeats 4000000 in
theorem ct_measure {d L : Nat} {f : Nat → Nat → Int32} {g : Nat → Nat → Int64} {x y a b : Int32} {R : Option Value → mH → Prop} (hd : 1 ≤ d) (H : ∀ f', fr f f' → R none (shF L, f', g)) : Run mtab d 36 [.ref 139, .int 0, .int x, .int y, .int a, .int b] (shF L, f, g) R := by
  obtain ⟨d, rfl⟩ : ∃ e, d = e + 1 := ⟨d - 1, by omega⟩
  refine go_X4_measure rfl ?_
  conv => whnf
  repeat' first
    | (refine ⟨by decide, ?_⟩ <;> conv => whnf)
    | (refine ⟨by unfold vp_in; decide, ?_⟩ <;> conv => whnf)
    | (refine ⟨fun c => ?_, fun c => ?_⟩ <;> first | exact absurd c (by decide) | exact absurd (by decide) c | (conv => whnf))
    | fail
  exact H _ (by first | exact fr_refl _ | assumption | (repeat' first | exact fr_refl _ | assumption | refine fr_ui (by decide) (by decide) ?_ | refine fr_fil (by decide) (by decide) ?_))
def mnw (x1 x2 x3 x4 x5 x6 x8 x9 : Int32) : Prop := (inr 0 2 x1 ∧ inr 0 15 x2 ∧ inr 1800 1999 x3) ∧ ((x4 = 0 ∧ x5 = 0) ∨ (inr 1 6000 x4 ∧ inr 1 6000 x5)) ∧ (inr 0 1 x6 ∧ inr 0 1073741823 x8 ∧ inr (-1) 19 x9)
set_option maxRecDepth 100000 in
set_option maxHeartbeats 4000000 in
theorem x_mention {d L : Nat} {f : Nat → Nat → Int32} {g : Nat → Nat → Int64} {x1 x2 x3 x4 x5 x6 x7 x8 x9 : Int32} {R : Option Value → mH → Prop} (hd : 4 ≤ d) (z : z0 f) (H : ∀ v f' g', v2 (mnw x1 x2 x3 x4 x5 x6 x8 x9) 0 (-1) v → fr f f' → R (some (.int v)) (shF L, f', g')) : Run mtab d 104 [.ref 5, .int x1, .int x2, .int x3, .int x4, .int x5, .int x6, .int x7, .int x8, .int x9] (shF L, f, g) R := by
  obtain ⟨d, rfl⟩ : ∃ e, d = e + 1 := ⟨d - 1, by omega⟩
  obtain ⟨z1, z2, z3, z4, z5, z6, z7⟩ := id z
  refine go_X10_mention rfl ?_
  conv => whnf
  repeat' first
    | (refine ⟨by decide, ?_⟩ <;> conv => whnf)
    | (refine ⟨by unfold vp_in; decide, ?_⟩ <;> conv => whnf)
    | (refine ⟨fun c => ?_, fun c => ?_⟩ <;> first | exact absurd c (by decide) | exact absurd (by decide) c | (conv => whnf))
    | (refine ct_isWithin (by omega) (fun p => ?_) (fun p => ?_) <;> conv => whnf)
    | (refine ct_isYear (by omega) (fun p => ?_) (fun p => ?_) <;> conv => whnf)
    | (refine ct_isBits30 (by omega) (fun p => ?_) (fun p => ?_) <;> conv => whnf)
    | (refine ct_Madd (by omega) z (fun f1 h1 => ?_) <;> conv => whnf)
    | (refine ct_measure (by omega) (fun f2 h2 => ?_) <;> conv => whnf)
    | fail
  all_goals first | exact H _ _ _ (v2_y (by unfold mnw; grind)) (by first | exact fr_refl _ | exact fr_trans h1 h2) | exact H _ _ _ (v2_n (by unfold mnw; grind)) (by first | exact fr_refl _ | exact fr_trans h1 h2)
