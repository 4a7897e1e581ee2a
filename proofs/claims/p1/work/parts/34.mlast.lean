set_option maxRecDepth 100000 in
set_option maxHeartbeats 4000000 in
theorem m_kin {d L : Nat} {f : Nat → Nat → Int32} {g : Nat → Nat → Int64} {x y : Int32} {R : Option Value → mH → Prop} (hd : 3 ≤ d) (z : mz f) (hk : ∀ i, f 212 i = 0) (H : ∀ v f' g', v2 (inr 0 7 x ∧ inr 0 1048575 y) 0 (-1) v → R (some (.int v)) (shF L, f', g')) : Run mtab d 214 [.ref 181, .int x, .int y] (shF L, f, g) R := by
  obtain ⟨d, rfl⟩ : ∃ e, d = e + 1 := ⟨d - 1, by omega⟩
  obtain ⟨y1, y2, y3, y4, y5, y6, y7⟩ := id z
  refine go_X11_kin rfl ?_
  conv => whnf
  repeat' first
    | (refine ⟨vpi ‹inr 0 7 _› (by decide), ?_⟩ <;> conv => whnf)
    | (simp only [hk])
    | (refine ⟨by decide, ?_⟩ <;> conv => whnf)
    | (refine ⟨by unfold vp_in; decide, ?_⟩ <;> conv => whnf)
    | (refine ⟨fun c => ?_, fun c => ?_⟩ <;> first | exact absurd c (by decide) | exact absurd (by decide) c | (conv => whnf))
    | (refine ct_in (by omega) rfl (lo := 0) rfl (hi := 7) rfl (fun p => ?_) (fun p => ?_) <;> conv => whnf)
    | (refine ct_in (by omega) rfl (lo := 0) rfl (hi := 1048575) rfl (fun p => ?_) (fun p => ?_) <;> conv => whnf)
    | fail
  all_goals first | exact H _ _ _ (v2_y (by grind)) | exact H _ _ _ (v2_n (by grind))
set_option maxRecDepth 100000 in
set_option maxHeartbeats 4000000 in
theorem ct_next {d L : Nat} {f : Nat → Nat → Int32} {g : Nat → Nat → Int64}  {R : Option Value → mH → Prop} (hd : 1 ≤ d) (z : mz f) (a47 : f 181 47 = 0) (H : R (some (.int (-1))) (shF L, f, g)) : Run mtab d 216 [.ref 181] (shF L, f, g) R := by
  obtain ⟨d, rfl⟩ : ∃ e, d = e + 1 := ⟨d - 1, by omega⟩
  obtain ⟨y1, y2, y3, y4, y5, y6, y7⟩ := id z
  refine go_X11_next rfl ?_
  conv => whnf
  repeat' first
    | (simp only [y1, y2, y3, y4, y5, y6, y7, a47])
    | (refine ⟨by decide, ?_⟩ <;> conv => whnf)
    | (refine ⟨by unfold vp_in; decide, ?_⟩ <;> conv => whnf)
    | (refine ⟨fun c => ?_, fun c => ?_⟩ <;> first | exact absurd c (by decide) | exact absurd (by decide) c | (conv => whnf))
    | fail
  exact H
set_option maxRecDepth 100000 in
set_option maxHeartbeats 4000000 in
theorem ct_mreadClause {d L : Nat} {f : Nat → Nat → Int32} {g : Nat → Nat → Int64}  {R : Option Value → mH → Prop} (hd : 2 ≤ d) (z : mz f) (a47 : f 181 47 = 0) (H : R (some (.int 0)) (shF L, f, g)) : Run mtab d 219 [.ref 181] (shF L, f, g) R := by
  obtain ⟨d, rfl⟩ : ∃ e, d = e + 1 := ⟨d - 1, by omega⟩
  obtain ⟨y1, y2, y3, y4, y5, y6, y7⟩ := id z
  refine go_X11_readClause rfl ?_
  conv => whnf
  repeat' first
    | exact ⟨Or.inl rfl, H⟩
    | (refine ⟨by decide, ?_⟩ <;> conv => whnf)
    | (refine ⟨by unfold vp_in; decide, ?_⟩ <;> conv => whnf)
    | (refine ⟨fun c => ?_, fun c => ?_⟩ <;> first | exact absurd c (by decide) | exact absurd (by decide) c | (conv => whnf))
    | (refine ct_next (by omega) z a47 ?_ <;> conv => whnf)
    | fail
set_option maxRecDepth 100000 in
set_option maxHeartbeats 4000000 in
theorem ct_readAll {d L : Nat} {f : Nat → Nat → Int32} {g : Nat → Nat → Int64}  {R : Option Value → mH → Prop} (hd : 3 ≤ d) (z : mz f) (H : ∀ f', f' 181 47 = 0 → R (some (.int (-1))) (shF L, f', g)) : Run mtab d 220 [.ref 181] (shF L, f, g) R := by
  obtain ⟨d, rfl⟩ : ∃ e, d = e + 1 := ⟨d - 1, by omega⟩
  obtain ⟨y1, y2, y3, y4, y5, y6, y7⟩ := id z
  refine go_X11_readAll rfl ?_
  conv => whnf
  repeat' first
    | (refine ⟨by decide, ?_⟩ <;> conv => whnf)
    | (refine ⟨by unfold vp_in; decide, ?_⟩ <;> conv => whnf)
    | (refine ⟨fun c => ?_, fun c => ?_⟩ <;> first | exact absurd c (by decide) | exact absurd (by decide) c | (conv => whnf))
    | (refine at_X11_readAll ?_ <;> conv => whnf)
    | (refine ct_mreadClause (by omega) z rfl ?_ <;> conv => whnf)
    | fail
  exact H _ rfl
set_option maxRecDepth 100000 in
set_option maxHeartbeats 4000000 in
theorem m_rules {d L : Nat} {f : Nat → Nat → Int32} {g : Nat → Nat → Int64}  {R : Option Value → mH → Prop} (hd : 6 ≤ d) (z : mz f) (H : ∀ f' g', R (some (.int (-20))) (shF L, f', g')) : Run mtab d 221 [.ref 181] (shF L, f, g) R := by
  obtain ⟨d, rfl⟩ : ∃ e, d = e + 1 := ⟨d - 1, by omega⟩
  obtain ⟨y1, y2, y3, y4, y5, y6, y7⟩ := id z
  refine go_X11_rules rfl ?_
  conv => whnf
  repeat' first
    | (simp only [e1, m_ui_ap, m_fil_ap, m_cpy_ap, Nat.reduceEqDiff, Nat.reduceLT, Nat.reduceLeDiff, eq_self, ↓reduceIte, false_and, and_false, true_and, and_true, and_self])
    | (refine ⟨by decide, ?_⟩ <;> conv => whnf)
    | (refine ⟨by unfold vp_in; decide, ?_⟩ <;> conv => whnf)
    | (refine ⟨fun c => ?_, fun c => ?_⟩ <;> first | exact absurd c (by decide) | exact absurd (by decide) c | (conv => whnf))
    | (refine ct_readAll (by omega) z (fun f1 e1 => ?_) <;> conv => whnf)
    | fail
  exact H _ _
set_option maxRecDepth 100000 in
set_option maxHeartbeats 4000000 in
theorem ct_ruleOf {d L : Nat} {f : Nat → Nat → Int32} {g : Nat → Nat → Int64} {x : Int32} {R : Option Value → mH → Prop} (hd : 1 ≤ d) (hr : f 213 0 = 3 ∧ f 213 1 = 0 ∧ f 213 2 = 0 ∧ f 213 3 = 0 ∧ f 214 0 = 2 ∧ f 215 0 = 3) (q : inr 0 3 x) (H : R (some (.int 0)) (shF L, f, g)) : Run mtab d 222 [.ref 181, .int x] (shF L, f, g) R := by
  obtain ⟨d, rfl⟩ : ∃ e, d = e + 1 := ⟨d - 1, by omega⟩
  refine go_X11_ruleOf rfl ?_
  conv => whnf
  obtain ⟨r0, r1, r2, r3, ru, rd⟩ := id hr
  have q0 : f 213 (Int32.toNatClampNeg 0) = 3 := r0
  have q1 : f 213 (Int32.toNatClampNeg 1) = 0 := r1
  have q2 : f 213 (Int32.toNatClampNeg 2) = 0 := r2
  have q3 : f 213 (Int32.toNatClampNeg 3) = 0 := r3
  have qu : f 214 (Int32.toNatClampNeg 0) = 2 := ru
  have qd : f 215 (Int32.toNatClampNeg 0) = 3 := rd
  rcases inr_c3 q with rfl | rfl | rfl | rfl
  all_goals
    repeat' first
      | (simp only [q0, q1, q2, q3])
      | (refine ⟨by decide, ?_⟩ <;> conv => whnf)
      | (refine ⟨by unfold vp_in; decide, ?_⟩ <;> conv => whnf)
      | (refine ⟨fun c => ?_, fun c => ?_⟩ <;> first | exact absurd c (by decide) | exact absurd (by decide) c | (conv => whnf))
      | (refine at_X11_ruleOf ?_ <;> conv => whnf)
      | fail
  all_goals exact H
set_option maxRecDepth 100000 in
set_option maxHeartbeats 4000000 in
theorem ct_rulePart {d L : Nat} {f : Nat → Nat → Int32} {g : Nat → Nat → Int64} {x y : Int32} {R : Option Value → mH → Prop} (hd : 2 ≤ d) (hr : f 213 0 = 3 ∧ f 213 1 = 0 ∧ f 213 2 = 0 ∧ f 213 3 = 0 ∧ f 214 0 = 2 ∧ f 215 0 = 3) (q : inr 0 3 x) (qy : inr 0 2 y) (H : ∀ v, v = rsv y → R (some (.int v)) (shF L, f, g)) : Run mtab d 223 [.ref 181, .int x, .int y] (shF L, f, g) R := by
  obtain ⟨d, rfl⟩ : ∃ e, d = e + 1 := ⟨d - 1, by omega⟩
  refine go_X11_rulePart rfl ?_
  conv => whnf
  obtain ⟨r0, r1, r2, r3, ru, rd⟩ := id hr
  have q0 : f 213 (Int32.toNatClampNeg 0) = 3 := r0
  have q1 : f 213 (Int32.toNatClampNeg 1) = 0 := r1
  have q2 : f 213 (Int32.toNatClampNeg 2) = 0 := r2
  have q3 : f 213 (Int32.toNatClampNeg 3) = 0 := r3
  have qu : f 214 (Int32.toNatClampNeg 0) = 2 := ru
  have qd : f 215 (Int32.toNatClampNeg 0) = 3 := rd
  rcases inr_c2 qy with rfl | rfl | rfl
  all_goals
    repeat' first
      | (simp only [q0, qu, qd])
      | (refine ⟨by decide, ?_⟩ <;> conv => whnf)
      | (refine ⟨by unfold vp_in; decide, ?_⟩ <;> conv => whnf)
      | (refine ⟨fun c => ?_, fun c => ?_⟩ <;> first | exact absurd c (by decide) | exact absurd (by decide) c | (conv => whnf))
      | (refine ct_ruleOf (by omega) hr q ?_ <;> conv => whnf)
      | fail
  all_goals exact H _ rfl
set_option maxRecDepth 100000 in
set_option maxHeartbeats 4000000 in
theorem m_rule {d L : Nat} {f : Nat → Nat → Int32} {g : Nat → Nat → Int64} {x y : Int32} {R : Option Value → mH → Prop} (hd : 3 ≤ d) (hr : f 213 0 = 3 ∧ f 213 1 = 0 ∧ f 213 2 = 0 ∧ f 213 3 = 0 ∧ f 214 0 = 2 ∧ f 215 0 = 3) (H1 : inr 0 3 x ∧ inr 0 2 y → ∀ v, v = rsv y → R (some (.int v)) (shF L, f, g)) (H0 : ¬ (inr 0 3 x ∧ inr 0 2 y) → R (some (.int (-1))) (shF L, f, g)) : Run mtab d 224 [.ref 181, .int x, .int y] (shF L, f, g) R := by
  obtain ⟨d, rfl⟩ : ∃ e, d = e + 1 := ⟨d - 1, by omega⟩
  refine go_X11_rule rfl ?_
  conv => whnf
  repeat' first
    | (refine ⟨by decide, ?_⟩ <;> conv => whnf)
    | (refine ⟨by unfold vp_in; decide, ?_⟩ <;> conv => whnf)
    | (refine ⟨fun c => ?_, fun c => ?_⟩ <;> first | exact absurd c (by decide) | exact absurd (by decide) c | (conv => whnf))
    | (refine ct_in (by omega) rfl (lo := 0) rfl (hi := 3) rfl (fun p => ?_) (fun p => ?_) <;> conv => whnf)
    | (refine ct_in (by omega) rfl (lo := 0) rfl (hi := 2) rfl (fun p => ?_) (fun p => ?_) <;> conv => whnf)
    | (refine ct_rulePart (by omega) hr ‹inr 0 3 x› ‹inr 0 2 y› (fun v hv => ?_) <;> conv => whnf)
    | fail
  all_goals first | exact H1 (by grind) _ hv | exact H0 (by grind)
set_option maxRecDepth 100000 in
set_option maxHeartbeats 4000000 in
theorem ct_mIsAsOf {d L : Nat} {f : Nat → Nat → Int32} {g : Nat → Nat → Int64} {x y : Int32} {R : Option Value → mH → Prop} (hd : 2 ≤ d) (z : mz f) (H1 : inr 0 9999 x ∧ y = 0 → R (some (.int 1)) (shF L, f, g)) (H0 : ¬ (inr 0 9999 x ∧ y = 0) → R (some (.int 0)) (shF L, f, g)) : Run mtab d 228 [.ref 181, .int x, .int y] (shF L, f, g) R := by
  obtain ⟨d, rfl⟩ : ∃ e, d = e + 1 := ⟨d - 1, by omega⟩
  obtain ⟨y1, y2, y3, y4, y5, y6, y7⟩ := id z
  refine go_X11_isAsOf rfl ?_
  conv => whnf
  repeat' first
    | (refine ⟨by decide, ?_⟩ <;> conv => whnf)
    | (refine ⟨by unfold vp_in; decide, ?_⟩ <;> conv => whnf)
    | (refine ⟨fun c => ?_, fun c => ?_⟩ <;> first | exact absurd c (by decide) | exact absurd (by decide) c | (conv => whnf))
    | (refine ct_in (by omega) rfl (lo := 0) rfl (hi := 9999) rfl (fun p => ?_) (fun p => ?_) <;> conv => whnf)
    | (refine ct_in (by omega) rfl (lo := 0) rfl (hi := f 181 48) rfl (fun p => ?_) (fun p => ?_) <;> conv => whnf)
    | fail
  all_goals first | exact H1 (by have := inr_0 y; rw [← y6] at this; grind) | exact H0 (by have := inr_0 y; rw [y6] at *; grind)
set_option maxRecDepth 100000 in
set_option maxHeartbeats 4000000 in
theorem m_unsure {d L : Nat} {f : Nat → Nat → Int32} {g : Nat → Nat → Int64} {x y : Int32} {R : Option Value → mH → Prop} (hd : 4 ≤ d) (z : mz f) (H : ∀ v f' g', v2 (inr 0 9999 x ∧ y = 0) 0 (-1) v → R (some (.int v)) (shF L, f', g')) : Run mtab d 230 [.ref 181, .int x, .int y] (shF L, f, g) R := by
  obtain ⟨d, rfl⟩ : ∃ e, d = e + 1 := ⟨d - 1, by omega⟩
  obtain ⟨y1, y2, y3, y4, y5, y6, y7⟩ := id z
  refine go_X11_unsure rfl ?_
  conv => whnf
  repeat' first
    | (simp only [y1, y2, y3, y4, y5, y6, y7])
    | (refine ⟨by decide, ?_⟩ <;> conv => whnf)
    | (refine ⟨by unfold vp_in; decide, ?_⟩ <;> conv => whnf)
    | (refine ⟨fun c => ?_, fun c => ?_⟩ <;> first | exact absurd c (by decide) | exact absurd (by decide) c | (conv => whnf))
    | (refine at_X11_unsure ?_ <;> conv => whnf)
    | (refine ct_mIsAsOf (by omega) z (fun p => ?_) (fun p => ?_) <;> conv => whnf)
    | fail
  all_goals first | exact H _ _ _ (v2_y (by grind)) | exact H _ _ _ (v2_n (by grind))
set_option maxRecDepth 100000 in
set_option maxHeartbeats 4000000 in
theorem m_edition {d L : Nat} {f : Nat → Nat → Int32} {g : Nat → Nat → Int64}  {R : Option Value → mH → Prop} (hd : 6 ≤ d) (z : mz f) (h29 : f 181 29 = 0) (H : ∀ f' g', R (some (.int 0)) (shF L, f', g')) : Run mtab d 233 [.ref 181] (shF L, f, g) R := by
  obtain ⟨d, rfl⟩ : ∃ e, d = e + 1 := ⟨d - 1, by omega⟩
  obtain ⟨y1, y2, y3, y4, y5, y6, y7⟩ := id z
  refine go_X11_edition rfl ?_
  conv => whnf
  repeat' first
    | (simp only [y1, y2, y3, y4, y5, y6, y7, (show rfF f 181 0 = 0 from y1), (show rfF f 181 50 = 0 from y7)])
    | (refine ⟨by decide, ?_⟩ <;> conv => whnf)
    | (refine ⟨by unfold vp_in; decide, ?_⟩ <;> conv => whnf)
    | (refine ⟨fun c => ?_, fun c => ?_⟩ <;> first | exact absurd c (by decide) | exact absurd (by decide) c | (conv => whnf))
    | (refine at_X11_edition ?_ <;> conv => whnf)
    | (refine ct_refresh (by omega) z h29 ?_ <;> conv => whnf)
    | fail
  exact H _ _
set_option maxRecDepth 100000 in
set_option maxHeartbeats 4000000 in
theorem m_count {d L : Nat} {f : Nat → Nat → Int32} {g : Nat → Nat → Int64} {x : Int32} {R : Option Value → mH → Prop} (hd : 5 ≤ d) (z : mz f) (H : ∀ v f' g', v2 (inr 0 7 x) 0 (-1) v → R (some (.int v)) (shF L, f', g')) : Run mtab d 235 [.ref 181, .int x] (shF L, f, g) R := by
  obtain ⟨d, rfl⟩ : ∃ e, d = e + 1 := ⟨d - 1, by omega⟩
  obtain ⟨y1, y2, y3, y4, y5, y6, y7⟩ := id z
  refine go_X11_count rfl ?_
  conv => whnf
  repeat' first
    | (simp only [y1, y2, y3, y4, y5, y6, y7])
    | (refine ⟨by decide, ?_⟩ <;> conv => whnf)
    | (refine ⟨by unfold vp_in; decide, ?_⟩ <;> conv => whnf)
    | (refine ⟨fun c => ?_, fun c => ?_⟩ <;> first | exact absurd c (by decide) | exact absurd (by decide) c | (conv => whnf))
    | (refine at_X11_count ?_ <;> conv => whnf)
    | (refine ⟨fun c => ?_, ?_⟩ <;> conv => whnf)
    | (intro c; conv => whnf)
    | fail
  all_goals first | exact H _ _ _ (v2_y (by subst c; unfold inr; decide)) | exact H _ _ _ (v2_y (by subst_vars; unfold inr; decide)) | exact H _ _ _ (v2_n (fun q => by have := inr_c7 q; grind))
