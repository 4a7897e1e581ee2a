set_option maxRecDepth 100000 in
set_option maxHeartbeats 4000000 in
theorem sm_mention {d L : Nat} {f : Nat → Nat → Int32} {g : Nat → Nat → Int64} {x1 x2 x3 x4 x5 x6 x7 x8 x9 : Int32} {R : Option Value → mH → Prop} (hd : 8 ≤ d) (hX : XI f) (H : ∀ v f' g', XI f' → kp [10, 16] f f' → R (some (.int v)) (shF L, f', g')) : Run mtab d 190 [.ref 181, .int x1, .int x2, .int x3, .int x4, .int x5, .int x6, .int x7, .int x8, .int x9] (shF L, f, g) R := by
  obtain ⟨d, rfl⟩ : ∃ e, d = e + 1 := ⟨d - 1, by omega⟩
  refine go_X11_mention rfl ?_
  conv => whnf
  obtain ⟨cn, cnm, cnb⟩ := inr_nat (n := 50) rfl (xi_181_27 hX)
  by_cases hq : cn = 50
  · subst hq
    repeat' first
      | (simp only [cnb])
      | ((with_reducible refine ⟨vp_in_nI (by omega) (by decide), ?_⟩) <;> conv => whnf)
      | (refine ⟨Or.inl rfl, ?_⟩ <;> conv => whnf)
      | (refine ⟨Or.inr rfl, ?_⟩ <;> conv => whnf)
      | (refine ⟨Or.inl True.intro, ?_⟩ <;> conv => whnf)
      | (refine ⟨Or.inr True.intro, ?_⟩ <;> conv => whnf)
      | (refine ⟨fun c => ?_, fun c => ?_⟩ <;> first | ((have c9 : (1 : Int32) = 0 := by with_reducible exact c); exact absurd c9 (by decide)) | exact absurd (rfl : (0 : Int32) = 0) (by with_reducible exact c) | exact absurd True.intro (by with_reducible exact c) | exact False.elim (by with_reducible exact c) | exact absurd (by decide) c | (conv => whnf))
      | (refine ct_mIsYear (by omega) (fun p => ?_) (fun p => ?_) <;> conv => whnf)
      | (refine ct_mIsSides (by omega) (fun p => ?_) (fun p => ?_) <;> conv => whnf)
      | (refine ct_mIsTold (by omega) (fun p => ?_) (fun p => ?_) <;> conv => whnf)
      | (refine ct_mIsSheet (by omega) (fun p => ?_) (fun p => ?_) <;> conv => whnf)
      | ((with_reducible refine ct_i_0_2 (by omega) (fun p => ?_) (fun p => ?_)) <;> conv => whnf)
      | ((with_reducible refine ct_i_0_15 (by omega) (fun p => ?_) (fun p => ?_)) <;> conv => whnf)
      | ((with_reducible refine ct_i_1_6000 (by omega) (fun p => ?_) (fun p => ?_)) <;> conv => whnf)
      | ((with_reducible refine ct_i_0_1 (by omega) (fun p => ?_) (fun p => ?_)) <;> conv => whnf)
      | ((with_reducible refine ct_i_0_1073741823 (by omega) (fun p => ?_) (fun p => ?_)) <;> conv => whnf)
      | ((with_reducible refine ct_i_m1_19 (by omega) (fun p => ?_) (fun p => ?_)) <;> conv => whnf)
      | (refine ⟨by unfold vp_in; decide, ?_⟩ <;> conv => whnf)
      | fail
    all_goals exact H _ _ _ (by repeat' first | (with_reducible assumption) | (with_reducible refine XI_ui ?_ ?_) | (with_reducible refine XI_fil ?_ (fun _ => ?_)) | (with_reducible refine XI_cpy ?_ (fun _ _ => ?_)) | exact True.intro | ((show inr _ _ _); first | (with_reducible assumption) | (unfold inr; decide)) | fail) (by repeat' first | (with_reducible exact kp_refl _ _) | (with_reducible assumption) | (with_reducible refine kp_ui ?_ ?_) | (with_reducible refine kp_fil ?_ ?_) | (with_reducible refine kp_cpy ?_ ?_) | rfl | fail)
  · have hlt : cn < 50 := by omega
    repeat' first
      | (simp only [cnb, nI_6m, nI_9m, nI_1, nI_k _ 2 2 rfl, nI_k _ 3 3 rfl, nI_k _ 4 4 rfl, nI_k _ 5 5 rfl, nI_k _ 6 6 rfl, nI_k _ 7 7 rfl, nI_k _ 8 8 rfl, m_ui_ap, m_fil_ap, m_cpy_ap, Nat.reduceEqDiff, Nat.reduceLT, Nat.reduceLeDiff, eq_self, ↓reduceIte, false_and, and_false, true_and, and_true, and_self])
      | ((with_reducible refine ⟨vp_in_nI (by omega) (by decide), ?_⟩) <;> conv => whnf)
      | (refine ⟨Or.inl rfl, ?_⟩ <;> conv => whnf)
      | (refine ⟨Or.inr rfl, ?_⟩ <;> conv => whnf)
      | (refine ⟨Or.inl True.intro, ?_⟩ <;> conv => whnf)
      | (refine ⟨Or.inr True.intro, ?_⟩ <;> conv => whnf)
      | (refine ⟨fun c => ?_, fun c => ?_⟩ <;> first | ((have c9 : (1 : Int32) = 0 := by with_reducible exact c); exact absurd c9 (by decide)) | exact absurd (rfl : (0 : Int32) = 0) (by with_reducible exact c) | exact absurd True.intro (by with_reducible exact c) | exact False.elim (by with_reducible exact c) | exact absurd ((nI_eq (b := 50) (by omega) (by decide)).mp c) hq | (conv => whnf))
      | (refine ct_mIsYear (by omega) (fun p => ?_) (fun p => ?_) <;> conv => whnf)
      | (refine ct_mIsSides (by omega) (fun p => ?_) (fun p => ?_) <;> conv => whnf)
      | (refine ct_mIsTold (by omega) (fun p => ?_) (fun p => ?_) <;> conv => whnf)
      | (refine ct_mIsSheet (by omega) (fun p => ?_) (fun p => ?_) <;> conv => whnf)
      | ((with_reducible refine ct_i_0_2 (by omega) (fun p => ?_) (fun p => ?_)) <;> conv => whnf)
      | ((with_reducible refine ct_i_0_15 (by omega) (fun p => ?_) (fun p => ?_)) <;> conv => whnf)
      | ((with_reducible refine ct_i_1_6000 (by omega) (fun p => ?_) (fun p => ?_)) <;> conv => whnf)
      | ((with_reducible refine ct_i_0_1 (by omega) (fun p => ?_) (fun p => ?_)) <;> conv => whnf)
      | ((with_reducible refine ct_i_0_1073741823 (by omega) (fun p => ?_) (fun p => ?_)) <;> conv => whnf)
      | ((with_reducible refine ct_i_m1_19 (by omega) (fun p => ?_) (fun p => ?_)) <;> conv => whnf)
      | (refine ⟨by unfold vp_in; decide, ?_⟩ <;> conv => whnf)
      | fail
    all_goals exact H _ _ _ (by repeat' first | (with_reducible assumption) | (with_reducible refine XI_ui ?_ ?_) | (with_reducible refine XI_fil ?_ (fun _ => ?_)) | (with_reducible refine XI_cpy ?_ (fun _ _ => ?_)) | exact True.intro | ((show inr _ _ _); first | (with_reducible assumption) | ((with_reducible refine inr_n1 (m := 50) ?_ ?_ ?_) <;> first | omega | rfl | decide) | ((with_reducible refine inr_n (m := 50) ?_ ?_ ?_) <;> first | omega | rfl | decide) | (unfold inr; decide)) | fail) (by repeat' first | (with_reducible exact kp_refl _ _) | (with_reducible assumption) | (with_reducible refine kp_ui ?_ ?_) | (with_reducible refine kp_fil ?_ ?_) | (with_reducible refine kp_cpy ?_ ?_) | rfl | fail)
