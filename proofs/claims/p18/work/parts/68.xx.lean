set_option maxRecDepth 100000 in
set_option maxHeartbeats 4000000 in
theorem sx_sum {d L : Nat} {f : Nat → Nat → Int32} {g : Nat → Nat → Int64} {x1 : Int32} {R : Option Value → mH → Prop} (hd : 10 ≤ d) (hX : XI f) (H : ∀ v f' g', XI f' → kp [0] f f' → R (some (.int v)) (shF L, f', g')) : Run mtab d 109 [.ref 5, .int x1] (shF L, f, g) R := by
  obtain ⟨d, rfl⟩ : ∃ e, d = e + 1 := ⟨d - 1, by omega⟩
  refine go_X10_sum rfl ?_
  conv => whnf
  repeat' first
    | ((with_reducible refine ⟨vp_in_nI (by omega) (by decide), ?_⟩) <;> conv => whnf)
    | (refine ⟨Or.inl rfl, ?_⟩ <;> conv => whnf)
    | (refine ⟨Or.inr rfl, ?_⟩ <;> conv => whnf)
    | (refine ⟨Or.inl True.intro, ?_⟩ <;> conv => whnf)
    | (refine ⟨Or.inr True.intro, ?_⟩ <;> conv => whnf)
    | (refine ⟨fun c => ?_, fun c => ?_⟩ <;> first | ((have c9 : (1 : Int32) = 0 := by with_reducible exact c); exact absurd c9 (by decide)) | exact absurd (rfl : (0 : Int32) = 0) (by with_reducible exact c) | exact absurd True.intro (by with_reducible exact c) | exact False.elim (by with_reducible exact c) | (conv => whnf))
    | (refine ct_isWithin (by omega) (fun p => ?_) (fun p => ?_) <;> conv => whnf)
    | (refine ct_isYear (by omega) (fun p => ?_) (fun p => ?_) <;> conv => whnf)
    | (refine ct_isSide (by omega) (fun p => ?_) (fun p => ?_) <;> conv => whnf)
    | (refine ct_isTitle (by omega) (fun p => ?_) (fun p => ?_) <;> conv => whnf)
    | (refine ct_isBits8 (by omega) (fun p => ?_) (fun p => ?_) <;> conv => whnf)
    | (refine ct_isBits20 (by omega) (fun p => ?_) (fun p => ?_) <;> conv => whnf)
    | (refine ct_isBits30 (by omega) (fun p => ?_) (fun p => ?_) <;> conv => whnf)
    | (refine ct_isToldWell (by omega) (fun p => ?_) (fun p => ?_) <;> conv => whnf)
    | (refine ct_isSheet (by omega) (fun p => ?_) (fun p => ?_) <;> conv => whnf)
    | (refine ct_isLane (by omega) (fun p => ?_) (fun p => ?_) <;> conv => whnf)
    | (refine sx_reckon (by omega) hX (fun f1 g1 h1 k1 => ?_) <;> conv => whnf)
    | (refine sx_join (by omega) h1 (fun f2 g2 h2 k2 => ?_) <;> conv => whnf)
    | (refine ⟨by unfold vp_in; decide, ?_⟩ <;> conv => whnf)
    | fail
  all_goals exact H _ _ _ (by repeat' first | (with_reducible assumption) | (with_reducible refine XI_ui ?_ ?_) | (with_reducible refine XI_fil ?_ (fun _ => ?_)) | (with_reducible refine XI_cpy ?_ (fun _ _ => ?_)) | exact True.intro | ((show inr _ _ _); first | (with_reducible assumption) | (unfold inr; decide)) | fail) (by repeat' first | (with_reducible exact kp_refl _ _) | (with_reducible assumption) | (with_reducible refine kp_ui ?_ ?_) | (with_reducible refine kp_fil ?_ ?_) | (with_reducible refine kp_cpy ?_ ?_) | (refine kp_trans ?_ (kp_wd k2 rfl)) | (refine kp_trans ?_ (kp_fx k2 rfl)) | (refine kp_trans ?_ (kp_wd k1 rfl)) | (refine kp_trans ?_ (kp_fx k1 rfl)) | rfl | fail)
set_option maxRecDepth 100000 in
set_option maxHeartbeats 4000000 in
theorem sx_joined {d L : Nat} {f : Nat → Nat → Int32} {g : Nat → Nat → Int64} {x1 : Int32} {R : Option Value → mH → Prop} (hd : 10 ≤ d) (hX : XI f) (H : ∀ v f' g', XI f' → kp [0] f f' → R (some (.int v)) (shF L, f', g')) : Run mtab d 107 [.ref 5, .int x1] (shF L, f, g) R := by
  obtain ⟨d, rfl⟩ : ∃ e, d = e + 1 := ⟨d - 1, by omega⟩
  refine go_X10_joined rfl ?_
  conv => whnf
  obtain ⟨sn, hsm, hsn⟩ := inr_nat (n := 50) rfl (xi_139 hX 13)
  repeat' first
    | ((with_reducible refine ⟨vp_in_nI (by omega) (by decide), ?_⟩) <;> conv => whnf)
    | (refine ⟨Or.inl rfl, ?_⟩ <;> conv => whnf)
    | (refine ⟨Or.inr rfl, ?_⟩ <;> conv => whnf)
    | (refine ⟨Or.inl True.intro, ?_⟩ <;> conv => whnf)
    | (refine ⟨Or.inr True.intro, ?_⟩ <;> conv => whnf)
    | (refine ⟨fun c => ?_, fun c => ?_⟩ <;> first | ((have c9 : (1 : Int32) = 0 := by with_reducible exact c); exact absurd c9 (by decide)) | exact absurd (rfl : (0 : Int32) = 0) (by with_reducible exact c) | exact absurd True.intro (by with_reducible exact c) | exact False.elim (by with_reducible exact c) | (conv => whnf))
    | (refine ct_shas (by omega) hsn hsm (fun j hj e => ?_) (fun q => ?_) <;> (try subst e) <;> conv => whnf)
    | (refine sx_reckon (by omega) hX (fun f1 g1 h1 k1 => ?_) <;> conv => whnf)
    | (refine sx_join (by omega) h1 (fun f2 g2 h2 k2 => ?_) <;> conv => whnf)
    | (refine sx_workFor (by omega) h2 (fun v => ?_) <;> conv => whnf)
    | (refine ⟨by unfold vp_in; decide, ?_⟩ <;> conv => whnf)
    | fail
  all_goals exact H _ _ _ (by repeat' first | (with_reducible assumption) | (with_reducible refine XI_ui ?_ ?_) | (with_reducible refine XI_fil ?_ (fun _ => ?_)) | (with_reducible refine XI_cpy ?_ (fun _ _ => ?_)) | exact True.intro | ((show inr _ _ _); first | (with_reducible assumption) | (unfold inr; decide)) | fail) (by repeat' first | (with_reducible exact kp_refl _ _) | (with_reducible assumption) | (with_reducible refine kp_ui ?_ ?_) | (with_reducible refine kp_fil ?_ ?_) | (with_reducible refine kp_cpy ?_ ?_) | (refine kp_trans ?_ (kp_wd k2 rfl)) | (refine kp_trans ?_ (kp_fx k2 rfl)) | (refine kp_trans ?_ (kp_wd k1 rfl)) | (refine kp_trans ?_ (kp_fx k1 rfl)) | rfl | fail)
set_option maxRecDepth 100000 in
set_option maxHeartbeats 4000000 in
theorem sx_sure {d L : Nat} {f : Nat → Nat → Int32} {g : Nat → Nat → Int64} {x1 : Int32} {R : Option Value → mH → Prop} (hd : 10 ≤ d) (hX : XI f) (H : ∀ v f' g', XI f' → kp [0] f f' → R (some (.int v)) (shF L, f', g')) : Run mtab d 108 [.ref 5, .int x1] (shF L, f, g) R := by
  obtain ⟨d, rfl⟩ : ∃ e, d = e + 1 := ⟨d - 1, by omega⟩
  refine go_X10_sure rfl ?_
  conv => whnf
  obtain ⟨sn, hsm, hsn⟩ := inr_nat (n := 50) rfl (xi_139 hX 13)
  repeat' first
    | ((with_reducible refine ⟨vp_in_nI (by omega) (by decide), ?_⟩) <;> conv => whnf)
    | (refine ⟨Or.inl rfl, ?_⟩ <;> conv => whnf)
    | (refine ⟨Or.inr rfl, ?_⟩ <;> conv => whnf)
    | (refine ⟨Or.inl True.intro, ?_⟩ <;> conv => whnf)
    | (refine ⟨Or.inr True.intro, ?_⟩ <;> conv => whnf)
    | (refine ⟨fun c => ?_, fun c => ?_⟩ <;> first | ((have c9 : (1 : Int32) = 0 := by with_reducible exact c); exact absurd c9 (by decide)) | exact absurd (rfl : (0 : Int32) = 0) (by with_reducible exact c) | exact absurd True.intro (by with_reducible exact c) | exact False.elim (by with_reducible exact c) | (conv => whnf))
    | (refine ct_shas (by omega) hsn hsm (fun j hj e => ?_) (fun q => ?_) <;> (try subst e) <;> conv => whnf)
    | (refine sx_reckon (by omega) hX (fun f1 g1 h1 k1 => ?_) <;> conv => whnf)
    | (refine sx_join (by omega) h1 (fun f2 g2 h2 k2 => ?_) <;> conv => whnf)
    | (refine sx_workFor (by omega) h2 (fun v => ?_) <;> conv => whnf)
    | (refine sx_seatOf (by omega) h2 (fun v hv => ?_) <;> conv => whnf)
    | (refine sx_isSure (by omega) h2 (fun v f3 g3 hv3 h3 k3 => ?_) <;> conv => whnf)
    | (refine ct_bit (by omega) (fun p => ?_) (fun p => ?_) <;> conv => whnf)
    | (refine ⟨by unfold vp_in; decide, ?_⟩ <;> conv => whnf)
    | fail
  all_goals exact H _ _ _ (by repeat' first | (with_reducible assumption) | (with_reducible refine XI_ui ?_ ?_) | (with_reducible refine XI_fil ?_ (fun _ => ?_)) | (with_reducible refine XI_cpy ?_ (fun _ _ => ?_)) | exact True.intro | ((show inr _ _ _); first | (with_reducible assumption) | (unfold inr; decide)) | fail) (by repeat' first | (with_reducible exact kp_refl _ _) | (with_reducible assumption) | (with_reducible refine kp_ui ?_ ?_) | (with_reducible refine kp_fil ?_ ?_) | (with_reducible refine kp_cpy ?_ ?_) | (refine kp_trans ?_ (kp_wd k3 rfl)) | (refine kp_trans ?_ (kp_fx k3 rfl)) | (refine kp_trans ?_ (kp_wd k2 rfl)) | (refine kp_trans ?_ (kp_fx k2 rfl)) | (refine kp_trans ?_ (kp_wd k1 rfl)) | (refine kp_trans ?_ (kp_fx k1 rfl)) | rfl | fail)
