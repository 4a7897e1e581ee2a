set_option maxRecDepth 100000 in
set_option maxHeartbeats 4000000 in
theorem sm_holding {d L : Nat} {f : Nat → Nat → Int32} {g : Nat → Nat → Int64} {x1 x2 x3 x4 x5 x6 : Int32} {R : Option Value → mH → Prop} (hd : 8 ≤ d) (hX : XI f) (H : ∀ v f' g', XI f' → kp [10, 12] f f' → R (some (.int v)) (shF L, f', g')) : Run mtab d 168 [.ref 181, .int x1, .int x2, .int x3, .int x4, .int x5, .int x6] (shF L, f, g) R := by
  obtain ⟨d, rfl⟩ : ∃ e, d = e + 1 := ⟨d - 1, by omega⟩
  refine go_X11_holding rfl ?_
  conv => whnf
  obtain ⟨cn, cnm, cnb⟩ := inr_nat (n := 60) rfl (xi_181_14 hX)
  by_cases hq : cn = 60
  · subst hq
    repeat' first
      | (simp only [cnb])
      | ((with_reducible refine ⟨vp_in_nI (by omega) (by decide), ?_⟩) <;> conv => whnf)
      | (refine ⟨Or.inl rfl, ?_⟩ <;> conv => whnf)
      | (refine ⟨Or.inr rfl, ?_⟩ <;> conv => whnf)
      | (refine ⟨Or.inl True.intro, ?_⟩ <;> conv => whnf)
      | (refine ⟨Or.inr True.intro, ?_⟩ <;> conv => whnf)
      | (refine ⟨fun c => ?_, fun c => ?_⟩ <;> first | ((have c9 : (1 : Int32) = 0 := by with_reducible exact c); exact absurd c9 (by decide)) | exact absurd (rfl : (0 : Int32) = 0) (by with_reducible exact c) | exact absurd True.intro (by with_reducible exact c) | exact False.elim (by with_reducible exact c) | exact absurd (by decide) c | (conv => whnf))
      | (refine sm_isHolding (by omega) hX (fun v hv => ?_) <;> conv => whnf)
      | (refine ⟨by unfold vp_in; decide, ?_⟩ <;> conv => whnf)
      | fail
    all_goals exact H _ _ _ (by repeat' first | (with_reducible assumption) | (with_reducible refine XI_ui ?_ ?_) | (with_reducible refine XI_fil ?_ (fun _ => ?_)) | (with_reducible refine XI_cpy ?_ (fun _ _ => ?_)) | exact True.intro | ((show inr _ _ _); first | (with_reducible assumption) | (unfold inr; decide)) | fail) (by repeat' first | (with_reducible exact kp_refl _ _) | (with_reducible assumption) | (with_reducible refine kp_ui ?_ ?_) | (with_reducible refine kp_fil ?_ ?_) | (with_reducible refine kp_cpy ?_ ?_) | rfl | fail)
  · have hlt : cn < 60 := by omega
    repeat' first
      | (simp only [cnb, nI_6m, nI_9m, nI_1, nI_k _ 2 2 rfl, nI_k _ 3 3 rfl, nI_k _ 4 4 rfl, nI_k _ 5 5 rfl, nI_k _ 6 6 rfl, nI_k _ 7 7 rfl, nI_k _ 8 8 rfl, m_ui_ap, m_fil_ap, m_cpy_ap, Nat.reduceEqDiff, Nat.reduceLT, Nat.reduceLeDiff, eq_self, ↓reduceIte, false_and, and_false, true_and, and_true, and_self])
      | ((with_reducible refine ⟨vp_in_nI (by omega) (by decide), ?_⟩) <;> conv => whnf)
      | (refine ⟨Or.inl rfl, ?_⟩ <;> conv => whnf)
      | (refine ⟨Or.inr rfl, ?_⟩ <;> conv => whnf)
      | (refine ⟨Or.inl True.intro, ?_⟩ <;> conv => whnf)
      | (refine ⟨Or.inr True.intro, ?_⟩ <;> conv => whnf)
      | (refine ⟨fun c => ?_, fun c => ?_⟩ <;> first | ((have c9 : (1 : Int32) = 0 := by with_reducible exact c); exact absurd c9 (by decide)) | exact absurd (rfl : (0 : Int32) = 0) (by with_reducible exact c) | exact absurd True.intro (by with_reducible exact c) | exact False.elim (by with_reducible exact c) | exact absurd ((nI_eq (b := 60) (by omega) (by decide)).mp c) hq | (conv => whnf))
      | (refine sm_isHolding (by omega) hX (fun v hv => ?_) <;> conv => whnf)
      | (refine sm_keepHolding (by omega) hX cnb hlt (fun f1 g1 h1 k1 e1 => ?_) <;> conv => whnf)
      | (refine ⟨by unfold vp_in; decide, ?_⟩ <;> conv => whnf)
      | fail
    all_goals exact H _ _ _ (by repeat' first | (with_reducible assumption) | (with_reducible refine XI_ui ?_ ?_) | (with_reducible refine XI_fil ?_ (fun _ => ?_)) | (with_reducible refine XI_cpy ?_ (fun _ _ => ?_)) | exact True.intro | ((show inr _ _ _); first | (with_reducible assumption) | (unfold inr; decide)) | fail) (by repeat' first | (with_reducible exact kp_refl _ _) | (with_reducible assumption) | (with_reducible refine kp_ui ?_ ?_) | (with_reducible refine kp_fil ?_ ?_) | (with_reducible refine kp_cpy ?_ ?_) | (refine kp_trans ?_ (kp_wd k1 rfl)) | (refine kp_trans ?_ (kp_fx k1 rfl)) | rfl | fail)
set_option maxRecDepth 100000 in
set_option maxHeartbeats 4000000 in
theorem sm_unhold {d L : Nat} {f : Nat → Nat → Int32} {g : Nat → Nat → Int64}  {R : Option Value → mH → Prop} (hd : 8 ≤ d) (hX : XI f) (H : ∀ v f' g', XI f' → kp [10, 12] f f' → R (some (.int v)) (shF L, f', g')) : Run mtab d 169 [.ref 181] (shF L, f, g) R := by
  obtain ⟨d, rfl⟩ : ∃ e, d = e + 1 := ⟨d - 1, by omega⟩
  refine go_X11_unhold rfl ?_
  conv => whnf
  obtain ⟨cn, cnm, cnb⟩ := inr_nat (n := 60) rfl (xi_181_14 hX)
  simp only [cnb]
  by_cases h0 : cn = 0
  · subst h0
    refine ⟨fun c => absurd rfl c, fun _ => ?_⟩
    conv => whnf
    exact H _ _ _ hX (kp_refl _ _)
  · refine ⟨fun _ => ?_, fun c => absurd ((nI_eq (b := 0) (by omega) (by decide)).mp c) h0⟩
    conv => whnf
    simp only [cnb]
    refine ⟨by first | exact Or.inl rfl | exact Or.inl True.intro, ?_⟩
    conv => whnf
    exact H _ _ _ (XI_ui (XI_ui hX (show inr 0 60 (nI cn - 1) from inr_np (m := 60) (by omega) h0 rfl (by decide))) True.intro) (kp_ui rfl (kp_ui rfl (kp_refl _ _)))
set_option maxRecDepth 100000 in
set_option maxHeartbeats 4000000 in
theorem sm_clue {d L : Nat} {f : Nat → Nat → Int32} {g : Nat → Nat → Int64} {x1 x2 x3 : Int32} {R : Option Value → mH → Prop} (hd : 8 ≤ d) (hX : XI f) (H : ∀ v f' g', XI f' → kp [10, 15] f f' → R (some (.int v)) (shF L, f', g')) : Run mtab d 176 [.ref 181, .int x1, .int x2, .int x3] (shF L, f, g) R := by
  obtain ⟨d, rfl⟩ : ∃ e, d = e + 1 := ⟨d - 1, by omega⟩
  refine go_X11_clue rfl ?_
  conv => whnf
  obtain ⟨n, hm, hb⟩ := inr_nat (n := 40) rfl (xi_181_0 hX)
  obtain ⟨cn, cnm, cnb⟩ := inr_nat (n := 20) rfl (xi_181_16 hX)
  by_cases hq : cn = 20
  · subst hq
    repeat' first
      | (simp only [cnb])
      | ((with_reducible refine ⟨vp_in_nI (by omega) (by decide), ?_⟩) <;> conv => whnf)
      | (refine ⟨Or.inl rfl, ?_⟩ <;> conv => whnf)
      | (refine ⟨Or.inr rfl, ?_⟩ <;> conv => whnf)
      | (refine ⟨Or.inl True.intro, ?_⟩ <;> conv => whnf)
      | (refine ⟨Or.inr True.intro, ?_⟩ <;> conv => whnf)
      | (refine ⟨fun c => ?_, fun c => ?_⟩ <;> first | ((have c9 : (1 : Int32) = 0 := by with_reducible exact c); exact absurd c9 (by decide)) | exact absurd (rfl : (0 : Int32) = 0) (by with_reducible exact c) | exact absurd True.intro (by with_reducible exact c) | exact False.elim (by with_reducible exact c) | exact absurd (by decide) c | (conv => whnf))
      | (refine ct_mIsWork (by omega) hb hm (fun j hj e => ?_) (fun q => ?_) <;> (try subst e) <;> conv => whnf)
      | ((with_reducible refine ct_i_m30_30 (by omega) (fun p => ?_) (fun p => ?_)) <;> conv => whnf)
      | (refine ⟨by unfold vp_in; decide, ?_⟩ <;> conv => whnf)
      | fail
    all_goals exact H _ _ _ (by repeat' first | (with_reducible assumption) | (with_reducible refine XI_ui ?_ ?_) | (with_reducible refine XI_fil ?_ (fun _ => ?_)) | (with_reducible refine XI_cpy ?_ (fun _ _ => ?_)) | exact True.intro | ((show inr _ _ _); first | (with_reducible assumption) | (unfold inr; decide)) | fail) (by repeat' first | (with_reducible exact kp_refl _ _) | (with_reducible assumption) | (with_reducible refine kp_ui ?_ ?_) | (with_reducible refine kp_fil ?_ ?_) | (with_reducible refine kp_cpy ?_ ?_) | rfl | fail)
  · have hlt : cn < 20 := by omega
    repeat' first
      | (simp only [cnb, nI_6m, nI_9m, nI_1, nI_k _ 2 2 rfl, nI_k _ 3 3 rfl, nI_k _ 4 4 rfl, nI_k _ 5 5 rfl, nI_k _ 6 6 rfl, nI_k _ 7 7 rfl, nI_k _ 8 8 rfl, m_ui_ap, m_fil_ap, m_cpy_ap, Nat.reduceEqDiff, Nat.reduceLT, Nat.reduceLeDiff, eq_self, ↓reduceIte, false_and, and_false, true_and, and_true, and_self])
      | ((with_reducible refine ⟨vp_in_nI (by omega) (by decide), ?_⟩) <;> conv => whnf)
      | (refine ⟨Or.inl rfl, ?_⟩ <;> conv => whnf)
      | (refine ⟨Or.inr rfl, ?_⟩ <;> conv => whnf)
      | (refine ⟨Or.inl True.intro, ?_⟩ <;> conv => whnf)
      | (refine ⟨Or.inr True.intro, ?_⟩ <;> conv => whnf)
      | (refine ⟨fun c => ?_, fun c => ?_⟩ <;> first | ((have c9 : (1 : Int32) = 0 := by with_reducible exact c); exact absurd c9 (by decide)) | exact absurd (rfl : (0 : Int32) = 0) (by with_reducible exact c) | exact absurd True.intro (by with_reducible exact c) | exact False.elim (by with_reducible exact c) | exact absurd ((nI_eq (b := 20) (by omega) (by decide)).mp c) hq | (conv => whnf))
      | (refine ct_mIsWork (by omega) hb hm (fun j hj e => ?_) (fun q => ?_) <;> (try subst e) <;> conv => whnf)
      | ((with_reducible refine ct_i_m30_30 (by omega) (fun p => ?_) (fun p => ?_)) <;> conv => whnf)
      | (refine ⟨by unfold vp_in; decide, ?_⟩ <;> conv => whnf)
      | fail
    all_goals exact H _ _ _ (by repeat' first | (with_reducible assumption) | (with_reducible refine XI_ui ?_ ?_) | (with_reducible refine XI_fil ?_ (fun _ => ?_)) | (with_reducible refine XI_cpy ?_ (fun _ _ => ?_)) | exact True.intro | ((show inr _ _ _); first | (with_reducible assumption) | ((with_reducible refine inr_n1 (m := 20) ?_ ?_ ?_) <;> first | omega | rfl | decide) | ((with_reducible refine inr_n (m := 20) ?_ ?_ ?_) <;> first | omega | rfl | decide) | ((with_reducible refine inr_n1 (m := 39) ?_ ?_ ?_) <;> first | omega | rfl | decide) | ((with_reducible refine inr_n (m := 39) ?_ ?_ ?_) <;> first | omega | rfl | decide) | (unfold inr; decide)) | fail) (by repeat' first | (with_reducible exact kp_refl _ _) | (with_reducible assumption) | (with_reducible refine kp_ui ?_ ?_) | (with_reducible refine kp_fil ?_ ?_) | (with_reducible refine kp_cpy ?_ ?_) | rfl | fail)
set_option maxRecDepth 100000 in
set_option maxHeartbeats 4000000 in
theorem sm_use {d L : Nat} {f : Nat → Nat → Int32} {g : Nat → Nat → Int64} {x1 x2 : Int32} {R : Option Value → mH → Prop} (hd : 8 ≤ d) (hX : XI f) (H : ∀ v f' g', XI f' → kp [10, 15] f f' → R (some (.int v)) (shF L, f', g')) : Run mtab d 177 [.ref 181, .int x1, .int x2] (shF L, f, g) R := by
  obtain ⟨d, rfl⟩ : ∃ e, d = e + 1 := ⟨d - 1, by omega⟩
  refine go_X11_use rfl ?_
  conv => whnf
  obtain ⟨cn, cnm, cnb⟩ := inr_nat (n := 20) rfl (xi_181_16 hX)
  repeat' first
    | ((with_reducible refine ⟨vp_cnt ‹inr 0 (nI cn - 1) _› (by omega) (by decide), ?_⟩) <;> conv => whnf)
    | (simp only [cnb])
    | ((with_reducible refine ⟨vp_in_nI (by omega) (by decide), ?_⟩) <;> conv => whnf)
    | (refine ⟨Or.inl rfl, ?_⟩ <;> conv => whnf)
    | (refine ⟨Or.inr rfl, ?_⟩ <;> conv => whnf)
    | (refine ⟨Or.inl True.intro, ?_⟩ <;> conv => whnf)
    | (refine ⟨Or.inr True.intro, ?_⟩ <;> conv => whnf)
    | (refine ⟨fun c => ?_, fun c => ?_⟩ <;> first | ((have c9 : (1 : Int32) = 0 := by with_reducible exact c); exact absurd c9 (by decide)) | exact absurd (rfl : (0 : Int32) = 0) (by with_reducible exact c) | exact absurd True.intro (by with_reducible exact c) | exact False.elim (by with_reducible exact c) | (conv => whnf))
    | ((with_reducible refine ct_i_0_v (by omega) (fun p => ?_) (fun p => ?_)) <;> conv => whnf)
    | (refine ⟨by unfold vp_in; decide, ?_⟩ <;> conv => whnf)
    | fail
  all_goals exact H _ _ _ (by repeat' first | (with_reducible assumption) | (with_reducible refine XI_ui ?_ ?_) | (with_reducible refine XI_fil ?_ (fun _ => ?_)) | (with_reducible refine XI_cpy ?_ (fun _ _ => ?_)) | exact True.intro | ((show inr _ _ _); first | (with_reducible assumption) | (unfold inr; decide)) | fail) (by repeat' first | (with_reducible exact kp_refl _ _) | (with_reducible assumption) | (with_reducible refine kp_ui ?_ ?_) | (with_reducible refine kp_fil ?_ ?_) | (with_reducible refine kp_cpy ?_ ?_) | rfl | fail)
set_option maxRecDepth 100000 in
set_option maxHeartbeats 4000000 in
theorem sm_kin {d L : Nat} {f : Nat → Nat → Int32} {g : Nat → Nat → Int64} {x1 x2 : Int32} {R : Option Value → mH → Prop} (hd : 8 ≤ d) (hX : XI f) (H : ∀ v f' g', XI f' → kp [19] f f' → R (some (.int v)) (shF L, f', g')) : Run mtab d 214 [.ref 181, .int x1, .int x2] (shF L, f, g) R := by
  obtain ⟨d, rfl⟩ : ∃ e, d = e + 1 := ⟨d - 1, by omega⟩
  refine go_X11_kin rfl ?_
  conv => whnf
  repeat' first
    | ((with_reducible refine ⟨vpi ‹inr 0 7 _› (by decide), ?_⟩) <;> conv => whnf)
    | ((with_reducible refine ⟨vp_in_nI (by omega) (by decide), ?_⟩) <;> conv => whnf)
    | (refine ⟨Or.inl rfl, ?_⟩ <;> conv => whnf)
    | (refine ⟨Or.inr rfl, ?_⟩ <;> conv => whnf)
    | (refine ⟨Or.inl True.intro, ?_⟩ <;> conv => whnf)
    | (refine ⟨Or.inr True.intro, ?_⟩ <;> conv => whnf)
    | (refine ⟨fun c => ?_, fun c => ?_⟩ <;> first | ((have c9 : (1 : Int32) = 0 := by with_reducible exact c); exact absurd c9 (by decide)) | exact absurd (rfl : (0 : Int32) = 0) (by with_reducible exact c) | exact absurd True.intro (by with_reducible exact c) | exact False.elim (by with_reducible exact c) | (conv => whnf))
    | ((with_reducible refine ct_i_0_7 (by omega) (fun p => ?_) (fun p => ?_)) <;> conv => whnf)
    | ((with_reducible refine ct_i_0_1048575 (by omega) (fun p => ?_) (fun p => ?_)) <;> conv => whnf)
    | (refine ⟨by unfold vp_in; decide, ?_⟩ <;> conv => whnf)
    | fail
  all_goals exact H _ _ _ (by repeat' first | (with_reducible assumption) | (with_reducible refine XI_ui ?_ ?_) | (with_reducible refine XI_fil ?_ (fun _ => ?_)) | (with_reducible refine XI_cpy ?_ (fun _ _ => ?_)) | exact True.intro | ((show inr _ _ _); first | (with_reducible assumption) | (unfold inr; decide)) | fail) (by repeat' first | (with_reducible exact kp_refl _ _) | (with_reducible assumption) | (with_reducible refine kp_ui ?_ ?_) | (with_reducible refine kp_fil ?_ ?_) | (with_reducible refine kp_cpy ?_ ?_) | rfl | fail)
set_option maxRecDepth 100000 in
set_option maxHeartbeats 4000000 in
theorem sm_drop {d L : Nat} {f : Nat → Nat → Int32} {g : Nat → Nat → Int64} {x1 : Int32} {R : Option Value → mH → Prop} (hd : 8 ≤ d) (hX : XI f) (H : ∀ v f' g', XI f' → kp [18] f f' → R (some (.int v)) (shF L, f', g')) : Run mtab d 238 [.ref 181, .int x1] (shF L, f, g) R := by
  obtain ⟨d, rfl⟩ : ∃ e, d = e + 1 := ⟨d - 1, by omega⟩
  refine go_X11_drop rfl ?_
  conv => whnf
  repeat' first
    | ((with_reducible refine ⟨vpi ‹inr 0 3 _› (by decide), ?_⟩) <;> conv => whnf)
    | ((with_reducible refine ⟨vp_in_nI (by omega) (by decide), ?_⟩) <;> conv => whnf)
    | (refine ⟨Or.inl rfl, ?_⟩ <;> conv => whnf)
    | (refine ⟨Or.inr rfl, ?_⟩ <;> conv => whnf)
    | (refine ⟨Or.inl True.intro, ?_⟩ <;> conv => whnf)
    | (refine ⟨Or.inr True.intro, ?_⟩ <;> conv => whnf)
    | (refine ⟨fun c => ?_, fun c => ?_⟩ <;> first | ((have c9 : (1 : Int32) = 0 := by with_reducible exact c); exact absurd c9 (by decide)) | exact absurd (rfl : (0 : Int32) = 0) (by with_reducible exact c) | exact absurd True.intro (by with_reducible exact c) | exact False.elim (by with_reducible exact c) | (conv => whnf))
    | ((with_reducible refine ct_i_0_3 (by omega) (fun p => ?_) (fun p => ?_)) <;> conv => whnf)
    | (refine ⟨by unfold vp_in; decide, ?_⟩ <;> conv => whnf)
    | fail
  all_goals exact H _ _ _ (by repeat' first | (with_reducible assumption) | (with_reducible refine XI_ui ?_ ?_) | (with_reducible refine XI_fil ?_ (fun _ => ?_)) | (with_reducible refine XI_cpy ?_ (fun _ _ => ?_)) | exact True.intro | ((show inr _ _ _); first | (with_reducible assumption) | (unfold inr; decide)) | fail) (by repeat' first | (with_reducible exact kp_refl _ _) | (with_reducible assumption) | (with_reducible refine kp_ui ?_ ?_) | (with_reducible refine kp_fil ?_ ?_) | (with_reducible refine kp_cpy ?_ ?_) | rfl | fail)
theorem nI_60a (s t : Nat) : nI (60 * s) + nI t = nI (60 * s + t) := nI_add _ _
set_option maxRecDepth 100000 in
set_option maxHeartbeats 4000000 in
theorem sm_item {d L : Nat} {f : Nat → Nat → Int32} {g : Nat → Nat → Int64} {x1 x2 x3 x4 : Int32} {R : Option Value → mH → Prop} (hd : 8 ≤ d) (hX : XI f) (H : ∀ v f' g', XI f' → kp [18] f f' → R (some (.int v)) (shF L, f', g')) : Run mtab d 239 [.ref 181, .int x1, .int x2, .int x3, .int x4] (shF L, f, g) R := by
  obtain ⟨d, rfl⟩ : ∃ e, d = e + 1 := ⟨d - 1, by omega⟩
  refine go_X11_item rfl ?_
  conv => whnf
  refine ct_mIsSheet (by omega) (fun pp => ?_) (fun pp => ?_)
  · obtain ⟨s, hs, rfl⟩ := inr_nat (n := 3) rfl pp.1
    have hcl : (nI s).toNatClampNeg = s := nI_clamp (by omega)
    conv => whnf
    refine ⟨fun _ => ?_, fun c => absurd c (by decide)⟩
    conv => whnf
    obtain ⟨z, hz, hzb⟩ := inr_nat (n := 60) rfl (xi_225 hX s)
    have ez : f 225 (nI s).toNatClampNeg = nI z := by rw [hcl, hzb]
    repeat' first
      | (simp only [ez, nI_60m, nI_60a])
      | ((with_reducible refine ⟨vp_in_nI (by omega) (by decide), ?_⟩) <;> conv => whnf)
      | (refine ⟨Or.inl rfl, ?_⟩ <;> conv => whnf)
      | (refine ⟨Or.inr rfl, ?_⟩ <;> conv => whnf)
      | (refine ⟨Or.inl True.intro, ?_⟩ <;> conv => whnf)
      | (refine ⟨Or.inr True.intro, ?_⟩ <;> conv => whnf)
      | (refine ⟨fun c => ?_, fun c => ?_⟩ <;> first | ((have c9 : (1 : Int32) = 0 := by with_reducible exact c); exact absurd c9 (by decide)) | exact absurd (rfl : (0 : Int32) = 0) (by with_reducible exact c) | exact absurd True.intro (by with_reducible exact c) | exact False.elim (by with_reducible exact c) | (conv => whnf))
      | ((with_reducible refine ct_i_0_v (by omega) (fun p => ?_) (fun p => ?_)) <;> first | ((obtain ⟨t, ht, e⟩ := inr_cnt (by omega) p); (subst e); conv => whnf) | conv => whnf)
      | (refine ⟨by unfold vp_in; decide, ?_⟩ <;> conv => whnf)
      | fail
    all_goals exact H _ _ _ (by repeat' first | (with_reducible assumption) | (with_reducible refine XI_ui ?_ ?_) | (with_reducible refine XI_fil ?_ (fun _ => ?_)) | (with_reducible refine XI_cpy ?_ (fun _ _ => ?_)) | exact True.intro | ((show inr _ _ _); first | (with_reducible assumption) | (unfold inr; decide)) | fail) (by repeat' first | (with_reducible exact kp_refl _ _) | (with_reducible assumption) | (with_reducible refine kp_ui ?_ ?_) | (with_reducible refine kp_fil ?_ ?_) | (with_reducible refine kp_cpy ?_ ?_) | rfl | fail)
  · conv => whnf
    refine ⟨fun c => absurd (by decide) c, fun _ => ?_⟩
    conv => whnf
    exact H _ _ _ hX (kp_refl _ _)
set_option maxRecDepth 100000 in
set_option maxHeartbeats 4000000 in
theorem sm_sht_lp {d L : Nat} {f0 : Nat → Nat → Int32} {s : Nat} {w y : Int32} {R : Option Value → mH → Prop} (hd : 1 ≤ d) (hs : s ≤ 3) (H : ∀ v f' g', XI f' → fx 224 227 f0 f' → R (some (.int v)) (shF L, f', g'))  :
    ∀ (k i : Nat) (x : Int32) (f : Nat → Nat → Int32) (g : Nat → Nat → Int64), i + k = 60 → x = nI i → XI f → fx 224 227 f0 f → WPe pg_X11_sheet none (Run mtab d) R (m_drop pg_X11_sheet 25) [some (.ref 181), some (.int (nI s)), some (.int w), some (.int y), some (.int x)] [] (shF L, f, g)
  | 0, i, x, f, g, he, hx, hX, hF => by
    have e : i = 60 := by omega
    subst hx
    subst e
    refine at_X11_sheet ?_
    conv => whnf
    try simp only [nI_60m, nI_60a]
    refine ⟨fun c => ?_, fun c => absurd (by decide) c⟩
    conv => whnf
    repeat' first
      | (simp only [nI_60m, nI_60a])
      | ((with_reducible refine ⟨vp_in_nI (by omega) (by decide), ?_⟩) <;> conv => whnf)
      | (refine ⟨Or.inl rfl, ?_⟩ <;> conv => whnf)
      | (refine ⟨Or.inr rfl, ?_⟩ <;> conv => whnf)
      | (refine ⟨Or.inl True.intro, ?_⟩ <;> conv => whnf)
      | (refine ⟨Or.inr True.intro, ?_⟩ <;> conv => whnf)
      | (refine ⟨fun c => ?_, fun c => ?_⟩ <;> first | ((have c9 : (1 : Int32) = 0 := by with_reducible exact c); exact absurd c9 (by decide)) | exact absurd (rfl : (0 : Int32) = 0) (by with_reducible exact c) | exact absurd True.intro (by with_reducible exact c) | exact False.elim (by with_reducible exact c) | (conv => whnf))
      | (refine ⟨by unfold vp_in; decide, ?_⟩ <;> conv => whnf)
      | fail
    all_goals exact H _ _ _ hX hF
  | k + 1, i, x, f, g, he, hx, hX, hF => by
    subst hx
    refine at_X11_sheet ?_
    conv => whnf
    try simp only [nI_60m, nI_60a]
    refine ⟨fun c => absurd c (nI_ge (b := 60) (by omega) (by omega)), fun c => ?_⟩
    conv => whnf
    repeat' first
      | exact sm_sht_lp hd hs H k (i + 1) _  _ _ (by omega) (nI_1 i) (by repeat' first | (with_reducible assumption) | (with_reducible refine XI_ui ?_ ?_) | (with_reducible refine XI_fil ?_ (fun _ => ?_)) | (with_reducible refine XI_cpy ?_ (fun _ _ => ?_)) | exact True.intro | ((show inr _ _ _); first | (with_reducible assumption) | (unfold inr; decide)) | fail) (by repeat' first | (with_reducible exact fx_refl _ _ _) | (with_reducible assumption) | (with_reducible refine fx_ui ?_ ?_ ?_) | (with_reducible refine fx_fil ?_ ?_ ?_) | (with_reducible refine fx_cpy ?_ ?_ ?_) | omega | decide | fail)
      | (simp only [nI_60m, nI_60a])
      | ((with_reducible refine ⟨vp_in_nI (by omega) (by decide), ?_⟩) <;> conv => whnf)
      | (refine ⟨Or.inl rfl, ?_⟩ <;> conv => whnf)
      | (refine ⟨Or.inr rfl, ?_⟩ <;> conv => whnf)
      | (refine ⟨Or.inl True.intro, ?_⟩ <;> conv => whnf)
      | (refine ⟨Or.inr True.intro, ?_⟩ <;> conv => whnf)
      | (refine ⟨fun c => ?_, fun c => ?_⟩ <;> first | ((have c9 : (1 : Int32) = 0 := by with_reducible exact c); exact absurd c9 (by decide)) | exact absurd (rfl : (0 : Int32) = 0) (by with_reducible exact c) | exact absurd True.intro (by with_reducible exact c) | exact False.elim (by with_reducible exact c) | (conv => whnf))
      | (refine ⟨by unfold vp_in; decide, ?_⟩ <;> conv => whnf)
      | fail
    all_goals exact H _ _ _ hX hF
theorem inr_60 {w : Int32} (h1 : ¬ 60 < w) (h2 : ¬ w < 0) : inr 0 60 w := ⟨i32_nlt.mp h2, i32_nlt.mp h1⟩
set_option maxRecDepth 100000 in
set_option maxHeartbeats 4000000 in
theorem sm_sheet {d L : Nat} {f : Nat → Nat → Int32} {g : Nat → Nat → Int64} {x1 x2 x3 : Int32} {R : Option Value → mH → Prop} (hd : 8 ≤ d) (hX : XI f) (H : ∀ v f' g', XI f' → kp [18] f f' → R (some (.int v)) (shF L, f', g')) : Run mtab d 237 [.ref 181, .int x1, .int x2, .int x3] (shF L, f, g) R := by
  obtain ⟨d, rfl⟩ : ∃ e, d = e + 1 := ⟨d - 1, by omega⟩
  refine go_X11_sheet rfl ?_
  conv => whnf
  refine ct_mIsSheet (by omega) (fun pp => ?_) (fun pp => ?_)
  · obtain ⟨s, hs, rfl⟩ := inr_nat (n := 3) rfl pp.1
    have hcl : (nI s).toNatClampNeg = s := nI_clamp (by omega)
    conv => whnf
    refine ⟨fun c => absurd c (by decide), fun _ => ?_⟩
    conv => whnf
    by_cases q1 : 60 < x3
    · repeat' first
        | ((with_reducible refine ⟨vp_in_nI (by omega) (by decide), ?_⟩) <;> conv => whnf)
        | (refine ⟨Or.inl rfl, ?_⟩ <;> conv => whnf)
        | (refine ⟨Or.inr rfl, ?_⟩ <;> conv => whnf)
        | (refine ⟨Or.inl True.intro, ?_⟩ <;> conv => whnf)
        | (refine ⟨Or.inr True.intro, ?_⟩ <;> conv => whnf)
        | (refine ⟨fun c => ?_, fun c => ?_⟩ <;> first | ((have c9 : (1 : Int32) = 0 := by with_reducible exact c); exact absurd c9 (by decide)) | exact absurd (rfl : (0 : Int32) = 0) (by with_reducible exact c) | exact absurd True.intro (by with_reducible exact c) | exact False.elim (by with_reducible exact c) | exact absurd q1 (i32_nlt.mpr (by with_reducible exact c)) | exact absurd (by with_reducible exact c) (i32_nle.mpr q1) | (conv => whnf))
        | (refine ⟨by unfold vp_in; decide, ?_⟩ <;> conv => whnf)
        | fail
      all_goals exact H _ _ _ hX (kp_refl _ _)
    · by_cases q2 : x3 < 0
      · repeat' first
          | ((with_reducible refine ⟨vp_in_nI (by omega) (by decide), ?_⟩) <;> conv => whnf)
          | (refine ⟨Or.inl rfl, ?_⟩ <;> conv => whnf)
          | (refine ⟨Or.inr rfl, ?_⟩ <;> conv => whnf)
          | (refine ⟨Or.inl True.intro, ?_⟩ <;> conv => whnf)
          | (refine ⟨Or.inr True.intro, ?_⟩ <;> conv => whnf)
          | (refine ⟨fun c => ?_, fun c => ?_⟩ <;> first | ((have c9 : (1 : Int32) = 0 := by with_reducible exact c); exact absurd c9 (by decide)) | exact absurd (rfl : (0 : Int32) = 0) (by with_reducible exact c) | exact absurd True.intro (by with_reducible exact c) | exact False.elim (by with_reducible exact c) | exact absurd q2 (i32_nlt.mpr (by with_reducible exact c)) | exact absurd (by with_reducible exact c) (i32_nle.mpr q2) | (conv => whnf))
          | (refine ⟨by unfold vp_in; decide, ?_⟩ <;> conv => whnf)
          | fail
        all_goals exact H _ _ _ hX (kp_refl _ _)
      · repeat' first
          | exact sm_sht_lp (f0 := f) (by omega) hs (fun v f' g' a b => H v f' g' a (kp_fx b rfl)) 60 0 _ _ _ (by omega) rfl (XI_ui (XI_ui hX True.intro) (show inr 0 60 _ from inr_60 q1 q2)) (fx_ui (by decide) (by decide) (fx_ui (by decide) (by decide) (fx_refl _ _ _)))
          | ((with_reducible refine ⟨vp_in_nI (by omega) (by decide), ?_⟩) <;> conv => whnf)
          | (refine ⟨Or.inl rfl, ?_⟩ <;> conv => whnf)
          | (refine ⟨Or.inr rfl, ?_⟩ <;> conv => whnf)
          | (refine ⟨Or.inl True.intro, ?_⟩ <;> conv => whnf)
          | (refine ⟨Or.inr True.intro, ?_⟩ <;> conv => whnf)
          | (refine ⟨fun c => ?_, fun c => ?_⟩ <;> first | ((have c9 : (1 : Int32) = 0 := by with_reducible exact c); exact absurd c9 (by decide)) | exact absurd (rfl : (0 : Int32) = 0) (by with_reducible exact c) | exact absurd True.intro (by with_reducible exact c) | exact False.elim (by with_reducible exact c) | (conv => whnf))
          | (refine ⟨by unfold vp_in; decide, ?_⟩ <;> conv => whnf)
          | fail
        all_goals exact H _ _ _ hX (kp_refl _ _)
  · conv => whnf
    refine ⟨fun _ => ?_, fun c => absurd (by decide) c⟩
    conv => whnf
    exact H _ _ _ hX (kp_refl _ _)
def meA (x1 x2 x3 : Int32) : Prop := inr 0 2 x1 ∧ inr 0 15 x2 ∧ inr 1800 1999 x3
def meB (x4 x5 : Int32) : Prop := (x4 = 0 ∧ x5 = 0) ∨ (inr 1 6000 x4 ∧ inr 1 6000 x5)
def meC (x6 x8 x9 : Int32) : Prop := inr 0 1 x6 ∧ inr 0 1073741823 x8 ∧ inr (-1) 19 x9
def bo (p : Prop) (a : Int32) : Prop := (p ∧ a = 1) ∨ (¬ p ∧ a = 0)
def mentw (x1 x2 x3 x4 x5 x6 x7 x8 x9 : Int32) : Prop := meA x1 x2 x3 ∧ meB x4 x5 ∧ meC x6 x8 x9
def fr (x : Int32) : Int32 := if x = 0 then 0 else 1
def nadd0 (f : Nat → Nat → Int32) (h : Nat) (x1 x2 x3 x4 x5 x6 x7 x8 x9 : Int32) : Nat → Nat → Int32 := (m_ui (m_ui (m_ui (m_ui (m_ui (m_ui f 140 h x1) 141 h x2) 142 h x3) 147 h x8) 148 h x9) 139 13 (nI h + 1))
def nadd (f : Nat → Nat → Int32) (h : Nat) (x1 x2 x3 x4 x5 x6 x7 x8 x9 : Int32) : Nat → Nat → Int32 := (m_ui (m_ui (m_ui (m_ui (nadd0 f h x1 x2 x3 x4 x5 x6 x7 x8 x9) 143 h x4) 144 h x5) 145 h x6) 146 h (vp_nar .boolean x7))
def mnadd (f : Nat → Nat → Int32) (h : Nat) (x1 x2 x3 x4 x5 x6 x7 x8 x9 : Int32) : Nat → Nat → Int32 := (m_ui (m_ui (m_ui (m_ui (m_ui (m_ui (m_ui (m_ui (m_ui (m_ui (m_ui f 203 (9 * h) x1) 203 (9 * h + 1) x2) 203 (9 * h + 2) x3) 203 (9 * h + 3) x4) 203 (9 * h + 4) x5) 203 (9 * h + 5) x6) 203 (9 * h + 6) (fr x7)) 203 (9 * h + 7) x8) 203 (9 * h + 8) x9) 181 27 (nI (h + 1))) 181 29 0)
def SX_mention (h : Nat) (f f1 : Nat → Nat → Int32) (x1 x2 x3 x4 x5 x6 x7 x8 x9 v : Int32) : Prop := (¬ mentw x1 x2 x3 x4 x5 x6 x7 x8 x9 ∧ v = -1 ∧ f1 = f) ∨ (mentw x1 x2 x3 x4 x5 x6 x7 x8 x9 ∧ ((h = 50 ∧ v = -3 ∧ f1 = f) ∨ (h < 50 ∧ v = nI h ∧ f1 = nadd f h x1 x2 x3 x4 x5 x6 x7 x8 x9)))
def SM_mention (h : Nat) (f f1 : Nat → Nat → Int32) (x1 x2 x3 x4 x5 x6 x7 x8 x9 v : Int32) : Prop := (¬ mentw x1 x2 x3 x4 x5 x6 x7 x8 x9 ∧ v = -1 ∧ f1 = f) ∨ (mentw x1 x2 x3 x4 x5 x6 x7 x8 x9 ∧ ((h = 50 ∧ v = -3 ∧ f1 = f) ∨ (h < 50 ∧ v = nI h ∧ f1 = mnadd f h x1 x2 x3 x4 x5 x6 x7 x8 x9)))
def RN (f : Nat → Nat → Int32) (k : Nat) : Prop := f 140 k = f 203 (9 * k) ∧ f 141 k = f 203 (9 * k + 1) ∧ f 142 k = f 203 (9 * k + 2) ∧ f 143 k = f 203 (9 * k + 3) ∧ f 144 k = f 203 (9 * k + 4) ∧ f 145 k = f 203 (9 * k + 5) ∧ f 146 k = f 203 (9 * k + 6) ∧ f 147 k = f 203 (9 * k + 7) ∧ f 148 k = f 203 (9 * k + 8) ∧ mentw (f 140 k) (f 141 k) (f 142 k) (f 143 k) (f 144 k) (f 145 k) (f 146 k) (f 147 k) (f 148 k) ∧ (f 146 k = 0 ∨ f 146 k = 1)
/-- both objects have the same mentions -/
def RM (m : Nat) (f : Nat → Nat → Int32) : Prop := m ≤ 50 ∧ f 139 13 = nI m ∧ f 181 27 = nI m ∧ ∀ k, k < m → RN f k
set_option maxRecDepth 100000 in
set_option maxHeartbeats 4000000 in
theorem sf_Madd {d L : Nat} {f : Nat → Nat → Int32} {g : Nat → Nat → Int64} {h : Nat} {x1 x2 x3 x4 x5 x6 x7 x8 x9 : Int32} {R : Option Value → mH → Prop} (hd : 1 ≤ d) (hb : f 139 13 = nI h) (hm : h ≤ 50) (HF : h = 50 → R (some (.int (-3))) (shF L, f, g)) (H : h < 50 → R (some (.int (nI h))) (shF L, nadd0 f h x1 x2 x3 x4 x5 x6 x7 x8 x9, g)) : Run mtab d 35 [.ref 139, .int x1, .int x2, .int x3, .int x8, .int x9] (shF L, f, g) R := by
  obtain ⟨d, rfl⟩ : ∃ e, d = e + 1 := ⟨d - 1, by omega⟩
  refine go_X4_add rfl ?_
  conv => whnf
  by_cases hq : h = 50
  · subst hq
    repeat' first
      | (simp only [hb])
      | ((with_reducible refine ⟨vp_in_nI (by omega) (by decide), ?_⟩) <;> conv => whnf)
      | (refine ⟨Or.inl rfl, ?_⟩ <;> conv => whnf)
      | (refine ⟨Or.inr rfl, ?_⟩ <;> conv => whnf)
      | (refine ⟨Or.inl True.intro, ?_⟩ <;> conv => whnf)
      | (refine ⟨Or.inr True.intro, ?_⟩ <;> conv => whnf)
      | (refine ⟨fun c => ?_, fun c => ?_⟩ <;> first | ((have c9 : (1 : Int32) = 0 := by with_reducible exact c); exact absurd c9 (by decide)) | exact absurd (rfl : (0 : Int32) = 0) (by with_reducible exact c) | exact absurd True.intro (by with_reducible exact c) | exact False.elim (by with_reducible exact c) | exact absurd (by decide) c | (conv => whnf))
      | (refine ⟨by unfold vp_in; decide, ?_⟩ <;> conv => whnf)
      | fail
    all_goals exact HF rfl
  · have hlt : h < 50 := by omega
    have hcl : (nI h).toNatClampNeg = h := nI_clamp (by omega)
    repeat' first
      | (simp only [hb, m_ui_ap, m_fil_ap, m_cpy_ap, Nat.reduceEqDiff, Nat.reduceLT, Nat.reduceLeDiff, eq_self, ↓reduceIte, false_and, and_false, true_and, and_true, and_self])
      | ((with_reducible refine ⟨vp_in_nI (by omega) (by decide), ?_⟩) <;> conv => whnf)
      | (refine ⟨Or.inl rfl, ?_⟩ <;> conv => whnf)
      | (refine ⟨Or.inr rfl, ?_⟩ <;> conv => whnf)
      | (refine ⟨Or.inl True.intro, ?_⟩ <;> conv => whnf)
      | (refine ⟨Or.inr True.intro, ?_⟩ <;> conv => whnf)
      | (refine ⟨fun c => ?_, fun c => ?_⟩ <;> first | ((have c9 : (1 : Int32) = 0 := by with_reducible exact c); exact absurd c9 (by decide)) | exact absurd (rfl : (0 : Int32) = 0) (by with_reducible exact c) | exact absurd True.intro (by with_reducible exact c) | exact False.elim (by with_reducible exact c) | exact absurd ((nI_eq (b := 50) (by omega) (by decide)).mp c) hq | (conv => whnf))
      | (refine ⟨by unfold vp_in; decide, ?_⟩ <;> conv => whnf)
      | fail
    all_goals (simp only [hcl]; exact H hlt)
set_option maxRecDepth 100000 in
set_option maxHeartbeats 4000000 in
theorem sf_measure {d L : Nat} {f : Nat → Nat → Int32} {g : Nat → Nat → Int64} {j : Nat} {x4 x5 x6 x7 : Int32} {R : Option Value → mH → Prop} (hd : 1 ≤ d) (hj : j < 50) (H : R none (shF L, (m_ui (m_ui (m_ui (m_ui f 143 j x4) 144 j x5) 145 j x6) 146 j (vp_nar .boolean x7)), g)) : Run mtab d 36 [.ref 139, .int (nI j), .int x4, .int x5, .int x6, .int x7] (shF L, f, g) R := by
  obtain ⟨d, rfl⟩ : ∃ e, d = e + 1 := ⟨d - 1, by omega⟩
  refine go_X4_measure rfl ?_
  conv => whnf
  have hcl : (nI j).toNatClampNeg = j := nI_clamp (by omega)
  refine ⟨vp_in_nI (by omega) (by decide), ?_⟩
  conv => whnf
  refine ⟨vp_in_nI (by omega) (by decide), ?_⟩
  conv => whnf
  refine ⟨vp_in_nI (by omega) (by decide), ?_⟩
  conv => whnf
  refine ⟨vp_in_nI (by omega) (by decide), ?_⟩
  conv => whnf
  simp only [hcl]
  exact H
set_option maxRecDepth 100000 in
set_option maxHeartbeats 4000000 in
theorem mn_53 {d L h : Nat} {f : Nat → Nat → Int32} {g : Nat → Nat → Int64} {x1 x2 x3 x4 x5 x6 x7 x8 x9 a b e : Int32} {s13 : Option Value} {R : Option Value → mH → Prop} (hd : 3 ≤ d) (hb : f 139 13 = nI h) (hm : h ≤ 50) (H : ∀ v f1, SX_mention h f f1 x1 x2 x3 x4 x5 x6 x7 x8 x9 v → R (some (.int v)) (shF L, f1, g)) (ha : bo (meA x1 x2 x3) a) (hq : bo (meB x4 x5) b) (he : bo (meC x6 x8 x9) e) : WPe pg_X10_mention none (Run mtab d) R (m_drop pg_X10_mention 53) [some (.ref 5), some (.int x1), some (.int x2), some (.int x3), some (.int x4), some (.int x5), some (.int x6), some (.int x7), some (.int x8), some (.int x9), some (.int a), some (.int b), some (.int e), s13] [] (shF L, f, g) := by
  refine at_X10_mention ?_
  conv => whnf
  rcases ha with ⟨pa, rfl⟩ | ⟨pa, rfl⟩
  · (refine ⟨fun c => ?_, fun c => ?_⟩ <;> first | ((have c9 : (1 : Int32) = 0 := by with_reducible exact c); exact absurd c9 (by decide)) | exact absurd (rfl : (0 : Int32) = 0) (by with_reducible exact c) | exact absurd True.intro (by with_reducible exact c) | exact False.elim (by with_reducible exact c) | (conv => whnf))
    rcases hq with ⟨pb, rfl⟩ | ⟨pb, rfl⟩
    · (refine ⟨fun c => ?_, fun c => ?_⟩ <;> first | ((have c9 : (1 : Int32) = 0 := by with_reducible exact c); exact absurd c9 (by decide)) | exact absurd (rfl : (0 : Int32) = 0) (by with_reducible exact c) | exact absurd True.intro (by with_reducible exact c) | exact False.elim (by with_reducible exact c) | (conv => whnf))
      rcases he with ⟨pc, rfl⟩ | ⟨pc, rfl⟩
      · (refine ⟨fun c => ?_, fun c => ?_⟩ <;> first | ((have c9 : (1 : Int32) = 0 := by with_reducible exact c); exact absurd c9 (by decide)) | exact absurd (rfl : (0 : Int32) = 0) (by with_reducible exact c) | exact absurd True.intro (by with_reducible exact c) | exact False.elim (by with_reducible exact c) | (conv => whnf))
        refine sf_Madd (x4 := x4) (x5 := x5) (x6 := x6) (x7 := x7) (by omega) hb hm (fun q => ?_) (fun q => ?_)
        · conv => whnf
          refine ⟨fun _ => ?_, fun c => absurd (by decide) c⟩
          conv => whnf
          exact H _ _ (Or.inr ⟨⟨pa, pb, pc⟩, Or.inl ⟨q, rfl, rfl⟩⟩)
        · conv => whnf
          refine ⟨fun c => absurd c (nI_pos (by omega)), fun _ => ?_⟩
          conv => whnf
          refine sf_measure (by omega) (by omega) ?_
          conv => whnf
          exact H _ _ (Or.inr ⟨⟨pa, pb, pc⟩, Or.inr ⟨q, rfl, rfl⟩⟩)
      · (refine ⟨fun c => ?_, fun c => ?_⟩ <;> first | ((have c9 : (1 : Int32) = 0 := by with_reducible exact c); exact absurd c9 (by decide)) | exact absurd (rfl : (0 : Int32) = 0) (by with_reducible exact c) | exact absurd True.intro (by with_reducible exact c) | exact False.elim (by with_reducible exact c) | (conv => whnf))
        exact H _ _ (Or.inl ⟨fun hh => pc hh.2.2, rfl, rfl⟩)
    · (refine ⟨fun c => ?_, fun c => ?_⟩ <;> first | ((have c9 : (1 : Int32) = 0 := by with_reducible exact c); exact absurd c9 (by decide)) | exact absurd (rfl : (0 : Int32) = 0) (by with_reducible exact c) | exact absurd True.intro (by with_reducible exact c) | exact False.elim (by with_reducible exact c) | (conv => whnf))
      exact H _ _ (Or.inl ⟨fun hh => pb hh.2.1, rfl, rfl⟩)
  · (refine ⟨fun c => ?_, fun c => ?_⟩ <;> first | ((have c9 : (1 : Int32) = 0 := by with_reducible exact c); exact absurd c9 (by decide)) | exact absurd (rfl : (0 : Int32) = 0) (by with_reducible exact c) | exact absurd True.intro (by with_reducible exact c) | exact False.elim (by with_reducible exact c) | (conv => whnf))
    exact H _ _ (Or.inl ⟨fun hh => pa hh.1, rfl, rfl⟩)
set_option maxRecDepth 100000 in
set_option maxHeartbeats 4000000 in
theorem mn_35 {d L h : Nat} {f : Nat → Nat → Int32} {g : Nat → Nat → Int64} {x1 x2 x3 x4 x5 x6 x7 x8 x9 a b : Int32} {s13 : Option Value} {R : Option Value → mH → Prop} (hd : 3 ≤ d) (hb : f 139 13 = nI h) (hm : h ≤ 50) (H : ∀ v f1, SX_mention h f f1 x1 x2 x3 x4 x5 x6 x7 x8 x9 v → R (some (.int v)) (shF L, f1, g)) (ha : bo (meA x1 x2 x3) a) (hq : bo (meB x4 x5) b) : WPe pg_X10_mention none (Run mtab d) R (m_drop pg_X10_mention 35) [some (.ref 5), some (.int x1), some (.int x2), some (.int x3), some (.int x4), some (.int x5), some (.int x6), some (.int x7), some (.int x8), some (.int x9), some (.int a), some (.int b), none, s13] [] (shF L, f, g) := by
  refine at_X10_mention ?_
  conv => whnf
  refine ct_isWithin (by omega) (fun p6 => ?_) (fun p6 => ?_)
  · conv => whnf
    (refine ⟨fun c => ?_, fun c => ?_⟩ <;> first | ((have c9 : (1 : Int32) = 0 := by with_reducible exact c); exact absurd c9 (by decide)) | exact absurd (rfl : (0 : Int32) = 0) (by with_reducible exact c) | exact absurd True.intro (by with_reducible exact c) | exact False.elim (by with_reducible exact c) | (conv => whnf))
    refine ct_isBits30 (by omega) (fun p8 => ?_) (fun p8 => ?_)
    · conv => whnf
      (refine ⟨fun c => ?_, fun c => ?_⟩ <;> first | ((have c9 : (1 : Int32) = 0 := by with_reducible exact c); exact absurd c9 (by decide)) | exact absurd (rfl : (0 : Int32) = 0) (by with_reducible exact c) | exact absurd True.intro (by with_reducible exact c) | exact False.elim (by with_reducible exact c) | (conv => whnf))
      refine ct_isWithin (by omega) (fun p9 => ?_) (fun p9 => ?_)
      · conv => whnf
        (refine ⟨fun c => ?_, fun c => ?_⟩ <;> first | ((have c9 : (1 : Int32) = 0 := by with_reducible exact c); exact absurd c9 (by decide)) | exact absurd (rfl : (0 : Int32) = 0) (by with_reducible exact c) | exact absurd True.intro (by with_reducible exact c) | exact False.elim (by with_reducible exact c) | (conv => whnf))
        exact mn_53 hd hb hm H ha hq (Or.inl ⟨⟨p6, p8, p9⟩, rfl⟩)
      · conv => whnf
        (refine ⟨fun c => ?_, fun c => ?_⟩ <;> first | ((have c9 : (1 : Int32) = 0 := by with_reducible exact c); exact absurd c9 (by decide)) | exact absurd (rfl : (0 : Int32) = 0) (by with_reducible exact c) | exact absurd True.intro (by with_reducible exact c) | exact False.elim (by with_reducible exact c) | (conv => whnf))
        exact mn_53 hd hb hm H ha hq (Or.inr ⟨fun hh => p9 hh.2.2, rfl⟩)
    · conv => whnf
      (refine ⟨fun c => ?_, fun c => ?_⟩ <;> first | ((have c9 : (1 : Int32) = 0 := by with_reducible exact c); exact absurd c9 (by decide)) | exact absurd (rfl : (0 : Int32) = 0) (by with_reducible exact c) | exact absurd True.intro (by with_reducible exact c) | exact False.elim (by with_reducible exact c) | (conv => whnf))
      exact mn_53 hd hb hm H ha hq (Or.inr ⟨fun hh => p8 hh.2.1, rfl⟩)
  · conv => whnf
    (refine ⟨fun c => ?_, fun c => ?_⟩ <;> first | ((have c9 : (1 : Int32) = 0 := by with_reducible exact c); exact absurd c9 (by decide)) | exact absurd (rfl : (0 : Int32) = 0) (by with_reducible exact c) | exact absurd True.intro (by with_reducible exact c) | exact False.elim (by with_reducible exact c) | (conv => whnf))
    exact mn_53 hd hb hm H ha hq (Or.inr ⟨fun hh => p6 hh.1, rfl⟩)
set_option maxRecDepth 100000 in
set_option maxHeartbeats 4000000 in
theorem mn_17 {d L h : Nat} {f : Nat → Nat → Int32} {g : Nat → Nat → Int64} {x1 x2 x3 x4 x5 x6 x7 x8 x9 a : Int32} {s13 : Option Value} {R : Option Value → mH → Prop} (hd : 3 ≤ d) (hb : f 139 13 = nI h) (hm : h ≤ 50) (H : ∀ v f1, SX_mention h f f1 x1 x2 x3 x4 x5 x6 x7 x8 x9 v → R (some (.int v)) (shF L, f1, g)) (ha : bo (meA x1 x2 x3) a) : WPe pg_X10_mention none (Run mtab d) R (m_drop pg_X10_mention 17) [some (.ref 5), some (.int x1), some (.int x2), some (.int x3), some (.int x4), some (.int x5), some (.int x6), some (.int x7), some (.int x8), some (.int x9), some (.int a), none, none, s13] [] (shF L, f, g) := by
  refine at_X10_mention ?_
  conv => whnf
  refine ⟨fun c4 => ?_, fun c4 => ?_⟩
  · conv => whnf
    have nz : ¬ (x4 = 0 ∧ x5 = 0) := fun z => c4 z.1
    refine ct_isWithin (by omega) (fun p4 => ?_) (fun p4 => ?_)
    · conv => whnf
      (refine ⟨fun c => ?_, fun c => ?_⟩ <;> first | ((have c9 : (1 : Int32) = 0 := by with_reducible exact c); exact absurd c9 (by decide)) | exact absurd (rfl : (0 : Int32) = 0) (by with_reducible exact c) | exact absurd True.intro (by with_reducible exact c) | exact False.elim (by with_reducible exact c) | (conv => whnf))
      refine ct_isWithin (by omega) (fun p5 => ?_) (fun p5 => ?_)
      · conv => whnf
        (refine ⟨fun c => ?_, fun c => ?_⟩ <;> first | ((have c9 : (1 : Int32) = 0 := by with_reducible exact c); exact absurd c9 (by decide)) | exact absurd (rfl : (0 : Int32) = 0) (by with_reducible exact c) | exact absurd True.intro (by with_reducible exact c) | exact False.elim (by with_reducible exact c) | (conv => whnf))
        exact mn_35 hd hb hm H ha (Or.inl ⟨Or.inr ⟨p4, p5⟩, rfl⟩)
      · conv => whnf
        (refine ⟨fun c => ?_, fun c => ?_⟩ <;> first | ((have c9 : (1 : Int32) = 0 := by with_reducible exact c); exact absurd c9 (by decide)) | exact absurd (rfl : (0 : Int32) = 0) (by with_reducible exact c) | exact absurd True.intro (by with_reducible exact c) | exact False.elim (by with_reducible exact c) | (conv => whnf))
        exact mn_35 hd hb hm H ha (Or.inr ⟨fun hh => hh.elim (fun z => nz z) (fun z => p5 z.2), rfl⟩)
    · conv => whnf
      (refine ⟨fun c => ?_, fun c => ?_⟩ <;> first | ((have c9 : (1 : Int32) = 0 := by with_reducible exact c); exact absurd c9 (by decide)) | exact absurd (rfl : (0 : Int32) = 0) (by with_reducible exact c) | exact absurd True.intro (by with_reducible exact c) | exact False.elim (by with_reducible exact c) | (conv => whnf))
      exact mn_35 hd hb hm H ha (Or.inr ⟨fun hh => hh.elim (fun z => nz z) (fun z => p4 z.1), rfl⟩)
  · conv => whnf
    refine ⟨fun c5 => ?_, fun c5 => ?_⟩
    · conv => whnf
      exact mn_35 hd hb hm H ha (Or.inl ⟨Or.inl ⟨c4, c5⟩, rfl⟩)
    · conv => whnf
      have nz : ¬ (x4 = 0 ∧ x5 = 0) := fun z => c5 z.2
      refine ct_isWithin (by omega) (fun p4 => ?_) (fun p4 => ?_)
      · conv => whnf
        (refine ⟨fun c => ?_, fun c => ?_⟩ <;> first | ((have c9 : (1 : Int32) = 0 := by with_reducible exact c); exact absurd c9 (by decide)) | exact absurd (rfl : (0 : Int32) = 0) (by with_reducible exact c) | exact absurd True.intro (by with_reducible exact c) | exact False.elim (by with_reducible exact c) | (conv => whnf))
        refine ct_isWithin (by omega) (fun p5 => ?_) (fun p5 => ?_)
        · conv => whnf
          (refine ⟨fun c => ?_, fun c => ?_⟩ <;> first | ((have c9 : (1 : Int32) = 0 := by with_reducible exact c); exact absurd c9 (by decide)) | exact absurd (rfl : (0 : Int32) = 0) (by with_reducible exact c) | exact absurd True.intro (by with_reducible exact c) | exact False.elim (by with_reducible exact c) | (conv => whnf))
          exact mn_35 hd hb hm H ha (Or.inl ⟨Or.inr ⟨p4, p5⟩, rfl⟩)
        · conv => whnf
          (refine ⟨fun c => ?_, fun c => ?_⟩ <;> first | ((have c9 : (1 : Int32) = 0 := by with_reducible exact c); exact absurd c9 (by decide)) | exact absurd (rfl : (0 : Int32) = 0) (by with_reducible exact c) | exact absurd True.intro (by with_reducible exact c) | exact False.elim (by with_reducible exact c) | (conv => whnf))
          exact mn_35 hd hb hm H ha (Or.inr ⟨fun hh => hh.elim (fun z => nz z) (fun z => p5 z.2), rfl⟩)
      · conv => whnf
        (refine ⟨fun c => ?_, fun c => ?_⟩ <;> first | ((have c9 : (1 : Int32) = 0 := by with_reducible exact c); exact absurd c9 (by decide)) | exact absurd (rfl : (0 : Int32) = 0) (by with_reducible exact c) | exact absurd True.intro (by with_reducible exact c) | exact False.elim (by with_reducible exact c) | (conv => whnf))
        exact mn_35 hd hb hm H ha (Or.inr ⟨fun hh => hh.elim (fun z => nz z) (fun z => p4 z.1), rfl⟩)
set_option maxRecDepth 100000 in
set_option maxHeartbeats 4000000 in
theorem sf_mention {d L : Nat} {f : Nat → Nat → Int32} {g : Nat → Nat → Int64} {h : Nat} {x1 x2 x3 x4 x5 x6 x7 x8 x9 : Int32} {R : Option Value → mH → Prop} (hd : 4 ≤ d) (hb : f 139 13 = nI h) (hm : h ≤ 50) (H : ∀ v f1, SX_mention h f f1 x1 x2 x3 x4 x5 x6 x7 x8 x9 v → R (some (.int v)) (shF L, f1, g)) : Run mtab d 104 [.ref 5, .int x1, .int x2, .int x3, .int x4, .int x5, .int x6, .int x7, .int x8, .int x9] (shF L, f, g) R := by
  obtain ⟨d, rfl⟩ : ∃ e, d = e + 1 := ⟨d - 1, by omega⟩
  refine go_X10_mention rfl ?_
  conv => whnf
  refine ct_isWithin (by omega) (fun p1 => ?_) (fun p1 => ?_)
  · conv => whnf
    (refine ⟨fun c => ?_, fun c => ?_⟩ <;> first | ((have c9 : (1 : Int32) = 0 := by with_reducible exact c); exact absurd c9 (by decide)) | exact absurd (rfl : (0 : Int32) = 0) (by with_reducible exact c) | exact absurd True.intro (by with_reducible exact c) | exact False.elim (by with_reducible exact c) | (conv => whnf))
    refine ct_isWithin (by omega) (fun p2 => ?_) (fun p2 => ?_)
    · conv => whnf
      (refine ⟨fun c => ?_, fun c => ?_⟩ <;> first | ((have c9 : (1 : Int32) = 0 := by with_reducible exact c); exact absurd c9 (by decide)) | exact absurd (rfl : (0 : Int32) = 0) (by with_reducible exact c) | exact absurd True.intro (by with_reducible exact c) | exact False.elim (by with_reducible exact c) | (conv => whnf))
      refine ct_isYear (by omega) (fun p3 => ?_) (fun p3 => ?_)
      · conv => whnf
        (refine ⟨fun c => ?_, fun c => ?_⟩ <;> first | ((have c9 : (1 : Int32) = 0 := by with_reducible exact c); exact absurd c9 (by decide)) | exact absurd (rfl : (0 : Int32) = 0) (by with_reducible exact c) | exact absurd True.intro (by with_reducible exact c) | exact False.elim (by with_reducible exact c) | (conv => whnf))
        exact mn_17 (by omega) hb hm H (Or.inl ⟨⟨p1, p2, p3⟩, rfl⟩)
      · conv => whnf
        (refine ⟨fun c => ?_, fun c => ?_⟩ <;> first | ((have c9 : (1 : Int32) = 0 := by with_reducible exact c); exact absurd c9 (by decide)) | exact absurd (rfl : (0 : Int32) = 0) (by with_reducible exact c) | exact absurd True.intro (by with_reducible exact c) | exact False.elim (by with_reducible exact c) | (conv => whnf))
        exact mn_17 (by omega) hb hm H (Or.inr ⟨fun hh => p3 hh.2.2, rfl⟩)
    · conv => whnf
      (refine ⟨fun c => ?_, fun c => ?_⟩ <;> first | ((have c9 : (1 : Int32) = 0 := by with_reducible exact c); exact absurd c9 (by decide)) | exact absurd (rfl : (0 : Int32) = 0) (by with_reducible exact c) | exact absurd True.intro (by with_reducible exact c) | exact False.elim (by with_reducible exact c) | (conv => whnf))
      exact mn_17 (by omega) hb hm H (Or.inr ⟨fun hh => p2 hh.2.1, rfl⟩)
  · conv => whnf
    (refine ⟨fun c => ?_, fun c => ?_⟩ <;> first | ((have c9 : (1 : Int32) = 0 := by with_reducible exact c); exact absurd c9 (by decide)) | exact absurd (rfl : (0 : Int32) = 0) (by with_reducible exact c) | exact absurd True.intro (by with_reducible exact c) | exact False.elim (by with_reducible exact c) | (conv => whnf))
    exact mn_17 (by omega) hb hm H (Or.inr ⟨fun hh => p1 hh.1, rfl⟩)
set_option maxRecDepth 100000 in
set_option maxHeartbeats 4000000 in
theorem mm_20 {d L h : Nat} {f : Nat → Nat → Int32} {g : Nat → Nat → Int64} {x1 x2 x3 x4 x5 x6 x7 x8 x9 b : Int32} {s11 : Option Value} {R : Option Value → mH → Prop} (hd : 3 ≤ d) (hb : f 181 27 = nI h) (hm : h ≤ 50) (H : ∀ v f1, SM_mention h f f1 x1 x2 x3 x4 x5 x6 x7 x8 x9 v → R (some (.int v)) (shF L, f1, g)) (hq2 : bo (meB x4 x5) b) : WPe pg_X11_mention none (Run mtab d) R (m_drop pg_X11_mention 20) [some (.ref 181), some (.int x1), some (.int x2), some (.int x3), some (.int x4), some (.int x5), some (.int x6), some (.int x7), some (.int x8), some (.int x9), some (.int b), s11] [] (shF L, f, g) := by
  refine at_X11_mention ?_
  conv => whnf
  refine ct_i_0_2 (by omega) (fun p1 => ?_) (fun p1 => ?_)
  · conv => whnf
    (refine ⟨fun c => ?_, fun c => ?_⟩ <;> first | ((have c9 : (1 : Int32) = 0 := by with_reducible exact c); exact absurd c9 (by decide)) | exact absurd (rfl : (0 : Int32) = 0) (by with_reducible exact c) | exact absurd True.intro (by with_reducible exact c) | exact False.elim (by with_reducible exact c) | (conv => whnf))
    refine ct_i_0_15 (by omega) (fun p2 => ?_) (fun p2 => ?_)
    · conv => whnf
      (refine ⟨fun c => ?_, fun c => ?_⟩ <;> first | ((have c9 : (1 : Int32) = 0 := by with_reducible exact c); exact absurd c9 (by decide)) | exact absurd (rfl : (0 : Int32) = 0) (by with_reducible exact c) | exact absurd True.intro (by with_reducible exact c) | exact False.elim (by with_reducible exact c) | (conv => whnf))
      refine ct_mIsYear (by omega) (fun p3 => ?_) (fun p3 => ?_)
      · conv => whnf
        (refine ⟨fun c => ?_, fun c => ?_⟩ <;> first | ((have c9 : (1 : Int32) = 0 := by with_reducible exact c); exact absurd c9 (by decide)) | exact absurd (rfl : (0 : Int32) = 0) (by with_reducible exact c) | exact absurd True.intro (by with_reducible exact c) | exact False.elim (by with_reducible exact c) | (conv => whnf))
        rcases hq2 with ⟨pb, rfl⟩ | ⟨pb, rfl⟩
        · (refine ⟨fun c => ?_, fun c => ?_⟩ <;> first | ((have c9 : (1 : Int32) = 0 := by with_reducible exact c); exact absurd c9 (by decide)) | exact absurd (rfl : (0 : Int32) = 0) (by with_reducible exact c) | exact absurd True.intro (by with_reducible exact c) | exact False.elim (by with_reducible exact c) | (conv => whnf))
          refine ct_i_0_1 (by omega) (fun p6 => ?_) (fun p6 => ?_)
          · conv => whnf
            (refine ⟨fun c => ?_, fun c => ?_⟩ <;> first | ((have c9 : (1 : Int32) = 0 := by with_reducible exact c); exact absurd c9 (by decide)) | exact absurd (rfl : (0 : Int32) = 0) (by with_reducible exact c) | exact absurd True.intro (by with_reducible exact c) | exact False.elim (by with_reducible exact c) | (conv => whnf))
            refine ct_i_0_1073741823 (by omega) (fun p8 => ?_) (fun p8 => ?_)
            · conv => whnf
              (refine ⟨fun c => ?_, fun c => ?_⟩ <;> first | ((have c9 : (1 : Int32) = 0 := by with_reducible exact c); exact absurd c9 (by decide)) | exact absurd (rfl : (0 : Int32) = 0) (by with_reducible exact c) | exact absurd True.intro (by with_reducible exact c) | exact False.elim (by with_reducible exact c) | (conv => whnf))
              refine ct_i_m1_19 (by omega) (fun p9 => ?_) (fun p9 => ?_)
              · conv => whnf
                (refine ⟨fun c => ?_, fun c => ?_⟩ <;> first | ((have c9 : (1 : Int32) = 0 := by with_reducible exact c); exact absurd c9 (by decide)) | exact absurd (rfl : (0 : Int32) = 0) (by with_reducible exact c) | exact absurd True.intro (by with_reducible exact c) | exact False.elim (by with_reducible exact c) | (conv => whnf))
                simp only [hb]
                by_cases hq : h = 50
                · subst hq
                  refine ⟨fun c => absurd (by decide) c, fun _ => ?_⟩
                  conv => whnf
                  exact H _ _ (Or.inr ⟨⟨⟨p1, p2, p3⟩, pb, ⟨p6, p8, p9⟩⟩, Or.inl ⟨rfl, rfl, rfl⟩⟩)
                · refine ⟨fun _ => ?_, fun c => absurd ((nI_eq (b := 50) (by omega) (by decide)).mp c) hq⟩
                  have hc0 : (nI (9 * h)).toNatClampNeg = 9 * h := nI_clamp (by omega)
                  have hc1 : (nI (9 * h + 1)).toNatClampNeg = 9 * h + 1 := nI_clamp (by omega)
                  have hc2 : (nI (9 * h + 2)).toNatClampNeg = 9 * h + 2 := nI_clamp (by omega)
                  have hc3 : (nI (9 * h + 3)).toNatClampNeg = 9 * h + 3 := nI_clamp (by omega)
                  have hc4 : (nI (9 * h + 4)).toNatClampNeg = 9 * h + 4 := nI_clamp (by omega)
                  have hc5 : (nI (9 * h + 5)).toNatClampNeg = 9 * h + 5 := nI_clamp (by omega)
                  have hc6 : (nI (9 * h + 6)).toNatClampNeg = 9 * h + 6 := nI_clamp (by omega)
                  have hc7 : (nI (9 * h + 7)).toNatClampNeg = 9 * h + 7 := nI_clamp (by omega)
                  have hc8 : (nI (9 * h + 8)).toNatClampNeg = 9 * h + 8 := nI_clamp (by omega)
                  conv => whnf
                  (try simp only [hb, nI_9m, nI_1, nI_k _ 2 2 rfl, nI_k _ 3 3 rfl, nI_k _ 4 4 rfl, nI_k _ 5 5 rfl, nI_k _ 6 6 rfl, nI_k _ 7 7 rfl, nI_k _ 8 8 rfl, m_ui_ap, m_fil_ap, m_cpy_ap, Nat.reduceEqDiff, Nat.reduceLT, Nat.reduceLeDiff, eq_self, ↓reduceIte, false_and, and_false, true_and, and_true, and_self])
                  refine ⟨vp_in_nI (by omega) (by decide), ?_⟩
                  conv => whnf
                  (try simp only [hb, nI_9m, nI_1, nI_k _ 2 2 rfl, nI_k _ 3 3 rfl, nI_k _ 4 4 rfl, nI_k _ 5 5 rfl, nI_k _ 6 6 rfl, nI_k _ 7 7 rfl, nI_k _ 8 8 rfl, m_ui_ap, m_fil_ap, m_cpy_ap, Nat.reduceEqDiff, Nat.reduceLT, Nat.reduceLeDiff, eq_self, ↓reduceIte, false_and, and_false, true_and, and_true, and_self])
                  refine ⟨vp_in_nI (by omega) (by decide), ?_⟩
                  conv => whnf
                  (try simp only [hb, nI_9m, nI_1, nI_k _ 2 2 rfl, nI_k _ 3 3 rfl, nI_k _ 4 4 rfl, nI_k _ 5 5 rfl, nI_k _ 6 6 rfl, nI_k _ 7 7 rfl, nI_k _ 8 8 rfl, m_ui_ap, m_fil_ap, m_cpy_ap, Nat.reduceEqDiff, Nat.reduceLT, Nat.reduceLeDiff, eq_self, ↓reduceIte, false_and, and_false, true_and, and_true, and_self])
                  refine ⟨vp_in_nI (by omega) (by decide), ?_⟩
                  conv => whnf
                  (try simp only [hb, nI_9m, nI_1, nI_k _ 2 2 rfl, nI_k _ 3 3 rfl, nI_k _ 4 4 rfl, nI_k _ 5 5 rfl, nI_k _ 6 6 rfl, nI_k _ 7 7 rfl, nI_k _ 8 8 rfl, m_ui_ap, m_fil_ap, m_cpy_ap, Nat.reduceEqDiff, Nat.reduceLT, Nat.reduceLeDiff, eq_self, ↓reduceIte, false_and, and_false, true_and, and_true, and_self])
                  refine ⟨vp_in_nI (by omega) (by decide), ?_⟩
                  conv => whnf
                  (try simp only [hb, nI_9m, nI_1, nI_k _ 2 2 rfl, nI_k _ 3 3 rfl, nI_k _ 4 4 rfl, nI_k _ 5 5 rfl, nI_k _ 6 6 rfl, nI_k _ 7 7 rfl, nI_k _ 8 8 rfl, m_ui_ap, m_fil_ap, m_cpy_ap, Nat.reduceEqDiff, Nat.reduceLT, Nat.reduceLeDiff, eq_self, ↓reduceIte, false_and, and_false, true_and, and_true, and_self])
                  refine ⟨vp_in_nI (by omega) (by decide), ?_⟩
                  conv => whnf
                  (try simp only [hb, nI_9m, nI_1, nI_k _ 2 2 rfl, nI_k _ 3 3 rfl, nI_k _ 4 4 rfl, nI_k _ 5 5 rfl, nI_k _ 6 6 rfl, nI_k _ 7 7 rfl, nI_k _ 8 8 rfl, m_ui_ap, m_fil_ap, m_cpy_ap, Nat.reduceEqDiff, Nat.reduceLT, Nat.reduceLeDiff, eq_self, ↓reduceIte, false_and, and_false, true_and, and_true, and_self])
                  refine ⟨vp_in_nI (by omega) (by decide), ?_⟩
                  conv => whnf
                  refine ⟨fun c7 => ?_, fun c7 => ?_⟩
                  · conv => whnf
                    (try simp only [hb, nI_9m, nI_1, nI_k _ 2 2 rfl, nI_k _ 3 3 rfl, nI_k _ 4 4 rfl, nI_k _ 5 5 rfl, nI_k _ 6 6 rfl, nI_k _ 7 7 rfl, nI_k _ 8 8 rfl, m_ui_ap, m_fil_ap, m_cpy_ap, Nat.reduceEqDiff, Nat.reduceLT, Nat.reduceLeDiff, eq_self, ↓reduceIte, false_and, and_false, true_and, and_true, and_self])
                    refine ⟨vp_in_nI (by omega) (by decide), ?_⟩
                    conv => whnf
                    (try simp only [hb, nI_9m, nI_1, nI_k _ 2 2 rfl, nI_k _ 3 3 rfl, nI_k _ 4 4 rfl, nI_k _ 5 5 rfl, nI_k _ 6 6 rfl, nI_k _ 7 7 rfl, nI_k _ 8 8 rfl, m_ui_ap, m_fil_ap, m_cpy_ap, Nat.reduceEqDiff, Nat.reduceLT, Nat.reduceLeDiff, eq_self, ↓reduceIte, false_and, and_false, true_and, and_true, and_self])
                    refine ⟨vp_in_nI (by omega) (by decide), ?_⟩
                    conv => whnf
                    (try simp only [hb, nI_9m, nI_1, nI_k _ 2 2 rfl, nI_k _ 3 3 rfl, nI_k _ 4 4 rfl, nI_k _ 5 5 rfl, nI_k _ 6 6 rfl, nI_k _ 7 7 rfl, nI_k _ 8 8 rfl, m_ui_ap, m_fil_ap, m_cpy_ap, Nat.reduceEqDiff, Nat.reduceLT, Nat.reduceLeDiff, eq_self, ↓reduceIte, false_and, and_false, true_and, and_true, and_self])
                    refine ⟨vp_in_nI (by omega) (by decide), ?_⟩
                    conv => whnf
                    (try refine ⟨by first | exact Or.inl rfl | exact Or.inl True.intro, ?_⟩)
                    (try (conv => whnf))
                    have H2 := H _ _ (Or.inr ⟨⟨⟨p1, p2, p3⟩, pb, ⟨p6, p8, p9⟩⟩, Or.inr ⟨by omega, rfl, rfl⟩⟩)
                    have e7 : fr x7 = 0 := if_pos c7
                    have e : nI (h + 1) - 1 = nI h := nI_pred h
                    unfold mnadd at H2
                    rw [e7, ← e] at H2
                    simp only [hc0, hc1, hc2, hc3, hc4, hc5, hc6, hc7, hc8, hb, nI_9m, nI_1, nI_k _ 2 2 rfl, nI_k _ 3 3 rfl, nI_k _ 4 4 rfl, nI_k _ 5 5 rfl, nI_k _ 6 6 rfl, nI_k _ 7 7 rfl, nI_k _ 8 8 rfl, m_ui_ap, m_fil_ap, m_cpy_ap, Nat.reduceEqDiff, Nat.reduceLT, Nat.reduceLeDiff, eq_self, ↓reduceIte, false_and, and_false, true_and, and_true, and_self]
                    exact H2
                  · conv => whnf
                    (try simp only [hb, nI_9m, nI_1, nI_k _ 2 2 rfl, nI_k _ 3 3 rfl, nI_k _ 4 4 rfl, nI_k _ 5 5 rfl, nI_k _ 6 6 rfl, nI_k _ 7 7 rfl, nI_k _ 8 8 rfl, m_ui_ap, m_fil_ap, m_cpy_ap, Nat.reduceEqDiff, Nat.reduceLT, Nat.reduceLeDiff, eq_self, ↓reduceIte, false_and, and_false, true_and, and_true, and_self])
                    refine ⟨vp_in_nI (by omega) (by decide), ?_⟩
                    conv => whnf
                    (try simp only [hb, nI_9m, nI_1, nI_k _ 2 2 rfl, nI_k _ 3 3 rfl, nI_k _ 4 4 rfl, nI_k _ 5 5 rfl, nI_k _ 6 6 rfl, nI_k _ 7 7 rfl, nI_k _ 8 8 rfl, m_ui_ap, m_fil_ap, m_cpy_ap, Nat.reduceEqDiff, Nat.reduceLT, Nat.reduceLeDiff, eq_self, ↓reduceIte, false_and, and_false, true_and, and_true, and_self])
                    refine ⟨vp_in_nI (by omega) (by decide), ?_⟩
                    conv => whnf
                    (try simp only [hb, nI_9m, nI_1, nI_k _ 2 2 rfl, nI_k _ 3 3 rfl, nI_k _ 4 4 rfl, nI_k _ 5 5 rfl, nI_k _ 6 6 rfl, nI_k _ 7 7 rfl, nI_k _ 8 8 rfl, m_ui_ap, m_fil_ap, m_cpy_ap, Nat.reduceEqDiff, Nat.reduceLT, Nat.reduceLeDiff, eq_self, ↓reduceIte, false_and, and_false, true_and, and_true, and_self])
                    refine ⟨vp_in_nI (by omega) (by decide), ?_⟩
                    conv => whnf
                    (try refine ⟨by first | exact Or.inl rfl | exact Or.inl True.intro, ?_⟩)
                    (try (conv => whnf))
                    have H2 := H _ _ (Or.inr ⟨⟨⟨p1, p2, p3⟩, pb, ⟨p6, p8, p9⟩⟩, Or.inr ⟨by omega, rfl, rfl⟩⟩)
                    have e7 : fr x7 = 1 := if_neg c7
                    have e : nI (h + 1) - 1 = nI h := nI_pred h
                    unfold mnadd at H2
                    rw [e7, ← e] at H2
                    simp only [hc0, hc1, hc2, hc3, hc4, hc5, hc6, hc7, hc8, hb, nI_9m, nI_1, nI_k _ 2 2 rfl, nI_k _ 3 3 rfl, nI_k _ 4 4 rfl, nI_k _ 5 5 rfl, nI_k _ 6 6 rfl, nI_k _ 7 7 rfl, nI_k _ 8 8 rfl, m_ui_ap, m_fil_ap, m_cpy_ap, Nat.reduceEqDiff, Nat.reduceLT, Nat.reduceLeDiff, eq_self, ↓reduceIte, false_and, and_false, true_and, and_true, and_self]
                    exact H2
              · conv => whnf
                (refine ⟨fun c => ?_, fun c => ?_⟩ <;> first | ((have c9 : (1 : Int32) = 0 := by with_reducible exact c); exact absurd c9 (by decide)) | exact absurd (rfl : (0 : Int32) = 0) (by with_reducible exact c) | exact absurd True.intro (by with_reducible exact c) | exact False.elim (by with_reducible exact c) | (conv => whnf))
                exact H _ _ (Or.inl ⟨fun hh => p9 hh.2.2.2.2, rfl, rfl⟩)
            · conv => whnf
              (refine ⟨fun c => ?_, fun c => ?_⟩ <;> first | ((have c9 : (1 : Int32) = 0 := by with_reducible exact c); exact absurd c9 (by decide)) | exact absurd (rfl : (0 : Int32) = 0) (by with_reducible exact c) | exact absurd True.intro (by with_reducible exact c) | exact False.elim (by with_reducible exact c) | (conv => whnf))
              exact H _ _ (Or.inl ⟨fun hh => p8 hh.2.2.2.1, rfl, rfl⟩)
          · conv => whnf
            (refine ⟨fun c => ?_, fun c => ?_⟩ <;> first | ((have c9 : (1 : Int32) = 0 := by with_reducible exact c); exact absurd c9 (by decide)) | exact absurd (rfl : (0 : Int32) = 0) (by with_reducible exact c) | exact absurd True.intro (by with_reducible exact c) | exact False.elim (by with_reducible exact c) | (conv => whnf))
            exact H _ _ (Or.inl ⟨fun hh => p6 hh.2.2.1, rfl, rfl⟩)
        · (refine ⟨fun c => ?_, fun c => ?_⟩ <;> first | ((have c9 : (1 : Int32) = 0 := by with_reducible exact c); exact absurd c9 (by decide)) | exact absurd (rfl : (0 : Int32) = 0) (by with_reducible exact c) | exact absurd True.intro (by with_reducible exact c) | exact False.elim (by with_reducible exact c) | (conv => whnf))
          exact H _ _ (Or.inl ⟨fun hh => pb hh.2.1, rfl, rfl⟩)
      · conv => whnf
        (refine ⟨fun c => ?_, fun c => ?_⟩ <;> first | ((have c9 : (1 : Int32) = 0 := by with_reducible exact c); exact absurd c9 (by decide)) | exact absurd (rfl : (0 : Int32) = 0) (by with_reducible exact c) | exact absurd True.intro (by with_reducible exact c) | exact False.elim (by with_reducible exact c) | (conv => whnf))
        exact H _ _ (Or.inl ⟨fun hh => p3 hh.1.2.2, rfl, rfl⟩)
    · conv => whnf
      (refine ⟨fun c => ?_, fun c => ?_⟩ <;> first | ((have c9 : (1 : Int32) = 0 := by with_reducible exact c); exact absurd c9 (by decide)) | exact absurd (rfl : (0 : Int32) = 0) (by with_reducible exact c) | exact absurd True.intro (by with_reducible exact c) | exact False.elim (by with_reducible exact c) | (conv => whnf))
      exact H _ _ (Or.inl ⟨fun hh => p2 hh.1.2.1, rfl, rfl⟩)
  · conv => whnf
    (refine ⟨fun c => ?_, fun c => ?_⟩ <;> first | ((have c9 : (1 : Int32) = 0 := by with_reducible exact c); exact absurd c9 (by decide)) | exact absurd (rfl : (0 : Int32) = 0) (by with_reducible exact c) | exact absurd True.intro (by with_reducible exact c) | exact False.elim (by with_reducible exact c) | (conv => whnf))
    exact H _ _ (Or.inl ⟨fun hh => p1 hh.1.1, rfl, rfl⟩)
set_option maxRecDepth 100000 in
set_option maxHeartbeats 4000000 in
theorem smf_mention {d L : Nat} {f : Nat → Nat → Int32} {g : Nat → Nat → Int64} {h : Nat} {x1 x2 x3 x4 x5 x6 x7 x8 x9 : Int32} {R : Option Value → mH → Prop} (hd : 4 ≤ d) (hb : f 181 27 = nI h) (hm : h ≤ 50) (H : ∀ v f1, SM_mention h f f1 x1 x2 x3 x4 x5 x6 x7 x8 x9 v → R (some (.int v)) (shF L, f1, g)) : Run mtab d 190 [.ref 181, .int x1, .int x2, .int x3, .int x4, .int x5, .int x6, .int x7, .int x8, .int x9] (shF L, f, g) R := by
  obtain ⟨d, rfl⟩ : ∃ e, d = e + 1 := ⟨d - 1, by omega⟩
  refine go_X11_mention rfl ?_
  conv => whnf
  refine ⟨fun c4 => ?_, fun c4 => ?_⟩
  · conv => whnf
    have nz : ¬ (x4 = 0 ∧ x5 = 0) := fun z => c4 z.1
    refine ct_i_1_6000 (by omega) (fun p4 => ?_) (fun p4 => ?_)
    · conv => whnf
      (refine ⟨fun c => ?_, fun c => ?_⟩ <;> first | ((have c9 : (1 : Int32) = 0 := by with_reducible exact c); exact absurd c9 (by decide)) | exact absurd (rfl : (0 : Int32) = 0) (by with_reducible exact c) | exact absurd True.intro (by with_reducible exact c) | exact False.elim (by with_reducible exact c) | (conv => whnf))
      refine ct_i_1_6000 (by omega) (fun p5 => ?_) (fun p5 => ?_)
      · conv => whnf
        (refine ⟨fun c => ?_, fun c => ?_⟩ <;> first | ((have c9 : (1 : Int32) = 0 := by with_reducible exact c); exact absurd c9 (by decide)) | exact absurd (rfl : (0 : Int32) = 0) (by with_reducible exact c) | exact absurd True.intro (by with_reducible exact c) | exact False.elim (by with_reducible exact c) | (conv => whnf))
        exact mm_20 (by omega) hb hm H (Or.inl ⟨Or.inr ⟨p4, p5⟩, rfl⟩)
      · conv => whnf
        (refine ⟨fun c => ?_, fun c => ?_⟩ <;> first | ((have c9 : (1 : Int32) = 0 := by with_reducible exact c); exact absurd c9 (by decide)) | exact absurd (rfl : (0 : Int32) = 0) (by with_reducible exact c) | exact absurd True.intro (by with_reducible exact c) | exact False.elim (by with_reducible exact c) | (conv => whnf))
        exact mm_20 (by omega) hb hm H (Or.inr ⟨fun hh => hh.elim (fun z => nz z) (fun z => p5 z.2), rfl⟩)
    · conv => whnf
      (refine ⟨fun c => ?_, fun c => ?_⟩ <;> first | ((have c9 : (1 : Int32) = 0 := by with_reducible exact c); exact absurd c9 (by decide)) | exact absurd (rfl : (0 : Int32) = 0) (by with_reducible exact c) | exact absurd True.intro (by with_reducible exact c) | exact False.elim (by with_reducible exact c) | (conv => whnf))
      exact mm_20 (by omega) hb hm H (Or.inr ⟨fun hh => hh.elim (fun z => nz z) (fun z => p4 z.1), rfl⟩)
  · conv => whnf
    refine ⟨fun c5 => ?_, fun c5 => ?_⟩
    · conv => whnf
      exact mm_20 (by omega) hb hm H (Or.inl ⟨Or.inl ⟨c4, c5⟩, rfl⟩)
    · conv => whnf
      have nz : ¬ (x4 = 0 ∧ x5 = 0) := fun z => c5 z.2
      refine ct_i_1_6000 (by omega) (fun p4 => ?_) (fun p4 => ?_)
      · conv => whnf
        (refine ⟨fun c => ?_, fun c => ?_⟩ <;> first | ((have c9 : (1 : Int32) = 0 := by with_reducible exact c); exact absurd c9 (by decide)) | exact absurd (rfl : (0 : Int32) = 0) (by with_reducible exact c) | exact absurd True.intro (by with_reducible exact c) | exact False.elim (by with_reducible exact c) | (conv => whnf))
        refine ct_i_1_6000 (by omega) (fun p5 => ?_) (fun p5 => ?_)
        · conv => whnf
          (refine ⟨fun c => ?_, fun c => ?_⟩ <;> first | ((have c9 : (1 : Int32) = 0 := by with_reducible exact c); exact absurd c9 (by decide)) | exact absurd (rfl : (0 : Int32) = 0) (by with_reducible exact c) | exact absurd True.intro (by with_reducible exact c) | exact False.elim (by with_reducible exact c) | (conv => whnf))
          exact mm_20 (by omega) hb hm H (Or.inl ⟨Or.inr ⟨p4, p5⟩, rfl⟩)
        · conv => whnf
          (refine ⟨fun c => ?_, fun c => ?_⟩ <;> first | ((have c9 : (1 : Int32) = 0 := by with_reducible exact c); exact absurd c9 (by decide)) | exact absurd (rfl : (0 : Int32) = 0) (by with_reducible exact c) | exact absurd True.intro (by with_reducible exact c) | exact False.elim (by with_reducible exact c) | (conv => whnf))
          exact mm_20 (by omega) hb hm H (Or.inr ⟨fun hh => hh.elim (fun z => nz z) (fun z => p5 z.2), rfl⟩)
      · conv => whnf
        (refine ⟨fun c => ?_, fun c => ?_⟩ <;> first | ((have c9 : (1 : Int32) = 0 := by with_reducible exact c); exact absurd c9 (by decide)) | exact absurd (rfl : (0 : Int32) = 0) (by with_reducible exact c) | exact absurd True.intro (by with_reducible exact c) | exact False.elim (by with_reducible exact c) | (conv => whnf))
        exact mm_20 (by omega) hb hm H (Or.inr ⟨fun hh => hh.elim (fun z => nz z) (fun z => p4 z.1), rfl⟩)
theorem kx_mention {h : Nat} {f f1 : Nat → Nat → Int32} {x1 x2 x3 x4 x5 x6 x7 x8 x9 v : Int32} (s : SX_mention h f f1 x1 x2 x3 x4 x5 x6 x7 x8 x9 v) : kp [6] f f1 := by
  rcases s with ⟨_, _, rfl⟩ | ⟨_, ⟨_, _, rfl⟩ | ⟨_, _, rfl⟩⟩
  · exact kp_refl _ _
  · exact kp_refl _ _
  · unfold nadd nadd0
    exact kp_ui rfl (kp_ui rfl (kp_ui rfl (kp_ui rfl (kp_ui rfl (kp_ui rfl (kp_ui rfl (kp_ui rfl (kp_ui rfl (kp_ui rfl (kp_refl _ _))))))))))
theorem km_mention {h : Nat} {f f1 : Nat → Nat → Int32} {x1 x2 x3 x4 x5 x6 x7 x8 x9 v : Int32} (s : SM_mention h f f1 x1 x2 x3 x4 x5 x6 x7 x8 x9 v) : kp [10, 16] f f1 := by
  rcases s with ⟨_, _, rfl⟩ | ⟨_, ⟨_, _, rfl⟩ | ⟨_, _, rfl⟩⟩
  · exact kp_refl _ _
  · exact kp_refl _ _
  · unfold mnadd
    exact kp_ui rfl (kp_ui rfl (kp_ui rfl (kp_ui rfl (kp_ui rfl (kp_ui rfl (kp_ui rfl (kp_ui rfl (kp_ui rfl (kp_ui rfl (kp_ui rfl (kp_refl _ _)))))))))))
theorem cmp_6 {i : Nat} : ∀ a, 139 ≤ a → a ≤ 148 → cmp a i = 6 := by
  intro a h h'
  have : a = 139 ∨ a = 140 ∨ a = 141 ∨ a = 142 ∨ a = 143 ∨ a = 144 ∨ a = 145 ∨ a = 146 ∨ a = 147 ∨ a = 148 := by omega
  rcases this with rfl | rfl | rfl | rfl | rfl | rfl | rfl | rfl | rfl | rfl <;> rfl
theorem RM_congr {m : Nat} {f f' : Nat → Nat → Int32} (h1 : ∀ a i, 139 ≤ a → a ≤ 148 → f' a i = f a i) (h2 : ∀ i, f' 203 i = f 203 i) (h3 : f' 181 27 = f 181 27) (r : RM m f) : RM m f' := by
  obtain ⟨a, b, e, d⟩ := r
  refine ⟨a, (h1 139 13 (by omega) (by omega)).trans b, h3.trans e, fun k hk => ?_⟩
  unfold RN
  rw [h1 140 k (by omega) (by omega), h1 141 k (by omega) (by omega), h1 142 k (by omega) (by omega), h1 143 k (by omega) (by omega), h1 144 k (by omega) (by omega), h1 145 k (by omega) (by omega), h1 146 k (by omega) (by omega), h1 147 k (by omega) (by omega), h1 148 k (by omega) (by omega)]
  simp only [h2]
  exact d k hk
theorem RM_kp {l : List Nat} {m : Nat} {f f' : Nat → Nat → Int32} (k : kp l f f') (h6 : hasN l 6 = false) (h16 : hasN l 16 = false) (r : RM m f) : RM m f' :=
  RM_congr (fun a i p q => k a i (by rw [cmp_6 a p q]; exact h6)) (fun i => k 203 i (by exact h16)) (k 181 27 (by exact h16)) r
theorem na_140 {f : Nat → Nat → Int32} {h k : Nat} {x1 x2 x3 x4 x5 x6 x7 x8 x9 : Int32} : mnadd (nadd f h x1 x2 x3 x4 x5 x6 x7 x8 x9) h x1 x2 x3 x4 x5 x6 x7 x8 x9 140 k = if k = h then x1 else f 140 k := by
  unfold mnadd nadd nadd0
  by_cases e : k = h
  · subst e
    rw [m_ui_o (by omega), m_ui_o (by omega), m_ui_o (by omega), m_ui_o (by omega), m_ui_o (by omega), m_ui_o (by omega), m_ui_o (by omega), m_ui_o (by omega), m_ui_o (by omega), m_ui_o (by omega), m_ui_o (by omega), m_ui_o (by omega), m_ui_o (by omega), m_ui_o (by omega), m_ui_o (by omega), m_ui_o (by omega), m_ui_o (by omega), m_ui_o (by omega), m_ui_o (by omega), m_ui_o (by omega), m_ui_s, if_pos rfl]
  · rw [m_ui_o (by omega), m_ui_o (by omega), m_ui_o (by omega), m_ui_o (by omega), m_ui_o (by omega), m_ui_o (by omega), m_ui_o (by omega), m_ui_o (by omega), m_ui_o (by omega), m_ui_o (by omega), m_ui_o (by omega), m_ui_o (by omega), m_ui_o (by omega), m_ui_o (by omega), m_ui_o (by omega), m_ui_o (by omega), m_ui_o (by omega), m_ui_o (by omega), m_ui_o (by omega), m_ui_o (by omega), m_ui_o (by omega), if_neg e]
theorem na_141 {f : Nat → Nat → Int32} {h k : Nat} {x1 x2 x3 x4 x5 x6 x7 x8 x9 : Int32} : mnadd (nadd f h x1 x2 x3 x4 x5 x6 x7 x8 x9) h x1 x2 x3 x4 x5 x6 x7 x8 x9 141 k = if k = h then x2 else f 141 k := by
  unfold mnadd nadd nadd0
  by_cases e : k = h
  · subst e
    rw [m_ui_o (by omega), m_ui_o (by omega), m_ui_o (by omega), m_ui_o (by omega), m_ui_o (by omega), m_ui_o (by omega), m_ui_o (by omega), m_ui_o (by omega), m_ui_o (by omega), m_ui_o (by omega), m_ui_o (by omega), m_ui_o (by omega), m_ui_o (by omega), m_ui_o (by omega), m_ui_o (by omega), m_ui_o (by omega), m_ui_o (by omega), m_ui_o (by omega), m_ui_o (by omega), m_ui_s, if_pos rfl]
  · rw [m_ui_o (by omega), m_ui_o (by omega), m_ui_o (by omega), m_ui_o (by omega), m_ui_o (by omega), m_ui_o (by omega), m_ui_o (by omega), m_ui_o (by omega), m_ui_o (by omega), m_ui_o (by omega), m_ui_o (by omega), m_ui_o (by omega), m_ui_o (by omega), m_ui_o (by omega), m_ui_o (by omega), m_ui_o (by omega), m_ui_o (by omega), m_ui_o (by omega), m_ui_o (by omega), m_ui_o (by omega), m_ui_o (by omega), if_neg e]
theorem na_142 {f : Nat → Nat → Int32} {h k : Nat} {x1 x2 x3 x4 x5 x6 x7 x8 x9 : Int32} : mnadd (nadd f h x1 x2 x3 x4 x5 x6 x7 x8 x9) h x1 x2 x3 x4 x5 x6 x7 x8 x9 142 k = if k = h then x3 else f 142 k := by
  unfold mnadd nadd nadd0
  by_cases e : k = h
  · subst e
    rw [m_ui_o (by omega), m_ui_o (by omega), m_ui_o (by omega), m_ui_o (by omega), m_ui_o (by omega), m_ui_o (by omega), m_ui_o (by omega), m_ui_o (by omega), m_ui_o (by omega), m_ui_o (by omega), m_ui_o (by omega), m_ui_o (by omega), m_ui_o (by omega), m_ui_o (by omega), m_ui_o (by omega), m_ui_o (by omega), m_ui_o (by omega), m_ui_o (by omega), m_ui_s, if_pos rfl]
  · rw [m_ui_o (by omega), m_ui_o (by omega), m_ui_o (by omega), m_ui_o (by omega), m_ui_o (by omega), m_ui_o (by omega), m_ui_o (by omega), m_ui_o (by omega), m_ui_o (by omega), m_ui_o (by omega), m_ui_o (by omega), m_ui_o (by omega), m_ui_o (by omega), m_ui_o (by omega), m_ui_o (by omega), m_ui_o (by omega), m_ui_o (by omega), m_ui_o (by omega), m_ui_o (by omega), m_ui_o (by omega), m_ui_o (by omega), if_neg e]
theorem na_143 {f : Nat → Nat → Int32} {h k : Nat} {x1 x2 x3 x4 x5 x6 x7 x8 x9 : Int32} : mnadd (nadd f h x1 x2 x3 x4 x5 x6 x7 x8 x9) h x1 x2 x3 x4 x5 x6 x7 x8 x9 143 k = if k = h then x4 else f 143 k := by
  unfold mnadd nadd nadd0
  by_cases e : k = h
  · subst e
    rw [m_ui_o (by omega), m_ui_o (by omega), m_ui_o (by omega), m_ui_o (by omega), m_ui_o (by omega), m_ui_o (by omega), m_ui_o (by omega), m_ui_o (by omega), m_ui_o (by omega), m_ui_o (by omega), m_ui_o (by omega), m_ui_o (by omega), m_ui_o (by omega), m_ui_o (by omega), m_ui_s, if_pos rfl]
  · rw [m_ui_o (by omega), m_ui_o (by omega), m_ui_o (by omega), m_ui_o (by omega), m_ui_o (by omega), m_ui_o (by omega), m_ui_o (by omega), m_ui_o (by omega), m_ui_o (by omega), m_ui_o (by omega), m_ui_o (by omega), m_ui_o (by omega), m_ui_o (by omega), m_ui_o (by omega), m_ui_o (by omega), m_ui_o (by omega), m_ui_o (by omega), m_ui_o (by omega), m_ui_o (by omega), m_ui_o (by omega), m_ui_o (by omega), if_neg e]
theorem na_144 {f : Nat → Nat → Int32} {h k : Nat} {x1 x2 x3 x4 x5 x6 x7 x8 x9 : Int32} : mnadd (nadd f h x1 x2 x3 x4 x5 x6 x7 x8 x9) h x1 x2 x3 x4 x5 x6 x7 x8 x9 144 k = if k = h then x5 else f 144 k := by
  unfold mnadd nadd nadd0
  by_cases e : k = h
  · subst e
    rw [m_ui_o (by omega), m_ui_o (by omega), m_ui_o (by omega), m_ui_o (by omega), m_ui_o (by omega), m_ui_o (by omega), m_ui_o (by omega), m_ui_o (by omega), m_ui_o (by omega), m_ui_o (by omega), m_ui_o (by omega), m_ui_o (by omega), m_ui_o (by omega), m_ui_s, if_pos rfl]
  · rw [m_ui_o (by omega), m_ui_o (by omega), m_ui_o (by omega), m_ui_o (by omega), m_ui_o (by omega), m_ui_o (by omega), m_ui_o (by omega), m_ui_o (by omega), m_ui_o (by omega), m_ui_o (by omega), m_ui_o (by omega), m_ui_o (by omega), m_ui_o (by omega), m_ui_o (by omega), m_ui_o (by omega), m_ui_o (by omega), m_ui_o (by omega), m_ui_o (by omega), m_ui_o (by omega), m_ui_o (by omega), m_ui_o (by omega), if_neg e]
theorem na_145 {f : Nat → Nat → Int32} {h k : Nat} {x1 x2 x3 x4 x5 x6 x7 x8 x9 : Int32} : mnadd (nadd f h x1 x2 x3 x4 x5 x6 x7 x8 x9) h x1 x2 x3 x4 x5 x6 x7 x8 x9 145 k = if k = h then x6 else f 145 k := by
  unfold mnadd nadd nadd0
  by_cases e : k = h
  · subst e
    rw [m_ui_o (by omega), m_ui_o (by omega), m_ui_o (by omega), m_ui_o (by omega), m_ui_o (by omega), m_ui_o (by omega), m_ui_o (by omega), m_ui_o (by omega), m_ui_o (by omega), m_ui_o (by omega), m_ui_o (by omega), m_ui_o (by omega), m_ui_s, if_pos rfl]
  · rw [m_ui_o (by omega), m_ui_o (by omega), m_ui_o (by omega), m_ui_o (by omega), m_ui_o (by omega), m_ui_o (by omega), m_ui_o (by omega), m_ui_o (by omega), m_ui_o (by omega), m_ui_o (by omega), m_ui_o (by omega), m_ui_o (by omega), m_ui_o (by omega), m_ui_o (by omega), m_ui_o (by omega), m_ui_o (by omega), m_ui_o (by omega), m_ui_o (by omega), m_ui_o (by omega), m_ui_o (by omega), m_ui_o (by omega), if_neg e]
theorem na_146 {f : Nat → Nat → Int32} {h k : Nat} {x1 x2 x3 x4 x5 x6 x7 x8 x9 : Int32} : mnadd (nadd f h x1 x2 x3 x4 x5 x6 x7 x8 x9) h x1 x2 x3 x4 x5 x6 x7 x8 x9 146 k = if k = h then (vp_nar .boolean x7) else f 146 k := by
  unfold mnadd nadd nadd0
  by_cases e : k = h
  · subst e
    rw [m_ui_o (by omega), m_ui_o (by omega), m_ui_o (by omega), m_ui_o (by omega), m_ui_o (by omega), m_ui_o (by omega), m_ui_o (by omega), m_ui_o (by omega), m_ui_o (by omega), m_ui_o (by omega), m_ui_o (by omega), m_ui_s, if_pos rfl]
  · rw [m_ui_o (by omega), m_ui_o (by omega), m_ui_o (by omega), m_ui_o (by omega), m_ui_o (by omega), m_ui_o (by omega), m_ui_o (by omega), m_ui_o (by omega), m_ui_o (by omega), m_ui_o (by omega), m_ui_o (by omega), m_ui_o (by omega), m_ui_o (by omega), m_ui_o (by omega), m_ui_o (by omega), m_ui_o (by omega), m_ui_o (by omega), m_ui_o (by omega), m_ui_o (by omega), m_ui_o (by omega), m_ui_o (by omega), if_neg e]
theorem na_147 {f : Nat → Nat → Int32} {h k : Nat} {x1 x2 x3 x4 x5 x6 x7 x8 x9 : Int32} : mnadd (nadd f h x1 x2 x3 x4 x5 x6 x7 x8 x9) h x1 x2 x3 x4 x5 x6 x7 x8 x9 147 k = if k = h then x8 else f 147 k := by
  unfold mnadd nadd nadd0
  by_cases e : k = h
  · subst e
    rw [m_ui_o (by omega), m_ui_o (by omega), m_ui_o (by omega), m_ui_o (by omega), m_ui_o (by omega), m_ui_o (by omega), m_ui_o (by omega), m_ui_o (by omega), m_ui_o (by omega), m_ui_o (by omega), m_ui_o (by omega), m_ui_o (by omega), m_ui_o (by omega), m_ui_o (by omega), m_ui_o (by omega), m_ui_o (by omega), m_ui_o (by omega), m_ui_s, if_pos rfl]
  · rw [m_ui_o (by omega), m_ui_o (by omega), m_ui_o (by omega), m_ui_o (by omega), m_ui_o (by omega), m_ui_o (by omega), m_ui_o (by omega), m_ui_o (by omega), m_ui_o (by omega), m_ui_o (by omega), m_ui_o (by omega), m_ui_o (by omega), m_ui_o (by omega), m_ui_o (by omega), m_ui_o (by omega), m_ui_o (by omega), m_ui_o (by omega), m_ui_o (by omega), m_ui_o (by omega), m_ui_o (by omega), m_ui_o (by omega), if_neg e]
theorem na_148 {f : Nat → Nat → Int32} {h k : Nat} {x1 x2 x3 x4 x5 x6 x7 x8 x9 : Int32} : mnadd (nadd f h x1 x2 x3 x4 x5 x6 x7 x8 x9) h x1 x2 x3 x4 x5 x6 x7 x8 x9 148 k = if k = h then x9 else f 148 k := by
  unfold mnadd nadd nadd0
  by_cases e : k = h
  · subst e
    rw [m_ui_o (by omega), m_ui_o (by omega), m_ui_o (by omega), m_ui_o (by omega), m_ui_o (by omega), m_ui_o (by omega), m_ui_o (by omega), m_ui_o (by omega), m_ui_o (by omega), m_ui_o (by omega), m_ui_o (by omega), m_ui_o (by omega), m_ui_o (by omega), m_ui_o (by omega), m_ui_o (by omega), m_ui_o (by omega), m_ui_s, if_pos rfl]
  · rw [m_ui_o (by omega), m_ui_o (by omega), m_ui_o (by omega), m_ui_o (by omega), m_ui_o (by omega), m_ui_o (by omega), m_ui_o (by omega), m_ui_o (by omega), m_ui_o (by omega), m_ui_o (by omega), m_ui_o (by omega), m_ui_o (by omega), m_ui_o (by omega), m_ui_o (by omega), m_ui_o (by omega), m_ui_o (by omega), m_ui_o (by omega), m_ui_o (by omega), m_ui_o (by omega), m_ui_o (by omega), m_ui_o (by omega), if_neg e]
theorem nm_0 {f : Nat → Nat → Int32} {h k : Nat} {x1 x2 x3 x4 x5 x6 x7 x8 x9 : Int32} : mnadd (nadd f h x1 x2 x3 x4 x5 x6 x7 x8 x9) h x1 x2 x3 x4 x5 x6 x7 x8 x9 203 (9 * k) = if k = h then x1 else f 203 (9 * k) := by
  unfold mnadd nadd nadd0
  by_cases e : k = h
  · subst e
    rw [m_ui_o (by omega), m_ui_o (by omega), m_ui_o (by omega), m_ui_o (by omega), m_ui_o (by omega), m_ui_o (by omega), m_ui_o (by omega), m_ui_o (by omega), m_ui_o (by omega), m_ui_o (by omega), m_ui_s, if_pos rfl]
  · rw [m_ui_o (by omega), m_ui_o (by omega), m_ui_o (by omega), m_ui_o (by omega), m_ui_o (by omega), m_ui_o (by omega), m_ui_o (by omega), m_ui_o (by omega), m_ui_o (by omega), m_ui_o (by omega), m_ui_o (by omega), m_ui_o (by omega), m_ui_o (by omega), m_ui_o (by omega), m_ui_o (by omega), m_ui_o (by omega), m_ui_o (by omega), m_ui_o (by omega), m_ui_o (by omega), m_ui_o (by omega), m_ui_o (by omega), if_neg e]
theorem nm_1 {f : Nat → Nat → Int32} {h k : Nat} {x1 x2 x3 x4 x5 x6 x7 x8 x9 : Int32} : mnadd (nadd f h x1 x2 x3 x4 x5 x6 x7 x8 x9) h x1 x2 x3 x4 x5 x6 x7 x8 x9 203 (9 * k + 1) = if k = h then x2 else f 203 (9 * k + 1) := by
  unfold mnadd nadd nadd0
  by_cases e : k = h
  · subst e
    rw [m_ui_o (by omega), m_ui_o (by omega), m_ui_o (by omega), m_ui_o (by omega), m_ui_o (by omega), m_ui_o (by omega), m_ui_o (by omega), m_ui_o (by omega), m_ui_o (by omega), m_ui_s, if_pos rfl]
  · rw [m_ui_o (by omega), m_ui_o (by omega), m_ui_o (by omega), m_ui_o (by omega), m_ui_o (by omega), m_ui_o (by omega), m_ui_o (by omega), m_ui_o (by omega), m_ui_o (by omega), m_ui_o (by omega), m_ui_o (by omega), m_ui_o (by omega), m_ui_o (by omega), m_ui_o (by omega), m_ui_o (by omega), m_ui_o (by omega), m_ui_o (by omega), m_ui_o (by omega), m_ui_o (by omega), m_ui_o (by omega), m_ui_o (by omega), if_neg e]
theorem nm_2 {f : Nat → Nat → Int32} {h k : Nat} {x1 x2 x3 x4 x5 x6 x7 x8 x9 : Int32} : mnadd (nadd f h x1 x2 x3 x4 x5 x6 x7 x8 x9) h x1 x2 x3 x4 x5 x6 x7 x8 x9 203 (9 * k + 2) = if k = h then x3 else f 203 (9 * k + 2) := by
  unfold mnadd nadd nadd0
  by_cases e : k = h
  · subst e
    rw [m_ui_o (by omega), m_ui_o (by omega), m_ui_o (by omega), m_ui_o (by omega), m_ui_o (by omega), m_ui_o (by omega), m_ui_o (by omega), m_ui_o (by omega), m_ui_s, if_pos rfl]
  · rw [m_ui_o (by omega), m_ui_o (by omega), m_ui_o (by omega), m_ui_o (by omega), m_ui_o (by omega), m_ui_o (by omega), m_ui_o (by omega), m_ui_o (by omega), m_ui_o (by omega), m_ui_o (by omega), m_ui_o (by omega), m_ui_o (by omega), m_ui_o (by omega), m_ui_o (by omega), m_ui_o (by omega), m_ui_o (by omega), m_ui_o (by omega), m_ui_o (by omega), m_ui_o (by omega), m_ui_o (by omega), m_ui_o (by omega), if_neg e]
theorem nm_3 {f : Nat → Nat → Int32} {h k : Nat} {x1 x2 x3 x4 x5 x6 x7 x8 x9 : Int32} : mnadd (nadd f h x1 x2 x3 x4 x5 x6 x7 x8 x9) h x1 x2 x3 x4 x5 x6 x7 x8 x9 203 (9 * k + 3) = if k = h then x4 else f 203 (9 * k + 3) := by
  unfold mnadd nadd nadd0
  by_cases e : k = h
  · subst e
    rw [m_ui_o (by omega), m_ui_o (by omega), m_ui_o (by omega), m_ui_o (by omega), m_ui_o (by omega), m_ui_o (by omega), m_ui_o (by omega), m_ui_s, if_pos rfl]
  · rw [m_ui_o (by omega), m_ui_o (by omega), m_ui_o (by omega), m_ui_o (by omega), m_ui_o (by omega), m_ui_o (by omega), m_ui_o (by omega), m_ui_o (by omega), m_ui_o (by omega), m_ui_o (by omega), m_ui_o (by omega), m_ui_o (by omega), m_ui_o (by omega), m_ui_o (by omega), m_ui_o (by omega), m_ui_o (by omega), m_ui_o (by omega), m_ui_o (by omega), m_ui_o (by omega), m_ui_o (by omega), m_ui_o (by omega), if_neg e]
theorem nm_4 {f : Nat → Nat → Int32} {h k : Nat} {x1 x2 x3 x4 x5 x6 x7 x8 x9 : Int32} : mnadd (nadd f h x1 x2 x3 x4 x5 x6 x7 x8 x9) h x1 x2 x3 x4 x5 x6 x7 x8 x9 203 (9 * k + 4) = if k = h then x5 else f 203 (9 * k + 4) := by
  unfold mnadd nadd nadd0
  by_cases e : k = h
  · subst e
    rw [m_ui_o (by omega), m_ui_o (by omega), m_ui_o (by omega), m_ui_o (by omega), m_ui_o (by omega), m_ui_o (by omega), m_ui_s, if_pos rfl]
  · rw [m_ui_o (by omega), m_ui_o (by omega), m_ui_o (by omega), m_ui_o (by omega), m_ui_o (by omega), m_ui_o (by omega), m_ui_o (by omega), m_ui_o (by omega), m_ui_o (by omega), m_ui_o (by omega), m_ui_o (by omega), m_ui_o (by omega), m_ui_o (by omega), m_ui_o (by omega), m_ui_o (by omega), m_ui_o (by omega), m_ui_o (by omega), m_ui_o (by omega), m_ui_o (by omega), m_ui_o (by omega), m_ui_o (by omega), if_neg e]
theorem nm_5 {f : Nat → Nat → Int32} {h k : Nat} {x1 x2 x3 x4 x5 x6 x7 x8 x9 : Int32} : mnadd (nadd f h x1 x2 x3 x4 x5 x6 x7 x8 x9) h x1 x2 x3 x4 x5 x6 x7 x8 x9 203 (9 * k + 5) = if k = h then x6 else f 203 (9 * k + 5) := by
  unfold mnadd nadd nadd0
  by_cases e : k = h
  · subst e
    rw [m_ui_o (by omega), m_ui_o (by omega), m_ui_o (by omega), m_ui_o (by omega), m_ui_o (by omega), m_ui_s, if_pos rfl]
  · rw [m_ui_o (by omega), m_ui_o (by omega), m_ui_o (by omega), m_ui_o (by omega), m_ui_o (by omega), m_ui_o (by omega), m_ui_o (by omega), m_ui_o (by omega), m_ui_o (by omega), m_ui_o (by omega), m_ui_o (by omega), m_ui_o (by omega), m_ui_o (by omega), m_ui_o (by omega), m_ui_o (by omega), m_ui_o (by omega), m_ui_o (by omega), m_ui_o (by omega), m_ui_o (by omega), m_ui_o (by omega), m_ui_o (by omega), if_neg e]
theorem nm_6 {f : Nat → Nat → Int32} {h k : Nat} {x1 x2 x3 x4 x5 x6 x7 x8 x9 : Int32} : mnadd (nadd f h x1 x2 x3 x4 x5 x6 x7 x8 x9) h x1 x2 x3 x4 x5 x6 x7 x8 x9 203 (9 * k + 6) = if k = h then (fr x7) else f 203 (9 * k + 6) := by
  unfold mnadd nadd nadd0
  by_cases e : k = h
  · subst e
    rw [m_ui_o (by omega), m_ui_o (by omega), m_ui_o (by omega), m_ui_o (by omega), m_ui_s, if_pos rfl]
  · rw [m_ui_o (by omega), m_ui_o (by omega), m_ui_o (by omega), m_ui_o (by omega), m_ui_o (by omega), m_ui_o (by omega), m_ui_o (by omega), m_ui_o (by omega), m_ui_o (by omega), m_ui_o (by omega), m_ui_o (by omega), m_ui_o (by omega), m_ui_o (by omega), m_ui_o (by omega), m_ui_o (by omega), m_ui_o (by omega), m_ui_o (by omega), m_ui_o (by omega), m_ui_o (by omega), m_ui_o (by omega), m_ui_o (by omega), if_neg e]
theorem nm_7 {f : Nat → Nat → Int32} {h k : Nat} {x1 x2 x3 x4 x5 x6 x7 x8 x9 : Int32} : mnadd (nadd f h x1 x2 x3 x4 x5 x6 x7 x8 x9) h x1 x2 x3 x4 x5 x6 x7 x8 x9 203 (9 * k + 7) = if k = h then x8 else f 203 (9 * k + 7) := by
  unfold mnadd nadd nadd0
  by_cases e : k = h
  · subst e
    rw [m_ui_o (by omega), m_ui_o (by omega), m_ui_o (by omega), m_ui_s, if_pos rfl]
  · rw [m_ui_o (by omega), m_ui_o (by omega), m_ui_o (by omega), m_ui_o (by omega), m_ui_o (by omega), m_ui_o (by omega), m_ui_o (by omega), m_ui_o (by omega), m_ui_o (by omega), m_ui_o (by omega), m_ui_o (by omega), m_ui_o (by omega), m_ui_o (by omega), m_ui_o (by omega), m_ui_o (by omega), m_ui_o (by omega), m_ui_o (by omega), m_ui_o (by omega), m_ui_o (by omega), m_ui_o (by omega), m_ui_o (by omega), if_neg e]
theorem nm_8 {f : Nat → Nat → Int32} {h k : Nat} {x1 x2 x3 x4 x5 x6 x7 x8 x9 : Int32} : mnadd (nadd f h x1 x2 x3 x4 x5 x6 x7 x8 x9) h x1 x2 x3 x4 x5 x6 x7 x8 x9 203 (9 * k + 8) = if k = h then x9 else f 203 (9 * k + 8) := by
  unfold mnadd nadd nadd0
  by_cases e : k = h
  · subst e
    rw [m_ui_o (by omega), m_ui_o (by omega), m_ui_s, if_pos rfl]
  · rw [m_ui_o (by omega), m_ui_o (by omega), m_ui_o (by omega), m_ui_o (by omega), m_ui_o (by omega), m_ui_o (by omega), m_ui_o (by omega), m_ui_o (by omega), m_ui_o (by omega), m_ui_o (by omega), m_ui_o (by omega), m_ui_o (by omega), m_ui_o (by omega), m_ui_o (by omega), m_ui_o (by omega), m_ui_o (by omega), m_ui_o (by omega), m_ui_o (by omega), m_ui_o (by omega), m_ui_o (by omega), m_ui_o (by omega), if_neg e]
theorem XI_na {f : Nat → Nat → Int32} {h : Nat} {x1 x2 x3 x4 x5 x6 x7 x8 x9 : Int32} (hX : XI f) (hh : h < 50) : XI (mnadd (nadd f h x1 x2 x3 x4 x5 x6 x7 x8 x9) h x1 x2 x3 x4 x5 x6 x7 x8 x9) := by
  unfold mnadd nadd nadd0
  exact XI_ui (XI_ui (XI_ui (XI_ui (XI_ui (XI_ui (XI_ui (XI_ui (XI_ui (XI_ui (XI_ui (XI_ui (XI_ui (XI_ui (XI_ui (XI_ui (XI_ui (XI_ui (XI_ui (XI_ui (XI_ui hX True.intro) True.intro) True.intro) True.intro) True.intro) (show inr 0 50 _ from inr_n1 (m := 50) (by omega) rfl (by decide))) True.intro) True.intro) True.intro) True.intro) True.intro) True.intro) True.intro) True.intro) True.intro) True.intro) True.intro) True.intro) True.intro) (show inr 0 50 _ from inr_n (m := 50) (by omega) rfl (by decide))) True.intro
theorem fin_mention {h : Nat} {f f1 f2 : Nat → Nat → Int32} {x1 x2 x3 x4 x5 x6 x7 x8 x9 v1 v2 : Int32} (hX : XI f) (hM : RM h f) (h7 : x7 = 0 ∨ x7 = 1) (s1 : SX_mention h f f1 x1 x2 x3 x4 x5 x6 x7 x8 x9 v1) (s2 : SM_mention h f1 f2 x1 x2 x3 x4 x5 x6 x7 x8 x9 v2) : XI f2 ∧ (∃ h, RM h f2) ∧ v1 = v2 := by
  rcases s1 with ⟨q1, rfl, rfl⟩ | ⟨p1, ⟨e1, rfl, rfl⟩ | ⟨l1, rfl, rfl⟩⟩
  · rcases s2 with ⟨q2, rfl, rfl⟩ | ⟨p2, _⟩
    · exact ⟨hX, ⟨h, hM⟩, rfl⟩
    · exact absurd p2 q1
  · rcases s2 with ⟨q2, _⟩ | ⟨p2, ⟨e2, rfl, rfl⟩ | ⟨l2, _⟩⟩
    · exact absurd p1 q2
    · exact ⟨hX, ⟨h, hM⟩, rfl⟩
    · omega
  · rcases s2 with ⟨q2, _⟩ | ⟨p2, ⟨e2, _⟩ | ⟨l2, rfl, rfl⟩⟩
    · exact absurd p1 q2
    · omega
    · obtain ⟨a, b, e, d⟩ := hM
      refine ⟨XI_na hX l1, ⟨h + 1, by omega, ?_, ?_, fun k hk => ?_⟩, rfl⟩
      · unfold mnadd nadd nadd0
        rw [m_ui_o (by omega), m_ui_o (by omega), m_ui_o (by omega), m_ui_o (by omega), m_ui_o (by omega), m_ui_o (by omega), m_ui_o (by omega), m_ui_o (by omega), m_ui_o (by omega), m_ui_o (by omega), m_ui_o (by omega), m_ui_o (by omega), m_ui_o (by omega), m_ui_o (by omega), m_ui_o (by omega), m_ui_s]
        exact nI_1 h
      · unfold mnadd
        rw [m_ui_o (by omega), m_ui_s]
      · unfold RN
        rw [na_140, na_141, na_142, na_143, na_144, na_145, na_146, na_147, na_148, nm_0, nm_1, nm_2, nm_3, nm_4, nm_5, nm_6, nm_7, nm_8]
        by_cases q : k = h
        · simp only [if_pos q]
          rcases h7 with rfl | rfl
          · exact ⟨trivial, trivial, trivial, trivial, trivial, trivial, rfl, trivial, trivial, p1, Or.inl rfl⟩
          · exact ⟨trivial, trivial, trivial, trivial, trivial, trivial, rfl, trivial, trivial, p1, Or.inr rfl⟩
        · simp only [if_neg q]
          exact d k (by omega)
theorem XI_n1 {h : Nat} {f f1 : Nat → Nat → Int32} {x1 x2 x3 x4 x5 x6 x7 x8 x9 v : Int32} (hX : XI f) (s : SX_mention h f f1 x1 x2 x3 x4 x5 x6 x7 x8 x9 v) : XI f1 := by
  rcases s with ⟨_, _, rfl⟩ | ⟨_, ⟨_, _, rfl⟩ | ⟨hh, _, rfl⟩⟩
  · exact hX
  · exact hX
  · unfold nadd nadd0
    exact XI_ui (XI_ui (XI_ui (XI_ui (XI_ui (XI_ui (XI_ui (XI_ui (XI_ui (XI_ui hX True.intro) True.intro) True.intro) True.intro) True.intro) (show inr 0 50 _ from inr_n1 (m := 50) (by omega) rfl (by decide))) True.intro) True.intro) True.intro) True.intro
theorem XI_n2 {h : Nat} {f f1 : Nat → Nat → Int32} {x1 x2 x3 x4 x5 x6 x7 x8 x9 v : Int32} (hX : XI f) (s : SM_mention h f f1 x1 x2 x3 x4 x5 x6 x7 x8 x9 v) : XI f1 := by
  rcases s with ⟨_, _, rfl⟩ | ⟨_, ⟨_, _, rfl⟩ | ⟨hh, _, rfl⟩⟩
  · exact hX
  · exact hX
  · unfold mnadd
    exact XI_ui (XI_ui (XI_ui (XI_ui (XI_ui (XI_ui (XI_ui (XI_ui (XI_ui (XI_ui (XI_ui hX True.intro) True.intro) True.intro) True.intro) True.intro) True.intro) True.intro) True.intro) True.intro) (show inr 0 50 _ from inr_n (m := 50) (by omega) rfl (by decide))) True.intro
theorem sx_mention {d L : Nat} {f : Nat → Nat → Int32} {g : Nat → Nat → Int64} {x1 x2 x3 x4 x5 x6 x7 x8 x9 : Int32} {R : Option Value → mH → Prop} (hd : 6 ≤ d) (hX : XI f) (H : ∀ v f' g', XI f' → kp [6] f f' → R (some (.int v)) (shF L, f', g')) : Run mtab d 104 [.ref 5, .int x1, .int x2, .int x3, .int x4, .int x5, .int x6, .int x7, .int x8, .int x9] (shF L, f, g) R := by
  obtain ⟨h, hm, hb⟩ := inr_nat (n := 50) rfl (xi_139 hX 13)
  exact sf_mention (by omega) hb hm (fun v f1 s => H v f1 _ (XI_n1 hX s) (kx_mention s))
theorem sm_mention {d L : Nat} {f : Nat → Nat → Int32} {g : Nat → Nat → Int64} {x1 x2 x3 x4 x5 x6 x7 x8 x9 : Int32} {R : Option Value → mH → Prop} (hd : 6 ≤ d) (hX : XI f) (H : ∀ v f' g', XI f' → kp [10, 16] f f' → R (some (.int v)) (shF L, f', g')) : Run mtab d 190 [.ref 181, .int x1, .int x2, .int x3, .int x4, .int x5, .int x6, .int x7, .int x8, .int x9] (shF L, f, g) R := by
  obtain ⟨h, hm, hb⟩ := inr_nat (n := 50) rfl (xi_181_27 hX)
  exact smf_mention (by omega) hb hm (fun v f1 s => H v f1 _ (XI_n2 hX s) (km_mention s))
