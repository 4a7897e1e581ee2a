set_option maxRecDepth 100000 in
set_option maxHeartbeats 4000000 in
theorem sx_sol2_lp {d L n : Nat} {f0 : Nat → Nat → Int32}  {R : Option Value → mH → Prop} (hd : 3 ≤ d) (hm : n ≤ 8) (h0 : f0 150 7 = nI n) (H : ∀ v f' g', XI f' → fx 160 166 f0 f' → R (some (.long v)) (shF L, f', g'))  :
    ∀ (k i : Nat) (x : Int32) (lw : Int64) (s4 : Option Value) (f : Nat → Nat → Int32) (g : Nat → Nat → Int64), i + k = n → x = nI i → XI f → fx 160 166 f0 f → WPe pg_X3_solve none (Run mtab d) R (m_drop pg_X3_solve 27) [some (.ref 150), some (.long lw), none, some (.int x), s4] [] (shF L, f, g)
  | 0, i, x, lw, s4, f, g, he, hx, hX, hF => by
    have e : i = n := by omega
    subst hx
    have hc : f 150 7 = nI n := (hF 150 7 (by omega)).trans h0
    subst e
    refine at_X3_solve ?_
    conv => whnf
    try simp only [hc]
    refine ⟨fun c => ?_, fun c => absurd (nI_le (Nat.le_refl _) (by omega)) c⟩
    conv => whnf
    repeat' first
      | ((with_reducible refine ⟨vpi2 hv (i32_nlt.mpr (by assumption)) (by decide), ?_⟩) <;> conv => whnf)
      | ((with_reducible refine ⟨vpi2 hv (by assumption) (by decide), ?_⟩) <;> conv => whnf)
      | (simp only [hc])
      | ((with_reducible refine ⟨vp_in_nI (by omega) (by decide), ?_⟩) <;> conv => whnf)
      | (refine ⟨Or.inl rfl, ?_⟩ <;> conv => whnf)
      | (refine ⟨Or.inr rfl, ?_⟩ <;> conv => whnf)
      | (refine ⟨Or.inl True.intro, ?_⟩ <;> conv => whnf)
      | (refine ⟨Or.inr True.intro, ?_⟩ <;> conv => whnf)
      | (refine ⟨fun c => ?_, fun c => ?_⟩ <;> first | ((have c9 : (1 : Int32) = 0 := by with_reducible exact c); exact absurd c9 (by decide)) | exact absurd (rfl : (0 : Int32) = 0) (by with_reducible exact c) | exact absurd True.intro (by with_reducible exact c) | exact False.elim (by with_reducible exact c) | (conv => whnf))
      | (refine ⟨by unfold vp_in; decide, ?_⟩ <;> conv => whnf)
      | fail
    all_goals exact H _ _ _ (by repeat' first | (with_reducible assumption) | (with_reducible refine XI_ui ?_ ?_) | (with_reducible refine XI_fil ?_ (fun _ => ?_)) | (with_reducible refine XI_cpy ?_ (fun _ _ => ?_)) | exact True.intro | ((show inr _ _ _); first | (with_reducible assumption) | (unfold inr; decide)) | fail) (by repeat' first | (with_reducible exact fx_refl _ _ _) | (with_reducible assumption) | (with_reducible refine fx_ui ?_ ?_ ?_) | (with_reducible refine fx_fil ?_ ?_ ?_) | (with_reducible refine fx_cpy ?_ ?_ ?_) | omega | decide | fail)
  | k + 1, i, x, lw, s4, f, g, he, hx, hX, hF => by
    subst hx
    have hc : f 150 7 = nI n := (hF 150 7 (by omega)).trans h0
    have hcl : (nI i).toNatClampNeg = i := nI_clamp (by omega)
    have hrow := row_151 i (by omega)
    have hshp := shp_151 L i (by omega)
    refine at_X3_solve ?_
    conv => whnf
    try simp only [hc]
    refine ⟨fun c => absurd c (nI_ge (b := n) (by omega) (by omega)), fun c => ?_⟩
    conv => whnf
    repeat' first
      | exact sx_sol2_lp hd hm h0 H k (i + 1) _ _ _ _ _ (by omega) (nI_1 i) (by repeat' first | (with_reducible assumption) | (with_reducible refine XI_ui ?_ ?_) | (with_reducible refine XI_fil ?_ (fun _ => ?_)) | (with_reducible refine XI_cpy ?_ (fun _ _ => ?_)) | exact True.intro | ((show inr _ _ _); first | (with_reducible assumption) | (unfold inr; decide)) | fail) (by repeat' first | (with_reducible exact fx_refl _ _ _) | (with_reducible assumption) | (with_reducible refine fx_ui ?_ ?_ ?_) | (with_reducible refine fx_fil ?_ ?_ ?_) | (with_reducible refine fx_cpy ?_ ?_ ?_) | omega | decide | fail)
      | ((with_reducible refine ⟨vpi2 hv (i32_nlt.mpr (by assumption)) (by decide), ?_⟩) <;> conv => whnf)
      | ((with_reducible refine ⟨vpi2 hv (by assumption) (by decide), ?_⟩) <;> conv => whnf)
      | (simp only [hc])
      | ((with_reducible refine ⟨vp_in_nI (by omega) (by decide), ?_⟩) <;> conv => whnf)
      | (refine ⟨Or.inl rfl, ?_⟩ <;> conv => whnf)
      | (refine ⟨Or.inr rfl, ?_⟩ <;> conv => whnf)
      | (refine ⟨Or.inl True.intro, ?_⟩ <;> conv => whnf)
      | (refine ⟨Or.inr True.intro, ?_⟩ <;> conv => whnf)
      | (refine ⟨fun c => ?_, fun c => ?_⟩ <;> first | ((have c9 : (1 : Int32) = 0 := by with_reducible exact c); exact absurd c9 (by decide)) | exact absurd (rfl : (0 : Int32) = 0) (by with_reducible exact c) | exact absurd True.intro (by with_reducible exact c) | exact False.elim (by with_reducible exact c) | (conv => whnf))
      | (refine sx_columnOf (by omega) hX (fun v hv _ f1 g1 h1 k1 => ?_) <;> (have k1' := fx_trans hF k1) <;> conv => whnf)
      | ((refine ⟨⟨vp_in_nI (by omega) (by decide), by rw [hcl]; show i < 8; omega, by rw [hcl, hrow]; rfl⟩, ?_⟩) <;> simp only [hcl, hrow, Option.getD_some] <;> conv => whnf)
      | ((simp only [m_act_eq, mi, mj, m_act0, m_arr, hshp]) <;> conv => whnf)
      | (refine ⟨by unfold vp_in; decide, ?_⟩ <;> conv => whnf)
      | fail
    all_goals exact H _ _ _ (by repeat' first | (with_reducible assumption) | (with_reducible refine XI_ui ?_ ?_) | (with_reducible refine XI_fil ?_ (fun _ => ?_)) | (with_reducible refine XI_cpy ?_ (fun _ _ => ?_)) | exact True.intro | ((show inr _ _ _); first | (with_reducible assumption) | (unfold inr; decide)) | fail) (by repeat' first | (with_reducible exact fx_refl _ _ _) | (with_reducible assumption) | (with_reducible refine fx_ui ?_ ?_ ?_) | (with_reducible refine fx_fil ?_ ?_ ?_) | (with_reducible refine fx_cpy ?_ ?_ ?_) | omega | decide | fail)
set_option maxRecDepth 100000 in
set_option maxHeartbeats 4000000 in
theorem sx_sol1_lp {d L n : Nat} {f0 : Nat → Nat → Int32}  {R : Option Value → mH → Prop} (hd : 5 ≤ d) (hm : n ≤ 8) (h0 : f0 150 7 = nI n) (H : ∀ v f' g', XI f' → fx 160 166 f0 f' → R (some (.long v)) (shF L, f', g'))  :
    ∀ (k i : Nat) (x : Int32) (s2 : Option Value) (s3 : Option Value) (s4 : Option Value) (f : Nat → Nat → Int32) (g : Nat → Nat → Int64), i + k = n + 1 → x = nI i → XI f → fx 160 166 f0 f → 1 ≤ i → WPe pg_X3_solve none (Run mtab d) R (m_drop pg_X3_solve 14) [some (.ref 150), some (.int x), s2, s3, s4] [] (shF L, f, g)
  | 0, i, x, s2, s3, s4, f, g, he, hx, hX, hF, h1i => by
    have e : i = n + 1 := by omega
    subst hx
    have hc : f 150 7 = nI n := (hF 150 7 (by omega)).trans h0
    subst e
    refine at_X3_solve ?_
    conv => whnf
    try simp only [hc]
    refine ⟨fun c => ?_, fun c => absurd (nI_lt (a := n) (b := n + 1) (by omega) (by omega)) c⟩
    conv => whnf
    repeat' first
      | exact sx_sol2_lp (by omega) hm h0 H n 0 _ _ _ _ _ (by omega) rfl hX hF
      | (simp only [hc])
      | ((with_reducible refine ⟨vp_in_nI (by omega) (by decide), ?_⟩) <;> conv => whnf)
      | (refine ⟨Or.inl rfl, ?_⟩ <;> conv => whnf)
      | (refine ⟨Or.inr rfl, ?_⟩ <;> conv => whnf)
      | (refine ⟨Or.inl True.intro, ?_⟩ <;> conv => whnf)
      | (refine ⟨Or.inr True.intro, ?_⟩ <;> conv => whnf)
      | (refine ⟨fun c => ?_, fun c => ?_⟩ <;> first | ((have c9 : (1 : Int32) = 0 := by with_reducible exact c); exact absurd c9 (by decide)) | exact absurd (rfl : (0 : Int32) = 0) (by with_reducible exact c) | exact absurd True.intro (by with_reducible exact c) | exact False.elim (by with_reducible exact c) | (conv => whnf))
      | (refine sx_seat (by omega) hX (inr_n (m := 8) (by omega) rfl (by decide)) (fun f1 g1 h1 k1 => ?_) <;> (have k1' := fx_trans hF k1) <;> conv => whnf)
      | (refine ⟨by unfold vp_in; decide, ?_⟩ <;> conv => whnf)
      | fail
    all_goals exact H _ _ _ (by repeat' first | (with_reducible assumption) | (with_reducible refine XI_ui ?_ ?_) | (with_reducible refine XI_fil ?_ (fun _ => ?_)) | (with_reducible refine XI_cpy ?_ (fun _ _ => ?_)) | exact True.intro | ((show inr _ _ _); first | (with_reducible assumption) | (unfold inr; decide)) | fail) (by repeat' first | (with_reducible exact fx_refl _ _ _) | (with_reducible assumption) | (with_reducible refine fx_ui ?_ ?_ ?_) | (with_reducible refine fx_fil ?_ ?_ ?_) | (with_reducible refine fx_cpy ?_ ?_ ?_) | omega | decide | fail)
  | k + 1, i, x, s2, s3, s4, f, g, he, hx, hX, hF, h1i => by
    subst hx
    have hc : f 150 7 = nI n := (hF 150 7 (by omega)).trans h0
    refine at_X3_solve ?_
    conv => whnf
    try simp only [hc]
    refine ⟨fun c => absurd c (nI_nlt (a := n) (b := i) (by omega) (by omega)), fun c => ?_⟩
    conv => whnf
    repeat' first
      | exact sx_sol1_lp hd hm h0 H k (i + 1) _ _ _ _ _ _ (by omega) (nI_1 i) (by repeat' first | (with_reducible assumption) | (with_reducible refine XI_ui ?_ ?_) | (with_reducible refine XI_fil ?_ (fun _ => ?_)) | (with_reducible refine XI_cpy ?_ (fun _ _ => ?_)) | exact True.intro | ((show inr _ _ _); first | (with_reducible assumption) | (unfold inr; decide)) | fail) (by repeat' first | (with_reducible exact fx_refl _ _ _) | (with_reducible assumption) | (with_reducible refine fx_ui ?_ ?_ ?_) | (with_reducible refine fx_fil ?_ ?_ ?_) | (with_reducible refine fx_cpy ?_ ?_ ?_) | omega | decide | fail) (by omega)
      | (simp only [hc])
      | ((with_reducible refine ⟨vp_in_nI (by omega) (by decide), ?_⟩) <;> conv => whnf)
      | (refine ⟨Or.inl rfl, ?_⟩ <;> conv => whnf)
      | (refine ⟨Or.inr rfl, ?_⟩ <;> conv => whnf)
      | (refine ⟨Or.inl True.intro, ?_⟩ <;> conv => whnf)
      | (refine ⟨Or.inr True.intro, ?_⟩ <;> conv => whnf)
      | (refine ⟨fun c => ?_, fun c => ?_⟩ <;> first | ((have c9 : (1 : Int32) = 0 := by with_reducible exact c); exact absurd c9 (by decide)) | exact absurd (rfl : (0 : Int32) = 0) (by with_reducible exact c) | exact absurd True.intro (by with_reducible exact c) | exact False.elim (by with_reducible exact c) | (conv => whnf))
      | (refine sx_seat (by omega) hX (inr_n (m := 8) (by omega) rfl (by decide)) (fun f1 g1 h1 k1 => ?_) <;> (have k1' := fx_trans hF k1) <;> conv => whnf)
      | (refine ⟨by unfold vp_in; decide, ?_⟩ <;> conv => whnf)
      | fail
    all_goals exact H _ _ _ (by repeat' first | (with_reducible assumption) | (with_reducible refine XI_ui ?_ ?_) | (with_reducible refine XI_fil ?_ (fun _ => ?_)) | (with_reducible refine XI_cpy ?_ (fun _ _ => ?_)) | exact True.intro | ((show inr _ _ _); first | (with_reducible assumption) | (unfold inr; decide)) | fail) (by repeat' first | (with_reducible exact fx_refl _ _ _) | (with_reducible assumption) | (with_reducible refine fx_ui ?_ ?_ ?_) | (with_reducible refine fx_fil ?_ ?_ ?_) | (with_reducible refine fx_cpy ?_ ?_ ?_) | omega | decide | fail)
set_option maxRecDepth 100000 in
set_option maxHeartbeats 4000000 in
theorem sx_solve {d L : Nat} {f : Nat → Nat → Int32} {g : Nat → Nat → Int64}  {R : Option Value → mH → Prop} (hd : 6 ≤ d) (hX : XI f) (H : ∀ v f' g', XI f' → fx 160 166 f f' → R (some (.long v)) (shF L, f', g')) : Run mtab d 28 [.ref 150] (shF L, f, g) R := by
  obtain ⟨d, rfl⟩ : ∃ e, d = e + 1 := ⟨d - 1, by omega⟩
  refine go_X3_solve rfl ?_
  conv => whnf
  obtain ⟨n, hm, hc⟩ := inr_nat (n := 8) rfl (xi_150_7 hX)
  refine ct_fillL (n := 9) (by omega) rfl (by decide) (fun g1 => ?_)
  conv => whnf
  refine ct_fillL (n := 49) (by omega) rfl (by decide) (fun g2 => ?_)
  conv => whnf
  refine ct_fill (n := 49) (by omega) rfl (by decide) ?_
  conv => whnf
  exact sx_sol1_lp (by omega) hm hc H n 1 _ _ _ _ _ _ (by omega) rfl (by repeat' first | (with_reducible assumption) | (with_reducible refine XI_ui ?_ ?_) | (with_reducible refine XI_fil ?_ (fun _ => ?_)) | (with_reducible refine XI_cpy ?_ (fun _ _ => ?_)) | exact True.intro | ((show inr _ _ _); first | (with_reducible assumption) | (unfold inr; decide)) | fail) (by repeat' first | (with_reducible exact fx_refl _ _ _) | (with_reducible assumption) | (with_reducible refine fx_ui ?_ ?_ ?_) | (with_reducible refine fx_fil ?_ ?_ ?_) | (with_reducible refine fx_cpy ?_ ?_ ?_) | omega | decide | fail) (by omega)
