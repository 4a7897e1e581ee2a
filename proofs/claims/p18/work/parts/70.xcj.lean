set_option maxRecDepth 100000 in
set_option maxHeartbeats 4000000 in
theorem sx_cjI_lp {d L n : Nat} {f0 : Nat → Nat → Int32} {p : Nat} {b : Int32} {R : Option Value → mH → Prop} (hd : 7 ≤ d) (hm : n ≤ 8) (HO : ∀ (x' : Int32) (a' : Int32) (s : Option Value) (f' : Nat → Nat → Int32) (g' : Nat → Nat → Int64), x' = nI (p + 1) → XI f' → fx 149 168 f0 f' → WPe pg_X2_countJoined none (Run mtab d) R (m_drop pg_X2_countJoined 4) [some (.ref 149), some (.int b), some (.int a'), some (.int x'), s] [] (shF L, f', g')) (H : ∀ v f' g', XI f' → fx 149 168 f0 f' → R (some (.int v)) (shF L, f', g'))  :
    ∀ (k i : Nat) (x : Int32) (a : Int32) (f : Nat → Nat → Int32) (g : Nat → Nat → Int64), i + k = n → x = nI i → XI f → fx 149 168 f0 f → f 150 7 = nI n → WPe pg_X2_countJoined none (Run mtab d) R (m_drop pg_X2_countJoined 12) [some (.ref 149), some (.int b), some (.int a), some (.int (nI p)), some (.int x)] [] (shF L, f, g)
  | 0, i, x, a, f, g, he, hx, hX, hF, hc => by
    have e : i = n := by omega
    subst hx
    subst e
    refine at_X2_countJoined ?_
    conv => whnf
    try simp only [hc]
    refine ⟨fun c => ?_, fun c => absurd (nI_le (Nat.le_refl _) (by omega)) c⟩
    conv => whnf
    repeat' first
      | exact HO _ _ _ _ _ (nI_1 p) hX hF
      | (simp only [hc])
      | ((with_reducible refine ⟨vp_in_nI (by omega) (by decide), ?_⟩) <;> conv => whnf)
      | (refine ⟨Or.inl rfl, ?_⟩ <;> conv => whnf)
      | (refine ⟨Or.inr rfl, ?_⟩ <;> conv => whnf)
      | (refine ⟨Or.inl True.intro, ?_⟩ <;> conv => whnf)
      | (refine ⟨Or.inr True.intro, ?_⟩ <;> conv => whnf)
      | (refine ⟨fun c => ?_, fun c => ?_⟩ <;> first | ((have c9 : (1 : Int32) = 0 := by with_reducible exact c); exact absurd c9 (by decide)) | exact absurd (rfl : (0 : Int32) = 0) (by with_reducible exact c) | exact absurd True.intro (by with_reducible exact c) | exact False.elim (by with_reducible exact c) | (conv => whnf))
      | (refine ⟨by unfold vp_in; decide, ?_⟩ <;> conv => whnf)
      | fail
    all_goals exact H _ _ _ hX hF
  | k + 1, i, x, a, f, g, he, hx, hX, hF, hc => by
    subst hx
    refine at_X2_countJoined ?_
    conv => whnf
    try simp only [hc]
    refine ⟨fun c => absurd c (nI_ge (b := n) (by omega) (by omega)), fun c => ?_⟩
    conv => whnf
    repeat' first
      | exact sx_cjI_lp hd hm HO H k (i + 1) _ _ _ _ (by omega) (nI_1 i) (by repeat' first | (with_reducible assumption) | (with_reducible refine XI_ui ?_ ?_) | (with_reducible refine XI_fil ?_ (fun _ => ?_)) | (with_reducible refine XI_cpy ?_ (fun _ _ => ?_)) | exact True.intro | ((show inr _ _ _); first | (with_reducible assumption) | (unfold inr; decide)) | fail) (by repeat' first | (with_reducible exact fx_refl _ _ _) | (with_reducible assumption) | (with_reducible refine fx_ui ?_ ?_ ?_) | (with_reducible refine fx_fil ?_ ?_ ?_) | (with_reducible refine fx_cpy ?_ ?_ ?_) | (refine fx_trans ?_ (fx_wide k1 (by omega) (by omega))) | omega | decide | fail) (by first | exact hc1 | exact hc)
      | (simp only [hc])
      | ((with_reducible refine ⟨vp_in_nI (by omega) (by decide), ?_⟩) <;> conv => whnf)
      | (refine ⟨Or.inl rfl, ?_⟩ <;> conv => whnf)
      | (refine ⟨Or.inr rfl, ?_⟩ <;> conv => whnf)
      | (refine ⟨Or.inl True.intro, ?_⟩ <;> conv => whnf)
      | (refine ⟨Or.inr True.intro, ?_⟩ <;> conv => whnf)
      | (refine ⟨fun c => ?_, fun c => ?_⟩ <;> first | ((have c9 : (1 : Int32) = 0 := by with_reducible exact c); exact absurd c9 (by decide)) | exact absurd (rfl : (0 : Int32) = 0) (by with_reducible exact c) | exact absurd True.intro (by with_reducible exact c) | exact False.elim (by with_reducible exact c) | (conv => whnf))
      | (refine sx_isSure (by omega) hX (fun v f1 g1 hv1 h1 k1 => ?_) <;> (have hc1 := (k1 150 7 (by omega)).trans hc) <;> conv => whnf)
      | (refine ⟨by unfold vp_in; decide, ?_⟩ <;> conv => whnf)
      | fail
    all_goals exact H _ _ _ hX hF
set_option maxRecDepth 100000 in
set_option maxHeartbeats 4000000 in
theorem sx_cj_lp {d L : Nat} {f0 : Nat → Nat → Int32} {b : Int32} {R : Option Value → mH → Prop} (hd : 8 ≤ d) (H : ∀ v f' g', XI f' → fx 149 168 f0 f' → R (some (.int v)) (shF L, f', g'))  :
    ∀ (k i : Nat) (x : Int32) (a : Int32) (s : Option Value) (f : Nat → Nat → Int32) (g : Nat → Nat → Int64), i + k = 16 → x = nI i → XI f → fx 149 168 f0 f → WPe pg_X2_countJoined none (Run mtab d) R (m_drop pg_X2_countJoined 4) [some (.ref 149), some (.int b), some (.int a), some (.int x), s] [] (shF L, f, g)
  | 0, i, x, a, s, f, g, he, hx, hX, hF => by
    have e : i = 16 := by omega
    subst hx
    subst e
    refine at_X2_countJoined ?_
    conv => whnf
    refine ⟨fun c => ?_, fun c => absurd (by decide) c⟩
    conv => whnf
    repeat' first
      | ((with_reducible refine ⟨vp_in_nI (by omega) (by decide), ?_⟩) <;> conv => whnf)
      | (refine ⟨Or.inl rfl, ?_⟩ <;> conv => whnf)
      | (refine ⟨Or.inr rfl, ?_⟩ <;> conv => whnf)
      | (refine ⟨Or.inl True.intro, ?_⟩ <;> conv => whnf)
      | (refine ⟨Or.inr True.intro, ?_⟩ <;> conv => whnf)
      | (refine ⟨fun c => ?_, fun c => ?_⟩ <;> first | ((have c9 : (1 : Int32) = 0 := by with_reducible exact c); exact absurd c9 (by decide)) | exact absurd (rfl : (0 : Int32) = 0) (by with_reducible exact c) | exact absurd True.intro (by with_reducible exact c) | exact False.elim (by with_reducible exact c) | (conv => whnf))
      | (refine ⟨by unfold vp_in; decide, ?_⟩ <;> conv => whnf)
      | fail
    all_goals exact H _ _ _ hX hF
  | k + 1, i, x, a, s, f, g, he, hx, hX, hF => by
    subst hx
    refine at_X2_countJoined ?_
    conv => whnf
    refine ⟨fun c => absurd c (nI_ge (b := 16) (by omega) (by omega)), fun c => ?_⟩
    conv => whnf
    repeat' first
      | exact sx_cj_lp hd H k (i + 1) _ _ _ _ _ (by omega) (nI_1 i) (by repeat' first | (with_reducible assumption) | (with_reducible refine XI_ui ?_ ?_) | (with_reducible refine XI_fil ?_ (fun _ => ?_)) | (with_reducible refine XI_cpy ?_ (fun _ _ => ?_)) | exact True.intro | ((show inr _ _ _); first | (with_reducible assumption) | (unfold inr; decide)) | fail) (by repeat' first | (with_reducible exact fx_refl _ _ _) | (with_reducible assumption) | (with_reducible refine fx_ui ?_ ?_ ?_) | (with_reducible refine fx_fil ?_ ?_ ?_) | (with_reducible refine fx_cpy ?_ ?_ ?_) | omega | decide | fail)
      | (obtain ⟨rn, hrm, hrb⟩ := inr_nat (n := 8) rfl (xi_150_7 h1); exact sx_cjI_lp (p := i) (by omega) hrm (fun x' a' s f' g' hx' hX' hF' => sx_cj_lp hd H k (i + 1) x' a' s f' g' (by omega) hx' hX' hF') H rn 0 _ _ _ _ (by omega) rfl h1 k1' hrb)
      | ((with_reducible refine ⟨vp_in_nI (by omega) (by decide), ?_⟩) <;> conv => whnf)
      | (refine ⟨Or.inl rfl, ?_⟩ <;> conv => whnf)
      | (refine ⟨Or.inr rfl, ?_⟩ <;> conv => whnf)
      | (refine ⟨Or.inl True.intro, ?_⟩ <;> conv => whnf)
      | (refine ⟨Or.inr True.intro, ?_⟩ <;> conv => whnf)
      | (refine ⟨fun c => ?_, fun c => ?_⟩ <;> first | ((have c9 : (1 : Int32) = 0 := by with_reducible exact c); exact absurd c9 (by decide)) | exact absurd (rfl : (0 : Int32) = 0) (by with_reducible exact c) | exact absurd True.intro (by with_reducible exact c) | exact False.elim (by with_reducible exact c) | (conv => whnf))
      | (refine sx_join (by omega) hX (fun f1 g1 h1 k1 => ?_) <;> (have k1' := fx_trans hF k1) <;> conv => whnf)
      | (refine ⟨by unfold vp_in; decide, ?_⟩ <;> conv => whnf)
      | fail
    all_goals exact H _ _ _ hX hF
set_option maxRecDepth 100000 in
set_option maxHeartbeats 4000000 in
theorem sx_countJoined {d L : Nat} {f : Nat → Nat → Int32} {g : Nat → Nat → Int64} {b : Int32} {R : Option Value → mH → Prop} (hd : 9 ≤ d) (hX : XI f) (H : ∀ v f' g', XI f' → fx 149 168 f f' → R (some (.int v)) (shF L, f', g')) : Run mtab d 25 [.ref 149, .int b] (shF L, f, g) R := by
  obtain ⟨d, rfl⟩ : ∃ e, d = e + 1 := ⟨d - 1, by omega⟩
  refine go_X2_countJoined rfl ?_
  conv => whnf
  exact sx_cj_lp (by omega) H 16 0 _ _ _ _ _ (by omega) rfl hX (fx_refl _ _ _)
set_option maxRecDepth 100000 in
set_option maxHeartbeats 4000000 in
theorem sx_swI_lp {d L n : Nat} {f0 : Nat → Nat → Int32} {p : Nat} {b : Int32} {R : Option Value → mH → Prop} (hd : 7 ≤ d) (hm : n ≤ 8) (HO : ∀ (x' : Int32) (a' : Int64) (s : Option Value) (f' : Nat → Nat → Int32) (g' : Nat → Nat → Int64), x' = nI (p + 1) → XI f' → fx 149 168 f0 f' → WPe pg_X2_sureWorks none (Run mtab d) R (m_drop pg_X2_sureWorks 4) [some (.ref 149), some (.int b), some (.long a'), none, some (.int x'), s] [] (shF L, f', g')) (H : ∀ v f' g', XI f' → fx 149 168 f0 f' → R (some (.long v)) (shF L, f', g'))  :
    ∀ (k i : Nat) (x : Int32) (a : Int64) (f : Nat → Nat → Int32) (g : Nat → Nat → Int64), i + k = n → x = nI i → XI f → fx 149 168 f0 f → f 150 7 = nI n → WPe pg_X2_sureWorks none (Run mtab d) R (m_drop pg_X2_sureWorks 12) [some (.ref 149), some (.int b), some (.long a), none, some (.int (nI p)), some (.int x)] [] (shF L, f, g)
  | 0, i, x, a, f, g, he, hx, hX, hF, hc => by
    have e : i = n := by omega
    subst hx
    subst e
    refine at_X2_sureWorks ?_
    conv => whnf
    try simp only [hc]
    refine ⟨fun c => ?_, fun c => absurd (nI_le (Nat.le_refl _) (by omega)) c⟩
    conv => whnf
    repeat' first
      | exact HO _ _ _ _ _ (nI_1 p) hX hF
      | (simp only [hc])
      | ((with_reducible refine ⟨vp_in_nI (by omega) (by decide), ?_⟩) <;> conv => whnf)
      | (refine ⟨Or.inl rfl, ?_⟩ <;> conv => whnf)
      | (refine ⟨Or.inr rfl, ?_⟩ <;> conv => whnf)
      | (refine ⟨Or.inl True.intro, ?_⟩ <;> conv => whnf)
      | (refine ⟨Or.inr True.intro, ?_⟩ <;> conv => whnf)
      | (refine ⟨fun c => ?_, fun c => ?_⟩ <;> first | ((have c9 : (1 : Int32) = 0 := by with_reducible exact c); exact absurd c9 (by decide)) | exact absurd (rfl : (0 : Int32) = 0) (by with_reducible exact c) | exact absurd True.intro (by with_reducible exact c) | exact False.elim (by with_reducible exact c) | (conv => whnf))
      | (refine ⟨by unfold vp_in; decide, ?_⟩ <;> conv => whnf)
      | fail
    all_goals exact H _ _ _ hX hF
  | k + 1, i, x, a, f, g, he, hx, hX, hF, hc => by
    subst hx
    refine at_X2_sureWorks ?_
    conv => whnf
    try simp only [hc]
    refine ⟨fun c => absurd c (nI_ge (b := n) (by omega) (by omega)), fun c => ?_⟩
    conv => whnf
    repeat' first
      | exact sx_swI_lp hd hm HO H k (i + 1) _ _ _ _ (by omega) (nI_1 i) (by repeat' first | (with_reducible assumption) | (with_reducible refine XI_ui ?_ ?_) | (with_reducible refine XI_fil ?_ (fun _ => ?_)) | (with_reducible refine XI_cpy ?_ (fun _ _ => ?_)) | exact True.intro | ((show inr _ _ _); first | (with_reducible assumption) | (unfold inr; decide)) | fail) (by repeat' first | (with_reducible exact fx_refl _ _ _) | (with_reducible assumption) | (with_reducible refine fx_ui ?_ ?_ ?_) | (with_reducible refine fx_fil ?_ ?_ ?_) | (with_reducible refine fx_cpy ?_ ?_ ?_) | (refine fx_trans ?_ (fx_wide k1 (by omega) (by omega))) | omega | decide | fail) (by first | exact hc1 | exact hc)
      | ((with_reducible refine ⟨vx_166 hX _, ?_⟩) <;> conv => whnf)
      | (simp only [hc])
      | ((with_reducible refine ⟨vp_in_nI (by omega) (by decide), ?_⟩) <;> conv => whnf)
      | (refine ⟨Or.inl rfl, ?_⟩ <;> conv => whnf)
      | (refine ⟨Or.inr rfl, ?_⟩ <;> conv => whnf)
      | (refine ⟨Or.inl True.intro, ?_⟩ <;> conv => whnf)
      | (refine ⟨Or.inr True.intro, ?_⟩ <;> conv => whnf)
      | (refine ⟨fun c => ?_, fun c => ?_⟩ <;> first | ((have c9 : (1 : Int32) = 0 := by with_reducible exact c); exact absurd c9 (by decide)) | exact absurd (rfl : (0 : Int32) = 0) (by with_reducible exact c) | exact absurd True.intro (by with_reducible exact c) | exact False.elim (by with_reducible exact c) | (conv => whnf))
      | (refine sx_isSure (by omega) hX (fun v f1 g1 hv1 h1 k1 => ?_) <;> (have hc1 := (k1 150 7 (by omega)).trans hc) <;> conv => whnf)
      | (refine ⟨by unfold vp_in; decide, ?_⟩ <;> conv => whnf)
      | fail
    all_goals exact H _ _ _ hX hF
set_option maxRecDepth 100000 in
set_option maxHeartbeats 4000000 in
theorem sx_sw_lp {d L : Nat} {f0 : Nat → Nat → Int32} {b : Int32} {R : Option Value → mH → Prop} (hd : 8 ≤ d) (H : ∀ v f' g', XI f' → fx 149 168 f0 f' → R (some (.long v)) (shF L, f', g'))  :
    ∀ (k i : Nat) (x : Int32) (a : Int64) (s : Option Value) (f : Nat → Nat → Int32) (g : Nat → Nat → Int64), i + k = 16 → x = nI i → XI f → fx 149 168 f0 f → WPe pg_X2_sureWorks none (Run mtab d) R (m_drop pg_X2_sureWorks 4) [some (.ref 149), some (.int b), some (.long a), none, some (.int x), s] [] (shF L, f, g)
  | 0, i, x, a, s, f, g, he, hx, hX, hF => by
    have e : i = 16 := by omega
    subst hx
    subst e
    refine at_X2_sureWorks ?_
    conv => whnf
    refine ⟨fun c => ?_, fun c => absurd (by decide) c⟩
    conv => whnf
    repeat' first
      | ((with_reducible refine ⟨vp_in_nI (by omega) (by decide), ?_⟩) <;> conv => whnf)
      | (refine ⟨Or.inl rfl, ?_⟩ <;> conv => whnf)
      | (refine ⟨Or.inr rfl, ?_⟩ <;> conv => whnf)
      | (refine ⟨Or.inl True.intro, ?_⟩ <;> conv => whnf)
      | (refine ⟨Or.inr True.intro, ?_⟩ <;> conv => whnf)
      | (refine ⟨fun c => ?_, fun c => ?_⟩ <;> first | ((have c9 : (1 : Int32) = 0 := by with_reducible exact c); exact absurd c9 (by decide)) | exact absurd (rfl : (0 : Int32) = 0) (by with_reducible exact c) | exact absurd True.intro (by with_reducible exact c) | exact False.elim (by with_reducible exact c) | (conv => whnf))
      | (refine ⟨by unfold vp_in; decide, ?_⟩ <;> conv => whnf)
      | fail
    all_goals exact H _ _ _ hX hF
  | k + 1, i, x, a, s, f, g, he, hx, hX, hF => by
    subst hx
    refine at_X2_sureWorks ?_
    conv => whnf
    refine ⟨fun c => absurd c (nI_ge (b := 16) (by omega) (by omega)), fun c => ?_⟩
    conv => whnf
    repeat' first
      | exact sx_sw_lp hd H k (i + 1) _ _ _ _ _ (by omega) (nI_1 i) (by repeat' first | (with_reducible assumption) | (with_reducible refine XI_ui ?_ ?_) | (with_reducible refine XI_fil ?_ (fun _ => ?_)) | (with_reducible refine XI_cpy ?_ (fun _ _ => ?_)) | exact True.intro | ((show inr _ _ _); first | (with_reducible assumption) | (unfold inr; decide)) | fail) (by repeat' first | (with_reducible exact fx_refl _ _ _) | (with_reducible assumption) | (with_reducible refine fx_ui ?_ ?_ ?_) | (with_reducible refine fx_fil ?_ ?_ ?_) | (with_reducible refine fx_cpy ?_ ?_ ?_) | omega | decide | fail)
      | (obtain ⟨rn, hrm, hrb⟩ := inr_nat (n := 8) rfl (xi_150_7 h1); exact sx_swI_lp (p := i) (by omega) hrm (fun x' a' s f' g' hx' hX' hF' => sx_sw_lp hd H k (i + 1) x' a' s f' g' (by omega) hx' hX' hF') H rn 0 _ _ _ _ (by omega) rfl h1 k1' hrb)
      | ((with_reducible refine ⟨vp_in_nI (by omega) (by decide), ?_⟩) <;> conv => whnf)
      | (refine ⟨Or.inl rfl, ?_⟩ <;> conv => whnf)
      | (refine ⟨Or.inr rfl, ?_⟩ <;> conv => whnf)
      | (refine ⟨Or.inl True.intro, ?_⟩ <;> conv => whnf)
      | (refine ⟨Or.inr True.intro, ?_⟩ <;> conv => whnf)
      | (refine ⟨fun c => ?_, fun c => ?_⟩ <;> first | ((have c9 : (1 : Int32) = 0 := by with_reducible exact c); exact absurd c9 (by decide)) | exact absurd (rfl : (0 : Int32) = 0) (by with_reducible exact c) | exact absurd True.intro (by with_reducible exact c) | exact False.elim (by with_reducible exact c) | (conv => whnf))
      | (refine sx_join (by omega) hX (fun f1 g1 h1 k1 => ?_) <;> (have k1' := fx_trans hF k1) <;> conv => whnf)
      | (refine ⟨by unfold vp_in; decide, ?_⟩ <;> conv => whnf)
      | fail
    all_goals exact H _ _ _ hX hF
set_option maxRecDepth 100000 in
set_option maxHeartbeats 4000000 in
theorem sx_sureWorks {d L : Nat} {f : Nat → Nat → Int32} {g : Nat → Nat → Int64} {b : Int32} {R : Option Value → mH → Prop} (hd : 9 ≤ d) (hX : XI f) (H : ∀ v f' g', XI f' → fx 149 168 f f' → R (some (.long v)) (shF L, f', g')) : Run mtab d 26 [.ref 149, .int b] (shF L, f, g) R := by
  obtain ⟨d, rfl⟩ : ∃ e, d = e + 1 := ⟨d - 1, by omega⟩
  refine go_X2_sureWorks rfl ?_
  conv => whnf
  exact sx_sw_lp (by omega) H 16 0 _ _ _ _ _ (by omega) rfl hX (fx_refl _ _ _)
