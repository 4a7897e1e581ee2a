set_option maxRecDepth 100000 in
set_option maxHeartbeats 4000000 in
theorem sx_join2_lp {d L n : Nat} {f0 : Nat → Nat → Int32} {w : Int32} {R : Option Value → mH → Prop} (hd : 3 ≤ d) (hm : n ≤ 8) (H : ∀ f' g', XI f' → fx 149 168 f0 f' → R none (shF L, f', g'))  :
    ∀ (k i : Nat) (x : Int32) (pw : Int64) (s5 : Option Value) (s6 : Option Value) (f : Nat → Nat → Int32) (g : Nat → Nat → Int64), i + k = n → x = nI i → XI f → fx 149 168 f0 f → f 150 7 = nI n → WPe pg_X2_join none (Run mtab d) R (m_drop pg_X2_join 42) [some (.ref 149), some (.int w), some (.long pw), none, some (.int x), s5, s6] [] (shF L, f, g)
  | 0, i, x, pw, s5, s6, f, g, he, hx, hX, hF, hc => by
    have e : i = n := by omega
    subst hx
    subst e
    refine at_X2_join ?_
    conv => whnf
    try simp only [hc]
    refine ⟨fun c => ?_, fun c => absurd (nI_le (Nat.le_refl _) (by omega)) c⟩
    conv => whnf
    repeat' first
      | ((with_reducible refine ⟨vpi2 hv (i32_nlt.mpr (by assumption)) (by decide), ?_⟩) <;> conv => whnf)
      | ((with_reducible refine ⟨vpi2 hv (by assumption) (by decide), ?_⟩) <;> conv => whnf)
      | (simp only [hc])
      | ((with_reducible refine ⟨vp_in_nI (by omega) (by decide), ?_⟩) <;> conv => whnf)
      | (refine ⟨Or.inl rfl, ?_⟩ <;> conv => whnf)
      | (refine ⟨Or.inr rfl, ?_⟩ <;> conv => whnf)
      | (refine ⟨Or.inl True.intro, ?_⟩ <;> conv => whnf)
      | (refine ⟨Or.inr True.intro, ?_⟩ <;> conv => whnf)
      | (refine ⟨fun c => ?_, fun c => ?_⟩ <;> first | ((have c9 : (1 : Int32) = 0 := by with_reducible exact c); exact absurd c9 (by decide)) | exact absurd (rfl : (0 : Int32) = 0) (by with_reducible exact c) | exact absurd True.intro (by with_reducible exact c) | exact False.elim (by with_reducible exact c) | (conv => whnf))
      | (refine ⟨by unfold vp_in; decide, ?_⟩ <;> conv => whnf)
      | fail
    all_goals exact H _ _ hX hF
  | k + 1, i, x, pw, s5, s6, f, g, he, hx, hX, hF, hc => by
    subst hx
    have hcl : (nI i).toNatClampNeg = i := nI_clamp (by omega)
    have hrow := row_151 i (by omega)
    have hshp := shp_151 L i (by omega)
    refine at_X2_join ?_
    conv => whnf
    try simp only [hc]
    refine ⟨fun c => absurd c (nI_ge (b := n) (by omega) (by omega)), fun c => ?_⟩
    conv => whnf
    repeat' first
      | exact sx_join2_lp hd hm H k (i + 1) _ _ _ _ _ _ (by omega) (nI_1 i) (by repeat' first | (with_reducible assumption) | (with_reducible refine XI_ui ?_ ?_) | (with_reducible refine XI_fil ?_ (fun _ => ?_)) | (with_reducible refine XI_cpy ?_ (fun _ _ => ?_)) | exact True.intro | ((show inr _ _ _); first | (with_reducible assumption) | (unfold inr; decide)) | fail) (by repeat' first | (with_reducible exact fx_refl _ _ _) | (with_reducible assumption) | (with_reducible refine fx_ui ?_ ?_ ?_) | (with_reducible refine fx_fil ?_ ?_ ?_) | (with_reducible refine fx_cpy ?_ ?_ ?_) | (refine fx_trans ?_ (fx_wide k1 (by omega) (by omega))) | omega | decide | fail) (by first | exact hc1 | exact hc)
      | ((with_reducible refine ⟨vpi2 hv (i32_nlt.mpr (by assumption)) (by decide), ?_⟩) <;> conv => whnf)
      | ((with_reducible refine ⟨vpi2 hv (by assumption) (by decide), ?_⟩) <;> conv => whnf)
      | (simp only [hc])
      | ((with_reducible refine ⟨vp_in_nI (by omega) (by decide), ?_⟩) <;> conv => whnf)
      | (refine ⟨Or.inl rfl, ?_⟩ <;> conv => whnf)
      | (refine ⟨Or.inr rfl, ?_⟩ <;> conv => whnf)
      | (refine ⟨Or.inl True.intro, ?_⟩ <;> conv => whnf)
      | (refine ⟨Or.inr True.intro, ?_⟩ <;> conv => whnf)
      | (refine ⟨fun c => ?_, fun c => ?_⟩ <;> first | ((have c9 : (1 : Int32) = 0 := by with_reducible exact c); exact absurd c9 (by decide)) | exact absurd (rfl : (0 : Int32) = 0) (by with_reducible exact c) | exact absurd True.intro (by with_reducible exact c) | exact False.elim (by with_reducible exact c) | (conv => whnf))
      | (refine sx_columnOf (by omega) hX (fun v hv _ f1 g1 h1 k1 => ?_) <;> (have hc1 : f1 150 7 = nI n := (k1 150 7 (by omega)).trans hc) <;> conv => whnf)
      | ((refine ⟨⟨vp_in_nI (by omega) (by decide), by rw [hcl]; show i < 8; omega, by rw [hcl, hrow]; rfl⟩, ?_⟩) <;> simp only [hcl, hrow, Option.getD_some] <;> conv => whnf)
      | ((simp only [m_act_eq, mi, mj, m_act0, m_arr, hshp]) <;> conv => whnf)
      | (refine ⟨by unfold vp_in; decide, ?_⟩ <;> conv => whnf)
      | fail
    all_goals exact H _ _ hX hF
set_option maxRecDepth 100000 in
set_option maxHeartbeats 4000000 in
theorem sx_join1_lp {d L n : Nat} {f0 : Nat → Nat → Int32} {w : Int32} {R : Option Value → mH → Prop} (hd : 7 ≤ d) (hm : n ≤ 8) (H : ∀ f' g', XI f' → fx 149 168 f0 f' → R none (shF L, f', g'))  :
    ∀ (k i : Nat) (x : Int32) (pw : Int64) (s5 : Option Value) (s6 : Option Value) (f : Nat → Nat → Int32) (g : Nat → Nat → Int64), i + k = n → x = nI i → XI f → fx 149 168 f0 f → f 150 7 = nI n → WPe pg_X2_join none (Run mtab d) R (m_drop pg_X2_join 17) [some (.ref 149), some (.int w), some (.long pw), none, some (.int x), s5, s6] [] (shF L, f, g)
  | 0, i, x, pw, s5, s6, f, g, he, hx, hX, hF, hc => by
    have e : i = n := by omega
    subst hx
    subst e
    refine at_X2_join ?_
    conv => whnf
    try simp only [hc]
    refine ⟨fun c => ?_, fun c => absurd (nI_le (Nat.le_refl _) (by omega)) c⟩
    conv => whnf
    repeat' first
      | ((refine ⟨show ¬ (7984925229121 : Int64) = 0 by decide, ?_⟩) <;> conv => whnf)
      | exact sx_join2_lp (by omega) hm H i 0 _ _ _ _ _ _ (by omega) rfl (by repeat' first | (with_reducible assumption) | (with_reducible refine XI_ui ?_ ?_) | (with_reducible refine XI_fil ?_ (fun _ => ?_)) | (with_reducible refine XI_cpy ?_ (fun _ _ => ?_)) | exact True.intro | ((show inr _ _ _); first | (with_reducible assumption) | (unfold inr; decide)) | fail) (by repeat' first | (with_reducible exact fx_refl _ _ _) | (with_reducible assumption) | (with_reducible refine fx_ui ?_ ?_ ?_) | (with_reducible refine fx_fil ?_ ?_ ?_) | (with_reducible refine fx_cpy ?_ ?_ ?_) | (refine fx_trans ?_ (fx_wide k1 (by omega) (by omega))) | omega | decide | fail) hc1
      | (simp only [hc])
      | ((with_reducible refine ⟨vp_in_nI (by omega) (by decide), ?_⟩) <;> conv => whnf)
      | (refine ⟨Or.inl rfl, ?_⟩ <;> conv => whnf)
      | (refine ⟨Or.inr rfl, ?_⟩ <;> conv => whnf)
      | (refine ⟨Or.inl True.intro, ?_⟩ <;> conv => whnf)
      | (refine ⟨Or.inr True.intro, ?_⟩ <;> conv => whnf)
      | (refine ⟨fun c => ?_, fun c => ?_⟩ <;> first | ((have c9 : (1 : Int32) = 0 := by with_reducible exact c); exact absurd c9 (by decide)) | exact absurd (rfl : (0 : Int32) = 0) (by with_reducible exact c) | exact absurd True.intro (by with_reducible exact c) | exact False.elim (by with_reducible exact c) | (conv => whnf))
      | (refine sx_solve (by omega) hX (fun v f1 g1 h1 k1 => ?_) <;> (have hc1 := (k1 150 7 (by omega)).trans hc) <;> conv => whnf)
      | (refine ⟨by unfold vp_in; decide, ?_⟩ <;> conv => whnf)
      | fail
    all_goals exact H _ _ hX hF
  | k + 1, i, x, pw, s5, s6, f, g, he, hx, hX, hF, hc => by
    subst hx
    refine at_X2_join ?_
    conv => whnf
    try simp only [hc]
    refine ⟨fun c => absurd c (nI_ge (b := n) (by omega) (by omega)), fun c => ?_⟩
    conv => whnf
    repeat' first
      | exact sx_join1_lp hd hm H k (i + 1) _ _ _ _ _ _ (by omega) (nI_1 i) (by repeat' first | (with_reducible assumption) | (with_reducible refine XI_ui ?_ ?_) | (with_reducible refine XI_fil ?_ (fun _ => ?_)) | (with_reducible refine XI_cpy ?_ (fun _ _ => ?_)) | exact True.intro | ((show inr _ _ _); first | (with_reducible assumption) | (unfold inr; decide)) | fail) (by repeat' first | (with_reducible exact fx_refl _ _ _) | (with_reducible assumption) | (with_reducible refine fx_ui ?_ ?_ ?_) | (with_reducible refine fx_fil ?_ ?_ ?_) | (with_reducible refine fx_cpy ?_ ?_ ?_) | (refine fx_trans ?_ (fx_wide k1 (by omega) (by omega))) | omega | decide | fail) (by first | exact hc1 | exact hc)
      | ((refine ⟨show ¬ (41 : Int64) = 0 by decide, ?_⟩) <;> conv => whnf)
      | (simp only [hc])
      | ((with_reducible refine ⟨vp_in_nI (by omega) (by decide), ?_⟩) <;> conv => whnf)
      | (refine ⟨Or.inl rfl, ?_⟩ <;> conv => whnf)
      | (refine ⟨Or.inr rfl, ?_⟩ <;> conv => whnf)
      | (refine ⟨Or.inl True.intro, ?_⟩ <;> conv => whnf)
      | (refine ⟨Or.inr True.intro, ?_⟩ <;> conv => whnf)
      | (refine ⟨fun c => ?_, fun c => ?_⟩ <;> first | ((have c9 : (1 : Int32) = 0 := by with_reducible exact c); exact absurd c9 (by decide)) | exact absurd (rfl : (0 : Int32) = 0) (by with_reducible exact c) | exact absurd True.intro (by with_reducible exact c) | exact False.elim (by with_reducible exact c) | (conv => whnf))
      | (refine sx_weigh (by omega) hX (by omega) (fun f1 g1 h1 k1 => ?_) <;> (have hc1 : f1 150 7 = nI n := (k1 150 7 (by omega)).trans hc) <;> conv => whnf)
      | (refine ⟨by unfold vp_in; decide, ?_⟩ <;> conv => whnf)
      | fail
    all_goals exact H _ _ hX hF
theorem inr_add {a b : Nat} (ha : a ≤ 40) (hb : b ≤ 8) : inr 0 48 (nI a + nI b) := by
  rw [nI_add]
  exact inr_n (m := 48) (by omega) rfl (by decide)
set_option maxRecDepth 100000 in
set_option maxHeartbeats 4000000 in
theorem sx_join {d L : Nat} {f : Nat → Nat → Int32} {g : Nat → Nat → Int64} {w : Int32} {R : Option Value → mH → Prop} (hd : 8 ≤ d) (hX : XI f) (H : ∀ f' g', XI f' → fx 149 168 f f' → R none (shF L, f', g')) : Run mtab d 19 [.ref 149, .int w] (shF L, f, g) R := by
  obtain ⟨d, rfl⟩ : ∃ e, d = e + 1 := ⟨d - 1, by omega⟩
  refine go_X2_join rfl ?_
  conv => whnf
  obtain ⟨n, hm, hn⟩ := inr_nat (n := 40) rfl (xi_6 hX 13)
  refine sx_gather (by omega) hX (fun f1 g1 h1 k1 => ?_)
  have hn1 : f1 6 13 = nI n := (k1 6 13 (by omega)).trans hn
  obtain ⟨q, hq8, hq⟩ := inr_nat (n := 8) rfl (xi_150_7 h1)
  conv => whnf
  simp only [hn1, hq]
  exact sx_join1_lp (by omega) hq8 H q 0 _ _ _ _ _ _ (by omega) rfl (XI_ui h1 (show inr 0 48 _ from inr_add hm hq8)) (fx_ui (by decide) (by decide) k1) hq
