set_option maxRecDepth 100000 in
set_option maxHeartbeats 4000000 in
theorem sx_reach_lp {d L n : Nat} {f0 : Nat → Nat → Int32} {r : Nat} {a : Int32} {R : Option Value → mH → Prop} (hd : 2 ≤ d) (hm : n ≤ 48) (h0 : f0 150 8 = nI n) (hr8 : r < 8) (ha : inr 0 48 a) (H : ∀ v f' g', inr 0 48 v → XI f' → fx 160 166 f0 f' → R (some (.int v)) (shF L, f', g'))  :
    ∀ (k i : Nat) (x : Int32) (b : Int32) (lw : Int64) (s7 : Option Value) (s8 : Option Value) (f : Nat → Nat → Int32) (g : Nat → Nat → Int64), i + k = n + 1 → x = nI i → XI f → fx 160 166 f0 f → 1 ≤ i → inr 0 48 b → WPe pg_X3_reachNext none (Run mtab d) R (m_drop pg_X3_reachNext 16) [some (.ref 150), some (.int a), some (.int (nI (r + 1))), some (.int b), some (.long lw), none, some (.int x), s7, s8] [] (shF L, f, g)
  | 0, i, x, b, lw, s7, s8, f, g, he, hx, hX, hF, h1i, hbb => by
    have e : i = n + 1 := by omega
    subst hx
    have hc : f 150 8 = nI n := (hF 150 8 (by omega)).trans h0
    have hp1 : nI i - 1 = nI (i - 1) := by
      obtain ⟨j, rfl⟩ : ∃ j, i = j + 1 := ⟨i - 1, by omega⟩
      exact nI_pred j
    have hp2 : nI (r + 1) - 1 = nI r := nI_pred r
    have hcl : (nI r).toNatClampNeg = r := nI_clamp (by omega)
    have hrow := row_151 r hr8
    have hshp := shp_151 L r hr8
    subst e
    refine at_X3_reachNext ?_
    conv => whnf
    try simp only [hc, hp1, hp2]
    refine ⟨fun c => ?_, fun c => absurd (nI_lt (a := n) (b := n + 1) (by omega) (by omega)) c⟩
    conv => whnf
    repeat' first
      | (simp only [hc, hp1, hp2])
      | ((with_reducible refine ⟨vp_in_nI (by omega) (by decide), ?_⟩) <;> conv => whnf)
      | (refine ⟨Or.inl rfl, ?_⟩ <;> conv => whnf)
      | (refine ⟨Or.inr rfl, ?_⟩ <;> conv => whnf)
      | (refine ⟨Or.inl True.intro, ?_⟩ <;> conv => whnf)
      | (refine ⟨Or.inr True.intro, ?_⟩ <;> conv => whnf)
      | (refine ⟨fun c => ?_, fun c => ?_⟩ <;> first | ((have c9 : (1 : Int32) = 0 := by with_reducible exact c); exact absurd c9 (by decide)) | exact absurd (rfl : (0 : Int32) = 0) (by with_reducible exact c) | exact absurd True.intro (by with_reducible exact c) | exact False.elim (by with_reducible exact c) | (conv => whnf))
      | (refine sx_shiftPrices (by omega) hX (fun f2 g2 h2 k2 => ?_) <;> conv => whnf)
      | (refine ⟨by unfold vp_in; decide, ?_⟩ <;> conv => whnf)
      | fail
    all_goals exact H _ _ _ hbb h2 (fx_trans hF k2)
  | k + 1, i, x, b, lw, s7, s8, f, g, he, hx, hX, hF, h1i, hbb => by
    subst hx
    have hc : f 150 8 = nI n := (hF 150 8 (by omega)).trans h0
    have hp1 : nI i - 1 = nI (i - 1) := by
      obtain ⟨j, rfl⟩ : ∃ j, i = j + 1 := ⟨i - 1, by omega⟩
      exact nI_pred j
    have hp2 : nI (r + 1) - 1 = nI r := nI_pred r
    have hcl : (nI r).toNatClampNeg = r := nI_clamp (by omega)
    have hrow := row_151 r hr8
    have hshp := shp_151 L r hr8
    refine at_X3_reachNext ?_
    conv => whnf
    try simp only [hc, hp1, hp2]
    refine ⟨fun c => absurd c (nI_nlt (a := n) (b := i) (by omega) (by omega)), fun c => ?_⟩
    conv => whnf
    repeat' first
      | exact sx_reach_lp hd hm h0 hr8 ha H k (i + 1) _ _ _ _ _ _ _ (by omega) (nI_1 i) (by repeat' first | (with_reducible assumption) | (with_reducible refine XI_ui ?_ ?_) | (with_reducible refine XI_fil ?_ (fun _ => ?_)) | (with_reducible refine XI_cpy ?_ (fun _ _ => ?_)) | exact True.intro | ((show inr _ _ _); first | (with_reducible assumption) | ((with_reducible refine inr_n1 (m := 48) ?_ ?_ ?_) <;> first | omega | rfl | decide) | ((with_reducible refine inr_n (m := 48) ?_ ?_ ?_) <;> first | omega | rfl | decide) | (unfold inr; decide)) | fail) (by repeat' first | (with_reducible exact fx_refl _ _ _) | (with_reducible assumption) | (with_reducible refine fx_ui ?_ ?_ ?_) | (with_reducible refine fx_fil ?_ ?_ ?_) | (with_reducible refine fx_cpy ?_ ?_ ?_) | omega | decide | fail) (by omega) (by first | (with_reducible assumption) | exact inr_n (m := 48) (by omega) rfl (by decide))
      | (simp only [hc, hp1, hp2])
      | ((with_reducible refine ⟨vp_in_nI (by omega) (by decide), ?_⟩) <;> conv => whnf)
      | (refine ⟨Or.inl rfl, ?_⟩ <;> conv => whnf)
      | (refine ⟨Or.inr rfl, ?_⟩ <;> conv => whnf)
      | (refine ⟨Or.inl True.intro, ?_⟩ <;> conv => whnf)
      | (refine ⟨Or.inr True.intro, ?_⟩ <;> conv => whnf)
      | (refine ⟨fun c => ?_, fun c => ?_⟩ <;> first | ((have c9 : (1 : Int32) = 0 := by with_reducible exact c); exact absurd c9 (by decide)) | exact absurd (rfl : (0 : Int32) = 0) (by with_reducible exact c) | exact absurd True.intro (by with_reducible exact c) | exact False.elim (by with_reducible exact c) | (conv => whnf))
      | ((refine ⟨⟨vp_in_nI (by omega) (by decide), by rw [hcl]; exact hr8, by rw [hcl, hrow]; rfl⟩, ?_⟩) <;> simp only [hcl, hrow, Option.getD_some] <;> conv => whnf)
      | ((simp only [m_act_eq, mi, mj, m_act0, m_arr, hshp]) <;> conv => whnf)
      | (refine ⟨by unfold vp_in; decide, ?_⟩ <;> conv => whnf)
      | fail
    all_goals exact H _ _ _ hbb h2 (fx_trans hF k2)
theorem row_pos {f : Nat → Nat → Int32} (hX : XI f) {k : Nat} (h : ¬ f 163 k = 0) : ∃ r, r < 8 ∧ f 163 k = nI (r + 1) := by
  obtain ⟨j, hj, e⟩ := inr_nat (n := 8) rfl (xi_163 hX k)
  cases j with
  | zero => exact absurd (e.trans rfl) h
  | succ r => exact ⟨r, by omega, e⟩
set_option maxRecDepth 100000 in
set_option maxHeartbeats 4000000 in
theorem sx_reachNext {d L : Nat} {f : Nat → Nat → Int32} {g : Nat → Nat → Int64} {a : Int32} {R : Option Value → mH → Prop} (hd : 4 ≤ d) (hX : XI f) (ha : inr 0 48 a) (hr : ¬ f 163 a.toNatClampNeg = 0) (H : ∀ v f' g', inr 0 48 v → XI f' → fx 160 166 f f' → R (some (.int v)) (shF L, f', g')) : Run mtab d 31 [.ref 150, .int a] (shF L, f, g) R := by
  obtain ⟨d, rfl⟩ : ∃ e, d = e + 1 := ⟨d - 1, by omega⟩
  refine go_X3_reachNext rfl ?_
  conv => whnf
  obtain ⟨n, hm, hc⟩ := inr_nat (n := 48) rfl (xi_150_8 hX)
  obtain ⟨r, hr8, hrw⟩ := row_pos hX hr
  repeat' first
    | ((with_reducible refine ⟨vpi ha (by decide), ?_⟩) <;> conv => whnf)
    | exact sx_reach_lp (by omega) hm hc hr8 ha H n 1 _ _ _ _ _ _ _ (by omega) rfl (by repeat' first | (with_reducible assumption) | (with_reducible refine XI_ui ?_ ?_) | (with_reducible refine XI_fil ?_ (fun _ => ?_)) | (with_reducible refine XI_cpy ?_ (fun _ _ => ?_)) | exact True.intro | ((show inr _ _ _); first | (with_reducible assumption) | (unfold inr; decide)) | fail) (by repeat' first | (with_reducible exact fx_refl _ _ _) | (with_reducible assumption) | (with_reducible refine fx_ui ?_ ?_ ?_) | (with_reducible refine fx_fil ?_ ?_ ?_) | (with_reducible refine fx_cpy ?_ ?_ ?_) | omega | decide | fail) (by omega) ha
    | (simp only [hrw, m_ui_ap, m_fil_ap, m_cpy_ap, Nat.reduceEqDiff, Nat.reduceLT, Nat.reduceLeDiff, eq_self, ↓reduceIte, false_and, and_false, true_and, and_true, and_self])
    | ((with_reducible refine ⟨vp_in_nI (by omega) (by decide), ?_⟩) <;> conv => whnf)
    | (refine ⟨Or.inl rfl, ?_⟩ <;> conv => whnf)
    | (refine ⟨Or.inr rfl, ?_⟩ <;> conv => whnf)
    | (refine ⟨Or.inl True.intro, ?_⟩ <;> conv => whnf)
    | (refine ⟨Or.inr True.intro, ?_⟩ <;> conv => whnf)
    | (refine ⟨fun c => ?_, fun c => ?_⟩ <;> first | ((have c9 : (1 : Int32) = 0 := by with_reducible exact c); exact absurd c9 (by decide)) | exact absurd (rfl : (0 : Int32) = 0) (by with_reducible exact c) | exact absurd True.intro (by with_reducible exact c) | exact False.elim (by with_reducible exact c) | (conv => whnf))
    | (refine ⟨by unfold vp_in; decide, ?_⟩ <;> conv => whnf)
    | fail
set_option maxRecDepth 100000 in
set_option maxHeartbeats 4000000 in
theorem sx_seat3_lp {d L n : Nat} {f0 : Nat → Nat → Int32} {w : Int32} {R : Option Value → mH → Prop} (hd : 1 ≤ d) (hm : n ≤ 48) (h0 : f0 150 8 = nI n) (H : ∀ f' g', XI f' → fx 160 166 f0 f' → R none (shF L, f', g'))  :
    ∀ (k i : Nat) (x : Int32) (a : Int32) (s4 : Option Value) (f : Nat → Nat → Int32) (g : Nat → Nat → Int64), i + k = n + 1 → x = nI i → XI f → fx 160 166 f0 f → inr 0 48 a → WPe pg_X3_seat none (Run mtab d) R (m_drop pg_X3_seat 43) [some (.ref 150), some (.int w), some (.int a), some (.int x), s4] [] (shF L, f, g)
  | 0, i, x, a, s4, f, g, he, hx, hX, hF, ha => by
    have e : i = n + 1 := by omega
    subst hx
    have hc : f 150 8 = nI n := (hF 150 8 (by omega)).trans h0
    subst e
    refine at_X3_seat ?_
    conv => whnf
    try simp only [hc]
    refine ⟨fun c => ?_, fun c => absurd (nI_lt (a := n) (b := n + 1) (by omega) (by omega)) c⟩
    conv => whnf
    repeat' first
      | ((with_reducible refine ⟨vpi ha (by decide), ?_⟩) <;> conv => whnf)
      | ((with_reducible refine ⟨vx_164 hX _, ?_⟩) <;> conv => whnf)
      | (simp only [hc])
      | ((with_reducible refine ⟨vp_in_nI (by omega) (by decide), ?_⟩) <;> conv => whnf)
      | (refine ⟨Or.inl rfl, ?_⟩ <;> conv => whnf)
      | (refine ⟨Or.inr rfl, ?_⟩ <;> conv => whnf)
      | (refine ⟨Or.inl True.intro, ?_⟩ <;> conv => whnf)
      | (refine ⟨Or.inr True.intro, ?_⟩ <;> conv => whnf)
      | (refine ⟨fun c => ?_, fun c => ?_⟩ <;> first | ((have c9 : (1 : Int32) = 0 := by with_reducible exact c); exact absurd c9 (by decide)) | exact absurd (rfl : (0 : Int32) = 0) (by with_reducible exact c) | exact absurd True.intro (by with_reducible exact c) | exact False.elim (by with_reducible exact c) | (conv => whnf))
      | (refine ⟨by unfold vp_in; decide, ?_⟩ <;> conv => whnf)
      | fail
    all_goals exact H _ _ (by repeat' first | (with_reducible assumption) | (with_reducible refine XI_ui ?_ ?_) | (with_reducible refine XI_fil ?_ (fun _ => ?_)) | (with_reducible refine XI_cpy ?_ (fun _ _ => ?_)) | exact True.intro | ((show inr _ _ _); first | (with_reducible assumption) | (unfold inr; decide)) | fail) (by repeat' first | (with_reducible exact fx_refl _ _ _) | (with_reducible assumption) | (with_reducible refine fx_ui ?_ ?_ ?_) | (with_reducible refine fx_fil ?_ ?_ ?_) | (with_reducible refine fx_cpy ?_ ?_ ?_) | omega | decide | fail)
  | k + 1, i, x, a, s4, f, g, he, hx, hX, hF, ha => by
    subst hx
    have hc : f 150 8 = nI n := (hF 150 8 (by omega)).trans h0
    refine at_X3_seat ?_
    conv => whnf
    try simp only [hc]
    refine ⟨fun c => absurd c (nI_nlt (a := n) (b := i) (by omega) (by omega)), fun c => ?_⟩
    conv => whnf
    repeat' first
      | exact sx_seat3_lp hd hm h0 H k (i + 1) _ _ _ _ _ (by omega) (nI_1 i) (by repeat' first | (with_reducible assumption) | (with_reducible refine XI_ui ?_ ?_) | (with_reducible refine XI_fil ?_ (fun _ => ?_)) | (with_reducible refine XI_cpy ?_ (fun _ _ => ?_)) | exact True.intro | ((show inr _ _ _); first | (with_reducible assumption) | (with_reducible exact xi_163 hX _) | (unfold inr; decide)) | fail) (by repeat' first | (with_reducible exact fx_refl _ _ _) | (with_reducible assumption) | (with_reducible refine fx_ui ?_ ?_ ?_) | (with_reducible refine fx_fil ?_ ?_ ?_) | (with_reducible refine fx_cpy ?_ ?_ ?_) | omega | decide | fail) (by first | (with_reducible assumption) | (with_reducible exact xi_164 hX _))
      | ((with_reducible refine ⟨vpi ha (by decide), ?_⟩) <;> conv => whnf)
      | ((with_reducible refine ⟨vx_164 hX _, ?_⟩) <;> conv => whnf)
      | (simp only [hc])
      | ((with_reducible refine ⟨vp_in_nI (by omega) (by decide), ?_⟩) <;> conv => whnf)
      | (refine ⟨Or.inl rfl, ?_⟩ <;> conv => whnf)
      | (refine ⟨Or.inr rfl, ?_⟩ <;> conv => whnf)
      | (refine ⟨Or.inl True.intro, ?_⟩ <;> conv => whnf)
      | (refine ⟨Or.inr True.intro, ?_⟩ <;> conv => whnf)
      | (refine ⟨fun c => ?_, fun c => ?_⟩ <;> first | ((have c9 : (1 : Int32) = 0 := by with_reducible exact c); exact absurd c9 (by decide)) | exact absurd (rfl : (0 : Int32) = 0) (by with_reducible exact c) | exact absurd True.intro (by with_reducible exact c) | exact False.elim (by with_reducible exact c) | (conv => whnf))
      | (refine ⟨by unfold vp_in; decide, ?_⟩ <;> conv => whnf)
      | fail
    all_goals exact H _ _ (by repeat' first | (with_reducible assumption) | (with_reducible refine XI_ui ?_ ?_) | (with_reducible refine XI_fil ?_ (fun _ => ?_)) | (with_reducible refine XI_cpy ?_ (fun _ _ => ?_)) | exact True.intro | ((show inr _ _ _); first | (with_reducible assumption) | (unfold inr; decide)) | fail) (by repeat' first | (with_reducible exact fx_refl _ _ _) | (with_reducible assumption) | (with_reducible refine fx_ui ?_ ?_ ?_) | (with_reducible refine fx_fil ?_ ?_ ?_) | (with_reducible refine fx_cpy ?_ ?_ ?_) | omega | decide | fail)
set_option maxRecDepth 100000 in
set_option maxHeartbeats 4000000 in
theorem sx_seat2_lp {d L n : Nat} {f0 : Nat → Nat → Int32} {w : Int32} {R : Option Value → mH → Prop} (hd : 4 ≤ d) (hm : n ≤ 48) (h0 : f0 150 8 = nI n) (H : ∀ f' g', XI f' → fx 160 166 f0 f' → R none (shF L, f', g'))  :
    ∀ (k i : Nat) (x : Int32) (a : Int32) (s4 : Option Value) (f : Nat → Nat → Int32) (g : Nat → Nat → Int64), i + k = n + 1 → x = nI i → XI f → fx 160 166 f0 f → inr 0 48 a → WPe pg_X3_seat none (Run mtab d) R (m_drop pg_X3_seat 26) [some (.ref 150), some (.int w), some (.int a), some (.int x), s4] [] (shF L, f, g)
  | 0, i, x, a, s4, f, g, he, hx, hX, hF, ha => by
    have e : i = n + 1 := by omega
    subst hx
    have hc : f 150 8 = nI n := (hF 150 8 (by omega)).trans h0
    subst e
    refine at_X3_seat ?_
    conv => whnf
    try simp only [hc]
    refine ⟨fun c => ?_, fun c => absurd (nI_lt (a := n) (b := n + 1) (by omega) (by omega)) c⟩
    conv => whnf
    repeat' first
      | ((with_reducible refine ⟨vpi ha (by decide), ?_⟩) <;> conv => whnf)
      | exact sx_seat3_lp (by omega) hm h0 H (n + 1) 0 _ _ _ _ _ (by omega) rfl hX hF ha
      | (simp only [hc])
      | ((with_reducible refine ⟨vp_in_nI (by omega) (by decide), ?_⟩) <;> conv => whnf)
      | (refine ⟨Or.inl rfl, ?_⟩ <;> conv => whnf)
      | (refine ⟨Or.inr rfl, ?_⟩ <;> conv => whnf)
      | (refine ⟨Or.inl True.intro, ?_⟩ <;> conv => whnf)
      | (refine ⟨Or.inr True.intro, ?_⟩ <;> conv => whnf)
      | (refine ⟨fun c => ?_, fun c => ?_⟩ <;> first | ((have c9 : (1 : Int32) = 0 := by with_reducible exact c); exact absurd c9 (by decide)) | exact absurd (rfl : (0 : Int32) = 0) (by with_reducible exact c) | exact absurd True.intro (by with_reducible exact c) | exact False.elim (by with_reducible exact c) | (conv => whnf))
      | (refine sx_reachNext (by omega) hX ha (by with_reducible assumption) (fun v f1 g1 hv h1 k1 => ?_) <;> (have k1' := fx_trans hF k1) <;> conv => whnf)
      | (refine ⟨by unfold vp_in; decide, ?_⟩ <;> conv => whnf)
      | fail
    all_goals exact H _ _ (by repeat' first | (with_reducible assumption) | (with_reducible refine XI_ui ?_ ?_) | (with_reducible refine XI_fil ?_ (fun _ => ?_)) | (with_reducible refine XI_cpy ?_ (fun _ _ => ?_)) | exact True.intro | ((show inr _ _ _); first | (with_reducible assumption) | (unfold inr; decide)) | fail) (by repeat' first | (with_reducible exact fx_refl _ _ _) | (with_reducible assumption) | (with_reducible refine fx_ui ?_ ?_ ?_) | (with_reducible refine fx_fil ?_ ?_ ?_) | (with_reducible refine fx_cpy ?_ ?_ ?_) | omega | decide | fail)
  | k + 1, i, x, a, s4, f, g, he, hx, hX, hF, ha => by
    subst hx
    have hc : f 150 8 = nI n := (hF 150 8 (by omega)).trans h0
    refine at_X3_seat ?_
    conv => whnf
    try simp only [hc]
    refine ⟨fun c => absurd c (nI_nlt (a := n) (b := i) (by omega) (by omega)), fun c => ?_⟩
    conv => whnf
    repeat' first
      | exact sx_seat2_lp hd hm h0 H k (i + 1) _ _ _ _ _ (by omega) (nI_1 i) (by repeat' first | (with_reducible assumption) | (with_reducible refine XI_ui ?_ ?_) | (with_reducible refine XI_fil ?_ (fun _ => ?_)) | (with_reducible refine XI_cpy ?_ (fun _ _ => ?_)) | exact True.intro | ((show inr _ _ _); first | (with_reducible assumption) | (unfold inr; decide)) | fail) (by repeat' first | (with_reducible exact fx_refl _ _ _) | (with_reducible assumption) | (with_reducible refine fx_ui ?_ ?_ ?_) | (with_reducible refine fx_fil ?_ ?_ ?_) | (with_reducible refine fx_cpy ?_ ?_ ?_) | omega | decide | fail) (by first | (with_reducible assumption) | (with_reducible exact xi_164 hX _))
      | ((with_reducible refine ⟨vpi ha (by decide), ?_⟩) <;> conv => whnf)
      | exact sx_seat3_lp (by omega) hm h0 H (n + 1) 0 _ _ _ _ _ (by omega) rfl hX hF ha
      | (simp only [hc])
      | ((with_reducible refine ⟨vp_in_nI (by omega) (by decide), ?_⟩) <;> conv => whnf)
      | (refine ⟨Or.inl rfl, ?_⟩ <;> conv => whnf)
      | (refine ⟨Or.inr rfl, ?_⟩ <;> conv => whnf)
      | (refine ⟨Or.inl True.intro, ?_⟩ <;> conv => whnf)
      | (refine ⟨Or.inr True.intro, ?_⟩ <;> conv => whnf)
      | (refine ⟨fun c => ?_, fun c => ?_⟩ <;> first | ((have c9 : (1 : Int32) = 0 := by with_reducible exact c); exact absurd c9 (by decide)) | exact absurd (rfl : (0 : Int32) = 0) (by with_reducible exact c) | exact absurd True.intro (by with_reducible exact c) | exact False.elim (by with_reducible exact c) | (conv => whnf))
      | (refine sx_reachNext (by omega) hX ha (by with_reducible assumption) (fun v f1 g1 hv h1 k1 => ?_) <;> (have k1' := fx_trans hF k1) <;> conv => whnf)
      | (refine ⟨by unfold vp_in; decide, ?_⟩ <;> conv => whnf)
      | fail
    all_goals exact H _ _ (by repeat' first | (with_reducible assumption) | (with_reducible refine XI_ui ?_ ?_) | (with_reducible refine XI_fil ?_ (fun _ => ?_)) | (with_reducible refine XI_cpy ?_ (fun _ _ => ?_)) | exact True.intro | ((show inr _ _ _); first | (with_reducible assumption) | (unfold inr; decide)) | fail) (by repeat' first | (with_reducible exact fx_refl _ _ _) | (with_reducible assumption) | (with_reducible refine fx_ui ?_ ?_ ?_) | (with_reducible refine fx_fil ?_ ?_ ?_) | (with_reducible refine fx_cpy ?_ ?_ ?_) | omega | decide | fail)
set_option maxRecDepth 100000 in
set_option maxHeartbeats 4000000 in
theorem sx_seat1_lp {d L n : Nat} {f0 : Nat → Nat → Int32} {w : Int32} {R : Option Value → mH → Prop} (hd : 4 ≤ d) (hm : n ≤ 48) (h0 : f0 150 8 = nI n) (hw : inr 0 8 w) (H : ∀ f' g', XI f' → fx 160 166 f0 f' → R none (shF L, f', g'))  :
    ∀ (k i : Nat) (x : Int32) (s3 : Option Value) (s4 : Option Value) (f : Nat → Nat → Int32) (g : Nat → Nat → Int64), i + k = n + 1 → x = nI i → XI f → fx 160 166 f0 f → WPe pg_X3_seat none (Run mtab d) R (m_drop pg_X3_seat 6) [some (.ref 150), some (.int w), some (.int x), s3, s4] [] (shF L, f, g)
  | 0, i, x, s3, s4, f, g, he, hx, hX, hF => by
    have e : i = n + 1 := by omega
    subst hx
    have hc : f 150 8 = nI n := (hF 150 8 (by omega)).trans h0
    subst e
    refine at_X3_seat ?_
    conv => whnf
    try simp only [hc]
    refine ⟨fun c => ?_, fun c => absurd (nI_lt (a := n) (b := n + 1) (by omega) (by omega)) c⟩
    conv => whnf
    repeat' first
      | (refine ⟨by unfold vp_in; decide, ?_⟩ <;> conv => whnf)
      | exact sx_seat2_lp (by omega) hm h0 H (n + 1) 0 _ _ _ _ _ (by omega) rfl (by repeat' first | (with_reducible assumption) | (with_reducible refine XI_ui ?_ ?_) | (with_reducible refine XI_fil ?_ (fun _ => ?_)) | (with_reducible refine XI_cpy ?_ (fun _ _ => ?_)) | exact True.intro | ((show inr _ _ _); first | (with_reducible assumption) | (unfold inr; decide)) | fail) (by repeat' first | (with_reducible exact fx_refl _ _ _) | (with_reducible assumption) | (with_reducible refine fx_ui ?_ ?_ ?_) | (with_reducible refine fx_fil ?_ ?_ ?_) | (with_reducible refine fx_cpy ?_ ?_ ?_) | omega | decide | fail) (show inr 0 48 0 by unfold inr; decide)
      | (simp only [hc])
      | ((with_reducible refine ⟨vp_in_nI (by omega) (by decide), ?_⟩) <;> conv => whnf)
      | (refine ⟨Or.inl rfl, ?_⟩ <;> conv => whnf)
      | (refine ⟨Or.inr rfl, ?_⟩ <;> conv => whnf)
      | (refine ⟨Or.inl True.intro, ?_⟩ <;> conv => whnf)
      | (refine ⟨Or.inr True.intro, ?_⟩ <;> conv => whnf)
      | (refine ⟨fun c => ?_, fun c => ?_⟩ <;> first | ((have c9 : (1 : Int32) = 0 := by with_reducible exact c); exact absurd c9 (by decide)) | exact absurd (rfl : (0 : Int32) = 0) (by with_reducible exact c) | exact absurd True.intro (by with_reducible exact c) | exact False.elim (by with_reducible exact c) | (conv => whnf))
      | (refine ⟨by unfold vp_in; decide, ?_⟩ <;> conv => whnf)
      | fail
    all_goals exact H _ _ (by repeat' first | (with_reducible assumption) | (with_reducible refine XI_ui ?_ ?_) | (with_reducible refine XI_fil ?_ (fun _ => ?_)) | (with_reducible refine XI_cpy ?_ (fun _ _ => ?_)) | exact True.intro | ((show inr _ _ _); first | (with_reducible assumption) | (unfold inr; decide)) | fail) (by repeat' first | (with_reducible exact fx_refl _ _ _) | (with_reducible assumption) | (with_reducible refine fx_ui ?_ ?_ ?_) | (with_reducible refine fx_fil ?_ ?_ ?_) | (with_reducible refine fx_cpy ?_ ?_ ?_) | omega | decide | fail)
  | k + 1, i, x, s3, s4, f, g, he, hx, hX, hF => by
    subst hx
    have hc : f 150 8 = nI n := (hF 150 8 (by omega)).trans h0
    refine at_X3_seat ?_
    conv => whnf
    try simp only [hc]
    refine ⟨fun c => absurd c (nI_nlt (a := n) (b := i) (by omega) (by omega)), fun c => ?_⟩
    conv => whnf
    repeat' first
      | exact sx_seat1_lp hd hm h0 hw H k (i + 1) _ _ _ _ _ (by omega) (nI_1 i) (by repeat' first | (with_reducible assumption) | (with_reducible refine XI_ui ?_ ?_) | (with_reducible refine XI_fil ?_ (fun _ => ?_)) | (with_reducible refine XI_cpy ?_ (fun _ _ => ?_)) | exact True.intro | ((show inr _ _ _); first | (with_reducible assumption) | (unfold inr; decide)) | fail) (by repeat' first | (with_reducible exact fx_refl _ _ _) | (with_reducible assumption) | (with_reducible refine fx_ui ?_ ?_ ?_) | (with_reducible refine fx_fil ?_ ?_ ?_) | (with_reducible refine fx_cpy ?_ ?_ ?_) | omega | decide | fail)
      | (simp only [hc])
      | ((with_reducible refine ⟨vp_in_nI (by omega) (by decide), ?_⟩) <;> conv => whnf)
      | (refine ⟨Or.inl rfl, ?_⟩ <;> conv => whnf)
      | (refine ⟨Or.inr rfl, ?_⟩ <;> conv => whnf)
      | (refine ⟨Or.inl True.intro, ?_⟩ <;> conv => whnf)
      | (refine ⟨Or.inr True.intro, ?_⟩ <;> conv => whnf)
      | (refine ⟨fun c => ?_, fun c => ?_⟩ <;> first | ((have c9 : (1 : Int32) = 0 := by with_reducible exact c); exact absurd c9 (by decide)) | exact absurd (rfl : (0 : Int32) = 0) (by with_reducible exact c) | exact absurd True.intro (by with_reducible exact c) | exact False.elim (by with_reducible exact c) | (conv => whnf))
      | (refine ⟨by unfold vp_in; decide, ?_⟩ <;> conv => whnf)
      | fail
    all_goals exact H _ _ (by repeat' first | (with_reducible assumption) | (with_reducible refine XI_ui ?_ ?_) | (with_reducible refine XI_fil ?_ (fun _ => ?_)) | (with_reducible refine XI_cpy ?_ (fun _ _ => ?_)) | exact True.intro | ((show inr _ _ _); first | (with_reducible assumption) | (unfold inr; decide)) | fail) (by repeat' first | (with_reducible exact fx_refl _ _ _) | (with_reducible assumption) | (with_reducible refine fx_ui ?_ ?_ ?_) | (with_reducible refine fx_fil ?_ ?_ ?_) | (with_reducible refine fx_cpy ?_ ?_ ?_) | omega | decide | fail)
set_option maxRecDepth 100000 in
set_option maxHeartbeats 4000000 in
theorem sx_seat {d L : Nat} {f : Nat → Nat → Int32} {g : Nat → Nat → Int64} {w : Int32} {R : Option Value → mH → Prop} (hd : 5 ≤ d) (hX : XI f) (hw : inr 0 8 w) (H : ∀ f' g', XI f' → fx 160 166 f f' → R none (shF L, f', g')) : Run mtab d 30 [.ref 150, .int w] (shF L, f, g) R := by
  obtain ⟨d, rfl⟩ : ∃ e, d = e + 1 := ⟨d - 1, by omega⟩
  refine go_X3_seat rfl ?_
  conv => whnf
  obtain ⟨n, hm, hc⟩ := inr_nat (n := 48) rfl (xi_150_8 hX)
  refine ct_fillL (n := 49) (by omega) rfl (by decide) (fun g1 => ?_)
  conv => whnf
  exact sx_seat1_lp (by omega) hm hc hw H (n + 1) 0 _ _ _ _ _ (by omega) rfl hX (fx_refl _ _ _)
set_option maxRecDepth 100000 in
set_option maxHeartbeats 4000000 in
theorem sx_sol2_lp {d L n : Nat} {f0 : Nat → Nat → Int32}  {R : Option Value → mH → Prop} (hd : 3 ≤ d) (hm : n ≤ 8) (h0 : f0 150 7 = nI n) (H : ∀ v f' g', XI f' → fx 160 166 f0 f' → R (some (.long v)) (shF L, f', g'))  :
    ∀ (k i : Nat) (x : Int32) (lw : Int64) (s4 : Option Value) (f : Nat → Nat → Int32) (g : Nat → Nat → Int64), i + k = n → x = nI i → XI f → fx 160 166 f0 f → WPe pg_X3_solve none (Run mtab d) R (m_drop pg_X3_solve 27) [some (.ref 150), some (.long lw), none, some (.int x), s4] [] (shF L, f, g)
  | 0, i, x, lw, s4, f, g, he, hx, hX, hF => by
    have e : i = n := by omega
    subst hx
    have hc : f 150 7 = nI n := (hF 150 7 (by omega)).trans h0
    subst e
    refine at_X3_solve ?_
    conv => whnf
    try simp only [hc]
    refine ⟨fun c => ?_, fun c => absurd (nI_le (Nat.le_refl _) (by omega)) c⟩
    conv => whnf
    repeat' first
      | ((with_reducible refine ⟨vpi2 hv (i32_nlt.mpr (by assumption)) (by decide), ?_⟩) <;> conv => whnf)
      | ((with_reducible refine ⟨vpi2 hv (by assumption) (by decide), ?_⟩) <;> conv => whnf)
      | (simp only [hc])
      | ((with_reducible refine ⟨vp_in_nI (by omega) (by decide), ?_⟩) <;> conv => whnf)
      | (refine ⟨Or.inl rfl, ?_⟩ <;> conv => whnf)
      | (refine ⟨Or.inr rfl, ?_⟩ <;> conv => whnf)
      | (refine ⟨Or.inl True.intro, ?_⟩ <;> conv => whnf)
      | (refine ⟨Or.inr True.intro, ?_⟩ <;> conv => whnf)
      | (refine ⟨fun c => ?_, fun c => ?_⟩ <;> first | ((have c9 : (1 : Int32) = 0 := by with_reducible exact c); exact absurd c9 (by decide)) | exact absurd (rfl : (0 : Int32) = 0) (by with_reducible exact c) | exact absurd True.intro (by with_reducible exact c) | exact False.elim (by with_reducible exact c) | (conv => whnf))
      | (refine ⟨by unfold vp_in; decide, ?_⟩ <;> conv => whnf)
      | fail
    all_goals exact H _ _ _ (by repeat' first | (with_reducible assumption) | (with_reducible refine XI_ui ?_ ?_) | (with_reducible refine XI_fil ?_ (fun _ => ?_)) | (with_reducible refine XI_cpy ?_ (fun _ _ => ?_)) | exact True.intro | ((show inr _ _ _); first | (with_reducible assumption) | (unfold inr; decide)) | fail) (by repeat' first | (with_reducible exact fx_refl _ _ _) | (with_reducible assumption) | (with_reducible refine fx_ui ?_ ?_ ?_) | (with_reducible refine fx_fil ?_ ?_ ?_) | (with_reducible refine fx_cpy ?_ ?_ ?_) | omega | decide | fail)
  | k + 1, i, x, lw, s4, f, g, he, hx, hX, hF => by
    subst hx
    have hc : f 150 7 = nI n := (hF 150 7 (by omega)).trans h0
    have hcl : (nI i).toNatClampNeg = i := nI_clamp (by omega)
    have hrow := row_151 i (by omega)
    have hshp := shp_151 L i (by omega)
    refine at_X3_solve ?_
    conv => whnf
    try simp only [hc]
    refine ⟨fun c => absurd c (nI_ge (b := n) (by omega) (by omega)), fun c => ?_⟩
    conv => whnf
    repeat' first
      | exact sx_sol2_lp hd hm h0 H k (i + 1) _ _ _ _ _ (by omega) (nI_1 i) (by repeat' first | (with_reducible assumption) | (with_reducible refine XI_ui ?_ ?_) | (with_reducible refine XI_fil ?_ (fun _ => ?_)) | (with_reducible refine XI_cpy ?_ (fun _ _ => ?_)) | exact True.intro | ((show inr _ _ _); first | (with_reducible assumption) | (unfold inr; decide)) | fail) (by repeat' first | (with_reducible exact fx_refl _ _ _) | (with_reducible assumption) | (with_reducible refine fx_ui ?_ ?_ ?_) | (with_reducible refine fx_fil ?_ ?_ ?_) | (with_reducible refine fx_cpy ?_ ?_ ?_) | omega | decide | fail)
      | ((with_reducible refine ⟨vpi2 hv (i32_nlt.mpr (by assumption)) (by decide), ?_⟩) <;> conv => whnf)
      | ((with_reducible refine ⟨vpi2 hv (by assumption) (by decide), ?_⟩) <;> conv => whnf)
      | (simp only [hc])
      | ((with_reducible refine ⟨vp_in_nI (by omega) (by decide), ?_⟩) <;> conv => whnf)
      | (refine ⟨Or.inl rfl, ?_⟩ <;> conv => whnf)
      | (refine ⟨Or.inr rfl, ?_⟩ <;> conv => whnf)
      | (refine ⟨Or.inl True.intro, ?_⟩ <;> conv => whnf)
      | (refine ⟨Or.inr True.intro, ?_⟩ <;> conv => whnf)
      | (refine ⟨fun c => ?_, fun c => ?_⟩ <;> first | ((have c9 : (1 : Int32) = 0 := by with_reducible exact c); exact absurd c9 (by decide)) | exact absurd (rfl : (0 : Int32) = 0) (by with_reducible exact c) | exact absurd True.intro (by with_reducible exact c) | exact False.elim (by with_reducible exact c) | (conv => whnf))
      | (refine sx_columnOf (by omega) hX (fun v hv _ f1 g1 h1 k1 => ?_) <;> (have k1' := fx_trans hF k1) <;> conv => whnf)
      | ((refine ⟨⟨vp_in_nI (by omega) (by decide), by rw [hcl]; show i < 8; omega, by rw [hcl, hrow]; rfl⟩, ?_⟩) <;> simp only [hcl, hrow, Option.getD_some] <;> conv => whnf)
      | ((simp only [m_act_eq, mi, mj, m_act0, m_arr, hshp]) <;> conv => whnf)
      | (refine ⟨by unfold vp_in; decide, ?_⟩ <;> conv => whnf)
      | fail
    all_goals exact H _ _ _ (by repeat' first | (with_reducible assumption) | (with_reducible refine XI_ui ?_ ?_) | (with_reducible refine XI_fil ?_ (fun _ => ?_)) | (with_reducible refine XI_cpy ?_ (fun _ _ => ?_)) | exact True.intro | ((show inr _ _ _); first | (with_reducible assumption) | (unfold inr; decide)) | fail) (by repeat' first | (with_reducible exact fx_refl _ _ _) | (with_reducible assumption) | (with_reducible refine fx_ui ?_ ?_ ?_) | (with_reducible refine fx_fil ?_ ?_ ?_) | (with_reducible refine fx_cpy ?_ ?_ ?_) | omega | decide | fail)
set_option maxRecDepth 100000 in
set_option maxHeartbeats 4000000 in
theorem sx_sol1_lp {d L n : Nat} {f0 : Nat → Nat → Int32}  {R : Option Value → mH → Prop} (hd : 5 ≤ d) (hm : n ≤ 8) (h0 : f0 150 7 = nI n) (H : ∀ v f' g', XI f' → fx 160 166 f0 f' → R (some (.long v)) (shF L, f', g'))  :
    ∀ (k i : Nat) (x : Int32) (s2 : Option Value) (s3 : Option Value) (s4 : Option Value) (f : Nat → Nat → Int32) (g : Nat → Nat → Int64), i + k = n + 1 → x = nI i → XI f → fx 160 166 f0 f → 1 ≤ i → WPe pg_X3_solve none (Run mtab d) R (m_drop pg_X3_solve 14) [some (.ref 150), some (.int x), s2, s3, s4] [] (shF L, f, g)
  | 0, i, x, s2, s3, s4, f, g, he, hx, hX, hF, h1i => by
    have e : i = n + 1 := by omega
    subst hx
    have hc : f 150 7 = nI n := (hF 150 7 (by omega)).trans h0
    subst e
    refine at_X3_solve ?_
    conv => whnf
    try simp only [hc]
    refine ⟨fun c => ?_, fun c => absurd (nI_lt (a := n) (b := n + 1) (by omega) (by omega)) c⟩
    conv => whnf
    repeat' first
      | exact sx_sol2_lp (by omega) hm h0 H n 0 _ _ _ _ _ (by omega) rfl hX hF
      | (simp only [hc])
      | ((with_reducible refine ⟨vp_in_nI (by omega) (by decide), ?_⟩) <;> conv => whnf)
      | (refine ⟨Or.inl rfl, ?_⟩ <;> conv => whnf)
      | (refine ⟨Or.inr rfl, ?_⟩ <;> conv => whnf)
      | (refine ⟨Or.inl True.intro, ?_⟩ <;> conv => whnf)
      | (refine ⟨Or.inr True.intro, ?_⟩ <;> conv => whnf)
      | (refine ⟨fun c => ?_, fun c => ?_⟩ <;> first | ((have c9 : (1 : Int32) = 0 := by with_reducible exact c); exact absurd c9 (by decide)) | exact absurd (rfl : (0 : Int32) = 0) (by with_reducible exact c) | exact absurd True.intro (by with_reducible exact c) | exact False.elim (by with_reducible exact c) | (conv => whnf))
      | (refine sx_seat (by omega) hX (inr_n (m := 8) (by omega) rfl (by decide)) (fun f1 g1 h1 k1 => ?_) <;> (have k1' := fx_trans hF k1) <;> conv => whnf)
      | (refine ⟨by unfold vp_in; decide, ?_⟩ <;> conv => whnf)
      | fail
    all_goals exact H _ _ _ (by repeat' first | (with_reducible assumption) | (with_reducible refine XI_ui ?_ ?_) | (with_reducible refine XI_fil ?_ (fun _ => ?_)) | (with_reducible refine XI_cpy ?_ (fun _ _ => ?_)) | exact True.intro | ((show inr _ _ _); first | (with_reducible assumption) | (unfold inr; decide)) | fail) (by repeat' first | (with_reducible exact fx_refl _ _ _) | (with_reducible assumption) | (with_reducible refine fx_ui ?_ ?_ ?_) | (with_reducible refine fx_fil ?_ ?_ ?_) | (with_reducible refine fx_cpy ?_ ?_ ?_) | omega | decide | fail)
  | k + 1, i, x, s2, s3, s4, f, g, he, hx, hX, hF, h1i => by
    subst hx
    have hc : f 150 7 = nI n := (hF 150 7 (by omega)).trans h0
    refine at_X3_solve ?_
    conv => whnf
    try simp only [hc]
    refine ⟨fun c => absurd c (nI_nlt (a := n) (b := i) (by omega) (by omega)), fun c => ?_⟩
    conv => whnf
    repeat' first
      | exact sx_sol1_lp hd hm h0 H k (i + 1) _ _ _ _ _ _ (by omega) (nI_1 i) (by repeat' first | (with_reducible assumption) | (with_reducible refine XI_ui ?_ ?_) | (with_reducible refine XI_fil ?_ (fun _ => ?_)) | (with_reducible refine XI_cpy ?_ (fun _ _ => ?_)) | exact True.intro | ((show inr _ _ _); first | (with_reducible assumption) | (unfold inr; decide)) | fail) (by repeat' first | (with_reducible exact fx_refl _ _ _) | (with_reducible assumption) | (with_reducible refine fx_ui ?_ ?_ ?_) | (with_reducible refine fx_fil ?_ ?_ ?_) | (with_reducible refine fx_cpy ?_ ?_ ?_) | omega | decide | fail) (by omega)
      | (simp only [hc])
      | ((with_reducible refine ⟨vp_in_nI (by omega) (by decide), ?_⟩) <;> conv => whnf)
      | (refine ⟨Or.inl rfl, ?_⟩ <;> conv => whnf)
      | (refine ⟨Or.inr rfl, ?_⟩ <;> conv => whnf)
      | (refine ⟨Or.inl True.intro, ?_⟩ <;> conv => whnf)
      | (refine ⟨Or.inr True.intro, ?_⟩ <;> conv => whnf)
      | (refine ⟨fun c => ?_, fun c => ?_⟩ <;> first | ((have c9 : (1 : Int32) = 0 := by with_reducible exact c); exact absurd c9 (by decide)) | exact absurd (rfl : (0 : Int32) = 0) (by with_reducible exact c) | exact absurd True.intro (by with_reducible exact c) | exact False.elim (by with_reducible exact c) | (conv => whnf))
      | (refine sx_seat (by omega) hX (inr_n (m := 8) (by omega) rfl (by decide)) (fun f1 g1 h1 k1 => ?_) <;> (have k1' := fx_trans hF k1) <;> conv => whnf)
      | (refine ⟨by unfold vp_in; decide, ?_⟩ <;> conv => whnf)
      | fail
    all_goals exact H _ _ _ (by repeat' first | (with_reducible assumption) | (with_reducible refine XI_ui ?_ ?_) | (with_reducible refine XI_fil ?_ (fun _ => ?_)) | (with_reducible refine XI_cpy ?_ (fun _ _ => ?_)) | exact True.intro | ((show inr _ _ _); first | (with_reducible assumption) | (unfold inr; decide)) | fail) (by repeat' first | (with_reducible exact fx_refl _ _ _) | (with_reducible assumption) | (with_reducible refine fx_ui ?_ ?_ ?_) | (with_reducible refine fx_fil ?_ ?_ ?_) | (with_reducible refine fx_cpy ?_ ?_ ?_) | omega | decide | fail)
set_option maxRecDepth 100000 in
set_option maxHeartbeats 4000000 in
theorem sx_solve {d L : Nat} {f : Nat → Nat → Int32} {g : Nat → Nat → Int64}  {R : Option Value → mH → Prop} (hd : 6 ≤ d) (hX : XI f) (H : ∀ v f' g', XI f' → fx 160 166 f f' → R (some (.long v)) (shF L, f', g')) : Run mtab d 28 [.ref 150] (shF L, f, g) R := by
  obtain ⟨d, rfl⟩ : ∃ e, d = e + 1 := ⟨d - 1, by omega⟩
  refine go_X3_solve rfl ?_
  conv => whnf
  obtain ⟨n, hm, hc⟩ := inr_nat (n := 8) rfl (xi_150_7 hX)
  refine ct_fillL (n := 9) (by omega) rfl (by decide) (fun g1 => ?_)
  conv => whnf
  refine ct_fillL (n := 49) (by omega) rfl (by decide) (fun g2 => ?_)
  conv => whnf
  refine ct_fill (n := 49) (by omega) rfl (by decide) ?_
  conv => whnf
  exact sx_sol1_lp (by omega) hm hc H n 1 _ _ _ _ _ _ (by omega) rfl (by repeat' first | (with_reducible assumption) | (with_reducible refine XI_ui ?_ ?_) | (with_reducible refine XI_fil ?_ (fun _ => ?_)) | (with_reducible refine XI_cpy ?_ (fun _ _ => ?_)) | exact True.intro | ((show inr _ _ _); first | (with_reducible assumption) | (unfold inr; decide)) | fail) (by repeat' first | (with_reducible exact fx_refl _ _ _) | (with_reducible assumption) | (with_reducible refine fx_ui ?_ ?_ ?_) | (with_reducible refine fx_fil ?_ ?_ ?_) | (with_reducible refine fx_cpy ?_ ?_ ?_) | omega | decide | fail) (by omega)
set_option maxRecDepth 100000 in
set_option maxHeartbeats 4000000 in
theorem ti_lp {d L j q : Nat} {f : Nat → Nat → Int32} {g : Nat → Nat → Int64} {y : Int32} {R : Option Value → mH → Prop} (hj : j < 40) (hX : XI f) (hq : f 96 (nI j).toNatClampNeg = nI q) (hq4 : q ≤ 4) (H : ∀ v, R (some (.int v)) (shF L, f, g)) :
    ∀ (k i : Nat) (x b : Int32), i + k = 4 → x = nI i → inr 0 3 b → WPe pg_X8_titleIn none (Run mtab d) R (m_drop pg_X8_titleIn 4) [some (.ref 6), some (.int (nI j)), some (.int y), some (.int b), some (.int x)] [] (shF L, f, g)
  | 0, i, x, b, hk, hx, hb => by
    subst hx
    have hcl : (nI j).toNatClampNeg = j := nI_clamp (by omega)
    refine at_X8_titleIn ?_
    conv => whnf
    repeat' first
      | ((with_reducible refine ⟨vpi hb (by decide), ?_⟩) <;> conv => whnf)
      | (simp only [hq])
      | ((with_reducible refine ⟨vp_in_nI (by omega) (by decide), ?_⟩) <;> conv => whnf)
      | (refine ⟨Or.inl rfl, ?_⟩ <;> conv => whnf)
      | (refine ⟨Or.inr rfl, ?_⟩ <;> conv => whnf)
      | (refine ⟨Or.inl True.intro, ?_⟩ <;> conv => whnf)
      | (refine ⟨Or.inr True.intro, ?_⟩ <;> conv => whnf)
      | (refine ⟨fun c => ?_, fun c => ?_⟩ <;> first | ((have c9 : (1 : Int32) = 0 := by with_reducible exact c); exact absurd c9 (by decide)) | exact absurd (rfl : (0 : Int32) = 0) (by with_reducible exact c) | exact absurd True.intro (by with_reducible exact c) | exact False.elim (by with_reducible exact c) | exact (c (nI_le (by omega) (by omega))).elim | (conv => whnf))
      | ((refine ⟨⟨vp_in_nI (by omega) (by decide), by rw [hcl]; show j < 40; omega, by rw [hcl, row_14 j hj]; rfl⟩, ?_⟩) <;> simp only [hcl, row_14 j hj, Option.getD_some] <;> conv => whnf)
      | ((refine ⟨⟨vp_in_nI (by omega) (by decide), by rw [hcl]; show j < 40; omega, by rw [hcl, row_55 j hj]; rfl⟩, ?_⟩) <;> simp only [hcl, row_55 j hj, Option.getD_some] <;> conv => whnf)
      | ((simp only [m_act_eq, mi, mj, m_act0, m_arr2, m_arr, shp_14 L j hj, shp_55 L j hj]) <;> conv => whnf)
      | (refine ⟨by unfold vp_in; decide, ?_⟩ <;> conv => whnf)
      | fail
    all_goals exact H _
  | k + 1, i, x, b, hk, hx, hb => by
    subst hx
    have hcl : (nI j).toNatClampNeg = j := nI_clamp (by omega)
    refine at_X8_titleIn ?_
    conv => whnf
    repeat' first
      | exact ti_lp hj hX hq hq4 H k (i + 1) _ _ (by omega) (nI_1 i) (by first | (with_reducible assumption) | exact inr_n (m := 3) (by omega) rfl (by decide))
      | ((with_reducible refine ⟨vpi hb (by decide), ?_⟩) <;> conv => whnf)
      | (simp only [hq])
      | ((with_reducible refine ⟨vp_in_nI (by omega) (by decide), ?_⟩) <;> conv => whnf)
      | (refine ⟨Or.inl rfl, ?_⟩ <;> conv => whnf)
      | (refine ⟨Or.inr rfl, ?_⟩ <;> conv => whnf)
      | (refine ⟨Or.inl True.intro, ?_⟩ <;> conv => whnf)
      | (refine ⟨Or.inr True.intro, ?_⟩ <;> conv => whnf)
      | (refine ⟨fun c => ?_, fun c => ?_⟩ <;> first | ((have c9 : (1 : Int32) = 0 := by with_reducible exact c); exact absurd c9 (by decide)) | exact absurd (rfl : (0 : Int32) = 0) (by with_reducible exact c) | exact absurd True.intro (by with_reducible exact c) | exact False.elim (by with_reducible exact c) | (conv => whnf))
      | ((refine ⟨⟨vp_in_nI (by omega) (by decide), by rw [hcl]; show j < 40; omega, by rw [hcl, row_14 j hj]; rfl⟩, ?_⟩) <;> simp only [hcl, row_14 j hj, Option.getD_some] <;> conv => whnf)
      | ((refine ⟨⟨vp_in_nI (by omega) (by decide), by rw [hcl]; show j < 40; omega, by rw [hcl, row_55 j hj]; rfl⟩, ?_⟩) <;> simp only [hcl, row_55 j hj, Option.getD_some] <;> conv => whnf)
      | ((simp only [m_act_eq, mi, mj, m_act0, m_arr2, m_arr, shp_14 L j hj, shp_55 L j hj]) <;> conv => whnf)
      | (refine ⟨by unfold vp_in; decide, ?_⟩ <;> conv => whnf)
      | fail
    all_goals exact H _
set_option maxRecDepth 100000 in
set_option maxHeartbeats 4000000 in
theorem sx_titleIn {d L : Nat} {f : Nat → Nat → Int32} {g : Nat → Nat → Int64} {j : Nat} {y : Int32} {R : Option Value → mH → Prop} (hd : 2 ≤ d) (hX : XI f) (hj : j < 40) (H : ∀ v, R (some (.int v)) (shF L, f, g)) : Run mtab d 73 [.ref 6, .int (nI j), .int y] (shF L, f, g) R := by
  obtain ⟨d, rfl⟩ : ∃ e, d = e + 1 := ⟨d - 1, by omega⟩
  refine go_X8_titleIn rfl ?_
  conv => whnf
  obtain ⟨q, hq4, hq⟩ := inr_nat (n := 4) rfl (xi_96 hX (nI j).toNatClampNeg)
  exact ti_lp hj hX hq hq4 H 3 1 _ _ (by omega) rfl (show inr 0 3 0 by unfold inr; decide)
set_option maxRecDepth 100000 in
set_option maxHeartbeats 4000000 in
theorem sx_areSidesFit {d L : Nat} {f : Nat → Nat → Int32} {g : Nat → Nat → Int64} {j : Nat} {x y : Int32} {R : Option Value → mH → Prop} (hd : 2 ≤ d) (hX : XI f) (hj : j < 50) (H : ∀ v, (v = 0 ∨ v = 1) → R (some (.int v)) (shF L, f, g)) : Run mtab d 41 [.ref 139, .int (nI j), .int x, .int y] (shF L, f, g) R := by
  obtain ⟨d, rfl⟩ : ∃ e, d = e + 1 := ⟨d - 1, by omega⟩
  refine go_X4_areSidesFit rfl ?_
  conv => whnf
  repeat' first
    | ((with_reducible refine ⟨show ¬ (20 : Int32) = 0 by decide, ?_⟩) <;> conv => whnf)
    | ((with_reducible refine ⟨vp_in_nI (by omega) (by decide), ?_⟩) <;> conv => whnf)
    | (refine ⟨Or.inl rfl, ?_⟩ <;> conv => whnf)
    | (refine ⟨Or.inr rfl, ?_⟩ <;> conv => whnf)
    | (refine ⟨Or.inl True.intro, ?_⟩ <;> conv => whnf)
    | (refine ⟨Or.inr True.intro, ?_⟩ <;> conv => whnf)
    | (refine ⟨fun c => ?_, fun c => ?_⟩ <;> first | ((have c9 : (1 : Int32) = 0 := by with_reducible exact c); exact absurd c9 (by decide)) | exact absurd (rfl : (0 : Int32) = 0) (by with_reducible exact c) | exact absurd True.intro (by with_reducible exact c) | exact False.elim (by with_reducible exact c) | (conv => whnf))
    | (refine rq_max (by omega) (fun v => ?_) <;> conv => whnf)
    | (refine rq_min (by omega) (fun v => ?_) <;> conv => whnf)
    | (refine ⟨by unfold vp_in; decide, ?_⟩ <;> conv => whnf)
    | fail
  all_goals first | exact ⟨Or.inl rfl, H _ (Or.inl rfl)⟩ | exact ⟨Or.inr rfl, H _ (Or.inr rfl)⟩ | exact H _ (Or.inl rfl) | exact H _ (Or.inr rfl)
set_option maxRecDepth 100000 in
set_option maxHeartbeats 4000000 in
theorem sx_isSizeFit {d L : Nat} {f : Nat → Nat → Int32} {g : Nat → Nat → Int64} {j w : Nat} {R : Option Value → mH → Prop} (hd : 3 ≤ d) (hX : XI f) (hj : j < 50) (hj2 : w < 40) (H : ∀ v, (v = 0 ∨ v = 1) → R (some (.int v)) (shF L, f, g)) : Run mtab d 40 [.ref 139, .int (nI j), .int (nI w)] (shF L, f, g) R := by
  obtain ⟨d, rfl⟩ : ∃ e, d = e + 1 := ⟨d - 1, by omega⟩
  refine go_X4_isSizeFit rfl ?_
  conv => whnf
  repeat' first
    | ((with_reducible refine ⟨vp_in_nI (by omega) (by decide), ?_⟩) <;> conv => whnf)
    | (refine ⟨Or.inl rfl, ?_⟩ <;> conv => whnf)
    | (refine ⟨Or.inr rfl, ?_⟩ <;> conv => whnf)
    | (refine ⟨Or.inl True.intro, ?_⟩ <;> conv => whnf)
    | (refine ⟨Or.inr True.intro, ?_⟩ <;> conv => whnf)
    | (refine ⟨fun c => ?_, fun c => ?_⟩ <;> first | ((have c9 : (1 : Int32) = 0 := by with_reducible exact c); exact absurd c9 (by decide)) | exact absurd (rfl : (0 : Int32) = 0) (by with_reducible exact c) | exact absurd True.intro (by with_reducible exact c) | exact False.elim (by with_reducible exact c) | (conv => whnf))
    | (refine sx_heightIn (by omega) hX hj2 (fun v => ?_) <;> conv => whnf)
    | (refine sx_widthIn (by omega) hX hj2 (fun v => ?_) <;> conv => whnf)
    | (refine sx_areSidesFit (by omega) hX hj (fun v hv => ?_) <;> conv => whnf)
    | (refine ⟨by unfold vp_in; decide, ?_⟩ <;> conv => whnf)
    | fail
  all_goals first | exact ⟨Or.inl rfl, H _ (Or.inl rfl)⟩ | exact ⟨Or.inr rfl, H _ (Or.inr rfl)⟩ | exact H _ (Or.inl rfl) | exact H _ (Or.inr rfl)
set_option maxRecDepth 100000 in
set_option maxHeartbeats 4000000 in
theorem sx_bitCount {d L : Nat} {f : Nat → Nat → Int32} {g : Nat → Nat → Int64} {x : Int32} {R : Option Value → mH → Prop} (hd : 1 ≤ d) (hX : XI f) (H : ∀ v, R (some (.int v)) (shF L, f, g)) : Run mtab d 241 [.int x] (shF L, f, g) R := by
  obtain ⟨d, rfl⟩ : ∃ e, d = e + 1 := ⟨d - 1, by omega⟩
  refine go_J6_bitCount_0f7a4 rfl ?_
  conv => whnf
  exact H _
set_option maxRecDepth 100000 in
set_option maxHeartbeats 4000000 in
theorem sx_scoreFor {d L : Nat} {f : Nat → Nat → Int32} {g : Nat → Nat → Int64} {j w : Nat} {R : Option Value → mH → Prop} (hd : 4 ≤ d) (hX : XI f) (hj : j < 50) (hj2 : w < 40) (H : ∀ v, R (some (.int v)) (shF L, f, g)) : Run mtab d 37 [.ref 139, .int (nI j), .int (nI w)] (shF L, f, g) R := by
  obtain ⟨d, rfl⟩ : ∃ e, d = e + 1 := ⟨d - 1, by omega⟩
  refine go_X4_scoreFor rfl ?_
  conv => whnf
  repeat' first
    | ((with_reducible refine ⟨vp_in_nI (by omega) (by decide), ?_⟩) <;> conv => whnf)
    | (refine ⟨Or.inl rfl, ?_⟩ <;> conv => whnf)
    | (refine ⟨Or.inr rfl, ?_⟩ <;> conv => whnf)
    | (refine ⟨Or.inl True.intro, ?_⟩ <;> conv => whnf)
    | (refine ⟨Or.inr True.intro, ?_⟩ <;> conv => whnf)
    | (refine ⟨fun c => ?_, fun c => ?_⟩ <;> first | ((have c9 : (1 : Int32) = 0 := by with_reducible exact c); exact absurd c9 (by decide)) | exact absurd (rfl : (0 : Int32) = 0) (by with_reducible exact c) | exact absurd True.intro (by with_reducible exact c) | exact False.elim (by with_reducible exact c) | (conv => whnf))
    | (refine sx_isSizeFit (by omega) hX hj hj2 (fun v hv => ?_) <;> conv => whnf)
    | (refine sx_titleIn (by omega) hX hj2 (fun v => ?_) <;> conv => whnf)
    | (refine sx_bitCount (by omega) hX (fun v => ?_) <;> conv => whnf)
    | (refine sx_theOwner (by omega) hX (fun v => ?_) <;> conv => whnf)
    | (refine ⟨by unfold vp_in; decide, ?_⟩ <;> conv => whnf)
    | fail
  all_goals exact H _
set_option maxRecDepth 100000 in
set_option maxHeartbeats 4000000 in
theorem sx_cfits_lp {d L n : Nat} {f : Nat → Nat → Int32} {g : Nat → Nat → Int64} {p : Nat} {R : Option Value → mH → Prop} (hd : 4 ≤ d) (hX : XI f) (hb : f 6 13 = nI n) (hm : n ≤ 40) (hp : p < 50) (H : ∀ v, R (some (.int v)) (shF L, f, g)) :
    ∀ (k i : Nat) (x : Int32) (a : Int32), i + k = n → x = nI i → WPe pg_X4_countFits none (Run mtab d) R (m_drop pg_X4_countFits 4) [some (.ref 139), some (.int (nI p)), some (.int a), some (.int x)] [] (shF L, f, g)
  | 0, i, x, a, hi, hx => by
    have e : i = n := by omega
    subst hx
    subst e
    refine at_X4_countFits ?_
    conv => whnf
    simp only [hb]
    refine ⟨fun c => ?_, fun c => absurd (nI_le (Nat.le_refl _) (by omega)) c⟩
    conv => whnf
    repeat' first
      | (simp only [hb])
      | ((with_reducible refine ⟨vp_in_nI (by omega) (by decide), ?_⟩) <;> conv => whnf)
      | (refine ⟨Or.inl rfl, ?_⟩ <;> conv => whnf)
      | (refine ⟨Or.inr rfl, ?_⟩ <;> conv => whnf)
      | (refine ⟨Or.inl True.intro, ?_⟩ <;> conv => whnf)
      | (refine ⟨Or.inr True.intro, ?_⟩ <;> conv => whnf)
      | (refine ⟨fun c => ?_, fun c => ?_⟩ <;> first | ((have c9 : (1 : Int32) = 0 := by with_reducible exact c); exact absurd c9 (by decide)) | exact absurd (rfl : (0 : Int32) = 0) (by with_reducible exact c) | exact absurd True.intro (by with_reducible exact c) | exact False.elim (by with_reducible exact c) | (conv => whnf))
      | (refine sx_scoreFor (by omega) hX hp (by omega) (fun v => ?_) <;> conv => whnf)
      | (refine ⟨by unfold vp_in; decide, ?_⟩ <;> conv => whnf)
      | fail
    all_goals exact H _
  | k + 1, i, x, a, hi, hx => by
    subst hx
    refine at_X4_countFits ?_
    conv => whnf
    simp only [hb]
    refine ⟨fun c => absurd c (nI_ge (b := n) (by omega) (by omega)), fun c => ?_⟩
    conv => whnf
    repeat' first
      | exact sx_cfits_lp hd hX hb hm hp H k (i + 1) _ _ (by omega) (nI_1 i)
      | (simp only [hb])
      | ((with_reducible refine ⟨vp_in_nI (by omega) (by decide), ?_⟩) <;> conv => whnf)
      | (refine ⟨Or.inl rfl, ?_⟩ <;> conv => whnf)
      | (refine ⟨Or.inr rfl, ?_⟩ <;> conv => whnf)
      | (refine ⟨Or.inl True.intro, ?_⟩ <;> conv => whnf)
      | (refine ⟨Or.inr True.intro, ?_⟩ <;> conv => whnf)
      | (refine ⟨fun c => ?_, fun c => ?_⟩ <;> first | ((have c9 : (1 : Int32) = 0 := by with_reducible exact c); exact absurd c9 (by decide)) | exact absurd (rfl : (0 : Int32) = 0) (by with_reducible exact c) | exact absurd True.intro (by with_reducible exact c) | exact False.elim (by with_reducible exact c) | (conv => whnf))
      | (refine sx_scoreFor (by omega) hX hp (by omega) (fun v => ?_) <;> conv => whnf)
      | (refine ⟨by unfold vp_in; decide, ?_⟩ <;> conv => whnf)
      | fail
    all_goals exact H _
set_option maxRecDepth 100000 in
set_option maxHeartbeats 4000000 in
theorem sx_countFits {d L : Nat} {f : Nat → Nat → Int32} {g : Nat → Nat → Int64} {p : Nat} {R : Option Value → mH → Prop} (hd : 5 ≤ d) (hX : XI f) (hp : p < 50) (H : ∀ v, R (some (.int v)) (shF L, f, g)) : Run mtab d 38 [.ref 139, .int (nI p)] (shF L, f, g) R := by
  obtain ⟨d, rfl⟩ : ∃ e, d = e + 1 := ⟨d - 1, by omega⟩
  refine go_X4_countFits rfl ?_
  conv => whnf
  obtain ⟨n, hm, hn⟩ := inr_nat (n := 40) rfl (xi_6 hX 13)
  exact sx_cfits_lp (by omega) hX hn hm hp H n 0 _ _ (by omega) rfl
set_option maxRecDepth 100000 in
set_option maxHeartbeats 4000000 in
theorem sx_clost_lp {d L n : Nat} {f : Nat → Nat → Int32} {g : Nat → Nat → Int64}  {R : Option Value → mH → Prop} (hd : 5 ≤ d) (hX : XI f) (hb : f 139 13 = nI n) (hm : n ≤ 50) (H : ∀ v, R (some (.int v)) (shF L, f, g)) :
    ∀ (k i : Nat) (x : Int32) (a : Int32), i + k = n → x = nI i → WPe pg_X4_countLost none (Run mtab d) R (m_drop pg_X4_countLost 4) [some (.ref 139), some (.int a), some (.int x)] [] (shF L, f, g)
  | 0, i, x, a, hi, hx => by
    have e : i = n := by omega
    subst hx
    subst e
    refine at_X4_countLost ?_
    conv => whnf
    simp only [hb]
    refine ⟨fun c => ?_, fun c => absurd (nI_le (Nat.le_refl _) (by omega)) c⟩
    conv => whnf
    repeat' first
      | (simp only [hb])
      | ((with_reducible refine ⟨vp_in_nI (by omega) (by decide), ?_⟩) <;> conv => whnf)
      | (refine ⟨Or.inl rfl, ?_⟩ <;> conv => whnf)
      | (refine ⟨Or.inr rfl, ?_⟩ <;> conv => whnf)
      | (refine ⟨Or.inl True.intro, ?_⟩ <;> conv => whnf)
      | (refine ⟨Or.inr True.intro, ?_⟩ <;> conv => whnf)
      | (refine ⟨fun c => ?_, fun c => ?_⟩ <;> first | ((have c9 : (1 : Int32) = 0 := by with_reducible exact c); exact absurd c9 (by decide)) | exact absurd (rfl : (0 : Int32) = 0) (by with_reducible exact c) | exact absurd True.intro (by with_reducible exact c) | exact False.elim (by with_reducible exact c) | (conv => whnf))
      | (refine sx_countFits (by omega) hX (by omega) (fun v => ?_) <;> conv => whnf)
      | (refine ⟨by unfold vp_in; decide, ?_⟩ <;> conv => whnf)
      | fail
    all_goals exact H _
  | k + 1, i, x, a, hi, hx => by
    subst hx
    refine at_X4_countLost ?_
    conv => whnf
    simp only [hb]
    refine ⟨fun c => absurd c (nI_ge (b := n) (by omega) (by omega)), fun c => ?_⟩
    conv => whnf
    repeat' first
      | exact sx_clost_lp hd hX hb hm H k (i + 1) _ _ (by omega) (nI_1 i)
      | (simp only [hb])
      | ((with_reducible refine ⟨vp_in_nI (by omega) (by decide), ?_⟩) <;> conv => whnf)
      | (refine ⟨Or.inl rfl, ?_⟩ <;> conv => whnf)
      | (refine ⟨Or.inr rfl, ?_⟩ <;> conv => whnf)
      | (refine ⟨Or.inl True.intro, ?_⟩ <;> conv => whnf)
      | (refine ⟨Or.inr True.intro, ?_⟩ <;> conv => whnf)
      | (refine ⟨fun c => ?_, fun c => ?_⟩ <;> first | ((have c9 : (1 : Int32) = 0 := by with_reducible exact c); exact absurd c9 (by decide)) | exact absurd (rfl : (0 : Int32) = 0) (by with_reducible exact c) | exact absurd True.intro (by with_reducible exact c) | exact False.elim (by with_reducible exact c) | (conv => whnf))
      | (refine sx_countFits (by omega) hX (by omega) (fun v => ?_) <;> conv => whnf)
      | (refine ⟨by unfold vp_in; decide, ?_⟩ <;> conv => whnf)
      | fail
    all_goals exact H _
set_option maxRecDepth 100000 in
set_option maxHeartbeats 4000000 in
theorem sx_countLost {d L : Nat} {f : Nat → Nat → Int32} {g : Nat → Nat → Int64}  {R : Option Value → mH → Prop} (hd : 6 ≤ d) (hX : XI f) (H : ∀ v, R (some (.int v)) (shF L, f, g)) : Run mtab d 39 [.ref 139] (shF L, f, g) R := by
  obtain ⟨d, rfl⟩ : ∃ e, d = e + 1 := ⟨d - 1, by omega⟩
  refine go_X4_countLost rfl ?_
  conv => whnf
  obtain ⟨sn, hsm, hsn⟩ := inr_nat (n := 50) rfl (xi_139 hX 13)
  exact sx_clost_lp (by omega) hX hsn hsm H sn 0 _ _ (by omega) rfl
set_option maxRecDepth 100000 in
set_option maxHeartbeats 4000000 in
theorem sx_score {d L : Nat} {f : Nat → Nat → Int32} {g : Nat → Nat → Int64} {x1 x2 : Int32} {R : Option Value → mH → Prop} (hd : 8 ≤ d) (hX : XI f) (H : ∀ v f' g', XI f' → kp [0] f f' → R (some (.int v)) (shF L, f', g')) : Run mtab d 105 [.ref 5, .int x1, .int x2] (shF L, f, g) R := by
  obtain ⟨d, rfl⟩ : ∃ e, d = e + 1 := ⟨d - 1, by omega⟩
  refine go_X10_score rfl ?_
  conv => whnf
  obtain ⟨n, hm, hn⟩ := inr_nat (n := 40) rfl (xi_6 hX 13)
  obtain ⟨sn, hsm, hsn⟩ := inr_nat (n := 50) rfl (xi_139 hX 13)
  repeat' first
    | ((with_reducible refine ⟨vp_in_nI (by omega) (by decide), ?_⟩) <;> conv => whnf)
    | (refine ⟨Or.inl rfl, ?_⟩ <;> conv => whnf)
    | (refine ⟨Or.inr rfl, ?_⟩ <;> conv => whnf)
    | (refine ⟨Or.inl True.intro, ?_⟩ <;> conv => whnf)
    | (refine ⟨Or.inr True.intro, ?_⟩ <;> conv => whnf)
    | (refine ⟨fun c => ?_, fun c => ?_⟩ <;> first | ((have c9 : (1 : Int32) = 0 := by with_reducible exact c); exact absurd c9 (by decide)) | exact absurd (rfl : (0 : Int32) = 0) (by with_reducible exact c) | exact absurd True.intro (by with_reducible exact c) | exact False.elim (by with_reducible exact c) | (conv => whnf))
    | (refine ct_shas (by omega) hsn hsm (fun j hj e => ?_) (fun q => ?_) <;> (try subst e) <;> conv => whnf)
    | (refine ct_has (by omega) hn hm (fun j hj e => ?_) (fun q => ?_) <;> (try subst e) <;> conv => whnf)
    | (refine sx_reckon (by omega) hX (fun f1 g1 h1 k1 => ?_) <;> conv => whnf)
    | (refine sx_scoreFor (by omega) h1 (by omega) (by omega) (fun v => ?_) <;> conv => whnf)
    | (refine ⟨by unfold vp_in; decide, ?_⟩ <;> conv => whnf)
    | fail
  all_goals exact H _ _ _ (by repeat' first | (with_reducible assumption) | (with_reducible refine XI_ui ?_ ?_) | (with_reducible refine XI_fil ?_ (fun _ => ?_)) | (with_reducible refine XI_cpy ?_ (fun _ _ => ?_)) | exact True.intro | ((show inr _ _ _); first | (with_reducible assumption) | (unfold inr; decide)) | fail) (by repeat' first | (with_reducible exact kp_refl _ _) | (with_reducible assumption) | (with_reducible refine kp_ui ?_ ?_) | (with_reducible refine kp_fil ?_ ?_) | (with_reducible refine kp_cpy ?_ ?_) | (refine kp_trans ?_ (kp_wd k1 rfl)) | (refine kp_trans ?_ (kp_fx k1 rfl)) | rfl | fail)
set_option maxRecDepth 100000 in
set_option maxHeartbeats 4000000 in
theorem sx_rivals {d L : Nat} {f : Nat → Nat → Int32} {g : Nat → Nat → Int64} {x1 : Int32} {R : Option Value → mH → Prop} (hd : 8 ≤ d) (hX : XI f) (H : ∀ v f' g', XI f' → kp [0] f f' → R (some (.int v)) (shF L, f', g')) : Run mtab d 106 [.ref 5, .int x1] (shF L, f, g) R := by
  obtain ⟨d, rfl⟩ : ∃ e, d = e + 1 := ⟨d - 1, by omega⟩
  refine go_X10_rivals rfl ?_
  conv => whnf
  obtain ⟨sn, hsm, hsn⟩ := inr_nat (n := 50) rfl (xi_139 hX 13)
  repeat' first
    | ((with_reducible refine ⟨vp_in_nI (by omega) (by decide), ?_⟩) <;> conv => whnf)
    | (refine ⟨Or.inl rfl, ?_⟩ <;> conv => whnf)
    | (refine ⟨Or.inr rfl, ?_⟩ <;> conv => whnf)
    | (refine ⟨Or.inl True.intro, ?_⟩ <;> conv => whnf)
    | (refine ⟨Or.inr True.intro, ?_⟩ <;> conv => whnf)
    | (refine ⟨fun c => ?_, fun c => ?_⟩ <;> first | ((have c9 : (1 : Int32) = 0 := by with_reducible exact c); exact absurd c9 (by decide)) | exact absurd (rfl : (0 : Int32) = 0) (by with_reducible exact c) | exact absurd True.intro (by with_reducible exact c) | exact False.elim (by with_reducible exact c) | (conv => whnf))
    | (refine ct_shas (by omega) hsn hsm (fun j hj e => ?_) (fun q => ?_) <;> (try subst e) <;> conv => whnf)
    | (refine sx_reckon (by omega) hX (fun f1 g1 h1 k1 => ?_) <;> conv => whnf)
    | (refine sx_countFits (by omega) h1 (by omega) (fun v => ?_) <;> conv => whnf)
    | (refine ⟨by unfold vp_in; decide, ?_⟩ <;> conv => whnf)
    | fail
  all_goals exact H _ _ _ (by repeat' first | (with_reducible assumption) | (with_reducible refine XI_ui ?_ ?_) | (with_reducible refine XI_fil ?_ (fun _ => ?_)) | (with_reducible refine XI_cpy ?_ (fun _ _ => ?_)) | exact True.intro | ((show inr _ _ _); first | (with_reducible assumption) | (unfold inr; decide)) | fail) (by repeat' first | (with_reducible exact kp_refl _ _) | (with_reducible assumption) | (with_reducible refine kp_ui ?_ ?_) | (with_reducible refine kp_fil ?_ ?_) | (with_reducible refine kp_cpy ?_ ?_) | (refine kp_trans ?_ (kp_wd k1 rfl)) | (refine kp_trans ?_ (kp_fx k1 rfl)) | rfl | fail)
theorem lt_nle {a b N : Nat} (c : ¬ nI a ≤ nI b) (ha : a ≤ N) (h1 : N < 2 ^ 31) (h2 : b < 2 ^ 31) : b < N := by
  rw [nI_leI (by omega) (by omega)] at c
  omega
theorem lt_8 {q : Nat} (c : ¬ (8 : Int32) ≤ nI q) (h : q ≤ 8) : q < 8 := lt_nle (a := 8) (N := 8) (show ¬ nI 8 ≤ nI q from c) (by omega) (by decide) (by omega)
theorem vp_8 {q : Nat} (c : ¬ (8 : Int32) ≤ nI q) (h : q ≤ 8) : vp_in (nI q) 8 := vp_in_nI (lt_8 c h) (by decide)
theorem vp_nle {a b N : Nat} (c : ¬ nI a ≤ nI b) (ha : a ≤ N) (h1 : N < 2 ^ 31) (h2 : b < 2 ^ 31) : vp_in (nI b) N := vp_in_nI (lt_nle c ha h1 h2) h1
set_option maxRecDepth 100000 in
set_option maxHeartbeats 4000000 in
theorem sx_gather_lp {d L n : Nat} {f0 : Nat → Nat → Int32} {w : Int32} {R : Option Value → mH → Prop} (hd : 1 ≤ d) (hm : n ≤ 50) (h0 : f0 139 13 = nI n) (H : ∀ f' g', XI f' → fx 149 168 f0 f' → R none (shF L, f', g'))  :
    ∀ (k i : Nat) (x : Int32) (b : Int32) (f : Nat → Nat → Int32) (g : Nat → Nat → Int64), i + k = n → x = nI i → XI f → fx 149 168 f0 f → (∃ q, q ≤ 8 ∧ b = nI q) → WPe pg_X2_gather none (Run mtab d) R (m_drop pg_X2_gather 4) [some (.ref 149), some (.int w), some (.int b), some (.int x)] [] (shF L, f, g)
  | 0, i, x, b, f, g, he, hx, hX, hF, hb => by
    have e : i = n := by omega
    subst hx
    have hc : f 139 13 = nI n := (hF 139 13 (by omega)).trans h0
    obtain ⟨q, hq8, rfl⟩ := hb
    subst e
    refine at_X2_gather ?_
    conv => whnf
    try simp only [hc]
    refine ⟨fun c => ?_, fun c => absurd (nI_le (Nat.le_refl _) (by omega)) c⟩
    conv => whnf
    repeat' first
      | ((with_reducible refine ⟨vp_8 (by assumption) hq8, ?_⟩) <;> conv => whnf)
      | (simp only [hc])
      | ((with_reducible refine ⟨vp_in_nI (by omega) (by decide), ?_⟩) <;> conv => whnf)
      | (refine ⟨Or.inl rfl, ?_⟩ <;> conv => whnf)
      | (refine ⟨Or.inr rfl, ?_⟩ <;> conv => whnf)
      | (refine ⟨Or.inl True.intro, ?_⟩ <;> conv => whnf)
      | (refine ⟨Or.inr True.intro, ?_⟩ <;> conv => whnf)
      | (refine ⟨fun c => ?_, fun c => ?_⟩ <;> first | ((have c9 : (1 : Int32) = 0 := by with_reducible exact c); exact absurd c9 (by decide)) | exact absurd (rfl : (0 : Int32) = 0) (by with_reducible exact c) | exact absurd True.intro (by with_reducible exact c) | exact False.elim (by with_reducible exact c) | (conv => whnf))
      | (refine ⟨by unfold vp_in; decide, ?_⟩ <;> conv => whnf)
      | fail
    all_goals exact H _ _ (by repeat' first | (with_reducible assumption) | (with_reducible refine XI_ui ?_ ?_) | (with_reducible refine XI_fil ?_ (fun _ => ?_)) | (with_reducible refine XI_cpy ?_ (fun _ _ => ?_)) | exact True.intro | ((show inr _ _ _); first | (with_reducible assumption) | ((with_reducible refine inr_n1 (m := 8) ?_ ?_ ?_) <;> first | omega | rfl | decide) | ((with_reducible refine inr_n (m := 8) ?_ ?_ ?_) <;> first | omega | rfl | decide) | (unfold inr; decide)) | fail) (by repeat' first | (with_reducible exact fx_refl _ _ _) | (with_reducible assumption) | (with_reducible refine fx_ui ?_ ?_ ?_) | (with_reducible refine fx_fil ?_ ?_ ?_) | (with_reducible refine fx_cpy ?_ ?_ ?_) | omega | decide | fail)
  | k + 1, i, x, b, f, g, he, hx, hX, hF, hb => by
    subst hx
    have hc : f 139 13 = nI n := (hF 139 13 (by omega)).trans h0
    obtain ⟨q, hq8, rfl⟩ := hb
    refine at_X2_gather ?_
    conv => whnf
    try simp only [hc]
    refine ⟨fun c => absurd c (nI_ge (b := n) (by omega) (by omega)), fun c => ?_⟩
    conv => whnf
    repeat' first
      | exact sx_gather_lp hd hm h0 H k (i + 1) _ _ _ _ (by omega) (nI_1 i) (by repeat' first | (with_reducible assumption) | (with_reducible refine XI_ui ?_ ?_) | (with_reducible refine XI_fil ?_ (fun _ => ?_)) | (with_reducible refine XI_cpy ?_ (fun _ _ => ?_)) | exact True.intro | ((show inr _ _ _); first | (with_reducible assumption) | ((with_reducible refine inr_n1 (m := 49) ?_ ?_ ?_) <;> first | omega | rfl | decide) | ((with_reducible refine inr_n (m := 49) ?_ ?_ ?_) <;> first | omega | rfl | decide) | ((with_reducible refine inr_n1 (m := 8) ?_ ?_ ?_) <;> first | omega | rfl | decide) | ((with_reducible refine inr_n (m := 8) ?_ ?_ ?_) <;> first | omega | rfl | decide) | (unfold inr; decide)) | fail) (by repeat' first | (with_reducible exact fx_refl _ _ _) | (with_reducible assumption) | (with_reducible refine fx_ui ?_ ?_ ?_) | (with_reducible refine fx_fil ?_ ?_ ?_) | (with_reducible refine fx_cpy ?_ ?_ ?_) | omega | decide | fail) (by first | exact ⟨q, hq8, rfl⟩ | exact ⟨q + 1, lt_8 (by assumption) hq8, nI_1 q⟩)
      | ((with_reducible refine ⟨vp_8 (by assumption) hq8, ?_⟩) <;> conv => whnf)
      | (simp only [hc])
      | ((with_reducible refine ⟨vp_in_nI (by omega) (by decide), ?_⟩) <;> conv => whnf)
      | (refine ⟨Or.inl rfl, ?_⟩ <;> conv => whnf)
      | (refine ⟨Or.inr rfl, ?_⟩ <;> conv => whnf)
      | (refine ⟨Or.inl True.intro, ?_⟩ <;> conv => whnf)
      | (refine ⟨Or.inr True.intro, ?_⟩ <;> conv => whnf)
      | (refine ⟨fun c => ?_, fun c => ?_⟩ <;> first | ((have c9 : (1 : Int32) = 0 := by with_reducible exact c); exact absurd c9 (by decide)) | exact absurd (rfl : (0 : Int32) = 0) (by with_reducible exact c) | exact absurd True.intro (by with_reducible exact c) | exact False.elim (by with_reducible exact c) | (conv => whnf))
      | (refine ⟨by unfold vp_in; decide, ?_⟩ <;> conv => whnf)
      | fail
    all_goals exact H _ _ (by repeat' first | (with_reducible assumption) | (with_reducible refine XI_ui ?_ ?_) | (with_reducible refine XI_fil ?_ (fun _ => ?_)) | (with_reducible refine XI_cpy ?_ (fun _ _ => ?_)) | exact True.intro | ((show inr _ _ _); first | (with_reducible assumption) | ((with_reducible refine inr_n1 (m := 8) ?_ ?_ ?_) <;> first | omega | rfl | decide) | ((with_reducible refine inr_n (m := 8) ?_ ?_ ?_) <;> first | omega | rfl | decide) | (unfold inr; decide)) | fail) (by repeat' first | (with_reducible exact fx_refl _ _ _) | (with_reducible assumption) | (with_reducible refine fx_ui ?_ ?_ ?_) | (with_reducible refine fx_fil ?_ ?_ ?_) | (with_reducible refine fx_cpy ?_ ?_ ?_) | omega | decide | fail)
set_option maxRecDepth 100000 in
set_option maxHeartbeats 4000000 in
theorem sx_gather {d L : Nat} {f : Nat → Nat → Int32} {g : Nat → Nat → Int64} {w : Int32} {R : Option Value → mH → Prop} (hd : 2 ≤ d) (hX : XI f) (H : ∀ f' g', XI f' → fx 149 168 f f' → R none (shF L, f', g')) : Run mtab d 20 [.ref 149, .int w] (shF L, f, g) R := by
  obtain ⟨d, rfl⟩ : ∃ e, d = e + 1 := ⟨d - 1, by omega⟩
  refine go_X2_gather rfl ?_
  conv => whnf
  obtain ⟨sn, hsm, hsn⟩ := inr_nat (n := 50) rfl (xi_139 hX 13)
  exact sx_gather_lp (by omega) hsm hsn H sn 0 _ _ _ _ (by omega) rfl hX (fx_refl _ _ _) ⟨0, by omega, rfl⟩
set_option maxRecDepth 100000 in
set_option maxHeartbeats 4000000 in
theorem sx_seatOf_lp {d L n : Nat} {f : Nat → Nat → Int32} {g : Nat → Nat → Int64} {w : Int32} {R : Option Value → mH → Prop} (hd : 1 ≤ d) (hX : XI f) (hb : f 150 7 = nI n) (hm : n ≤ 8) (H : ∀ v, v = -4 ∨ (∃ j, j < 8 ∧ v = nI j) → R (some (.int v)) (shF L, f, g)) :
    ∀ (k i : Nat) (x : Int32), i + k = n → x = nI i → WPe pg_X2_seatOf none (Run mtab d) R (m_drop pg_X2_seatOf 2) [some (.ref 149), some (.int w), some (.int x)] [] (shF L, f, g)
  | 0, i, x, hi, hx => by
    have e : i = n := by omega
    subst hx
    subst e
    refine at_X2_seatOf ?_
    conv => whnf
    simp only [hb]
    refine ⟨fun c => ?_, fun c => absurd (nI_le (Nat.le_refl _) (by omega)) c⟩
    conv => whnf
    repeat' first
      | (simp only [hb])
      | ((with_reducible refine ⟨vp_in_nI (by omega) (by decide), ?_⟩) <;> conv => whnf)
      | (refine ⟨Or.inl rfl, ?_⟩ <;> conv => whnf)
      | (refine ⟨Or.inr rfl, ?_⟩ <;> conv => whnf)
      | (refine ⟨Or.inl True.intro, ?_⟩ <;> conv => whnf)
      | (refine ⟨Or.inr True.intro, ?_⟩ <;> conv => whnf)
      | (refine ⟨fun c => ?_, fun c => ?_⟩ <;> first | ((have c9 : (1 : Int32) = 0 := by with_reducible exact c); exact absurd c9 (by decide)) | exact absurd (rfl : (0 : Int32) = 0) (by with_reducible exact c) | exact absurd True.intro (by with_reducible exact c) | exact False.elim (by with_reducible exact c) | (conv => whnf))
      | (refine ⟨by unfold vp_in; decide, ?_⟩ <;> conv => whnf)
      | fail
    all_goals first | exact H _ (Or.inl rfl) | exact H _ (Or.inr ⟨i, by omega, rfl⟩)
  | k + 1, i, x, hi, hx => by
    subst hx
    refine at_X2_seatOf ?_
    conv => whnf
    simp only [hb]
    refine ⟨fun c => absurd c (nI_ge (b := n) (by omega) (by omega)), fun c => ?_⟩
    conv => whnf
    repeat' first
      | exact sx_seatOf_lp hd hX hb hm H k (i + 1) _  (by omega) (nI_1 i)
      | (simp only [hb])
      | ((with_reducible refine ⟨vp_in_nI (by omega) (by decide), ?_⟩) <;> conv => whnf)
      | (refine ⟨Or.inl rfl, ?_⟩ <;> conv => whnf)
      | (refine ⟨Or.inr rfl, ?_⟩ <;> conv => whnf)
      | (refine ⟨Or.inl True.intro, ?_⟩ <;> conv => whnf)
      | (refine ⟨Or.inr True.intro, ?_⟩ <;> conv => whnf)
      | (refine ⟨fun c => ?_, fun c => ?_⟩ <;> first | ((have c9 : (1 : Int32) = 0 := by with_reducible exact c); exact absurd c9 (by decide)) | exact absurd (rfl : (0 : Int32) = 0) (by with_reducible exact c) | exact absurd True.intro (by with_reducible exact c) | exact False.elim (by with_reducible exact c) | (conv => whnf))
      | (refine ⟨by unfold vp_in; decide, ?_⟩ <;> conv => whnf)
      | fail
    all_goals first | exact H _ (Or.inl rfl) | exact H _ (Or.inr ⟨i, by omega, rfl⟩)
set_option maxRecDepth 100000 in
set_option maxHeartbeats 4000000 in
theorem sx_seatOf {d L : Nat} {f : Nat → Nat → Int32} {g : Nat → Nat → Int64} {w : Int32} {R : Option Value → mH → Prop} (hd : 2 ≤ d) (hX : XI f) (H : ∀ v, v = -4 ∨ (∃ j, j < 8 ∧ v = nI j) → R (some (.int v)) (shF L, f, g)) : Run mtab d 22 [.ref 149, .int w] (shF L, f, g) R := by
  obtain ⟨d, rfl⟩ : ∃ e, d = e + 1 := ⟨d - 1, by omega⟩
  refine go_X2_seatOf rfl ?_
  conv => whnf
  obtain ⟨n, hm, hb⟩ := inr_nat (n := 8) rfl (xi_150_7 hX)
  exact sx_seatOf_lp (by omega) hX hb hm H n 0 _ (by omega) rfl
set_option maxRecDepth 100000 in
set_option maxHeartbeats 4000000 in
theorem sx_workFor {d L : Nat} {f : Nat → Nat → Int32} {g : Nat → Nat → Int64} {w : Int32} {R : Option Value → mH → Prop} (hd : 3 ≤ d) (hX : XI f) (H : ∀ v, R (some (.int v)) (shF L, f, g)) : Run mtab d 23 [.ref 149, .int w] (shF L, f, g) R := by
  obtain ⟨d, rfl⟩ : ∃ e, d = e + 1 := ⟨d - 1, by omega⟩
  refine go_X2_workFor rfl ?_
  conv => whnf
  refine sx_seatOf (by omega) hX (fun v hv => ?_)
  rcases hv with rfl | ⟨j, hj, rfl⟩
  all_goals conv => whnf
  all_goals
    repeat' first
      | ((with_reducible refine ⟨vp_in_nI (by omega) (by decide), ?_⟩) <;> conv => whnf)
      | (refine ⟨Or.inl rfl, ?_⟩ <;> conv => whnf)
      | (refine ⟨Or.inr rfl, ?_⟩ <;> conv => whnf)
      | (refine ⟨Or.inl True.intro, ?_⟩ <;> conv => whnf)
      | (refine ⟨Or.inr True.intro, ?_⟩ <;> conv => whnf)
      | (refine ⟨fun c => ?_, fun c => ?_⟩ <;> first | ((have c9 : (1 : Int32) = 0 := by with_reducible exact c); exact absurd c9 (by decide)) | exact absurd (rfl : (0 : Int32) = 0) (by with_reducible exact c) | exact absurd True.intro (by with_reducible exact c) | exact False.elim (by with_reducible exact c) | exact absurd c (nI_pos (by omega)) | exact absurd c (by decide) | exact absurd (by decide) c | (conv => whnf))
      | (refine ⟨by unfold vp_in; decide, ?_⟩ <;> conv => whnf)
      | fail
  all_goals exact H _
set_option maxRecDepth 100000 in
set_option maxHeartbeats 4000000 in
theorem sx_weigh_lp {d L n : Nat} {f0 : Nat → Nat → Int32} {p : Nat} {pw : Int64} {R : Option Value → mH → Prop} (hd : 5 ≤ d) (hm : n ≤ 48) (h0 : f0 150 8 = nI n) (hp : p < 8) (H : ∀ f' g', XI f' → fx 149 149 f0 f' → R none (shF L, f', g'))  :
    ∀ (k i : Nat) (x : Int32) (s5 : Option Value) (s6 : Option Value) (s7 : Option Value) (f : Nat → Nat → Int32) (g : Nat → Nat → Int64), i + k = n → x = nI i → XI f → fx 149 149 f0 f → WPe pg_X2_weigh none (Run mtab d) R (m_drop pg_X2_weigh 2) [some (.ref 149), some (.int (nI p)), some (.long pw), none, some (.int x), s5, s6, s7] [] (shF L, f, g)
  | 0, i, x, s5, s6, s7, f, g, he, hx, hX, hF => by
    have e : i = n := by omega
    subst hx
    have hc : f 150 8 = nI n := (hF 150 8 (by omega)).trans h0
    have hcl : (nI p).toNatClampNeg = p := nI_clamp (by omega)
    have hrow := row_151 p hp
    have hshp := shp_151 L p hp
    obtain ⟨wn, hwm, hwb⟩ := inr_nat (n := 40) rfl (xi_6 hX 13)
    obtain ⟨jj, hjj, hsj⟩ := inr_nat (n := 49) rfl (xi_166 hX (nI p).toNatClampNeg)
    subst e
    refine at_X2_weigh ?_
    conv => whnf
    try simp only [hc, hwb, hsj]
    refine ⟨fun c => ?_, fun c => absurd (nI_le (Nat.le_refl _) (by omega)) c⟩
    conv => whnf
    repeat' first
      | (simp only [hc, hwb, hsj])
      | ((with_reducible refine ⟨vp_in_nI (by omega) (by decide), ?_⟩) <;> conv => whnf)
      | (refine ⟨Or.inl rfl, ?_⟩ <;> conv => whnf)
      | (refine ⟨Or.inr rfl, ?_⟩ <;> conv => whnf)
      | (refine ⟨Or.inl True.intro, ?_⟩ <;> conv => whnf)
      | (refine ⟨Or.inr True.intro, ?_⟩ <;> conv => whnf)
      | (refine ⟨fun c => ?_, fun c => ?_⟩ <;> first | ((have c9 : (1 : Int32) = 0 := by with_reducible exact c); exact absurd c9 (by decide)) | exact absurd (rfl : (0 : Int32) = 0) (by with_reducible exact c) | exact absurd True.intro (by with_reducible exact c) | exact False.elim (by with_reducible exact c) | (conv => whnf))
      | (refine sx_scoreFor (by omega) hX (by omega) (lt_nle (by assumption) hwm (by decide) (by omega)) (fun v => ?_) <;> conv => whnf)
      | ((refine ⟨⟨vp_in_nI (by omega) (by decide), by rw [hcl]; show p < 8; omega, by rw [hcl, hrow]; rfl⟩, ?_⟩) <;> simp only [hcl, hrow, Option.getD_some] <;> conv => whnf)
      | ((simp only [m_act_eq, mi, mj, m_act0, m_arr, hshp]) <;> conv => whnf)
      | (refine ⟨by unfold vp_in; decide, ?_⟩ <;> conv => whnf)
      | fail
    all_goals exact H _ _ hX hF
  | k + 1, i, x, s5, s6, s7, f, g, he, hx, hX, hF => by
    subst hx
    have hc : f 150 8 = nI n := (hF 150 8 (by omega)).trans h0
    have hcl : (nI p).toNatClampNeg = p := nI_clamp (by omega)
    have hrow := row_151 p hp
    have hshp := shp_151 L p hp
    obtain ⟨wn, hwm, hwb⟩ := inr_nat (n := 40) rfl (xi_6 hX 13)
    obtain ⟨jj, hjj, hsj⟩ := inr_nat (n := 49) rfl (xi_166 hX (nI p).toNatClampNeg)
    refine at_X2_weigh ?_
    conv => whnf
    try simp only [hc, hwb, hsj]
    refine ⟨fun c => absurd c (nI_ge (b := n) (by omega) (by omega)), fun c => ?_⟩
    conv => whnf
    repeat' first
      | exact sx_weigh_lp hd hm h0 hp H k (i + 1) _ _ _ _ _ _ (by omega) (nI_1 i) (by repeat' first | (with_reducible assumption) | (with_reducible refine XI_ui ?_ ?_) | (with_reducible refine XI_fil ?_ (fun _ => ?_)) | (with_reducible refine XI_cpy ?_ (fun _ _ => ?_)) | exact True.intro | ((show inr _ _ _); first | (with_reducible assumption) | (unfold inr; decide)) | fail) (by repeat' first | (with_reducible exact fx_refl _ _ _) | (with_reducible assumption) | (with_reducible refine fx_ui ?_ ?_ ?_) | (with_reducible refine fx_fil ?_ ?_ ?_) | (with_reducible refine fx_cpy ?_ ?_ ?_) | omega | decide | fail)
      | (simp only [hc, hwb, hsj])
      | ((with_reducible refine ⟨vp_in_nI (by omega) (by decide), ?_⟩) <;> conv => whnf)
      | (refine ⟨Or.inl rfl, ?_⟩ <;> conv => whnf)
      | (refine ⟨Or.inr rfl, ?_⟩ <;> conv => whnf)
      | (refine ⟨Or.inl True.intro, ?_⟩ <;> conv => whnf)
      | (refine ⟨Or.inr True.intro, ?_⟩ <;> conv => whnf)
      | (refine ⟨fun c => ?_, fun c => ?_⟩ <;> first | ((have c9 : (1 : Int32) = 0 := by with_reducible exact c); exact absurd c9 (by decide)) | exact absurd (rfl : (0 : Int32) = 0) (by with_reducible exact c) | exact absurd True.intro (by with_reducible exact c) | exact False.elim (by with_reducible exact c) | (conv => whnf))
      | (refine sx_scoreFor (by omega) hX (by omega) (lt_nle (by assumption) hwm (by decide) (by omega)) (fun v => ?_) <;> conv => whnf)
      | ((refine ⟨⟨vp_in_nI (by omega) (by decide), by rw [hcl]; show p < 8; omega, by rw [hcl, hrow]; rfl⟩, ?_⟩) <;> simp only [hcl, hrow, Option.getD_some] <;> conv => whnf)
      | ((simp only [m_act_eq, mi, mj, m_act0, m_arr, hshp]) <;> conv => whnf)
      | (refine ⟨by unfold vp_in; decide, ?_⟩ <;> conv => whnf)
      | fail
    all_goals exact H _ _ hX hF
set_option maxRecDepth 100000 in
set_option maxHeartbeats 4000000 in
theorem sx_weigh {d L : Nat} {f : Nat → Nat → Int32} {g : Nat → Nat → Int64} {p : Nat} {pw : Int64} {R : Option Value → mH → Prop} (hd : 6 ≤ d) (hX : XI f) (hp : p < 8) (H : ∀ f' g', XI f' → fx 149 149 f f' → R none (shF L, f', g')) : Run mtab d 21 [.ref 149, .int (nI p), .long pw] (shF L, f, g) R := by
  obtain ⟨d, rfl⟩ : ∃ e, d = e + 1 := ⟨d - 1, by omega⟩
  refine go_X2_weigh rfl ?_
  conv => whnf
  obtain ⟨n, hm, hc⟩ := inr_nat (n := 48) rfl (xi_150_8 hX)
  exact sx_weigh_lp (by omega) hm hc hp H n 0 _ _ _ _ _ _ (by omega) rfl hX (fx_refl _ _ _)
set_option maxRecDepth 100000 in
set_option maxHeartbeats 4000000 in
theorem sx_join2_lp {d L n : Nat} {f0 : Nat → Nat → Int32} {w : Int32} {R : Option Value → mH → Prop} (hd : 3 ≤ d) (hm : n ≤ 8) (H : ∀ f' g', XI f' → fx 149 168 f0 f' → R none (shF L, f', g'))  :
    ∀ (k i : Nat) (x : Int32) (pw : Int64) (s5 : Option Value) (s6 : Option Value) (f : Nat → Nat → Int32) (g : Nat → Nat → Int64), i + k = n → x = nI i → XI f → fx 149 168 f0 f → f 150 7 = nI n → WPe pg_X2_join none (Run mtab d) R (m_drop pg_X2_join 42) [some (.ref 149), some (.int w), some (.long pw), none, some (.int x), s5, s6] [] (shF L, f, g)
  | 0, i, x, pw, s5, s6, f, g, he, hx, hX, hF, hc => by
    have e : i = n := by omega
    subst hx
    subst e
    refine at_X2_join ?_
    conv => whnf
    try simp only [hc]
    refine ⟨fun c => ?_, fun c => absurd (nI_le (Nat.le_refl _) (by omega)) c⟩
    conv => whnf
    repeat' first
      | ((with_reducible refine ⟨vpi2 hv (i32_nlt.mpr (by assumption)) (by decide), ?_⟩) <;> conv => whnf)
      | ((with_reducible refine ⟨vpi2 hv (by assumption) (by decide), ?_⟩) <;> conv => whnf)
      | (simp only [hc])
      | ((with_reducible refine ⟨vp_in_nI (by omega) (by decide), ?_⟩) <;> conv => whnf)
      | (refine ⟨Or.inl rfl, ?_⟩ <;> conv => whnf)
      | (refine ⟨Or.inr rfl, ?_⟩ <;> conv => whnf)
      | (refine ⟨Or.inl True.intro, ?_⟩ <;> conv => whnf)
      | (refine ⟨Or.inr True.intro, ?_⟩ <;> conv => whnf)
      | (refine ⟨fun c => ?_, fun c => ?_⟩ <;> first | ((have c9 : (1 : Int32) = 0 := by with_reducible exact c); exact absurd c9 (by decide)) | exact absurd (rfl : (0 : Int32) = 0) (by with_reducible exact c) | exact absurd True.intro (by with_reducible exact c) | exact False.elim (by with_reducible exact c) | (conv => whnf))
      | (refine ⟨by unfold vp_in; decide, ?_⟩ <;> conv => whnf)
      | fail
    all_goals exact H _ _ hX hF
  | k + 1, i, x, pw, s5, s6, f, g, he, hx, hX, hF, hc => by
    subst hx
    have hcl : (nI i).toNatClampNeg = i := nI_clamp (by omega)
    have hrow := row_151 i (by omega)
    have hshp := shp_151 L i (by omega)
    refine at_X2_join ?_
    conv => whnf
    try simp only [hc]
    refine ⟨fun c => absurd c (nI_ge (b := n) (by omega) (by omega)), fun c => ?_⟩
    conv => whnf
    repeat' first
      | exact sx_join2_lp hd hm H k (i + 1) _ _ _ _ _ _ (by omega) (nI_1 i) (by repeat' first | (with_reducible assumption) | (with_reducible refine XI_ui ?_ ?_) | (with_reducible refine XI_fil ?_ (fun _ => ?_)) | (with_reducible refine XI_cpy ?_ (fun _ _ => ?_)) | exact True.intro | ((show inr _ _ _); first | (with_reducible assumption) | (unfold inr; decide)) | fail) (by repeat' first | (with_reducible exact fx_refl _ _ _) | (with_reducible assumption) | (with_reducible refine fx_ui ?_ ?_ ?_) | (with_reducible refine fx_fil ?_ ?_ ?_) | (with_reducible refine fx_cpy ?_ ?_ ?_) | (refine fx_trans ?_ (fx_wide k1 (by omega) (by omega))) | omega | decide | fail) (by first | exact hc1 | exact hc)
      | ((with_reducible refine ⟨vpi2 hv (i32_nlt.mpr (by assumption)) (by decide), ?_⟩) <;> conv => whnf)
      | ((with_reducible refine ⟨vpi2 hv (by assumption) (by decide), ?_⟩) <;> conv => whnf)
      | (simp only [hc])
      | ((with_reducible refine ⟨vp_in_nI (by omega) (by decide), ?_⟩) <;> conv => whnf)
      | (refine ⟨Or.inl rfl, ?_⟩ <;> conv => whnf)
      | (refine ⟨Or.inr rfl, ?_⟩ <;> conv => whnf)
      | (refine ⟨Or.inl True.intro, ?_⟩ <;> conv => whnf)
      | (refine ⟨Or.inr True.intro, ?_⟩ <;> conv => whnf)
      | (refine ⟨fun c => ?_, fun c => ?_⟩ <;> first | ((have c9 : (1 : Int32) = 0 := by with_reducible exact c); exact absurd c9 (by decide)) | exact absurd (rfl : (0 : Int32) = 0) (by with_reducible exact c) | exact absurd True.intro (by with_reducible exact c) | exact False.elim (by with_reducible exact c) | (conv => whnf))
      | (refine sx_columnOf (by omega) hX (fun v hv _ f1 g1 h1 k1 => ?_) <;> (have hc1 : f1 150 7 = nI n := (k1 150 7 (by omega)).trans hc) <;> conv => whnf)
      | ((refine ⟨⟨vp_in_nI (by omega) (by decide), by rw [hcl]; show i < 8; omega, by rw [hcl, hrow]; rfl⟩, ?_⟩) <;> simp only [hcl, hrow, Option.getD_some] <;> conv => whnf)
      | ((simp only [m_act_eq, mi, mj, m_act0, m_arr, hshp]) <;> conv => whnf)
      | (refine ⟨by unfold vp_in; decide, ?_⟩ <;> conv => whnf)
      | fail
    all_goals exact H _ _ hX hF
set_option maxRecDepth 100000 in
set_option maxHeartbeats 4000000 in
theorem sx_join1_lp {d L n : Nat} {f0 : Nat → Nat → Int32} {w : Int32} {R : Option Value → mH → Prop} (hd : 7 ≤ d) (hm : n ≤ 8) (H : ∀ f' g', XI f' → fx 149 168 f0 f' → R none (shF L, f', g'))  :
    ∀ (k i : Nat) (x : Int32) (pw : Int64) (s5 : Option Value) (s6 : Option Value) (f : Nat → Nat → Int32) (g : Nat → Nat → Int64), i + k = n → x = nI i → XI f → fx 149 168 f0 f → f 150 7 = nI n → WPe pg_X2_join none (Run mtab d) R (m_drop pg_X2_join 17) [some (.ref 149), some (.int w), some (.long pw), none, some (.int x), s5, s6] [] (shF L, f, g)
  | 0, i, x, pw, s5, s6, f, g, he, hx, hX, hF, hc => by
    have e : i = n := by omega
    subst hx
    subst e
    refine at_X2_join ?_
    conv => whnf
    try simp only [hc]
    refine ⟨fun c => ?_, fun c => absurd (nI_le (Nat.le_refl _) (by omega)) c⟩
    conv => whnf
    repeat' first
      | ((refine ⟨show ¬ (7984925229121 : Int64) = 0 by decide, ?_⟩) <;> conv => whnf)
      | exact sx_join2_lp (by omega) hm H i 0 _ _ _ _ _ _ (by omega) rfl (by repeat' first | (with_reducible assumption) | (with_reducible refine XI_ui ?_ ?_) | (with_reducible refine XI_fil ?_ (fun _ => ?_)) | (with_reducible refine XI_cpy ?_ (fun _ _ => ?_)) | exact True.intro | ((show inr _ _ _); first | (with_reducible assumption) | (unfold inr; decide)) | fail) (by repeat' first | (with_reducible exact fx_refl _ _ _) | (with_reducible assumption) | (with_reducible refine fx_ui ?_ ?_ ?_) | (with_reducible refine fx_fil ?_ ?_ ?_) | (with_reducible refine fx_cpy ?_ ?_ ?_) | (refine fx_trans ?_ (fx_wide k1 (by omega) (by omega))) | omega | decide | fail) hc1
      | (simp only [hc])
      | ((with_reducible refine ⟨vp_in_nI (by omega) (by decide), ?_⟩) <;> conv => whnf)
      | (refine ⟨Or.inl rfl, ?_⟩ <;> conv => whnf)
      | (refine ⟨Or.inr rfl, ?_⟩ <;> conv => whnf)
      | (refine ⟨Or.inl True.intro, ?_⟩ <;> conv => whnf)
      | (refine ⟨Or.inr True.intro, ?_⟩ <;> conv => whnf)
      | (refine ⟨fun c => ?_, fun c => ?_⟩ <;> first | ((have c9 : (1 : Int32) = 0 := by with_reducible exact c); exact absurd c9 (by decide)) | exact absurd (rfl : (0 : Int32) = 0) (by with_reducible exact c) | exact absurd True.intro (by with_reducible exact c) | exact False.elim (by with_reducible exact c) | (conv => whnf))
      | (refine sx_solve (by omega) hX (fun v f1 g1 h1 k1 => ?_) <;> (have hc1 := (k1 150 7 (by omega)).trans hc) <;> conv => whnf)
      | (refine ⟨by unfold vp_in; decide, ?_⟩ <;> conv => whnf)
      | fail
    all_goals exact H _ _ hX hF
  | k + 1, i, x, pw, s5, s6, f, g, he, hx, hX, hF, hc => by
    subst hx
    refine at_X2_join ?_
    conv => whnf
    try simp only [hc]
    refine ⟨fun c => absurd c (nI_ge (b := n) (by omega) (by omega)), fun c => ?_⟩
    conv => whnf
    repeat' first
      | exact sx_join1_lp hd hm H k (i + 1) _ _ _ _ _ _ (by omega) (nI_1 i) (by repeat' first | (with_reducible assumption) | (with_reducible refine XI_ui ?_ ?_) | (with_reducible refine XI_fil ?_ (fun _ => ?_)) | (with_reducible refine XI_cpy ?_ (fun _ _ => ?_)) | exact True.intro | ((show inr _ _ _); first | (with_reducible assumption) | (unfold inr; decide)) | fail) (by repeat' first | (with_reducible exact fx_refl _ _ _) | (with_reducible assumption) | (with_reducible refine fx_ui ?_ ?_ ?_) | (with_reducible refine fx_fil ?_ ?_ ?_) | (with_reducible refine fx_cpy ?_ ?_ ?_) | (refine fx_trans ?_ (fx_wide k1 (by omega) (by omega))) | omega | decide | fail) (by first | exact hc1 | exact hc)
      | ((refine ⟨show ¬ (41 : Int64) = 0 by decide, ?_⟩) <;> conv => whnf)
      | (simp only [hc])
      | ((with_reducible refine ⟨vp_in_nI (by omega) (by decide), ?_⟩) <;> conv => whnf)
      | (refine ⟨Or.inl rfl, ?_⟩ <;> conv => whnf)
      | (refine ⟨Or.inr rfl, ?_⟩ <;> conv => whnf)
      | (refine ⟨Or.inl True.intro, ?_⟩ <;> conv => whnf)
      | (refine ⟨Or.inr True.intro, ?_⟩ <;> conv => whnf)
      | (refine ⟨fun c => ?_, fun c => ?_⟩ <;> first | ((have c9 : (1 : Int32) = 0 := by with_reducible exact c); exact absurd c9 (by decide)) | exact absurd (rfl : (0 : Int32) = 0) (by with_reducible exact c) | exact absurd True.intro (by with_reducible exact c) | exact False.elim (by with_reducible exact c) | (conv => whnf))
      | (refine sx_weigh (by omega) hX (by omega) (fun f1 g1 h1 k1 => ?_) <;> (have hc1 : f1 150 7 = nI n := (k1 150 7 (by omega)).trans hc) <;> conv => whnf)
      | (refine ⟨by unfold vp_in; decide, ?_⟩ <;> conv => whnf)
      | fail
    all_goals exact H _ _ hX hF
theorem inr_add {a b : Nat} (ha : a ≤ 40) (hb : b ≤ 8) : inr 0 48 (nI a + nI b) := by
  rw [nI_add]
  exact inr_n (m := 48) (by omega) rfl (by decide)
set_option maxRecDepth 100000 in
set_option maxHeartbeats 4000000 in
theorem sx_join {d L : Nat} {f : Nat → Nat → Int32} {g : Nat → Nat → Int64} {w : Int32} {R : Option Value → mH → Prop} (hd : 8 ≤ d) (hX : XI f) (H : ∀ f' g', XI f' → fx 149 168 f f' → R none (shF L, f', g')) : Run mtab d 19 [.ref 149, .int w] (shF L, f, g) R := by
  obtain ⟨d, rfl⟩ : ∃ e, d = e + 1 := ⟨d - 1, by omega⟩
  refine go_X2_join rfl ?_
  conv => whnf
  obtain ⟨n, hm, hn⟩ := inr_nat (n := 40) rfl (xi_6 hX 13)
  refine sx_gather (by omega) hX (fun f1 g1 h1 k1 => ?_)
  have hn1 : f1 6 13 = nI n := (k1 6 13 (by omega)).trans hn
  obtain ⟨q, hq8, hq⟩ := inr_nat (n := 8) rfl (xi_150_7 h1)
  conv => whnf
  simp only [hn1, hq]
  exact sx_join1_lp (by omega) hq8 H q 0 _ _ _ _ _ _ (by omega) rfl (XI_ui h1 (show inr 0 48 _ from inr_add hm hq8)) (fx_ui (by decide) (by decide) k1) hq
set_option maxRecDepth 100000 in
set_option maxHeartbeats 4000000 in
theorem sx_isSure {d L : Nat} {f : Nat → Nat → Int32} {g : Nat → Nat → Int64} {w : Int32} {R : Option Value → mH → Prop} (hd : 7 ≤ d) (hX : XI f) (H : ∀ v f' g', (v = 0 ∨ v = 1) → XI f' → fx 160 166 f f' → R (some (.int v)) (shF L, f', g')) : Run mtab d 24 [.ref 149, .int w] (shF L, f, g) R := by
  obtain ⟨d, rfl⟩ : ∃ e, d = e + 1 := ⟨d - 1, by omega⟩
  obtain ⟨n, hm, hb⟩ := inr_nat (n := 8) rfl (xi_150_7 hX)
  refine go_X2_isSure rfl ?_
  conv => whnf
  simp only [hb]
  refine ct_isWithin (by omega) (fun pp => ?_) (fun pp => ?_)
  · obtain ⟨p, hp, rfl⟩ := inr_cnt (by omega) pp
    have hcl : (nI p).toNatClampNeg = p := nI_clamp (by omega)
    have hrow := row_151 p (by omega)
    have hshp := shp_151 L p (by omega)
    conv => whnf
    (refine ⟨fun c => ?_, fun c => ?_⟩ <;> first | ((have c9 : (1 : Int32) = 0 := by with_reducible exact c); exact absurd c9 (by decide)) | exact absurd (rfl : (0 : Int32) = 0) (by with_reducible exact c) | exact absurd True.intro (by with_reducible exact c) | exact False.elim (by with_reducible exact c) | (conv => whnf))
    refine ⟨vp_in_nI (by omega) (by decide), ?_⟩
    conv => whnf
    refine ⟨fun c => ?_, fun c => ?_⟩
    · conv => whnf
      refine ⟨⟨vp_in_nI (by omega) (by decide), by rw [hcl]; show p < 8; omega, by rw [hcl, hrow]; rfl⟩, ?_⟩
      simp only [hcl, hrow, Option.getD_some]
      conv => whnf
      refine ⟨vp_in_nI (by omega) (by decide), ?_⟩
      conv => whnf
      simp only [m_act_eq, mi, mj, m_act0, m_arr, hshp]
      conv => whnf
      refine ⟨vpi2 (xi_167 hX _) (by first | exact i32_nlt.mpr c | exact c) (by decide), ?_⟩
      conv => whnf
      refine ⟨vp_in_nI (by omega) (by decide), ?_⟩
      conv => whnf
      simp only [m_act_eq, mi, mj, m_act0, m_arr, hshp]
      conv => whnf
      refine ⟨vpi2 (xi_167 hX _) (by first | exact i32_nlt.mpr c | exact c) (by decide), ?_⟩
      conv => whnf
      refine sx_solve (by omega) hX (fun v f1 g1 h1 k1 => ?_)
      have hk7 : f1 167 (nI p).toNatClampNeg = f 167 (nI p).toNatClampNeg := k1 167 _ (by omega)
      conv => whnf
      refine ⟨show ¬ (7984925229121 : Int64) = 0 by decide, ?_⟩
      conv => whnf
      refine ⟨vp_in_nI (by omega) (by decide), ?_⟩
      conv => whnf
      simp only [hk7]
      simp only [m_act_eq, mi, mj, m_act0, m_arr, hshp]
      conv => whnf
      refine ⟨vpi2 (xi_167 hX _) (by first | exact i32_nlt.mpr c | exact c) (by decide), ?_⟩
      conv => whnf
      refine ⟨fun c2 => ?_, fun c2 => ?_⟩
      · conv => whnf
        exact ⟨Or.inl rfl, H _ _ _ (Or.inl rfl) h1 k1⟩
      · conv => whnf
        exact ⟨Or.inr rfl, H _ _ _ (Or.inr rfl) h1 k1⟩
    · conv => whnf
      exact ⟨Or.inl rfl, H _ _ _ (Or.inl rfl) hX (fx_refl _ _ _)⟩
  · conv => whnf
    refine ⟨fun _ => ?_, fun c => absurd (by decide) c⟩
    conv => whnf
    exact ⟨Or.inl rfl, H _ _ _ (Or.inl rfl) hX (fx_refl _ _ _)⟩
set_option maxRecDepth 100000 in
set_option maxHeartbeats 4000000 in
theorem sx_sum {d L : Nat} {f : Nat → Nat → Int32} {g : Nat → Nat → Int64} {x1 : Int32} {R : Option Value → mH → Prop} (hd : 10 ≤ d) (hX : XI f) (H : ∀ v f' g', XI f' → kp [0] f f' → R (some (.int v)) (shF L, f', g')) : Run mtab d 109 [.ref 5, .int x1] (shF L, f, g) R := by
  obtain ⟨d, rfl⟩ : ∃ e, d = e + 1 := ⟨d - 1, by omega⟩
  refine go_X10_sum rfl ?_
  conv => whnf
  repeat' first
    | ((with_reducible refine ⟨vp_in_nI (by omega) (by decide), ?_⟩) <;> conv => whnf)
    | (refine ⟨Or.inl rfl, ?_⟩ <;> conv => whnf)
    | (refine ⟨Or.inr rfl, ?_⟩ <;> conv => whnf)
    | (refine ⟨Or.inl True.intro, ?_⟩ <;> conv => whnf)
    | (refine ⟨Or.inr True.intro, ?_⟩ <;> conv => whnf)
    | (refine ⟨fun c => ?_, fun c => ?_⟩ <;> first | ((have c9 : (1 : Int32) = 0 := by with_reducible exact c); exact absurd c9 (by decide)) | exact absurd (rfl : (0 : Int32) = 0) (by with_reducible exact c) | exact absurd True.intro (by with_reducible exact c) | exact False.elim (by with_reducible exact c) | (conv => whnf))
    | (refine ct_isWithin (by omega) (fun p => ?_) (fun p => ?_) <;> conv => whnf)
    | (refine ct_isYear (by omega) (fun p => ?_) (fun p => ?_) <;> conv => whnf)
    | (refine ct_isSide (by omega) (fun p => ?_) (fun p => ?_) <;> conv => whnf)
    | (refine ct_isTitle (by omega) (fun p => ?_) (fun p => ?_) <;> conv => whnf)
    | (refine ct_isBits8 (by omega) (fun p => ?_) (fun p => ?_) <;> conv => whnf)
    | (refine ct_isBits20 (by omega) (fun p => ?_) (fun p => ?_) <;> conv => whnf)
    | (refine ct_isBits30 (by omega) (fun p => ?_) (fun p => ?_) <;> conv => whnf)
    | (refine ct_isToldWell (by omega) (fun p => ?_) (fun p => ?_) <;> conv => whnf)
    | (refine ct_isSheet (by omega) (fun p => ?_) (fun p => ?_) <;> conv => whnf)
    | (refine ct_isLane (by omega) (fun p => ?_) (fun p => ?_) <;> conv => whnf)
    | (refine sx_reckon (by omega) hX (fun f1 g1 h1 k1 => ?_) <;> conv => whnf)
    | (refine sx_join (by omega) h1 (fun f2 g2 h2 k2 => ?_) <;> conv => whnf)
    | (refine ⟨by unfold vp_in; decide, ?_⟩ <;> conv => whnf)
    | fail
  all_goals exact H _ _ _ (by repeat' first | (with_reducible assumption) | (with_reducible refine XI_ui ?_ ?_) | (with_reducible refine XI_fil ?_ (fun _ => ?_)) | (with_reducible refine XI_cpy ?_ (fun _ _ => ?_)) | exact True.intro | ((show inr _ _ _); first | (with_reducible assumption) | (unfold inr; decide)) | fail) (by repeat' first | (with_reducible exact kp_refl _ _) | (with_reducible assumption) | (with_reducible refine kp_ui ?_ ?_) | (with_reducible refine kp_fil ?_ ?_) | (with_reducible refine kp_cpy ?_ ?_) | (refine kp_trans ?_ (kp_wd k2 rfl)) | (refine kp_trans ?_ (kp_fx k2 rfl)) | (refine kp_trans ?_ (kp_wd k1 rfl)) | (refine kp_trans ?_ (kp_fx k1 rfl)) | rfl | fail)
set_option maxRecDepth 100000 in
set_option maxHeartbeats 4000000 in
theorem sx_joined {d L : Nat} {f : Nat → Nat → Int32} {g : Nat → Nat → Int64} {x1 : Int32} {R : Option Value → mH → Prop} (hd : 10 ≤ d) (hX : XI f) (H : ∀ v f' g', XI f' → kp [0] f f' → R (some (.int v)) (shF L, f', g')) : Run mtab d 107 [.ref 5, .int x1] (shF L, f, g) R := by
  obtain ⟨d, rfl⟩ : ∃ e, d = e + 1 := ⟨d - 1, by omega⟩
  refine go_X10_joined rfl ?_
  conv => whnf
  obtain ⟨sn, hsm, hsn⟩ := inr_nat (n := 50) rfl (xi_139 hX 13)
  repeat' first
    | ((with_reducible refine ⟨vp_in_nI (by omega) (by decide), ?_⟩) <;> conv => whnf)
    | (refine ⟨Or.inl rfl, ?_⟩ <;> conv => whnf)
    | (refine ⟨Or.inr rfl, ?_⟩ <;> conv => whnf)
    | (refine ⟨Or.inl True.intro, ?_⟩ <;> conv => whnf)
    | (refine ⟨Or.inr True.intro, ?_⟩ <;> conv => whnf)
    | (refine ⟨fun c => ?_, fun c => ?_⟩ <;> first | ((have c9 : (1 : Int32) = 0 := by with_reducible exact c); exact absurd c9 (by decide)) | exact absurd (rfl : (0 : Int32) = 0) (by with_reducible exact c) | exact absurd True.intro (by with_reducible exact c) | exact False.elim (by with_reducible exact c) | (conv => whnf))
    | (refine ct_shas (by omega) hsn hsm (fun j hj e => ?_) (fun q => ?_) <;> (try subst e) <;> conv => whnf)
    | (refine sx_reckon (by omega) hX (fun f1 g1 h1 k1 => ?_) <;> conv => whnf)
    | (refine sx_join (by omega) h1 (fun f2 g2 h2 k2 => ?_) <;> conv => whnf)
    | (refine sx_workFor (by omega) h2 (fun v => ?_) <;> conv => whnf)
    | (refine ⟨by unfold vp_in; decide, ?_⟩ <;> conv => whnf)
    | fail
  all_goals exact H _ _ _ (by repeat' first | (with_reducible assumption) | (with_reducible refine XI_ui ?_ ?_) | (with_reducible refine XI_fil ?_ (fun _ => ?_)) | (with_reducible refine XI_cpy ?_ (fun _ _ => ?_)) | exact True.intro | ((show inr _ _ _); first | (with_reducible assumption) | (unfold inr; decide)) | fail) (by repeat' first | (with_reducible exact kp_refl _ _) | (with_reducible assumption) | (with_reducible refine kp_ui ?_ ?_) | (with_reducible refine kp_fil ?_ ?_) | (with_reducible refine kp_cpy ?_ ?_) | (refine kp_trans ?_ (kp_wd k2 rfl)) | (refine kp_trans ?_ (kp_fx k2 rfl)) | (refine kp_trans ?_ (kp_wd k1 rfl)) | (refine kp_trans ?_ (kp_fx k1 rfl)) | rfl | fail)
set_option maxRecDepth 100000 in
set_option maxHeartbeats 4000000 in
theorem sx_sure {d L : Nat} {f : Nat → Nat → Int32} {g : Nat → Nat → Int64} {x1 : Int32} {R : Option Value → mH → Prop} (hd : 10 ≤ d) (hX : XI f) (H : ∀ v f' g', XI f' → kp [0] f f' → R (some (.int v)) (shF L, f', g')) : Run mtab d 108 [.ref 5, .int x1] (shF L, f, g) R := by
  obtain ⟨d, rfl⟩ : ∃ e, d = e + 1 := ⟨d - 1, by omega⟩
  refine go_X10_sure rfl ?_
  conv => whnf
  obtain ⟨sn, hsm, hsn⟩ := inr_nat (n := 50) rfl (xi_139 hX 13)
  repeat' first
    | ((with_reducible refine ⟨vp_in_nI (by omega) (by decide), ?_⟩) <;> conv => whnf)
    | (refine ⟨Or.inl rfl, ?_⟩ <;> conv => whnf)
    | (refine ⟨Or.inr rfl, ?_⟩ <;> conv => whnf)
    | (refine ⟨Or.inl True.intro, ?_⟩ <;> conv => whnf)
    | (refine ⟨Or.inr True.intro, ?_⟩ <;> conv => whnf)
    | (refine ⟨fun c => ?_, fun c => ?_⟩ <;> first | ((have c9 : (1 : Int32) = 0 := by with_reducible exact c); exact absurd c9 (by decide)) | exact absurd (rfl : (0 : Int32) = 0) (by with_reducible exact c) | exact absurd True.intro (by with_reducible exact c) | exact False.elim (by with_reducible exact c) | (conv => whnf))
    | (refine ct_shas (by omega) hsn hsm (fun j hj e => ?_) (fun q => ?_) <;> (try subst e) <;> conv => whnf)
    | (refine sx_reckon (by omega) hX (fun f1 g1 h1 k1 => ?_) <;> conv => whnf)
    | (refine sx_join (by omega) h1 (fun f2 g2 h2 k2 => ?_) <;> conv => whnf)
    | (refine sx_workFor (by omega) h2 (fun v => ?_) <;> conv => whnf)
    | (refine sx_seatOf (by omega) h2 (fun v hv => ?_) <;> conv => whnf)
    | (refine sx_isSure (by omega) h2 (fun v f3 g3 hv3 h3 k3 => ?_) <;> conv => whnf)
    | (refine ct_bit (by omega) (fun p => ?_) (fun p => ?_) <;> conv => whnf)
    | (refine ⟨by unfold vp_in; decide, ?_⟩ <;> conv => whnf)
    | fail
  all_goals exact H _ _ _ (by repeat' first | (with_reducible assumption) | (with_reducible refine XI_ui ?_ ?_) | (with_reducible refine XI_fil ?_ (fun _ => ?_)) | (with_reducible refine XI_cpy ?_ (fun _ _ => ?_)) | exact True.intro | ((show inr _ _ _); first | (with_reducible assumption) | (unfold inr; decide)) | fail) (by repeat' first | (with_reducible exact kp_refl _ _) | (with_reducible assumption) | (with_reducible refine kp_ui ?_ ?_) | (with_reducible refine kp_fil ?_ ?_) | (with_reducible refine kp_cpy ?_ ?_) | (refine kp_trans ?_ (kp_wd k3 rfl)) | (refine kp_trans ?_ (kp_fx k3 rfl)) | (refine kp_trans ?_ (kp_wd k2 rfl)) | (refine kp_trans ?_ (kp_fx k2 rfl)) | (refine kp_trans ?_ (kp_wd k1 rfl)) | (refine kp_trans ?_ (kp_fx k1 rfl)) | rfl | fail)
set_option maxRecDepth 100000 in
set_option maxHeartbeats 4000000 in
theorem sx_isPassed {d L : Nat} {f : Nat → Nat → Int32} {g : Nat → Nat → Int64} {w x y : Int32} {R : Option Value → mH → Prop} (hd : 2 ≤ d) (hX : XI f) (hw : inr 0 3 w) (H : ∀ v, (v = 0 ∨ v = 1) → R (some (.int v)) (shF L, f, g)) : Run mtab d 53 [.ref 107, .int w, .int x, .int y] (shF L, f, g) R := by
  obtain ⟨d, rfl⟩ : ∃ e, d = e + 1 := ⟨d - 1, by omega⟩
  refine go_X6_isPassed rfl ?_
  conv => whnf
  rcases inr_c3 hw with rfl | rfl | rfl | rfl
  all_goals
    repeat' first
      | (refine ⟨⟨by unfold vp_in; decide, by decide, by decide⟩, ?_⟩ <;> conv => whnf)
      | (refine ⟨by unfold vp_in; decide, ?_⟩ <;> conv => whnf)
      | ((with_reducible refine ⟨vp_in_nI (by omega) (by decide), ?_⟩) <;> conv => whnf)
      | (refine ⟨Or.inl rfl, ?_⟩ <;> conv => whnf)
      | (refine ⟨Or.inr rfl, ?_⟩ <;> conv => whnf)
      | (refine ⟨Or.inl True.intro, ?_⟩ <;> conv => whnf)
      | (refine ⟨Or.inr True.intro, ?_⟩ <;> conv => whnf)
      | (refine ⟨fun c => ?_, fun c => ?_⟩ <;> first | ((have c9 : (1 : Int32) = 0 := by with_reducible exact c); exact absurd c9 (by decide)) | exact absurd (rfl : (0 : Int32) = 0) (by with_reducible exact c) | exact absurd True.intro (by with_reducible exact c) | exact False.elim (by with_reducible exact c) | (conv => whnf))
      | (refine sx_bitCount (by omega) hX (fun v => ?_) <;> conv => whnf)
      | (refine ⟨by unfold vp_in; decide, ?_⟩ <;> conv => whnf)
      | fail
  all_goals first | exact ⟨Or.inl rfl, H _ (Or.inl rfl)⟩ | exact ⟨Or.inr rfl, H _ (Or.inr rfl)⟩ | exact H _ (Or.inl rfl) | exact H _ (Or.inr rfl)
set_option maxRecDepth 100000 in
set_option maxHeartbeats 4000000 in
theorem sx_noteVoters {d L : Nat} {f : Nat → Nat → Int32} {g : Nat → Nat → Int64} {j : Nat} {x y : Int32} {R : Option Value → mH → Prop} (hd : 1 ≤ d) (hX : XI f) (hj : j < 60) (H : ∀ f' g', XI f' → kp [4] f f' → R none (shF L, f', g')) : Run mtab d 9 [.ref 119, .int (nI j), .int x, .int y] (shF L, f, g) R := by
  obtain ⟨d, rfl⟩ : ∃ e, d = e + 1 := ⟨d - 1, by omega⟩
  refine go_X0_noteVoters rfl ?_
  conv => whnf
  repeat' first
    | ((with_reducible refine ⟨vp_in_nI (by omega) (by decide), ?_⟩) <;> conv => whnf)
    | (refine ⟨Or.inl rfl, ?_⟩ <;> conv => whnf)
    | (refine ⟨Or.inr rfl, ?_⟩ <;> conv => whnf)
    | (refine ⟨Or.inl True.intro, ?_⟩ <;> conv => whnf)
    | (refine ⟨Or.inr True.intro, ?_⟩ <;> conv => whnf)
    | (refine ⟨fun c => ?_, fun c => ?_⟩ <;> first | ((have c9 : (1 : Int32) = 0 := by with_reducible exact c); exact absurd c9 (by decide)) | exact absurd (rfl : (0 : Int32) = 0) (by with_reducible exact c) | exact absurd True.intro (by with_reducible exact c) | exact False.elim (by with_reducible exact c) | (conv => whnf))
    | (refine ⟨by unfold vp_in; decide, ?_⟩ <;> conv => whnf)
    | fail
  all_goals exact H _ _ (by repeat' first | (with_reducible assumption) | (with_reducible refine XI_ui ?_ ?_) | (with_reducible refine XI_fil ?_ (fun _ => ?_)) | (with_reducible refine XI_cpy ?_ (fun _ _ => ?_)) | exact True.intro | ((show inr _ _ _); first | (with_reducible assumption) | (unfold inr; decide)) | fail) (by repeat' first | (with_reducible exact kp_refl _ _) | (with_reducible assumption) | (with_reducible refine kp_ui ?_ ?_) | (with_reducible refine kp_fil ?_ ?_) | (with_reducible refine kp_cpy ?_ ?_) | rfl | fail)
set_option maxRecDepth 100000 in
set_option maxHeartbeats 4000000 in
theorem sx_CaddV {d L : Nat} {f : Nat → Nat → Int32} {g : Nat → Nat → Int64} {x1 x2 x3 x4 : Int32} {R : Option Value → mH → Prop} (hd : 2 ≤ d) (hX : XI f) (h1 : inr 0 39 x1) (H0 : ∀ f' g', XI f' → kp [4] f f' → R (some (.int (-3))) (shF L, f', g')) (H1 : ∀ j, j < 60 → ∀ f' g', XI f' → kp [4] f f' → R (some (.int (nI j))) (shF L, f', g')) : Run mtab d 8 [.ref 119, .int x1, .int x2, .int x3, .int x4] (shF L, f, g) R := by
  obtain ⟨d, rfl⟩ : ∃ e, d = e + 1 := ⟨d - 1, by omega⟩
  refine go_X0_add rfl ?_
  conv => whnf
  obtain ⟨n, hm, hb⟩ := inr_nat (n := 60) rfl (xi_119 hX 7)
  by_cases hq : n = 60
  · subst hq
    repeat' first
      | (simp only [hb])
      | ((with_reducible refine ⟨vp_in_nI (by omega) (by decide), ?_⟩) <;> conv => whnf)
      | (refine ⟨Or.inl rfl, ?_⟩ <;> conv => whnf)
      | (refine ⟨Or.inr rfl, ?_⟩ <;> conv => whnf)
      | (refine ⟨Or.inl True.intro, ?_⟩ <;> conv => whnf)
      | (refine ⟨Or.inr True.intro, ?_⟩ <;> conv => whnf)
      | (refine ⟨fun c => ?_, fun c => ?_⟩ <;> first | ((have c9 : (1 : Int32) = 0 := by with_reducible exact c); exact absurd c9 (by decide)) | exact absurd (rfl : (0 : Int32) = 0) (by with_reducible exact c) | exact absurd True.intro (by with_reducible exact c) | exact False.elim (by with_reducible exact c) | exact absurd (by decide) c | (conv => whnf))
      | (refine ⟨by unfold vp_in; decide, ?_⟩ <;> conv => whnf)
      | fail
    all_goals exact H0 _ _ (by repeat' first | (with_reducible assumption) | (with_reducible refine XI_ui ?_ ?_) | (with_reducible refine XI_fil ?_ (fun _ => ?_)) | (with_reducible refine XI_cpy ?_ (fun _ _ => ?_)) | exact True.intro | ((show inr _ _ _); first | (with_reducible assumption) | (unfold inr; decide)) | fail) (by repeat' first | (with_reducible exact kp_refl _ _) | (with_reducible assumption) | (with_reducible refine kp_ui ?_ ?_) | (with_reducible refine kp_fil ?_ ?_) | (with_reducible refine kp_cpy ?_ ?_) | rfl | fail)
  · have hlt : n < 60 := by omega
    repeat' first
      | (simp only [hb, m_ui_ap, m_fil_ap, m_cpy_ap, Nat.reduceEqDiff, Nat.reduceLT, Nat.reduceLeDiff, eq_self, ↓reduceIte, false_and, and_false, true_and, and_true, and_self])
      | ((with_reducible refine ⟨vp_in_nI (by omega) (by decide), ?_⟩) <;> conv => whnf)
      | (refine ⟨Or.inl rfl, ?_⟩ <;> conv => whnf)
      | (refine ⟨Or.inr rfl, ?_⟩ <;> conv => whnf)
      | (refine ⟨Or.inl True.intro, ?_⟩ <;> conv => whnf)
      | (refine ⟨Or.inr True.intro, ?_⟩ <;> conv => whnf)
      | (refine ⟨fun c => ?_, fun c => ?_⟩ <;> first | ((have c9 : (1 : Int32) = 0 := by with_reducible exact c); exact absurd c9 (by decide)) | exact absurd (rfl : (0 : Int32) = 0) (by with_reducible exact c) | exact absurd True.intro (by with_reducible exact c) | exact False.elim (by with_reducible exact c) | exact absurd ((nI_eq (b := 60) (by omega) (by decide)).mp c) hq | (conv => whnf))
      | (refine ⟨by unfold vp_in; decide, ?_⟩ <;> conv => whnf)
      | fail
    all_goals exact H1 n hlt _ _ (by repeat' first | (with_reducible assumption) | (with_reducible refine XI_ui ?_ ?_) | (with_reducible refine XI_fil ?_ (fun _ => ?_)) | (with_reducible refine XI_cpy ?_ (fun _ _ => ?_)) | exact True.intro | ((show inr _ _ _); first | (with_reducible assumption) | ((with_reducible refine inr_n1 (m := 60) ?_ ?_ ?_) <;> first | omega | rfl | decide) | ((with_reducible refine inr_n (m := 60) ?_ ?_ ?_) <;> first | omega | rfl | decide) | (unfold inr; decide)) | fail) (by repeat' first | (with_reducible exact kp_refl _ _) | (with_reducible assumption) | (with_reducible refine kp_ui ?_ ?_) | (with_reducible refine kp_fil ?_ ?_) | (with_reducible refine kp_cpy ?_ ?_) | rfl | fail)
set_option maxRecDepth 100000 in
set_option maxHeartbeats 4000000 in
theorem sx_vote {d L : Nat} {f : Nat → Nat → Int32} {g : Nat → Nat → Int64} {x1 x2 x3 x4 x5 : Int32} {R : Option Value → mH → Prop} (hd : 8 ≤ d) (hX : XI f) (H : ∀ v f' g', XI f' → kp [4] f f' → R (some (.int v)) (shF L, f', g')) : Run mtab d 122 [.ref 5, .int x1, .int x2, .int x3, .int x4, .int x5] (shF L, f, g) R := by
  obtain ⟨d, rfl⟩ : ∃ e, d = e + 1 := ⟨d - 1, by omega⟩
  refine go_X10_vote rfl ?_
  conv => whnf
  obtain ⟨n, hm, hn⟩ := inr_nat (n := 40) rfl (xi_6 hX 13)
  repeat' first
    | ((refine ⟨show ¬ (100 : Int32) = 0 by decide, ?_⟩) <;> conv => whnf)
    | ((with_reducible refine ⟨vp_in_nI (by omega) (by decide), ?_⟩) <;> conv => whnf)
    | (refine ⟨Or.inl rfl, ?_⟩ <;> conv => whnf)
    | (refine ⟨Or.inr rfl, ?_⟩ <;> conv => whnf)
    | (refine ⟨Or.inl True.intro, ?_⟩ <;> conv => whnf)
    | (refine ⟨Or.inr True.intro, ?_⟩ <;> conv => whnf)
    | (refine ⟨fun c => ?_, fun c => ?_⟩ <;> first | ((have c9 : (1 : Int32) = 0 := by with_reducible exact c); exact absurd c9 (by decide)) | exact absurd (rfl : (0 : Int32) = 0) (by with_reducible exact c) | exact absurd True.intro (by with_reducible exact c) | exact False.elim (by with_reducible exact c) | exact absurd c (nI_pos (by omega)) | exact absurd (show (-3 : Int32) < 0 by decide) (by with_reducible exact c) | ((have c9 : (0 : Int32) ≤ -3 := by with_reducible exact c); exact absurd c9 (by decide)) | (conv => whnf))
    | (refine ct_has (by omega) hn hm (fun j hj e => ?_) (fun q => ?_) <;> (try subst e) <;> conv => whnf)
    | (refine ct_isWithin (by omega) (fun p => ?_) (fun p => ?_) <;> conv => whnf)
    | (refine ct_isYear (by omega) (fun p => ?_) (fun p => ?_) <;> conv => whnf)
    | (refine ct_isSide (by omega) (fun p => ?_) (fun p => ?_) <;> conv => whnf)
    | (refine ct_isTitle (by omega) (fun p => ?_) (fun p => ?_) <;> conv => whnf)
    | (refine ct_isBits8 (by omega) (fun p => ?_) (fun p => ?_) <;> conv => whnf)
    | (refine ct_isBits20 (by omega) (fun p => ?_) (fun p => ?_) <;> conv => whnf)
    | (refine ct_isBits30 (by omega) (fun p => ?_) (fun p => ?_) <;> conv => whnf)
    | (refine ct_isToldWell (by omega) (fun p => ?_) (fun p => ?_) <;> conv => whnf)
    | (refine ct_isSheet (by omega) (fun p => ?_) (fun p => ?_) <;> conv => whnf)
    | (refine ct_isLane (by omega) (fun p => ?_) (fun p => ?_) <;> conv => whnf)
    | (refine sx_whoMay (by omega) hX (fun v => ?_) <;> conv => whnf)
    | (refine sx_kinOfAny (by omega) hX (fun v => ?_) <;> conv => whnf)
    | (refine sx_isPassed (by omega) hX (xi_7 hX _) (fun v hv => ?_) <;> conv => whnf)
    | (refine sx_CaddV (by omega) hX (nI_inr (by omega)) (fun f1 g1 h1 k1 => ?_) (fun jj hjj f1 g1 h1 k1 => ?_) <;> conv => whnf)
    | (refine sx_noteVoters (by omega) h1 (by omega) (fun f2 g2 h2 k2 => ?_) <;> conv => whnf)
    | (refine ct_bit (by omega) (fun p => ?_) (fun p => ?_) <;> conv => whnf)
    | (refine ⟨by unfold vp_in; decide, ?_⟩ <;> conv => whnf)
    | fail
  all_goals exact H _ _ _ (by repeat' first | (with_reducible assumption) | (with_reducible refine XI_ui ?_ ?_) | (with_reducible refine XI_fil ?_ (fun _ => ?_)) | (with_reducible refine XI_cpy ?_ (fun _ _ => ?_)) | exact True.intro | ((show inr _ _ _); first | (with_reducible assumption) | (unfold inr; decide)) | fail) (by repeat' first | (with_reducible exact kp_refl _ _) | (with_reducible assumption) | (with_reducible refine kp_ui ?_ ?_) | (with_reducible refine kp_fil ?_ ?_) | (with_reducible refine kp_cpy ?_ ?_) | (refine kp_trans ?_ (kp_wd k2 rfl)) | (refine kp_trans ?_ (kp_fx k2 rfl)) | (refine kp_trans ?_ (kp_wd k1 rfl)) | (refine kp_trans ?_ (kp_fx k1 rfl)) | rfl | fail)
set_option maxRecDepth 100000 in
set_option maxHeartbeats 4000000 in
theorem sx_cjI_lp {d L n : Nat} {f0 : Nat → Nat → Int32} {p : Nat} {b : Int32} {R : Option Value → mH → Prop} (hd : 7 ≤ d) (hm : n ≤ 8) (HO : ∀ (x' : Int32) (a' : Int32) (s : Option Value) (f' : Nat → Nat → Int32) (g' : Nat → Nat → Int64), x' = nI (p + 1) → XI f' → fx 149 168 f0 f' → WPe pg_X2_countJoined none (Run mtab d) R (m_drop pg_X2_countJoined 4) [some (.ref 149), some (.int b), some (.int a'), some (.int x'), s] [] (shF L, f', g')) (H : ∀ v f' g', XI f' → fx 149 168 f0 f' → R (some (.int v)) (shF L, f', g'))  :
    ∀ (k i : Nat) (x : Int32) (a : Int32) (f : Nat → Nat → Int32) (g : Nat → Nat → Int64), i + k = n → x = nI i → XI f → fx 149 168 f0 f → f 150 7 = nI n → WPe pg_X2_countJoined none (Run mtab d) R (m_drop pg_X2_countJoined 12) [some (.ref 149), some (.int b), some (.int a), some (.int (nI p)), some (.int x)] [] (shF L, f, g)
  | 0, i, x, a, f, g, he, hx, hX, hF, hc => by
    have e : i = n := by omega
    subst hx
    subst e
    refine at_X2_countJoined ?_
    conv => whnf
    try simp only [hc]
    refine ⟨fun c => ?_, fun c => absurd (nI_le (Nat.le_refl _) (by omega)) c⟩
    conv => whnf
    repeat' first
      | exact HO _ _ _ _ _ (nI_1 p) hX hF
      | (simp only [hc])
      | ((with_reducible refine ⟨vp_in_nI (by omega) (by decide), ?_⟩) <;> conv => whnf)
      | (refine ⟨Or.inl rfl, ?_⟩ <;> conv => whnf)
      | (refine ⟨Or.inr rfl, ?_⟩ <;> conv => whnf)
      | (refine ⟨Or.inl True.intro, ?_⟩ <;> conv => whnf)
      | (refine ⟨Or.inr True.intro, ?_⟩ <;> conv => whnf)
      | (refine ⟨fun c => ?_, fun c => ?_⟩ <;> first | ((have c9 : (1 : Int32) = 0 := by with_reducible exact c); exact absurd c9 (by decide)) | exact absurd (rfl : (0 : Int32) = 0) (by with_reducible exact c) | exact absurd True.intro (by with_reducible exact c) | exact False.elim (by with_reducible exact c) | (conv => whnf))
      | (refine ⟨by unfold vp_in; decide, ?_⟩ <;> conv => whnf)
      | fail
    all_goals exact H _ _ _ hX hF
  | k + 1, i, x, a, f, g, he, hx, hX, hF, hc => by
    subst hx
    refine at_X2_countJoined ?_
    conv => whnf
    try simp only [hc]
    refine ⟨fun c => absurd c (nI_ge (b := n) (by omega) (by omega)), fun c => ?_⟩
    conv => whnf
    repeat' first
      | exact sx_cjI_lp hd hm HO H k (i + 1) _ _ _ _ (by omega) (nI_1 i) (by repeat' first | (with_reducible assumption) | (with_reducible refine XI_ui ?_ ?_) | (with_reducible refine XI_fil ?_ (fun _ => ?_)) | (with_reducible refine XI_cpy ?_ (fun _ _ => ?_)) | exact True.intro | ((show inr _ _ _); first | (with_reducible assumption) | (unfold inr; decide)) | fail) (by repeat' first | (with_reducible exact fx_refl _ _ _) | (with_reducible assumption) | (with_reducible refine fx_ui ?_ ?_ ?_) | (with_reducible refine fx_fil ?_ ?_ ?_) | (with_reducible refine fx_cpy ?_ ?_ ?_) | (refine fx_trans ?_ (fx_wide k1 (by omega) (by omega))) | omega | decide | fail) (by first | exact hc1 | exact hc)
      | (simp only [hc])
      | ((with_reducible refine ⟨vp_in_nI (by omega) (by decide), ?_⟩) <;> conv => whnf)
      | (refine ⟨Or.inl rfl, ?_⟩ <;> conv => whnf)
      | (refine ⟨Or.inr rfl, ?_⟩ <;> conv => whnf)
      | (refine ⟨Or.inl True.intro, ?_⟩ <;> conv => whnf)
      | (refine ⟨Or.inr True.intro, ?_⟩ <;> conv => whnf)
      | (refine ⟨fun c => ?_, fun c => ?_⟩ <;> first | ((have c9 : (1 : Int32) = 0 := by with_reducible exact c); exact absurd c9 (by decide)) | exact absurd (rfl : (0 : Int32) = 0) (by with_reducible exact c) | exact absurd True.intro (by with_reducible exact c) | exact False.elim (by with_reducible exact c) | (conv => whnf))
      | (refine sx_isSure (by omega) hX (fun v f1 g1 hv1 h1 k1 => ?_) <;> (have hc1 := (k1 150 7 (by omega)).trans hc) <;> conv => whnf)
      | (refine ⟨by unfold vp_in; decide, ?_⟩ <;> conv => whnf)
      | fail
    all_goals exact H _ _ _ hX hF
set_option maxRecDepth 100000 in
set_option maxHeartbeats 4000000 in
theorem sx_cj_lp {d L : Nat} {f0 : Nat → Nat → Int32} {b : Int32} {R : Option Value → mH → Prop} (hd : 8 ≤ d) (H : ∀ v f' g', XI f' → fx 149 168 f0 f' → R (some (.int v)) (shF L, f', g'))  :
    ∀ (k i : Nat) (x : Int32) (a : Int32) (s : Option Value) (f : Nat → Nat → Int32) (g : Nat → Nat → Int64), i + k = 16 → x = nI i → XI f → fx 149 168 f0 f → WPe pg_X2_countJoined none (Run mtab d) R (m_drop pg_X2_countJoined 4) [some (.ref 149), some (.int b), some (.int a), some (.int x), s] [] (shF L, f, g)
  | 0, i, x, a, s, f, g, he, hx, hX, hF => by
    have e : i = 16 := by omega
    subst hx
    subst e
    refine at_X2_countJoined ?_
    conv => whnf
    refine ⟨fun c => ?_, fun c => absurd (by decide) c⟩
    conv => whnf
    repeat' first
      | ((with_reducible refine ⟨vp_in_nI (by omega) (by decide), ?_⟩) <;> conv => whnf)
      | (refine ⟨Or.inl rfl, ?_⟩ <;> conv => whnf)
      | (refine ⟨Or.inr rfl, ?_⟩ <;> conv => whnf)
      | (refine ⟨Or.inl True.intro, ?_⟩ <;> conv => whnf)
      | (refine ⟨Or.inr True.intro, ?_⟩ <;> conv => whnf)
      | (refine ⟨fun c => ?_, fun c => ?_⟩ <;> first | ((have c9 : (1 : Int32) = 0 := by with_reducible exact c); exact absurd c9 (by decide)) | exact absurd (rfl : (0 : Int32) = 0) (by with_reducible exact c) | exact absurd True.intro (by with_reducible exact c) | exact False.elim (by with_reducible exact c) | (conv => whnf))
      | (refine ⟨by unfold vp_in; decide, ?_⟩ <;> conv => whnf)
      | fail
    all_goals exact H _ _ _ hX hF
  | k + 1, i, x, a, s, f, g, he, hx, hX, hF => by
    subst hx
    refine at_X2_countJoined ?_
    conv => whnf
    refine ⟨fun c => absurd c (nI_ge (b := 16) (by omega) (by omega)), fun c => ?_⟩
    conv => whnf
    repeat' first
      | exact sx_cj_lp hd H k (i + 1) _ _ _ _ _ (by omega) (nI_1 i) (by repeat' first | (with_reducible assumption) | (with_reducible refine XI_ui ?_ ?_) | (with_reducible refine XI_fil ?_ (fun _ => ?_)) | (with_reducible refine XI_cpy ?_ (fun _ _ => ?_)) | exact True.intro | ((show inr _ _ _); first | (with_reducible assumption) | (unfold inr; decide)) | fail) (by repeat' first | (with_reducible exact fx_refl _ _ _) | (with_reducible assumption) | (with_reducible refine fx_ui ?_ ?_ ?_) | (with_reducible refine fx_fil ?_ ?_ ?_) | (with_reducible refine fx_cpy ?_ ?_ ?_) | omega | decide | fail)
      | (obtain ⟨rn, hrm, hrb⟩ := inr_nat (n := 8) rfl (xi_150_7 h1); exact sx_cjI_lp (p := i) (by omega) hrm (fun x' a' s f' g' hx' hX' hF' => sx_cj_lp hd H k (i + 1) x' a' s f' g' (by omega) hx' hX' hF') H rn 0 _ _ _ _ (by omega) rfl h1 k1' hrb)
      | ((with_reducible refine ⟨vp_in_nI (by omega) (by decide), ?_⟩) <;> conv => whnf)
      | (refine ⟨Or.inl rfl, ?_⟩ <;> conv => whnf)
      | (refine ⟨Or.inr rfl, ?_⟩ <;> conv => whnf)
      | (refine ⟨Or.inl True.intro, ?_⟩ <;> conv => whnf)
      | (refine ⟨Or.inr True.intro, ?_⟩ <;> conv => whnf)
      | (refine ⟨fun c => ?_, fun c => ?_⟩ <;> first | ((have c9 : (1 : Int32) = 0 := by with_reducible exact c); exact absurd c9 (by decide)) | exact absurd (rfl : (0 : Int32) = 0) (by with_reducible exact c) | exact absurd True.intro (by with_reducible exact c) | exact False.elim (by with_reducible exact c) | (conv => whnf))
      | (refine sx_join (by omega) hX (fun f1 g1 h1 k1 => ?_) <;> (have k1' := fx_trans hF k1) <;> conv => whnf)
      | (refine ⟨by unfold vp_in; decide, ?_⟩ <;> conv => whnf)
      | fail
    all_goals exact H _ _ _ hX hF
set_option maxRecDepth 100000 in
set_option maxHeartbeats 4000000 in
theorem sx_countJoined {d L : Nat} {f : Nat → Nat → Int32} {g : Nat → Nat → Int64} {b : Int32} {R : Option Value → mH → Prop} (hd : 9 ≤ d) (hX : XI f) (H : ∀ v f' g', XI f' → fx 149 168 f f' → R (some (.int v)) (shF L, f', g')) : Run mtab d 25 [.ref 149, .int b] (shF L, f, g) R := by
  obtain ⟨d, rfl⟩ : ∃ e, d = e + 1 := ⟨d - 1, by omega⟩
  refine go_X2_countJoined rfl ?_
  conv => whnf
  exact sx_cj_lp (by omega) H 16 0 _ _ _ _ _ (by omega) rfl hX (fx_refl _ _ _)
set_option maxRecDepth 100000 in
set_option maxHeartbeats 4000000 in
theorem sx_swI_lp {d L n : Nat} {f0 : Nat → Nat → Int32} {p : Nat} {b : Int32} {R : Option Value → mH → Prop} (hd : 7 ≤ d) (hm : n ≤ 8) (HO : ∀ (x' : Int32) (a' : Int64) (s : Option Value) (f' : Nat → Nat → Int32) (g' : Nat → Nat → Int64), x' = nI (p + 1) → XI f' → fx 149 168 f0 f' → WPe pg_X2_sureWorks none (Run mtab d) R (m_drop pg_X2_sureWorks 4) [some (.ref 149), some (.int b), some (.long a'), none, some (.int x'), s] [] (shF L, f', g')) (H : ∀ v f' g', XI f' → fx 149 168 f0 f' → R (some (.long v)) (shF L, f', g'))  :
    ∀ (k i : Nat) (x : Int32) (a : Int64) (f : Nat → Nat → Int32) (g : Nat → Nat → Int64), i + k = n → x = nI i → XI f → fx 149 168 f0 f → f 150 7 = nI n → WPe pg_X2_sureWorks none (Run mtab d) R (m_drop pg_X2_sureWorks 12) [some (.ref 149), some (.int b), some (.long a), none, some (.int (nI p)), some (.int x)] [] (shF L, f, g)
  | 0, i, x, a, f, g, he, hx, hX, hF, hc => by
    have e : i = n := by omega
    subst hx
    subst e
    refine at_X2_sureWorks ?_
    conv => whnf
    try simp only [hc]
    refine ⟨fun c => ?_, fun c => absurd (nI_le (Nat.le_refl _) (by omega)) c⟩
    conv => whnf
    repeat' first
      | exact HO _ _ _ _ _ (nI_1 p) hX hF
      | (simp only [hc])
      | ((with_reducible refine ⟨vp_in_nI (by omega) (by decide), ?_⟩) <;> conv => whnf)
      | (refine ⟨Or.inl rfl, ?_⟩ <;> conv => whnf)
      | (refine ⟨Or.inr rfl, ?_⟩ <;> conv => whnf)
      | (refine ⟨Or.inl True.intro, ?_⟩ <;> conv => whnf)
      | (refine ⟨Or.inr True.intro, ?_⟩ <;> conv => whnf)
      | (refine ⟨fun c => ?_, fun c => ?_⟩ <;> first | ((have c9 : (1 : Int32) = 0 := by with_reducible exact c); exact absurd c9 (by decide)) | exact absurd (rfl : (0 : Int32) = 0) (by with_reducible exact c) | exact absurd True.intro (by with_reducible exact c) | exact False.elim (by with_reducible exact c) | (conv => whnf))
      | (refine ⟨by unfold vp_in; decide, ?_⟩ <;> conv => whnf)
      | fail
    all_goals exact H _ _ _ hX hF
  | k + 1, i, x, a, f, g, he, hx, hX, hF, hc => by
    subst hx
    refine at_X2_sureWorks ?_
    conv => whnf
    try simp only [hc]
    refine ⟨fun c => absurd c (nI_ge (b := n) (by omega) (by omega)), fun c => ?_⟩
    conv => whnf
    repeat' first
      | exact sx_swI_lp hd hm HO H k (i + 1) _ _ _ _ (by omega) (nI_1 i) (by repeat' first | (with_reducible assumption) | (with_reducible refine XI_ui ?_ ?_) | (with_reducible refine XI_fil ?_ (fun _ => ?_)) | (with_reducible refine XI_cpy ?_ (fun _ _ => ?_)) | exact True.intro | ((show inr _ _ _); first | (with_reducible assumption) | (unfold inr; decide)) | fail) (by repeat' first | (with_reducible exact fx_refl _ _ _) | (with_reducible assumption) | (with_reducible refine fx_ui ?_ ?_ ?_) | (with_reducible refine fx_fil ?_ ?_ ?_) | (with_reducible refine fx_cpy ?_ ?_ ?_) | (refine fx_trans ?_ (fx_wide k1 (by omega) (by omega))) | omega | decide | fail) (by first | exact hc1 | exact hc)
      | ((with_reducible refine ⟨vx_166 hX _, ?_⟩) <;> conv => whnf)
      | (simp only [hc])
      | ((with_reducible refine ⟨vp_in_nI (by omega) (by decide), ?_⟩) <;> conv => whnf)
      | (refine ⟨Or.inl rfl, ?_⟩ <;> conv => whnf)
      | (refine ⟨Or.inr rfl, ?_⟩ <;> conv => whnf)
      | (refine ⟨Or.inl True.intro, ?_⟩ <;> conv => whnf)
      | (refine ⟨Or.inr True.intro, ?_⟩ <;> conv => whnf)
      | (refine ⟨fun c => ?_, fun c => ?_⟩ <;> first | ((have c9 : (1 : Int32) = 0 := by with_reducible exact c); exact absurd c9 (by decide)) | exact absurd (rfl : (0 : Int32) = 0) (by with_reducible exact c) | exact absurd True.intro (by with_reducible exact c) | exact False.elim (by with_reducible exact c) | (conv => whnf))
      | (refine sx_isSure (by omega) hX (fun v f1 g1 hv1 h1 k1 => ?_) <;> (have hc1 := (k1 150 7 (by omega)).trans hc) <;> conv => whnf)
      | (refine ⟨by unfold vp_in; decide, ?_⟩ <;> conv => whnf)
      | fail
    all_goals exact H _ _ _ hX hF
set_option maxRecDepth 100000 in
set_option maxHeartbeats 4000000 in
theorem sx_sw_lp {d L : Nat} {f0 : Nat → Nat → Int32} {b : Int32} {R : Option Value → mH → Prop} (hd : 8 ≤ d) (H : ∀ v f' g', XI f' → fx 149 168 f0 f' → R (some (.long v)) (shF L, f', g'))  :
    ∀ (k i : Nat) (x : Int32) (a : Int64) (s : Option Value) (f : Nat → Nat → Int32) (g : Nat → Nat → Int64), i + k = 16 → x = nI i → XI f → fx 149 168 f0 f → WPe pg_X2_sureWorks none (Run mtab d) R (m_drop pg_X2_sureWorks 4) [some (.ref 149), some (.int b), some (.long a), none, some (.int x), s] [] (shF L, f, g)
  | 0, i, x, a, s, f, g, he, hx, hX, hF => by
    have e : i = 16 := by omega
    subst hx
    subst e
    refine at_X2_sureWorks ?_
    conv => whnf
    refine ⟨fun c => ?_, fun c => absurd (by decide) c⟩
    conv => whnf
    repeat' first
      | ((with_reducible refine ⟨vp_in_nI (by omega) (by decide), ?_⟩) <;> conv => whnf)
      | (refine ⟨Or.inl rfl, ?_⟩ <;> conv => whnf)
      | (refine ⟨Or.inr rfl, ?_⟩ <;> conv => whnf)
      | (refine ⟨Or.inl True.intro, ?_⟩ <;> conv => whnf)
      | (refine ⟨Or.inr True.intro, ?_⟩ <;> conv => whnf)
      | (refine ⟨fun c => ?_, fun c => ?_⟩ <;> first | ((have c9 : (1 : Int32) = 0 := by with_reducible exact c); exact absurd c9 (by decide)) | exact absurd (rfl : (0 : Int32) = 0) (by with_reducible exact c) | exact absurd True.intro (by with_reducible exact c) | exact False.elim (by with_reducible exact c) | (conv => whnf))
      | (refine ⟨by unfold vp_in; decide, ?_⟩ <;> conv => whnf)
      | fail
    all_goals exact H _ _ _ hX hF
  | k + 1, i, x, a, s, f, g, he, hx, hX, hF => by
    subst hx
    refine at_X2_sureWorks ?_
    conv => whnf
    refine ⟨fun c => absurd c (nI_ge (b := 16) (by omega) (by omega)), fun c => ?_⟩
    conv => whnf
    repeat' first
      | exact sx_sw_lp hd H k (i + 1) _ _ _ _ _ (by omega) (nI_1 i) (by repeat' first | (with_reducible assumption) | (with_reducible refine XI_ui ?_ ?_) | (with_reducible refine XI_fil ?_ (fun _ => ?_)) | (with_reducible refine XI_cpy ?_ (fun _ _ => ?_)) | exact True.intro | ((show inr _ _ _); first | (with_reducible assumption) | (unfold inr; decide)) | fail) (by repeat' first | (with_reducible exact fx_refl _ _ _) | (with_reducible assumption) | (with_reducible refine fx_ui ?_ ?_ ?_) | (with_reducible refine fx_fil ?_ ?_ ?_) | (with_reducible refine fx_cpy ?_ ?_ ?_) | omega | decide | fail)
      | (obtain ⟨rn, hrm, hrb⟩ := inr_nat (n := 8) rfl (xi_150_7 h1); exact sx_swI_lp (p := i) (by omega) hrm (fun x' a' s f' g' hx' hX' hF' => sx_sw_lp hd H k (i + 1) x' a' s f' g' (by omega) hx' hX' hF') H rn 0 _ _ _ _ (by omega) rfl h1 k1' hrb)
      | ((with_reducible refine ⟨vp_in_nI (by omega) (by decide), ?_⟩) <;> conv => whnf)
      | (refine ⟨Or.inl rfl, ?_⟩ <;> conv => whnf)
      | (refine ⟨Or.inr rfl, ?_⟩ <;> conv => whnf)
      | (refine ⟨Or.inl True.intro, ?_⟩ <;> conv => whnf)
      | (refine ⟨Or.inr True.intro, ?_⟩ <;> conv => whnf)
      | (refine ⟨fun c => ?_, fun c => ?_⟩ <;> first | ((have c9 : (1 : Int32) = 0 := by with_reducible exact c); exact absurd c9 (by decide)) | exact absurd (rfl : (0 : Int32) = 0) (by with_reducible exact c) | exact absurd True.intro (by with_reducible exact c) | exact False.elim (by with_reducible exact c) | (conv => whnf))
      | (refine sx_join (by omega) hX (fun f1 g1 h1 k1 => ?_) <;> (have k1' := fx_trans hF k1) <;> conv => whnf)
      | (refine ⟨by unfold vp_in; decide, ?_⟩ <;> conv => whnf)
      | fail
    all_goals exact H _ _ _ hX hF
set_option maxRecDepth 100000 in
set_option maxHeartbeats 4000000 in
theorem sx_sureWorks {d L : Nat} {f : Nat → Nat → Int32} {g : Nat → Nat → Int64} {b : Int32} {R : Option Value → mH → Prop} (hd : 9 ≤ d) (hX : XI f) (H : ∀ v f' g', XI f' → fx 149 168 f f' → R (some (.long v)) (shF L, f', g')) : Run mtab d 26 [.ref 149, .int b] (shF L, f, g) R := by
  obtain ⟨d, rfl⟩ : ∃ e, d = e + 1 := ⟨d - 1, by omega⟩
  refine go_X2_sureWorks rfl ?_
  conv => whnf
  exact sx_sw_lp (by omega) H 16 0 _ _ _ _ _ (by omega) rfl hX (fx_refl _ _ _)
set_option maxRecDepth 100000 in
set_option maxHeartbeats 4000000 in
theorem sx_mentions {d L : Nat} {f : Nat → Nat → Int32} {g : Nat → Nat → Int64} {x1 : Int32} {R : Option Value → mH → Prop} (hd : 10 ≤ d) (hX : XI f) (H : ∀ v f' g', XI f' → kp [0] f f' → R (some (.int v)) (shF L, f', g')) : Run mtab d 110 [.ref 5, .int x1] (shF L, f, g) R := by
  obtain ⟨d, rfl⟩ : ∃ e, d = e + 1 := ⟨d - 1, by omega⟩
  refine go_X10_mentions rfl ?_
  conv => whnf
  repeat' first
    | ((with_reducible refine ⟨vp_in_nI (by omega) (by decide), ?_⟩) <;> conv => whnf)
    | (refine ⟨Or.inl rfl, ?_⟩ <;> conv => whnf)
    | (refine ⟨Or.inr rfl, ?_⟩ <;> conv => whnf)
    | (refine ⟨Or.inl True.intro, ?_⟩ <;> conv => whnf)
    | (refine ⟨Or.inr True.intro, ?_⟩ <;> conv => whnf)
    | (refine ⟨fun c => ?_, fun c => ?_⟩ <;> first | ((have c9 : (1 : Int32) = 0 := by with_reducible exact c); exact absurd c9 (by decide)) | exact absurd (rfl : (0 : Int32) = 0) (by with_reducible exact c) | exact absurd True.intro (by with_reducible exact c) | exact False.elim (by with_reducible exact c) | (conv => whnf))
    | (refine ct_isWithin (by omega) (fun p => ?_) (fun p => ?_) <;> conv => whnf)
    | (refine ct_isYear (by omega) (fun p => ?_) (fun p => ?_) <;> conv => whnf)
    | (refine ct_isSide (by omega) (fun p => ?_) (fun p => ?_) <;> conv => whnf)
    | (refine ct_isTitle (by omega) (fun p => ?_) (fun p => ?_) <;> conv => whnf)
    | (refine ct_isBits8 (by omega) (fun p => ?_) (fun p => ?_) <;> conv => whnf)
    | (refine ct_isBits20 (by omega) (fun p => ?_) (fun p => ?_) <;> conv => whnf)
    | (refine ct_isBits30 (by omega) (fun p => ?_) (fun p => ?_) <;> conv => whnf)
    | (refine ct_isToldWell (by omega) (fun p => ?_) (fun p => ?_) <;> conv => whnf)
    | (refine ct_isSheet (by omega) (fun p => ?_) (fun p => ?_) <;> conv => whnf)
    | (refine ct_isLane (by omega) (fun p => ?_) (fun p => ?_) <;> conv => whnf)
    | (refine sx_reckon (by omega) hX (fun f1 g1 h1 k1 => ?_) <;> conv => whnf)
    | (refine sx_countLost (by omega) h1 (fun v => ?_) <;> conv => whnf)
    | (refine sx_countJoined (by omega) h1 (fun v f2 g2 h2 k2 => ?_) <;> conv => whnf)
    | (refine ⟨by unfold vp_in; decide, ?_⟩ <;> conv => whnf)
    | fail
  all_goals exact H _ _ _ (by repeat' first | (with_reducible assumption) | (with_reducible refine XI_ui ?_ ?_) | (with_reducible refine XI_fil ?_ (fun _ => ?_)) | (with_reducible refine XI_cpy ?_ (fun _ _ => ?_)) | exact True.intro | ((show inr _ _ _); first | (with_reducible assumption) | (unfold inr; decide)) | fail) (by repeat' first | (with_reducible exact kp_refl _ _) | (with_reducible assumption) | (with_reducible refine kp_ui ?_ ?_) | (with_reducible refine kp_fil ?_ ?_) | (with_reducible refine kp_cpy ?_ ?_) | (refine kp_trans ?_ (kp_wd k2 rfl)) | (refine kp_trans ?_ (kp_fx k2 rfl)) | (refine kp_trans ?_ (kp_wd k1 rfl)) | (refine kp_trans ?_ (kp_fx k1 rfl)) | rfl | fail)
set_option maxRecDepth 100000 in
set_option maxHeartbeats 4000000 in
theorem sx_bitCountL {d L : Nat} {f : Nat → Nat → Int32} {g : Nat → Nat → Int64} {x : Int64} {R : Option Value → mH → Prop} (hd : 1 ≤ d) (hX : XI f) (H : ∀ v, R (some (.int v)) (shF L, f, g)) : Run mtab d 242 [.long x] (shF L, f, g) R := by
  obtain ⟨d, rfl⟩ : ∃ e, d = e + 1 := ⟨d - 1, by omega⟩
  refine go_J13_bitCount_95d88 rfl ?_
  conv => whnf
  exact H _
set_option maxRecDepth 100000 in
set_option maxHeartbeats 4000000 in
theorem sx_counted {d L : Nat} {f : Nat → Nat → Int32} {g : Nat → Nat → Int64} {x1 x2 x3 : Int32} {R : Option Value → mH → Prop} (hd : 10 ≤ d) (hX : XI f) (H : ∀ v f' g', XI f' → kp [0] f f' → R (some (.int v)) (shF L, f', g')) : Run mtab d 111 [.ref 5, .int x1, .int x2, .int x3] (shF L, f, g) R := by
  obtain ⟨d, rfl⟩ : ∃ e, d = e + 1 := ⟨d - 1, by omega⟩
  refine go_X10_counted rfl ?_
  conv => whnf
  repeat' first
    | ((with_reducible refine ⟨by assumption, ?_⟩) <;> conv => whnf)
    | ((with_reducible refine ⟨vp_in_nI (by omega) (by decide), ?_⟩) <;> conv => whnf)
    | (refine ⟨Or.inl rfl, ?_⟩ <;> conv => whnf)
    | (refine ⟨Or.inr rfl, ?_⟩ <;> conv => whnf)
    | (refine ⟨Or.inl True.intro, ?_⟩ <;> conv => whnf)
    | (refine ⟨Or.inr True.intro, ?_⟩ <;> conv => whnf)
    | (refine ⟨fun c => ?_, fun c => ?_⟩ <;> first | ((have c9 : (1 : Int32) = 0 := by with_reducible exact c); exact absurd c9 (by decide)) | exact absurd (rfl : (0 : Int32) = 0) (by with_reducible exact c) | exact absurd True.intro (by with_reducible exact c) | exact False.elim (by with_reducible exact c) | (conv => whnf))
    | (refine ct_isWithin (by omega) (fun p => ?_) (fun p => ?_) <;> conv => whnf)
    | (refine ct_isYear (by omega) (fun p => ?_) (fun p => ?_) <;> conv => whnf)
    | (refine ct_isSide (by omega) (fun p => ?_) (fun p => ?_) <;> conv => whnf)
    | (refine ct_isTitle (by omega) (fun p => ?_) (fun p => ?_) <;> conv => whnf)
    | (refine ct_isBits8 (by omega) (fun p => ?_) (fun p => ?_) <;> conv => whnf)
    | (refine ct_isBits20 (by omega) (fun p => ?_) (fun p => ?_) <;> conv => whnf)
    | (refine ct_isBits30 (by omega) (fun p => ?_) (fun p => ?_) <;> conv => whnf)
    | (refine ct_isToldWell (by omega) (fun p => ?_) (fun p => ?_) <;> conv => whnf)
    | (refine ct_isSheet (by omega) (fun p => ?_) (fun p => ?_) <;> conv => whnf)
    | (refine ct_isLane (by omega) (fun p => ?_) (fun p => ?_) <;> conv => whnf)
    | (refine sx_reckon (by omega) hX (fun f1 g1 h1 k1 => ?_) <;> conv => whnf)
    | (refine sx_sureWorks (by omega) h2 (fun v f3 g3 h3 k3 => ?_) <;> conv => whnf)
    | (refine sx_sureWorks (by omega) h1 (fun v f2 g2 h2 k2 => ?_) <;> conv => whnf)
    | (refine sx_bitCountL (by omega) h3 (fun v => ?_) <;> conv => whnf)
    | (refine ⟨by unfold vp_in; decide, ?_⟩ <;> conv => whnf)
    | (refine ⟨fun c => ?_, ?_⟩ <;> conv => whnf)
    | (intro c; conv => whnf)
    | fail
  all_goals exact H _ _ _ (by repeat' first | (with_reducible assumption) | (with_reducible refine XI_ui ?_ ?_) | (with_reducible refine XI_fil ?_ (fun _ => ?_)) | (with_reducible refine XI_cpy ?_ (fun _ _ => ?_)) | exact True.intro | ((show inr _ _ _); first | (with_reducible assumption) | (unfold inr; decide)) | fail) (by repeat' first | (with_reducible exact kp_refl _ _) | (with_reducible assumption) | (with_reducible refine kp_ui ?_ ?_) | (with_reducible refine kp_fil ?_ ?_) | (with_reducible refine kp_cpy ?_ ?_) | (refine kp_trans ?_ (kp_wd k3 rfl)) | (refine kp_trans ?_ (kp_fx k3 rfl)) | (refine kp_trans ?_ (kp_wd k2 rfl)) | (refine kp_trans ?_ (kp_fx k2 rfl)) | (refine kp_trans ?_ (kp_wd k1 rfl)) | (refine kp_trans ?_ (kp_fx k1 rfl)) | rfl | fail)
set_option maxRecDepth 100000 in
set_option maxHeartbeats 4000000 in
theorem sx_then {d L : Nat} {f : Nat → Nat → Int32} {g : Nat → Nat → Int64} {x1 x2 x3 : Int32} {R : Option Value → mH → Prop} (hd : 8 ≤ d) (hX : XI f) (H : ∀ v f' g', XI f' → kp [0] f f' → R (some (.int v)) (shF L, f', g')) : Run mtab d 96 [.ref 5, .int x1, .int x2, .int x3] (shF L, f, g) R := by
  obtain ⟨d, rfl⟩ : ∃ e, d = e + 1 := ⟨d - 1, by omega⟩
  refine go_X10_then rfl ?_
  conv => whnf
  obtain ⟨n, hm, hn⟩ := inr_nat (n := 40) rfl (xi_6 hX 13)
  repeat' first
    | ((with_reducible refine ⟨vp_in_nI (by omega) (by decide), ?_⟩) <;> conv => whnf)
    | (refine ⟨Or.inl rfl, ?_⟩ <;> conv => whnf)
    | (refine ⟨Or.inr rfl, ?_⟩ <;> conv => whnf)
    | (refine ⟨Or.inl True.intro, ?_⟩ <;> conv => whnf)
    | (refine ⟨Or.inr True.intro, ?_⟩ <;> conv => whnf)
    | (refine ⟨fun c => ?_, fun c => ?_⟩ <;> first | ((have c9 : (1 : Int32) = 0 := by with_reducible exact c); exact absurd c9 (by decide)) | exact absurd (rfl : (0 : Int32) = 0) (by with_reducible exact c) | exact absurd True.intro (by with_reducible exact c) | exact False.elim (by with_reducible exact c) | (conv => whnf))
    | (refine ct_has (by omega) hn hm (fun j hj e => ?_) (fun q => ?_) <;> (try subst e) <;> conv => whnf)
    | (refine ct_isWithin (by omega) (fun p => ?_) (fun p => ?_) <;> conv => whnf)
    | (refine ct_isYear (by omega) (fun p => ?_) (fun p => ?_) <;> conv => whnf)
    | (refine ct_isSide (by omega) (fun p => ?_) (fun p => ?_) <;> conv => whnf)
    | (refine ct_isTitle (by omega) (fun p => ?_) (fun p => ?_) <;> conv => whnf)
    | (refine ct_isBits8 (by omega) (fun p => ?_) (fun p => ?_) <;> conv => whnf)
    | (refine ct_isBits20 (by omega) (fun p => ?_) (fun p => ?_) <;> conv => whnf)
    | (refine ct_isBits30 (by omega) (fun p => ?_) (fun p => ?_) <;> conv => whnf)
    | (refine ct_isToldWell (by omega) (fun p => ?_) (fun p => ?_) <;> conv => whnf)
    | (refine ct_isSheet (by omega) (fun p => ?_) (fun p => ?_) <;> conv => whnf)
    | (refine ct_isLane (by omega) (fun p => ?_) (fun p => ?_) <;> conv => whnf)
    | (refine sx_titleIn (by omega) hX (by omega) (fun v => ?_) <;> conv => whnf)
    | (refine sx_heightIn (by omega) hX (by omega) (fun v => ?_) <;> conv => whnf)
    | (refine sx_widthIn (by omega) hX (by omega) (fun v => ?_) <;> conv => whnf)
    | (refine ⟨by unfold vp_in; decide, ?_⟩ <;> conv => whnf)
    | (refine ⟨fun c => ?_, ?_⟩ <;> conv => whnf)
    | (intro c; conv => whnf)
    | fail
  all_goals exact H _ _ _ (by repeat' first | (with_reducible assumption) | (with_reducible refine XI_ui ?_ ?_) | (with_reducible refine XI_fil ?_ (fun _ => ?_)) | (with_reducible refine XI_cpy ?_ (fun _ _ => ?_)) | exact True.intro | ((show inr _ _ _); first | (with_reducible assumption) | (unfold inr; decide)) | fail) (by repeat' first | (with_reducible exact kp_refl _ _) | (with_reducible assumption) | (with_reducible refine kp_ui ?_ ?_) | (with_reducible refine kp_fil ?_ ?_) | (with_reducible refine kp_cpy ?_ ?_) | rfl | fail)
