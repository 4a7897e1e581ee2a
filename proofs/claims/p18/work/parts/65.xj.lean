theorem lt_nle {a b N : Nat} (c : ¬ nI a ≤ nI b) (ha : a ≤ N) (h1 : N < 2 ^ 31) (h2 : b < 2 ^ 31) : b < N := by
  rw [nI_leI (by omega) (by omega)] at c
  omega
theorem lt_8 {q : Nat} (c : ¬ (8 : Int32) ≤ nI q) (h : q ≤ 8) : q < 8 := lt_nle (a := 8) (N := 8) (show ¬ nI 8 ≤ nI q from c) (by omega) (by decide) (by omega)
theorem vp_8 {q : Nat} (c : ¬ (8 : Int32) ≤ nI q) (h : q ≤ 8) : vp_in (nI q) 8 := vp_in_nI (lt_8 c h) (by decide)
theorem vp_nle {a b N : Nat} (c : ¬ nI a ≤ nI b) (ha : a ≤ N) (h1 : N < 2 ^ 31) (h2 : b < 2 ^ 31) : vp_in (nI b) N := vp_in_nI (lt_nle c ha h1 h2) h1
set_option maxRecDepth 100000 in
set_option maxHeartbeats 4000000 in
theorem sx_gather_lp {d L n : Nat} {f0 : Nat → Nat → Int32} {w : Int32} {R : Option Value → mH → Prop} (hd : 1 ≤ d) (hm : n ≤ 50) (h0 : f0 139 13 = nI n) (H : ∀ f' g', XI f' → fx 149 168 f0 f' → R none (shF L, f', g'))  :
    ∀ (k i : Nat) (x : Int32) (b : Int32) (f : Nat → Nat → Int32) (g : Nat → Nat → Int64), i + k = n → x = nI i → XI f → fx 149 168 f0 f → (∃ q, q ≤ 8 ∧ b = nI q) → WPe pg_X2_gather none (Run mtab d) R (m_drop pg_X2_gather 4) [some (.ref 149), some (.int w), some (.int b), some (.int x)] [] (shF L, f, g)
  | 0, i, x, b, f, g, he, hx, hX, hF, hb => by
    have e : i = n := by omega
    subst hx
    have hc : f 139 13 = nI n := (hF 139 13 (by omega)).trans h0
    obtain ⟨q, hq8, rfl⟩ := hb
    subst e
    refine at_X2_gather ?_
    conv => whnf
    try simp only [hc]
    refine ⟨fun c => ?_, fun c => absurd (nI_le (Nat.le_refl _) (by omega)) c⟩
    conv => whnf
    repeat' first
      | ((with_reducible refine ⟨vp_8 (by assumption) hq8, ?_⟩) <;> conv => whnf)
      | (simp only [hc])
      | ((with_reducible refine ⟨vp_in_nI (by omega) (by decide), ?_⟩) <;> conv => whnf)
      | (refine ⟨Or.inl rfl, ?_⟩ <;> conv => whnf)
      | (refine ⟨Or.inr rfl, ?_⟩ <;> conv => whnf)
      | (refine ⟨Or.inl True.intro, ?_⟩ <;> conv => whnf)
      | (refine ⟨Or.inr True.intro, ?_⟩ <;> conv => whnf)
      | (refine ⟨fun c => ?_, fun c => ?_⟩ <;> first | ((have c9 : (1 : Int32) = 0 := by with_reducible exact c); exact absurd c9 (by decide)) | exact absurd (rfl : (0 : Int32) = 0) (by with_reducible exact c) | exact absurd True.intro (by with_reducible exact c) | exact False.elim (by with_reducible exact c) | (conv => whnf))
      | (refine ⟨by unfold vp_in; decide, ?_⟩ <;> conv => whnf)
      | fail
    all_goals exact H _ _ (by repeat' first | (with_reducible assumption) | (with_reducible refine XI_ui ?_ ?_) | (with_reducible refine XI_fil ?_ (fun _ => ?_)) | (with_reducible refine XI_cpy ?_ (fun _ _ => ?_)) | exact True.intro | ((show inr _ _ _); first | (with_reducible assumption) | ((with_reducible refine inr_n1 (m := 8) ?_ ?_ ?_) <;> first | omega | rfl | decide) | ((with_reducible refine inr_n (m := 8) ?_ ?_ ?_) <;> first | omega | rfl | decide) | (unfold inr; decide)) | fail) (by repeat' first | (with_reducible exact fx_refl _ _ _) | (with_reducible assumption) | (with_reducible refine fx_ui ?_ ?_ ?_) | (with_reducible refine fx_fil ?_ ?_ ?_) | (with_reducible refine fx_cpy ?_ ?_ ?_) | omega | decide | fail)
  | k + 1, i, x, b, f, g, he, hx, hX, hF, hb => by
    subst hx
    have hc : f 139 13 = nI n := (hF 139 13 (by omega)).trans h0
    obtain ⟨q, hq8, rfl⟩ := hb
    refine at_X2_gather ?_
    conv => whnf
    try simp only [hc]
    refine ⟨fun c => absurd c (nI_ge (b := n) (by omega) (by omega)), fun c => ?_⟩
    conv => whnf
    repeat' first
      | exact sx_gather_lp hd hm h0 H k (i + 1) _ _ _ _ (by omega) (nI_1 i) (by repeat' first | (with_reducible assumption) | (with_reducible refine XI_ui ?_ ?_) | (with_reducible refine XI_fil ?_ (fun _ => ?_)) | (with_reducible refine XI_cpy ?_ (fun _ _ => ?_)) | exact True.intro | ((show inr _ _ _); first | (with_reducible assumption) | ((with_reducible refine inr_n1 (m := 49) ?_ ?_ ?_) <;> first | omega | rfl | decide) | ((with_reducible refine inr_n (m := 49) ?_ ?_ ?_) <;> first | omega | rfl | decide) | ((with_reducible refine inr_n1 (m := 8) ?_ ?_ ?_) <;> first | omega | rfl | decide) | ((with_reducible refine inr_n (m := 8) ?_ ?_ ?_) <;> first | omega | rfl | decide) | (unfold inr; decide)) | fail) (by repeat' first | (with_reducible exact fx_refl _ _ _) | (with_reducible assumption) | (with_reducible refine fx_ui ?_ ?_ ?_) | (with_reducible refine fx_fil ?_ ?_ ?_) | (with_reducible refine fx_cpy ?_ ?_ ?_) | omega | decide | fail) (by first | exact ⟨q, hq8, rfl⟩ | exact ⟨q + 1, lt_8 (by assumption) hq8, nI_1 q⟩)
      | ((with_reducible refine ⟨vp_8 (by assumption) hq8, ?_⟩) <;> conv => whnf)
      | (simp only [hc])
      | ((with_reducible refine ⟨vp_in_nI (by omega) (by decide), ?_⟩) <;> conv => whnf)
      | (refine ⟨Or.inl rfl, ?_⟩ <;> conv => whnf)
      | (refine ⟨Or.inr rfl, ?_⟩ <;> conv => whnf)
      | (refine ⟨Or.inl True.intro, ?_⟩ <;> conv => whnf)
      | (refine ⟨Or.inr True.intro, ?_⟩ <;> conv => whnf)
      | (refine ⟨fun c => ?_, fun c => ?_⟩ <;> first | ((have c9 : (1 : Int32) = 0 := by with_reducible exact c); exact absurd c9 (by decide)) | exact absurd (rfl : (0 : Int32) = 0) (by with_reducible exact c) | exact absurd True.intro (by with_reducible exact c) | exact False.elim (by with_reducible exact c) | (conv => whnf))
      | (refine ⟨by unfold vp_in; decide, ?_⟩ <;> conv => whnf)
      | fail
    all_goals exact H _ _ (by repeat' first | (with_reducible assumption) | (with_reducible refine XI_ui ?_ ?_) | (with_reducible refine XI_fil ?_ (fun _ => ?_)) | (with_reducible refine XI_cpy ?_ (fun _ _ => ?_)) | exact True.intro | ((show inr _ _ _); first | (with_reducible assumption) | ((with_reducible refine inr_n1 (m := 8) ?_ ?_ ?_) <;> first | omega | rfl | decide) | ((with_reducible refine inr_n (m := 8) ?_ ?_ ?_) <;> first | omega | rfl | decide) | (unfold inr; decide)) | fail) (by repeat' first | (with_reducible exact fx_refl _ _ _) | (with_reducible assumption) | (with_reducible refine fx_ui ?_ ?_ ?_) | (with_reducible refine fx_fil ?_ ?_ ?_) | (with_reducible refine fx_cpy ?_ ?_ ?_) | omega | decide | fail)
set_option maxRecDepth 100000 in
set_option maxHeartbeats 4000000 in
theorem sx_gather {d L : Nat} {f : Nat → Nat → Int32} {g : Nat → Nat → Int64} {w : Int32} {R : Option Value → mH → Prop} (hd : 2 ≤ d) (hX : XI f) (H : ∀ f' g', XI f' → fx 149 168 f f' → R none (shF L, f', g')) : Run mtab d 20 [.ref 149, .int w] (shF L, f, g) R := by
  obtain ⟨d, rfl⟩ : ∃ e, d = e + 1 := ⟨d - 1, by omega⟩
  refine go_X2_gather rfl ?_
  conv => whnf
  obtain ⟨sn, hsm, hsn⟩ := inr_nat (n := 50) rfl (xi_139 hX 13)
  exact sx_gather_lp (by omega) hsm hsn H sn 0 _ _ _ _ (by omega) rfl hX (fx_refl _ _ _) ⟨0, by omega, rfl⟩
set_option maxRecDepth 100000 in
set_option maxHeartbeats 4000000 in
theorem sx_seatOf_lp {d L n : Nat} {f : Nat → Nat → Int32} {g : Nat → Nat → Int64} {w : Int32} {R : Option Value → mH → Prop} (hd : 1 ≤ d) (hX : XI f) (hb : f 150 7 = nI n) (hm : n ≤ 8) (H : ∀ v, v = -4 ∨ (∃ j, j < 8 ∧ v = nI j) → R (some (.int v)) (shF L, f, g)) :
    ∀ (k i : Nat) (x : Int32), i + k = n → x = nI i → WPe pg_X2_seatOf none (Run mtab d) R (m_drop pg_X2_seatOf 2) [some (.ref 149), some (.int w), some (.int x)] [] (shF L, f, g)
  | 0, i, x, hi, hx => by
    have e : i = n := by omega
    subst hx
    subst e
    refine at_X2_seatOf ?_
    conv => whnf
    simp only [hb]
    refine ⟨fun c => ?_, fun c => absurd (nI_le (Nat.le_refl _) (by omega)) c⟩
    conv => whnf
    repeat' first
      | (simp only [hb])
      | ((with_reducible refine ⟨vp_in_nI (by omega) (by decide), ?_⟩) <;> conv => whnf)
      | (refine ⟨Or.inl rfl, ?_⟩ <;> conv => whnf)
      | (refine ⟨Or.inr rfl, ?_⟩ <;> conv => whnf)
      | (refine ⟨Or.inl True.intro, ?_⟩ <;> conv => whnf)
      | (refine ⟨Or.inr True.intro, ?_⟩ <;> conv => whnf)
      | (refine ⟨fun c => ?_, fun c => ?_⟩ <;> first | ((have c9 : (1 : Int32) = 0 := by with_reducible exact c); exact absurd c9 (by decide)) | exact absurd (rfl : (0 : Int32) = 0) (by with_reducible exact c) | exact absurd True.intro (by with_reducible exact c) | exact False.elim (by with_reducible exact c) | (conv => whnf))
      | (refine ⟨by unfold vp_in; decide, ?_⟩ <;> conv => whnf)
      | fail
    all_goals first | exact H _ (Or.inl rfl) | exact H _ (Or.inr ⟨i, by omega, rfl⟩)
  | k + 1, i, x, hi, hx => by
    subst hx
    refine at_X2_seatOf ?_
    conv => whnf
    simp only [hb]
    refine ⟨fun c => absurd c (nI_ge (b := n) (by omega) (by omega)), fun c => ?_⟩
    conv => whnf
    repeat' first
      | exact sx_seatOf_lp hd hX hb hm H k (i + 1) _  (by omega) (nI_1 i)
      | (simp only [hb])
      | ((with_reducible refine ⟨vp_in_nI (by omega) (by decide), ?_⟩) <;> conv => whnf)
      | (refine ⟨Or.inl rfl, ?_⟩ <;> conv => whnf)
      | (refine ⟨Or.inr rfl, ?_⟩ <;> conv => whnf)
      | (refine ⟨Or.inl True.intro, ?_⟩ <;> conv => whnf)
      | (refine ⟨Or.inr True.intro, ?_⟩ <;> conv => whnf)
      | (refine ⟨fun c => ?_, fun c => ?_⟩ <;> first | ((have c9 : (1 : Int32) = 0 := by with_reducible exact c); exact absurd c9 (by decide)) | exact absurd (rfl : (0 : Int32) = 0) (by with_reducible exact c) | exact absurd True.intro (by with_reducible exact c) | exact False.elim (by with_reducible exact c) | (conv => whnf))
      | (refine ⟨by unfold vp_in; decide, ?_⟩ <;> conv => whnf)
      | fail
    all_goals first | exact H _ (Or.inl rfl) | exact H _ (Or.inr ⟨i, by omega, rfl⟩)
set_option maxRecDepth 100000 in
set_option maxHeartbeats 4000000 in
theorem sx_seatOf {d L : Nat} {f : Nat → Nat → Int32} {g : Nat → Nat → Int64} {w : Int32} {R : Option Value → mH → Prop} (hd : 2 ≤ d) (hX : XI f) (H : ∀ v, v = -4 ∨ (∃ j, j < 8 ∧ v = nI j) → R (some (.int v)) (shF L, f, g)) : Run mtab d 22 [.ref 149, .int w] (shF L, f, g) R := by
  obtain ⟨d, rfl⟩ : ∃ e, d = e + 1 := ⟨d - 1, by omega⟩
  refine go_X2_seatOf rfl ?_
  conv => whnf
  obtain ⟨n, hm, hb⟩ := inr_nat (n := 8) rfl (xi_150_7 hX)
  exact sx_seatOf_lp (by omega) hX hb hm H n 0 _ (by omega) rfl
set_option maxRecDepth 100000 in
set_option maxHeartbeats 4000000 in
theorem sx_workFor {d L : Nat} {f : Nat → Nat → Int32} {g : Nat → Nat → Int64} {w : Int32} {R : Option Value → mH → Prop} (hd : 3 ≤ d) (hX : XI f) (H : ∀ v, R (some (.int v)) (shF L, f, g)) : Run mtab d 23 [.ref 149, .int w] (shF L, f, g) R := by
  obtain ⟨d, rfl⟩ : ∃ e, d = e + 1 := ⟨d - 1, by omega⟩
  refine go_X2_workFor rfl ?_
  conv => whnf
  refine sx_seatOf (by omega) hX (fun v hv => ?_)
  rcases hv with rfl | ⟨j, hj, rfl⟩
  all_goals conv => whnf
  all_goals
    repeat' first
      | ((with_reducible refine ⟨vp_in_nI (by omega) (by decide), ?_⟩) <;> conv => whnf)
      | (refine ⟨Or.inl rfl, ?_⟩ <;> conv => whnf)
      | (refine ⟨Or.inr rfl, ?_⟩ <;> conv => whnf)
      | (refine ⟨Or.inl True.intro, ?_⟩ <;> conv => whnf)
      | (refine ⟨Or.inr True.intro, ?_⟩ <;> conv => whnf)
      | (refine ⟨fun c => ?_, fun c => ?_⟩ <;> first | ((have c9 : (1 : Int32) = 0 := by with_reducible exact c); exact absurd c9 (by decide)) | exact absurd (rfl : (0 : Int32) = 0) (by with_reducible exact c) | exact absurd True.intro (by with_reducible exact c) | exact False.elim (by with_reducible exact c) | exact absurd c (nI_pos (by omega)) | exact absurd c (by decide) | exact absurd (by decide) c | (conv => whnf))
      | (refine ⟨by unfold vp_in; decide, ?_⟩ <;> conv => whnf)
      | fail
  all_goals exact H _
set_option maxRecDepth 100000 in
set_option maxHeartbeats 4000000 in
theorem sx_weigh_lp {d L n : Nat} {f0 : Nat → Nat → Int32} {p : Nat} {pw : Int64} {R : Option Value → mH → Prop} (hd : 5 ≤ d) (hm : n ≤ 48) (h0 : f0 150 8 = nI n) (hp : p < 8) (H : ∀ f' g', XI f' → fx 149 149 f0 f' → R none (shF L, f', g'))  :
    ∀ (k i : Nat) (x : Int32) (s5 : Option Value) (s6 : Option Value) (s7 : Option Value) (f : Nat → Nat → Int32) (g : Nat → Nat → Int64), i + k = n → x = nI i → XI f → fx 149 149 f0 f → WPe pg_X2_weigh none (Run mtab d) R (m_drop pg_X2_weigh 2) [some (.ref 149), some (.int (nI p)), some (.long pw), none, some (.int x), s5, s6, s7] [] (shF L, f, g)
  | 0, i, x, s5, s6, s7, f, g, he, hx, hX, hF => by
    have e : i = n := by omega
    subst hx
    have hc : f 150 8 = nI n := (hF 150 8 (by omega)).trans h0
    have hcl : (nI p).toNatClampNeg = p := nI_clamp (by omega)
    have hrow := row_151 p hp
    have hshp := shp_151 L p hp
    obtain ⟨wn, hwm, hwb⟩ := inr_nat (n := 40) rfl (xi_6 hX 13)
    obtain ⟨jj, hjj, hsj⟩ := inr_nat (n := 49) rfl (xi_166 hX (nI p).toNatClampNeg)
    subst e
    refine at_X2_weigh ?_
    conv => whnf
    try simp only [hc, hwb, hsj]
    refine ⟨fun c => ?_, fun c => absurd (nI_le (Nat.le_refl _) (by omega)) c⟩
    conv => whnf
    repeat' first
      | (simp only [hc, hwb, hsj])
      | ((with_reducible refine ⟨vp_in_nI (by omega) (by decide), ?_⟩) <;> conv => whnf)
      | (refine ⟨Or.inl rfl, ?_⟩ <;> conv => whnf)
      | (refine ⟨Or.inr rfl, ?_⟩ <;> conv => whnf)
      | (refine ⟨Or.inl True.intro, ?_⟩ <;> conv => whnf)
      | (refine ⟨Or.inr True.intro, ?_⟩ <;> conv => whnf)
      | (refine ⟨fun c => ?_, fun c => ?_⟩ <;> first | ((have c9 : (1 : Int32) = 0 := by with_reducible exact c); exact absurd c9 (by decide)) | exact absurd (rfl : (0 : Int32) = 0) (by with_reducible exact c) | exact absurd True.intro (by with_reducible exact c) | exact False.elim (by with_reducible exact c) | (conv => whnf))
      | (refine sx_scoreFor (by omega) hX (by omega) (lt_nle (by assumption) hwm (by decide) (by omega)) (fun v => ?_) <;> conv => whnf)
      | ((refine ⟨⟨vp_in_nI (by omega) (by decide), by rw [hcl]; show p < 8; omega, by rw [hcl, hrow]; rfl⟩, ?_⟩) <;> simp only [hcl, hrow, Option.getD_some] <;> conv => whnf)
      | ((simp only [m_act_eq, mi, mj, m_act0, m_arr, hshp]) <;> conv => whnf)
      | (refine ⟨by unfold vp_in; decide, ?_⟩ <;> conv => whnf)
      | fail
    all_goals exact H _ _ hX hF
  | k + 1, i, x, s5, s6, s7, f, g, he, hx, hX, hF => by
    subst hx
    have hc : f 150 8 = nI n := (hF 150 8 (by omega)).trans h0
    have hcl : (nI p).toNatClampNeg = p := nI_clamp (by omega)
    have hrow := row_151 p hp
    have hshp := shp_151 L p hp
    obtain ⟨wn, hwm, hwb⟩ := inr_nat (n := 40) rfl (xi_6 hX 13)
    obtain ⟨jj, hjj, hsj⟩ := inr_nat (n := 49) rfl (xi_166 hX (nI p).toNatClampNeg)
    refine at_X2_weigh ?_
    conv => whnf
    try simp only [hc, hwb, hsj]
    refine ⟨fun c => absurd c (nI_ge (b := n) (by omega) (by omega)), fun c => ?_⟩
    conv => whnf
    repeat' first
      | exact sx_weigh_lp hd hm h0 hp H k (i + 1) _ _ _ _ _ _ (by omega) (nI_1 i) (by repeat' first | (with_reducible assumption) | (with_reducible refine XI_ui ?_ ?_) | (with_reducible refine XI_fil ?_ (fun _ => ?_)) | (with_reducible refine XI_cpy ?_ (fun _ _ => ?_)) | exact True.intro | ((show inr _ _ _); first | (with_reducible assumption) | (unfold inr; decide)) | fail) (by repeat' first | (with_reducible exact fx_refl _ _ _) | (with_reducible assumption) | (with_reducible refine fx_ui ?_ ?_ ?_) | (with_reducible refine fx_fil ?_ ?_ ?_) | (with_reducible refine fx_cpy ?_ ?_ ?_) | omega | decide | fail)
      | (simp only [hc, hwb, hsj])
      | ((with_reducible refine ⟨vp_in_nI (by omega) (by decide), ?_⟩) <;> conv => whnf)
      | (refine ⟨Or.inl rfl, ?_⟩ <;> conv => whnf)
      | (refine ⟨Or.inr rfl, ?_⟩ <;> conv => whnf)
      | (refine ⟨Or.inl True.intro, ?_⟩ <;> conv => whnf)
      | (refine ⟨Or.inr True.intro, ?_⟩ <;> conv => whnf)
      | (refine ⟨fun c => ?_, fun c => ?_⟩ <;> first | ((have c9 : (1 : Int32) = 0 := by with_reducible exact c); exact absurd c9 (by decide)) | exact absurd (rfl : (0 : Int32) = 0) (by with_reducible exact c) | exact absurd True.intro (by with_reducible exact c) | exact False.elim (by with_reducible exact c) | (conv => whnf))
      | (refine sx_scoreFor (by omega) hX (by omega) (lt_nle (by assumption) hwm (by decide) (by omega)) (fun v => ?_) <;> conv => whnf)
      | ((refine ⟨⟨vp_in_nI (by omega) (by decide), by rw [hcl]; show p < 8; omega, by rw [hcl, hrow]; rfl⟩, ?_⟩) <;> simp only [hcl, hrow, Option.getD_some] <;> conv => whnf)
      | ((simp only [m_act_eq, mi, mj, m_act0, m_arr, hshp]) <;> conv => whnf)
      | (refine ⟨by unfold vp_in; decide, ?_⟩ <;> conv => whnf)
      | fail
    all_goals exact H _ _ hX hF
set_option maxRecDepth 100000 in
set_option maxHeartbeats 4000000 in
theorem sx_weigh {d L : Nat} {f : Nat → Nat → Int32} {g : Nat → Nat → Int64} {p : Nat} {pw : Int64} {R : Option Value → mH → Prop} (hd : 6 ≤ d) (hX : XI f) (hp : p < 8) (H : ∀ f' g', XI f' → fx 149 149 f f' → R none (shF L, f', g')) : Run mtab d 21 [.ref 149, .int (nI p), .long pw] (shF L, f, g) R := by
  obtain ⟨d, rfl⟩ : ∃ e, d = e + 1 := ⟨d - 1, by omega⟩
  refine go_X2_weigh rfl ?_
  conv => whnf
  obtain ⟨n, hm, hc⟩ := inr_nat (n := 48) rfl (xi_150_8 hX)
  exact sx_weigh_lp (by omega) hm hc hp H n 0 _ _ _ _ _ _ (by omega) rfl hX (fx_refl _ _ _)
