set_option maxRecDepth 100000 in
set_option maxHeartbeats 4000000 in
theorem sx_middle {d L : Nat} {f : Nat → Nat → Int32} {g : Nat → Nat → Int64} {w : Int32} {R : Option Value → mH → Prop} (hd : 1 ≤ d) (hX : XI f) (hw : vp_in w 40) (H : ∀ v, R (some (.int v)) (shF L, f, g)) : Run mtab d 17 [.ref 168, .int w] (shF L, f, g) R := by
  obtain ⟨d, rfl⟩ : ∃ e, d = e + 1 := ⟨d - 1, by omega⟩
  refine go_X1_middle rfl ?_
  conv => whnf
  repeat' first
    | ((with_reducible refine ⟨hw, ?_⟩) <;> conv => whnf)
    | ((with_reducible refine ⟨vp_in_nI (by omega) (by decide), ?_⟩) <;> conv => whnf)
    | (refine ⟨Or.inl rfl, ?_⟩ <;> conv => whnf)
    | (refine ⟨Or.inr rfl, ?_⟩ <;> conv => whnf)
    | (refine ⟨Or.inl True.intro, ?_⟩ <;> conv => whnf)
    | (refine ⟨Or.inr True.intro, ?_⟩ <;> conv => whnf)
    | (refine ⟨fun c => ?_, fun c => ?_⟩ <;> first | ((have c9 : (1 : Int32) = 0 := by with_reducible exact c); exact absurd c9 (by decide)) | exact absurd (rfl : (0 : Int32) = 0) (by with_reducible exact c) | exact absurd True.intro (by with_reducible exact c) | exact False.elim (by with_reducible exact c) | (conv => whnf))
    | (refine ⟨by unfold vp_in; decide, ?_⟩ <;> conv => whnf)
    | fail
  all_goals exact H _
set_option maxRecDepth 100000 in
set_option maxHeartbeats 4000000 in
theorem srt_in {d L p q : Nat} {f0 : Nat → Nat → Int32} {R : Option Value → mH → Prop} (hd : 1 ≤ d) (hp : p < 40) (hq : q < 40) (HO : ∀ (b' x' : Int32) (s : Option Value) (f' : Nat → Nat → Int32) (g' : Nat → Nat → Int64), b' = nI (q + 1) → x' = nI (p + 1) → XI f' → fx 172 173 f0 f' → WPe pg_X1_sortThoseIn none (Run mtab d) R (m_drop pg_X1_sortThoseIn 4) [some (.ref 168), some (.int b'), some (.int x'), s] [] (shF L, f', g')) :
    ∀ (t : Nat) (y : Int32) (f : Nat → Nat → Int32) (g : Nat → Nat → Int64), t ≤ q → y = nI t → XI f → fx 172 173 f0 f → WPe pg_X1_sortThoseIn none (Run mtab d) R (m_drop pg_X1_sortThoseIn 19) [some (.ref 168), some (.int (nI q)), some (.int (nI p)), some (.int y)] [] (shF L, f, g)
  | 0, y, f, g, ht, hy, hX, hF => by
    subst hy
    refine at_X1_sortThoseIn ?_
    conv => whnf
    refine ⟨fun c => ?_, fun c => absurd (by decide) c⟩
    conv => whnf
    refine ⟨vp_in_nI (by omega) (by decide), ?_⟩
    conv => whnf
    exact HO _ _ _ _ _ (nI_1 q) (nI_1 p) (XI_ui hX (show inr 0 39 _ from inr_n (m := 39) (by omega) rfl (by decide))) (fx_ui (by decide) (by decide) hF)
  | t + 1, y, f, g, ht, hy, hX, hF => by
    subst hy
    have hp1 : nI (t + 1) - 1 = nI t := nI_pred t
    refine at_X1_sortThoseIn ?_
    conv => whnf
    refine ⟨fun c => absurd c (nI_nle (by omega) (by omega)), fun c => ?_⟩
    conv => whnf
    simp only [hp1]
    refine ⟨vp_in_nI (by omega) (by decide), ?_⟩
    conv => whnf
    refine sx_middle (by omega) hX (vx_172 hX _) (fun v1 => ?_)
    conv => whnf
    refine sx_middle (by omega) hX (vp_in_nI hp (by decide)) (fun v2 => ?_)
    conv => whnf
    refine ⟨fun c2 => ?_, fun c2 => ?_⟩
    · conv => whnf
      refine ⟨vp_in_nI (by omega) (by decide), ?_⟩
      conv => whnf
      exact HO _ _ _ _ _ (nI_1 q) (nI_1 p) (XI_ui hX (show inr 0 39 _ from inr_n (m := 39) (by omega) rfl (by decide))) (fx_ui (by decide) (by decide) hF)
    · conv => whnf
      simp only [hp1]
      refine ⟨vp_in_nI (by omega) (by decide), ?_⟩
      conv => whnf
      refine ⟨vp_in_nI (by omega) (by decide), ?_⟩
      conv => whnf
      exact srt_in hd hp hq HO t _ _ g (by omega) (by rw [← Int32.sub_eq_add_neg, nI_pred]) (XI_ui hX (show inr 0 39 _ from xi_172 hX _)) (fx_ui (by decide) (by decide) hF)
set_option maxRecDepth 100000 in
set_option maxHeartbeats 4000000 in
theorem sx_sort_lp {d L n : Nat} {f0 : Nat → Nat → Int32}  {R : Option Value → mH → Prop} (hd : 1 ≤ d) (hm : n ≤ 40) (h0 : f0 6 13 = nI n) (H : ∀ q f' g', q ≤ 40 → XI f' → fx 172 173 f0 f' → R (some (.int (nI q))) (shF L, f', g'))  :
    ∀ (k i : Nat) (x : Int32) (b : Int32) (s : Option Value) (f : Nat → Nat → Int32) (g : Nat → Nat → Int64), i + k = n → x = nI i → XI f → fx 172 173 f0 f → (∃ q, q ≤ i ∧ b = nI q) → WPe pg_X1_sortThoseIn none (Run mtab d) R (m_drop pg_X1_sortThoseIn 4) [some (.ref 168), some (.int b), some (.int x), s] [] (shF L, f, g)
  | 0, i, x, b, s, f, g, he, hx, hX, hF, hb => by
    have e : i = n := by omega
    subst hx
    have hc : f 6 13 = nI n := (hF 6 13 (by omega)).trans h0
    obtain ⟨q, hqi, rfl⟩ := hb
    subst e
    refine at_X1_sortThoseIn ?_
    conv => whnf
    try simp only [hc]
    refine ⟨fun c => ?_, fun c => absurd (nI_le (Nat.le_refl _) (by omega)) c⟩
    conv => whnf
    repeat' first
      | (simp only [hc])
      | ((with_reducible refine ⟨vp_in_nI (by omega) (by decide), ?_⟩) <;> conv => whnf)
      | (refine ⟨Or.inl rfl, ?_⟩ <;> conv => whnf)
      | (refine ⟨Or.inr rfl, ?_⟩ <;> conv => whnf)
      | (refine ⟨Or.inl True.intro, ?_⟩ <;> conv => whnf)
      | (refine ⟨Or.inr True.intro, ?_⟩ <;> conv => whnf)
      | (refine ⟨fun c => ?_, fun c => ?_⟩ <;> first | ((have c9 : (1 : Int32) = 0 := by with_reducible exact c); exact absurd c9 (by decide)) | exact absurd (rfl : (0 : Int32) = 0) (by with_reducible exact c) | exact absurd True.intro (by with_reducible exact c) | exact False.elim (by with_reducible exact c) | (conv => whnf))
      | (refine ⟨by unfold vp_in; decide, ?_⟩ <;> conv => whnf)
      | fail
    all_goals exact H q _ _ (by omega) hX hF
  | k + 1, i, x, b, s, f, g, he, hx, hX, hF, hb => by
    subst hx
    have hc : f 6 13 = nI n := (hF 6 13 (by omega)).trans h0
    obtain ⟨q, hqi, rfl⟩ := hb
    refine at_X1_sortThoseIn ?_
    conv => whnf
    try simp only [hc]
    refine ⟨fun c => absurd c (nI_ge (b := n) (by omega) (by omega)), fun c => ?_⟩
    conv => whnf
    repeat' first
      | exact sx_sort_lp hd hm h0 H k (i + 1) _ _ _ _ _ (by omega) (nI_1 i) (by repeat' first | (with_reducible assumption) | (with_reducible refine XI_ui ?_ ?_) | (with_reducible refine XI_fil ?_ (fun _ => ?_)) | (with_reducible refine XI_cpy ?_ (fun _ _ => ?_)) | exact True.intro | ((show inr _ _ _); first | (with_reducible assumption) | (unfold inr; decide)) | fail) (by repeat' first | (with_reducible exact fx_refl _ _ _) | (with_reducible assumption) | (with_reducible refine fx_ui ?_ ?_ ?_) | (with_reducible refine fx_fil ?_ ?_ ?_) | (with_reducible refine fx_cpy ?_ ?_ ?_) | omega | decide | fail) ⟨q, by omega, rfl⟩
      | exact srt_in (p := i) (q := q) hd (by omega) (by omega) (fun b' x' s f' g' hb' hx' hX' hF' => sx_sort_lp hd hm h0 H k (i + 1) x' b' s f' g' (by omega) hx' hX' hF' ⟨q + 1, by omega, hb'⟩) q _ _ _ (Nat.le_refl q) rfl hX hF
      | (simp only [hc])
      | ((with_reducible refine ⟨vp_in_nI (by omega) (by decide), ?_⟩) <;> conv => whnf)
      | (refine ⟨Or.inl rfl, ?_⟩ <;> conv => whnf)
      | (refine ⟨Or.inr rfl, ?_⟩ <;> conv => whnf)
      | (refine ⟨Or.inl True.intro, ?_⟩ <;> conv => whnf)
      | (refine ⟨Or.inr True.intro, ?_⟩ <;> conv => whnf)
      | (refine ⟨fun c => ?_, fun c => ?_⟩ <;> first | ((have c9 : (1 : Int32) = 0 := by with_reducible exact c); exact absurd c9 (by decide)) | exact absurd (rfl : (0 : Int32) = 0) (by with_reducible exact c) | exact absurd True.intro (by with_reducible exact c) | exact False.elim (by with_reducible exact c) | (conv => whnf))
      | (refine ⟨by unfold vp_in; decide, ?_⟩ <;> conv => whnf)
      | fail
    all_goals exact H q _ _ (by omega) hX hF
set_option maxRecDepth 100000 in
set_option maxHeartbeats 4000000 in
theorem sx_sortThoseIn {d L : Nat} {f : Nat → Nat → Int32} {g : Nat → Nat → Int64}  {R : Option Value → mH → Prop} (hd : 2 ≤ d) (hX : XI f) (H : ∀ q f' g', q ≤ 40 → XI f' → fx 172 173 f f' → R (some (.int (nI q))) (shF L, f', g')) : Run mtab d 16 [.ref 168] (shF L, f, g) R := by
  obtain ⟨d, rfl⟩ : ∃ e, d = e + 1 := ⟨d - 1, by omega⟩
  refine go_X1_sortThoseIn rfl ?_
  conv => whnf
  obtain ⟨n, hm, hn⟩ := inr_nat (n := 40) rfl (xi_6 hX 13)
  exact sx_sort_lp (by omega) hm hn H n 0 _ _ _ _ _ (by omega) rfl hX (fx_refl _ _ _) ⟨0, by omega, rfl⟩
set_option maxRecDepth 100000 in
set_option maxHeartbeats 4000000 in
theorem sx_asideAt {d L : Nat} {f : Nat → Nat → Int32} {g : Nat → Nat → Int64} {j : Nat} {R : Option Value → mH → Prop} (hd : 1 ≤ d) (hX : XI f) (hj : j < 3) (H : ∀ v, inr 0 19 v → R (some (.int v)) (shF L, f, g)) : Run mtab d 84 [.ref 129, .int (nI j)] (shF L, f, g) R := by
  obtain ⟨d, rfl⟩ : ∃ e, d = e + 1 := ⟨d - 1, by omega⟩
  refine go_X9_asideAt rfl ?_
  conv => whnf
  repeat' first
    | ((with_reducible refine ⟨vx_138 hX _, ?_⟩) <;> conv => whnf)
    | ((with_reducible refine ⟨vp_in_nI (by omega) (by decide), ?_⟩) <;> conv => whnf)
    | (refine ⟨Or.inl rfl, ?_⟩ <;> conv => whnf)
    | (refine ⟨Or.inr rfl, ?_⟩ <;> conv => whnf)
    | (refine ⟨Or.inl True.intro, ?_⟩ <;> conv => whnf)
    | (refine ⟨Or.inr True.intro, ?_⟩ <;> conv => whnf)
    | (refine ⟨fun c => ?_, fun c => ?_⟩ <;> first | ((have c9 : (1 : Int32) = 0 := by with_reducible exact c); exact absurd c9 (by decide)) | exact absurd (rfl : (0 : Int32) = 0) (by with_reducible exact c) | exact absurd True.intro (by with_reducible exact c) | exact False.elim (by with_reducible exact c) | (conv => whnf))
    | (refine ⟨by unfold vp_in; decide, ?_⟩ <;> conv => whnf)
    | fail
  all_goals exact H _ (xi_136 hX _)
set_option maxRecDepth 100000 in
set_option maxHeartbeats 4000000 in
theorem sx_putA_lp {d L n : Nat} {f0 : Nat → Nat → Int32} {w : Int32} {R : Option Value → mH → Prop} (hd : 1 ≤ d) (hm : n ≤ 3) (H : ∀ f' g', XI f' → fx 134 139 f0 f' → R none (shF L, f', g'))  :
    ∀ (k i : Nat) (x : Int32) (f : Nat → Nat → Int32) (g : Nat → Nat → Int64), i + k = n → x = nI i → XI f → fx 134 139 f0 f → WPe pg_X9_putAside none (Run mtab d) R (m_drop pg_X9_putAside 2) [some (.ref 129), some (.int (nI n)), some (.int w), some (.int x)] [] (shF L, f, g)
  | 0, i, x, f, g, he, hx, hX, hF => by
    have e : i = n := by omega
    subst hx
    subst e
    refine at_X9_putAside ?_
    conv => whnf
    refine ⟨fun c => ?_, fun c => absurd (nI_le (Nat.le_refl _) (by omega)) c⟩
    conv => whnf
    repeat' first
      | ((with_reducible refine ⟨vp_in_nI (by omega) (by decide), ?_⟩) <;> conv => whnf)
      | (refine ⟨Or.inl rfl, ?_⟩ <;> conv => whnf)
      | (refine ⟨Or.inr rfl, ?_⟩ <;> conv => whnf)
      | (refine ⟨Or.inl True.intro, ?_⟩ <;> conv => whnf)
      | (refine ⟨Or.inr True.intro, ?_⟩ <;> conv => whnf)
      | (refine ⟨fun c => ?_, fun c => ?_⟩ <;> first | ((have c9 : (1 : Int32) = 0 := by with_reducible exact c); exact absurd c9 (by decide)) | exact absurd (rfl : (0 : Int32) = 0) (by with_reducible exact c) | exact absurd True.intro (by with_reducible exact c) | exact False.elim (by with_reducible exact c) | (conv => whnf))
      | (refine sx_asideAt (by omega) hX (by omega) (fun v hv => ?_) <;> conv => whnf)
      | (refine ⟨by unfold vp_in; decide, ?_⟩ <;> conv => whnf)
      | fail
    all_goals exact H _ _ hX hF
  | k + 1, i, x, f, g, he, hx, hX, hF => by
    subst hx
    refine at_X9_putAside ?_
    conv => whnf
    refine ⟨fun c => absurd c (nI_ge (b := n) (by omega) (by omega)), fun c => ?_⟩
    conv => whnf
    repeat' first
      | exact sx_putA_lp hd hm H k (i + 1) _  _ _ (by omega) (nI_1 i) (by repeat' first | (with_reducible assumption) | (with_reducible refine XI_ui ?_ ?_) | (with_reducible refine XI_fil ?_ (fun _ => ?_)) | (with_reducible refine XI_cpy ?_ (fun _ _ => ?_)) | exact True.intro | ((show inr _ _ _); first | (with_reducible assumption) | (unfold inr; decide)) | fail) (by repeat' first | (with_reducible exact fx_refl _ _ _) | (with_reducible assumption) | (with_reducible refine fx_ui ?_ ?_ ?_) | (with_reducible refine fx_fil ?_ ?_ ?_) | (with_reducible refine fx_cpy ?_ ?_ ?_) | omega | decide | fail)
      | ((with_reducible refine ⟨vpi hv (by decide), ?_⟩) <;> conv => whnf)
      | ((with_reducible refine ⟨vp_in_nI (by omega) (by decide), ?_⟩) <;> conv => whnf)
      | (refine ⟨Or.inl rfl, ?_⟩ <;> conv => whnf)
      | (refine ⟨Or.inr rfl, ?_⟩ <;> conv => whnf)
      | (refine ⟨Or.inl True.intro, ?_⟩ <;> conv => whnf)
      | (refine ⟨Or.inr True.intro, ?_⟩ <;> conv => whnf)
      | (refine ⟨fun c => ?_, fun c => ?_⟩ <;> first | ((have c9 : (1 : Int32) = 0 := by with_reducible exact c); exact absurd c9 (by decide)) | exact absurd (rfl : (0 : Int32) = 0) (by with_reducible exact c) | exact absurd True.intro (by with_reducible exact c) | exact False.elim (by with_reducible exact c) | (conv => whnf))
      | (refine sx_asideAt (by omega) hX (by omega) (fun v hv => ?_) <;> conv => whnf)
      | (refine ⟨by unfold vp_in; decide, ?_⟩ <;> conv => whnf)
      | fail
    all_goals exact H _ _ hX hF
set_option maxRecDepth 100000 in
set_option maxHeartbeats 4000000 in
theorem sx_putAside {d L : Nat} {f : Nat → Nat → Int32} {g : Nat → Nat → Int64} {n : Nat} {w : Int32} {R : Option Value → mH → Prop} (hd : 2 ≤ d) (hX : XI f) (hm : n ≤ 3) (H : ∀ f' g', XI f' → fx 134 139 f f' → R none (shF L, f', g')) : Run mtab d 87 [.ref 129, .int (nI n), .int w] (shF L, f, g) R := by
  obtain ⟨d, rfl⟩ : ∃ e, d = e + 1 := ⟨d - 1, by omega⟩
  refine go_X9_putAside rfl ?_
  conv => whnf
  exact sx_putA_lp (by omega) hm H n 0 _ _ _ (by omega) rfl hX (fx_refl _ _ _)
set_option maxRecDepth 100000 in
set_option maxHeartbeats 4000000 in
theorem sx_isFreeWithout {d L : Nat} {f : Nat → Nat → Int32} {g : Nat → Nat → Int64} {n : Nat} {R : Option Value → mH → Prop} (hd : 3 ≤ d) (hX : XI f) (hm : n ≤ 3) (H : ∀ v f' g', (v = 0 ∨ v = 1) → XI f' → fx 134 139 f f' → R (some (.int v)) (shF L, f', g')) : Run mtab d 86 [.ref 129, .int (nI n)] (shF L, f, g) R := by
  obtain ⟨d, rfl⟩ : ∃ e, d = e + 1 := ⟨d - 1, by omega⟩
  refine go_X9_isFreeWithout rfl ?_
  conv => whnf
  refine sx_putAside (by omega) hX hm (fun f1 g1 h1 k1 => ?_)
  conv => whnf
  refine sx_raiseLows (by omega) h1 (fun v f2 g2 hv h2 k2 => ?_)
  conv => whnf
  refine sx_putAside (by omega) h2 hm (fun f3 g3 h3 k3 => ?_)
  conv => whnf
  exact ⟨hv, H _ _ _ hv h3 (fx_trans k1 (fx_trans (fx_wide k2 (by decide) (by decide)) k3))⟩
theorem cn_lt {n s t u : Nat} (hn : n ≤ 20) (hs : s ≤ 3) (ht : t ≤ 3) (hu : u ≤ 19) (c : ¬ nI n - nI s + nI t ≤ nI u) : u + s < n + t := by
  have e1 : (nI n - nI s).toInt = (n : Int) - s := by
    rw [Int32.toInt_sub, nI_toInt (by omega), nI_toInt (by omega)]
    exact Int.bmod_eq_of_le (by omega) (by omega)
  have e2 : (nI n - nI s + nI t).toInt = (n : Int) - s + t := by
    rw [Int32.toInt_add, e1, nI_toInt (by omega)]
    exact Int.bmod_eq_of_le (by omega) (by omega)
  rw [Int32.le_iff_toInt_le, e2, nI_toInt (by omega)] at c
  omega
set_option maxRecDepth 100000 in
theorem cn_in {d L n s : Nat} {f0 : Nat → Nat → Int32} {w : Int32} {R : Option Value → mH → Prop} (hn : n ≤ 20) (hs : s ≤ 3) (H : ∀ v f' g', (v = 0 ∨ v = 1) → XI f' → fx 134 139 f0 f' → R (some (.int v)) (shF L, f', g')) :
    ∀ (k j u : Nat) (x : Int32) (f : Nat → Nat → Int32) (g : Nat → Nat → Int64), j + 1 + k = s → x = nI (j + 1) → f 138 j = nI u → u + s ≤ n + j → XI f → fx 134 139 f0 f → WPe pg_X9_chooseNext none (Run mtab d) R (m_drop pg_X9_chooseNext 29) [some (.ref 129), some (.int (nI s)), some (.int w), some (.int x)] [] (shF L, f, g)
  | 0, j, u, x, f, g, hk, hx, hu, hb, hX, hF => by
    subst hx
    have e : s = j + 1 := by omega
    subst e
    refine at_X9_chooseNext ?_
    conv => whnf
    refine ⟨fun c => ?_, fun c => absurd (nI_le (Nat.le_refl _) (by omega)) c⟩
    conv => whnf
    exact ⟨Or.inr rfl, H _ _ _ (Or.inr rfl) hX hF⟩
  | k + 1, j, u, x, f, g, hk, hx, hu, hb, hX, hF => by
    subst hx
    refine at_X9_chooseNext ?_
    conv => whnf
    refine ⟨fun c => absurd c (nI_ge (b := s) (by omega) (by omega)), fun c => ?_⟩
    conv => whnf
    simp only [nI_pred]
    refine ⟨vp_in_nI (by omega) (by decide), ?_⟩
    conv => whnf
    refine ⟨vp_in_nI (by omega) (by decide), ?_⟩
    conv => whnf
    have e1 : f 138 (nI j).toNatClampNeg = nI u := by rw [nI_clamp (by omega), hu]
    have e2 : (nI (j + 1)).toNatClampNeg = j + 1 := nI_clamp (by omega)
    refine cn_in hn hs H k (j + 1) (u + 1) _ _ g (by omega) (nI_1 (j + 1)) ?_ (by omega) (XI_ui hX ?_) (fx_ui (by decide) (by decide) hF)
    · rw [m_ui_ap, if_pos rfl, if_pos e2.symm, e1]
      exact nI_1 u
    · show inr 0 19 _
      rw [e1]
      exact inr_n1 (m := 19) (by omega) rfl (by decide)
set_option maxRecDepth 100000 in
theorem cn_out {d L n s : Nat} {f0 : Nat → Nat → Int32} {R : Option Value → mH → Prop} (hn : n ≤ 20) (hs : s ≤ 3) (h0 : f0 129 11 = nI n) (H : ∀ v f' g', (v = 0 ∨ v = 1) → XI f' → fx 134 139 f0 f' → R (some (.int v)) (shF L, f', g')) :
    ∀ (t : Nat) (y : Int32) (sl : Option Value) (f : Nat → Nat → Int32) (g : Nat → Nat → Int64), t ≤ s → y = nI t + -1 → XI f → fx 134 139 f0 f → WPe pg_X9_chooseNext none (Run mtab d) R (m_drop pg_X9_chooseNext 4) [some (.ref 129), some (.int (nI s)), some (.int y), sl] [] (shF L, f, g)
  | 0, y, sl, f, g, ht, hy, hX, hF => by
    subst hy
    refine at_X9_chooseNext ?_
    conv => whnf
    refine ⟨fun c => ?_, fun c => absurd (by decide) c⟩
    conv => whnf
    exact ⟨Or.inl rfl, H _ _ _ (Or.inl rfl) hX hF⟩
  | t + 1, y, sl, f, g, ht, hy, hX, hF => by
    have e : nI (t + 1) + -1 = nI t := by rw [← Int32.sub_eq_add_neg, nI_pred]
    rw [e] at hy
    subst hy
    have hc : f 129 11 = nI n := (hF 129 11 (by omega)).trans h0
    obtain ⟨u, hu, eu⟩ := inr_nat (n := 19) rfl (xi_138 hX t)
    have e1 : f 138 (nI t).toNatClampNeg = nI u := by rw [nI_clamp (by omega), eu]
    refine at_X9_chooseNext ?_
    conv => whnf
    refine ⟨fun c => absurd c (nI_pos (by omega)), fun c => ?_⟩
    conv => whnf
    refine ⟨vp_in_nI (by omega) (by decide), ?_⟩
    conv => whnf
    simp only [hc, e1]
    refine ⟨fun c2 => ?_, fun c2 => ?_⟩
    · conv => whnf
      exact cn_out hn hs h0 H t _ _ f g (by omega) rfl hX hF
    · have lt := cn_lt hn hs (by omega) hu c2
      conv => whnf
      refine ⟨vp_in_nI (by omega) (by decide), ?_⟩
      conv => whnf
      simp only [e1]
      refine ⟨vp_in_nI (by omega) (by decide), ?_⟩
      conv => whnf
      refine cn_in hn hs H (s - (t + 1)) t (u + 1) _ _ g (by omega) (nI_1 t) ?_ (by omega) (XI_ui hX ?_) (fx_ui (by decide) (by decide) hF)
      · rw [m_ui_ap, if_pos rfl, if_pos (nI_clamp (by omega)).symm]
        exact nI_1 u
      · show inr 0 19 _
        exact inr_n1 (m := 19) (by omega) rfl (by decide)
set_option maxRecDepth 100000 in
set_option maxHeartbeats 4000000 in
theorem sx_chooseNext {d L : Nat} {f : Nat → Nat → Int32} {g : Nat → Nat → Int64} {s : Nat} {R : Option Value → mH → Prop} (hd : 1 ≤ d) (hX : XI f) (hs : s ≤ 3) (H : ∀ v f' g', (v = 0 ∨ v = 1) → XI f' → fx 134 139 f f' → R (some (.int v)) (shF L, f', g')) : Run mtab d 88 [.ref 129, .int (nI s)] (shF L, f, g) R := by
  obtain ⟨d, rfl⟩ : ∃ e, d = e + 1 := ⟨d - 1, by omega⟩
  refine go_X9_chooseNext rfl ?_
  conv => whnf
  obtain ⟨n, hm, hc⟩ := inr_nat (n := 20) rfl (xi_129 hX 11)
  exact cn_out hm hs hc H s _ _ _ _ (Nat.le_refl s) (Int32.sub_eq_add_neg ..) hX (fx_refl _ _ _)
set_option maxRecDepth 100000 in
set_option maxHeartbeats 4000000 in
theorem sx_chA2_lp {d L : Nat} {f0 : Nat → Nat → Int32} {s : Nat} {R : Option Value → mH → Prop} (hd : 3 ≤ d) (hs : s ≤ 3) (H : ∀ v f' g', (v = 0 ∨ v = 1) → XI f' → fx 134 139 f0 f' → R (some (.int v)) (shF L, f', g'))  :
    ∀ (k i : Nat) (x : Int32) (f : Nat → Nat → Int32) (g : Nat → Nat → Int64), i + k = 2000 → x = nI i → XI f → fx 134 139 f0 f → WPe pg_X9_chooseAsides none (Run mtab d) R (m_drop pg_X9_chooseAsides 20) [some (.ref 129), some (.int (nI s)), some (.int x)] [] (shF L, f, g)
  | 0, i, x, f, g, he, hx, hX, hF => by
    have e : i = 2000 := by omega
    subst hx
    subst e
    refine at_X9_chooseAsides ?_
    conv => whnf
    refine ⟨fun c => ?_, fun c => absurd (by decide) c⟩
    conv => whnf
    repeat' first
      | ((with_reducible refine ⟨vp_in_nI (by omega) (by decide), ?_⟩) <;> conv => whnf)
      | (refine ⟨Or.inl rfl, ?_⟩ <;> conv => whnf)
      | (refine ⟨Or.inr rfl, ?_⟩ <;> conv => whnf)
      | (refine ⟨Or.inl True.intro, ?_⟩ <;> conv => whnf)
      | (refine ⟨Or.inr True.intro, ?_⟩ <;> conv => whnf)
      | (refine ⟨fun c => ?_, fun c => ?_⟩ <;> first | ((have c9 : (1 : Int32) = 0 := by with_reducible exact c); exact absurd c9 (by decide)) | exact absurd (rfl : (0 : Int32) = 0) (by with_reducible exact c) | exact absurd True.intro (by with_reducible exact c) | exact False.elim (by with_reducible exact c) | (conv => whnf))
      | (refine ⟨by unfold vp_in; decide, ?_⟩ <;> conv => whnf)
      | fail
    all_goals first | exact ⟨Or.inl rfl, H _ _ _ (Or.inl rfl) (by assumption) (by assumption)⟩ | exact ⟨Or.inr rfl, H _ _ _ (Or.inr rfl) (by assumption) (by assumption)⟩ | exact H _ _ _ (Or.inl rfl) (by assumption) (by assumption) | exact H _ _ _ (Or.inr rfl) (by assumption) (by assumption)
  | k + 1, i, x, f, g, he, hx, hX, hF => by
    subst hx
    refine at_X9_chooseAsides ?_
    conv => whnf
    refine ⟨fun c => absurd c (nI_ge (b := 2000) (by omega) (by omega)), fun c => ?_⟩
    conv => whnf
    repeat' first
      | exact sx_chA2_lp hd hs H k (i + 1) _  _ _ (by omega) (nI_1 i) (by repeat' first | (with_reducible assumption) | (with_reducible refine XI_ui ?_ ?_) | (with_reducible refine XI_fil ?_ (fun _ => ?_)) | (with_reducible refine XI_cpy ?_ (fun _ _ => ?_)) | exact True.intro | ((show inr _ _ _); first | (with_reducible assumption) | (unfold inr; decide)) | fail) (by repeat' first | (with_reducible exact fx_refl _ _ _) | (with_reducible assumption) | (with_reducible refine fx_ui ?_ ?_ ?_) | (with_reducible refine fx_fil ?_ ?_ ?_) | (with_reducible refine fx_cpy ?_ ?_ ?_) | omega | decide | fail)
      | ((with_reducible refine ⟨vp_in_nI (by omega) (by decide), ?_⟩) <;> conv => whnf)
      | (refine ⟨Or.inl rfl, ?_⟩ <;> conv => whnf)
      | (refine ⟨Or.inr rfl, ?_⟩ <;> conv => whnf)
      | (refine ⟨Or.inl True.intro, ?_⟩ <;> conv => whnf)
      | (refine ⟨Or.inr True.intro, ?_⟩ <;> conv => whnf)
      | (refine ⟨fun c => ?_, fun c => ?_⟩ <;> first | ((have c9 : (1 : Int32) = 0 := by with_reducible exact c); exact absurd c9 (by decide)) | exact absurd (rfl : (0 : Int32) = 0) (by with_reducible exact c) | exact absurd True.intro (by with_reducible exact c) | exact False.elim (by with_reducible exact c) | (conv => whnf))
      | (refine sx_isFreeWithout (by omega) hX hs (fun v f1 g1 hv h1 k1 => ?_) <;> (have k1' := fx_trans hF k1) <;> conv => whnf)
      | (refine sx_chooseNext (by omega) h1 hs (fun v2 f2 g2 hv2 h2 k2 => ?_) <;> (have k2' := fx_trans k1' k2) <;> conv => whnf)
      | (refine ⟨by unfold vp_in; decide, ?_⟩ <;> conv => whnf)
      | fail
    all_goals first | exact ⟨Or.inl rfl, H _ _ _ (Or.inl rfl) (by assumption) (by assumption)⟩ | exact ⟨Or.inr rfl, H _ _ _ (Or.inr rfl) (by assumption) (by assumption)⟩ | exact H _ _ _ (Or.inl rfl) (by assumption) (by assumption) | exact H _ _ _ (Or.inr rfl) (by assumption) (by assumption)
set_option maxRecDepth 100000 in
set_option maxHeartbeats 4000000 in
theorem sx_chA1_lp {d L n : Nat} {f0 : Nat → Nat → Int32}  {R : Option Value → mH → Prop} (hd : 3 ≤ d) (hm : n ≤ 3) (H : ∀ v f' g', (v = 0 ∨ v = 1) → XI f' → fx 134 139 f0 f' → R (some (.int v)) (shF L, f', g'))  :
    ∀ (k i : Nat) (x : Int32) (f : Nat → Nat → Int32) (g : Nat → Nat → Int64), i + k = n → x = nI i → XI f → fx 134 139 f0 f → WPe pg_X9_chooseAsides none (Run mtab d) R (m_drop pg_X9_chooseAsides 8) [some (.ref 129), some (.int (nI n)), some (.int x)] [] (shF L, f, g)
  | 0, i, x, f, g, he, hx, hX, hF => by
    have e : i = n := by omega
    subst hx
    subst e
    refine at_X9_chooseAsides ?_
    conv => whnf
    refine ⟨fun c => ?_, fun c => absurd (nI_le (Nat.le_refl _) (by omega)) c⟩
    conv => whnf
    repeat' first
      | exact sx_chA2_lp (by omega) hm H 2000 0 _ _ _ (by omega) rfl hX hF
      | ((with_reducible refine ⟨vp_in_nI (by omega) (by decide), ?_⟩) <;> conv => whnf)
      | (refine ⟨Or.inl rfl, ?_⟩ <;> conv => whnf)
      | (refine ⟨Or.inr rfl, ?_⟩ <;> conv => whnf)
      | (refine ⟨Or.inl True.intro, ?_⟩ <;> conv => whnf)
      | (refine ⟨Or.inr True.intro, ?_⟩ <;> conv => whnf)
      | (refine ⟨fun c => ?_, fun c => ?_⟩ <;> first | ((have c9 : (1 : Int32) = 0 := by with_reducible exact c); exact absurd c9 (by decide)) | exact absurd (rfl : (0 : Int32) = 0) (by with_reducible exact c) | exact absurd True.intro (by with_reducible exact c) | exact False.elim (by with_reducible exact c) | (conv => whnf))
      | (refine ⟨by unfold vp_in; decide, ?_⟩ <;> conv => whnf)
      | fail
    all_goals first | exact ⟨Or.inl rfl, H _ _ _ (Or.inl rfl) (by assumption) (by assumption)⟩ | exact ⟨Or.inr rfl, H _ _ _ (Or.inr rfl) (by assumption) (by assumption)⟩ | exact H _ _ _ (Or.inl rfl) (by assumption) (by assumption) | exact H _ _ _ (Or.inr rfl) (by assumption) (by assumption)
  | k + 1, i, x, f, g, he, hx, hX, hF => by
    subst hx
    refine at_X9_chooseAsides ?_
    conv => whnf
    refine ⟨fun c => absurd c (nI_ge (b := n) (by omega) (by omega)), fun c => ?_⟩
    conv => whnf
    repeat' first
      | exact sx_chA1_lp hd hm H k (i + 1) _  _ _ (by omega) (nI_1 i) (by repeat' first | (with_reducible assumption) | (with_reducible refine XI_ui ?_ ?_) | (with_reducible refine XI_fil ?_ (fun _ => ?_)) | (with_reducible refine XI_cpy ?_ (fun _ _ => ?_)) | exact True.intro | ((show inr _ _ _); first | (with_reducible assumption) | ((with_reducible refine inr_n1 (m := 19) ?_ ?_ ?_) <;> first | omega | rfl | decide) | ((with_reducible refine inr_n (m := 19) ?_ ?_ ?_) <;> first | omega | rfl | decide) | (unfold inr; decide)) | fail) (by repeat' first | (with_reducible exact fx_refl _ _ _) | (with_reducible assumption) | (with_reducible refine fx_ui ?_ ?_ ?_) | (with_reducible refine fx_fil ?_ ?_ ?_) | (with_reducible refine fx_cpy ?_ ?_ ?_) | omega | decide | fail)
      | ((with_reducible refine ⟨vp_in_nI (by omega) (by decide), ?_⟩) <;> conv => whnf)
      | (refine ⟨Or.inl rfl, ?_⟩ <;> conv => whnf)
      | (refine ⟨Or.inr rfl, ?_⟩ <;> conv => whnf)
      | (refine ⟨Or.inl True.intro, ?_⟩ <;> conv => whnf)
      | (refine ⟨Or.inr True.intro, ?_⟩ <;> conv => whnf)
      | (refine ⟨fun c => ?_, fun c => ?_⟩ <;> first | ((have c9 : (1 : Int32) = 0 := by with_reducible exact c); exact absurd c9 (by decide)) | exact absurd (rfl : (0 : Int32) = 0) (by with_reducible exact c) | exact absurd True.intro (by with_reducible exact c) | exact False.elim (by with_reducible exact c) | (conv => whnf))
      | (refine ⟨by unfold vp_in; decide, ?_⟩ <;> conv => whnf)
      | fail
    all_goals first | exact ⟨Or.inl rfl, H _ _ _ (Or.inl rfl) (by assumption) (by assumption)⟩ | exact ⟨Or.inr rfl, H _ _ _ (Or.inr rfl) (by assumption) (by assumption)⟩ | exact H _ _ _ (Or.inl rfl) (by assumption) (by assumption) | exact H _ _ _ (Or.inr rfl) (by assumption) (by assumption)
set_option maxRecDepth 100000 in
set_option maxHeartbeats 4000000 in
theorem sx_chooseAsides {d L : Nat} {f : Nat → Nat → Int32} {g : Nat → Nat → Int64} {s : Nat} {w : Int32} {R : Option Value → mH → Prop} (hd : 4 ≤ d) (hX : XI f) (hw : w = nI s) (hs : s ≤ 3) (H : ∀ v f' g', (v = 0 ∨ v = 1) → XI f' → fx 134 139 f f' → R (some (.int v)) (shF L, f', g')) : Run mtab d 85 [.ref 129, .int w] (shF L, f, g) R := by
  obtain ⟨d, rfl⟩ : ∃ e, d = e + 1 := ⟨d - 1, by omega⟩
  refine go_X9_chooseAsides rfl ?_
  conv => whnf
  subst hw
  repeat' first
    | exact sx_chA1_lp (by omega) hs H s 0 _ _ _ (by omega) rfl hX (fx_refl _ _ _)
    | ((with_reducible refine ⟨vp_in_nI (by omega) (by decide), ?_⟩) <;> conv => whnf)
    | (refine ⟨Or.inl rfl, ?_⟩ <;> conv => whnf)
    | (refine ⟨Or.inr rfl, ?_⟩ <;> conv => whnf)
    | (refine ⟨Or.inl True.intro, ?_⟩ <;> conv => whnf)
    | (refine ⟨Or.inr True.intro, ?_⟩ <;> conv => whnf)
    | (refine ⟨fun c => ?_, fun c => ?_⟩ <;> first | ((have c9 : (1 : Int32) = 0 := by with_reducible exact c); exact absurd c9 (by decide)) | exact absurd (rfl : (0 : Int32) = 0) (by with_reducible exact c) | exact absurd True.intro (by with_reducible exact c) | exact False.elim (by with_reducible exact c) | (conv => whnf))
    | (refine ⟨by unfold vp_in; decide, ?_⟩ <;> conv => whnf)
    | fail
  all_goals exact H _ _ _ (Or.inl rfl) hX (fx_refl _ _ _)
set_option maxRecDepth 100000 in
set_option maxHeartbeats 4000000 in
theorem sx_fA_lp {d L : Nat} {f0 : Nat → Nat → Int32}  {R : Option Value → mH → Prop} (hd : 4 ≤ d) (H : ∀ v f' g', (v = -4 ∨ ∃ s, s ≤ 3 ∧ v = nI s) → XI f' → fx 134 139 f0 f' → R (some (.int v)) (shF L, f', g'))  :
    ∀ (k i : Nat) (x : Int32) (f : Nat → Nat → Int32) (g : Nat → Nat → Int64), i + k = 4 → x = nI i → XI f → fx 134 139 f0 f → WPe pg_X9_findAsides none (Run mtab d) R (m_drop pg_X9_findAsides 7) [some (.ref 129), some (.int x)] [] (shF L, f, g)
  | 0, i, x, f, g, he, hx, hX, hF => by
    have e : i = 4 := by omega
    subst hx
    subst e
    refine at_X9_findAsides ?_
    conv => whnf
    refine ⟨fun c => ?_, fun c => absurd (by decide) c⟩
    conv => whnf
    repeat' first
      | ((with_reducible refine ⟨vp_in_nI (by omega) (by decide), ?_⟩) <;> conv => whnf)
      | (refine ⟨Or.inl rfl, ?_⟩ <;> conv => whnf)
      | (refine ⟨Or.inr rfl, ?_⟩ <;> conv => whnf)
      | (refine ⟨Or.inl True.intro, ?_⟩ <;> conv => whnf)
      | (refine ⟨Or.inr True.intro, ?_⟩ <;> conv => whnf)
      | (refine ⟨fun c => ?_, fun c => ?_⟩ <;> first | ((have c9 : (1 : Int32) = 0 := by with_reducible exact c); exact absurd c9 (by decide)) | exact absurd (rfl : (0 : Int32) = 0) (by with_reducible exact c) | exact absurd True.intro (by with_reducible exact c) | exact False.elim (by with_reducible exact c) | (conv => whnf))
      | (refine ⟨by unfold vp_in; decide, ?_⟩ <;> conv => whnf)
      | fail
    all_goals first | exact H _ _ _ (Or.inl rfl) hX hF | exact H _ _ _ (Or.inr ⟨_, by omega, rfl⟩) h1 k1'
  | k + 1, i, x, f, g, he, hx, hX, hF => by
    subst hx
    refine at_X9_findAsides ?_
    conv => whnf
    refine ⟨fun c => absurd c (nI_nlt (a := 3) (b := i) (by omega) (by omega)), fun c => ?_⟩
    conv => whnf
    repeat' first
      | exact sx_fA_lp hd H k (i + 1) _  _ _ (by omega) (nI_1 i) (by repeat' first | (with_reducible assumption) | (with_reducible refine XI_ui ?_ ?_) | (with_reducible refine XI_fil ?_ (fun _ => ?_)) | (with_reducible refine XI_cpy ?_ (fun _ _ => ?_)) | exact True.intro | ((show inr _ _ _); first | (with_reducible assumption) | (unfold inr; decide)) | fail) (by repeat' first | (with_reducible exact fx_refl _ _ _) | (with_reducible assumption) | (with_reducible refine fx_ui ?_ ?_ ?_) | (with_reducible refine fx_fil ?_ ?_ ?_) | (with_reducible refine fx_cpy ?_ ?_ ?_) | omega | decide | fail)
      | ((with_reducible refine ⟨vp_in_nI (by omega) (by decide), ?_⟩) <;> conv => whnf)
      | (refine ⟨Or.inl rfl, ?_⟩ <;> conv => whnf)
      | (refine ⟨Or.inr rfl, ?_⟩ <;> conv => whnf)
      | (refine ⟨Or.inl True.intro, ?_⟩ <;> conv => whnf)
      | (refine ⟨Or.inr True.intro, ?_⟩ <;> conv => whnf)
      | (refine ⟨fun c => ?_, fun c => ?_⟩ <;> first | ((have c9 : (1 : Int32) = 0 := by with_reducible exact c); exact absurd c9 (by decide)) | exact absurd (rfl : (0 : Int32) = 0) (by with_reducible exact c) | exact absurd True.intro (by with_reducible exact c) | exact False.elim (by with_reducible exact c) | (conv => whnf))
      | (refine sx_chooseAsides (by omega) hX rfl (by omega) (fun v f1 g1 hv h1 k1 => ?_) <;> (have k1' := fx_trans hF k1) <;> conv => whnf)
      | (refine ⟨by unfold vp_in; decide, ?_⟩ <;> conv => whnf)
      | fail
    all_goals first | exact H _ _ _ (Or.inl rfl) hX hF | exact H _ _ _ (Or.inr ⟨_, by omega, rfl⟩) h1 k1'
set_option maxRecDepth 100000 in
set_option maxHeartbeats 4000000 in
theorem sx_findAsides {d L : Nat} {f : Nat → Nat → Int32} {g : Nat → Nat → Int64}  {R : Option Value → mH → Prop} (hd : 5 ≤ d) (hX : XI f) (H : ∀ v f' g', (v = -4 ∨ ∃ s, s ≤ 3 ∧ v = nI s) → XI f' → fx 134 139 f f' → R (some (.int v)) (shF L, f', g'))  : Run mtab d 83 [.ref 129] (shF L, f, g) R := by
  obtain ⟨d, rfl⟩ : ∃ e, d = e + 1 := ⟨d - 1, by omega⟩
  refine go_X9_findAsides rfl ?_
  conv => whnf
  repeat' first
    | exact sx_fA_lp (by omega) H 3 1 _ _ _ (by omega) rfl hX (fx_refl _ _ _)
    | ((with_reducible refine ⟨vp_in_nI (by omega) (by decide), ?_⟩) <;> conv => whnf)
    | (refine ⟨Or.inl rfl, ?_⟩ <;> conv => whnf)
    | (refine ⟨Or.inr rfl, ?_⟩ <;> conv => whnf)
    | (refine ⟨Or.inl True.intro, ?_⟩ <;> conv => whnf)
    | (refine ⟨Or.inr True.intro, ?_⟩ <;> conv => whnf)
    | (refine ⟨fun c => ?_, fun c => ?_⟩ <;> first | ((have c9 : (1 : Int32) = 0 := by with_reducible exact c); exact absurd c9 (by decide)) | exact absurd (rfl : (0 : Int32) = 0) (by with_reducible exact c) | exact absurd True.intro (by with_reducible exact c) | exact False.elim (by with_reducible exact c) | (conv => whnf))
    | (refine ⟨by unfold vp_in; decide, ?_⟩ <;> conv => whnf)
    | fail
  all_goals exact H _ _ _ (Or.inr ⟨0, by omega, rfl⟩) hX (fx_refl _ _ _)
set_option maxRecDepth 100000 in
set_option maxHeartbeats 4000000 in
theorem sx_asides {d L : Nat} {f : Nat → Nat → Int32} {g : Nat → Nat → Int64}  {R : Option Value → mH → Prop} (hd : 8 ≤ d) (hX : XI f) (H : ∀ v f' g', XI f' → kp [0, 21] f f' → R (some (.int v)) (shF L, f', g')) : Run mtab d 116 [.ref 5] (shF L, f, g) R := by
  obtain ⟨d, rfl⟩ : ∃ e, d = e + 1 := ⟨d - 1, by omega⟩
  refine go_X10_asides rfl ?_
  conv => whnf
  repeat' first
    | ((with_reducible refine ⟨vp_in_nI (by omega) (by decide), ?_⟩) <;> conv => whnf)
    | (refine ⟨Or.inl rfl, ?_⟩ <;> conv => whnf)
    | (refine ⟨Or.inr rfl, ?_⟩ <;> conv => whnf)
    | (refine ⟨Or.inl True.intro, ?_⟩ <;> conv => whnf)
    | (refine ⟨Or.inr True.intro, ?_⟩ <;> conv => whnf)
    | (refine ⟨fun c => ?_, fun c => ?_⟩ <;> first | ((have c9 : (1 : Int32) = 0 := by with_reducible exact c); exact absurd c9 (by decide)) | exact absurd (rfl : (0 : Int32) = 0) (by with_reducible exact c) | exact absurd True.intro (by with_reducible exact c) | exact False.elim (by with_reducible exact c) | (conv => whnf))
    | (refine sx_reckon (by omega) hX (fun f1 g1 h1 k1 => ?_) <;> conv => whnf)
    | (refine sx_findAsides (by omega) h1 (fun v f2 g2 hv h2 k2 => ?_) <;> conv => whnf)
    | (refine ⟨by unfold vp_in; decide, ?_⟩ <;> conv => whnf)
    | fail
  all_goals exact H _ _ _ (by repeat' first | (with_reducible assumption) | (with_reducible refine XI_ui ?_ ?_) | (with_reducible refine XI_fil ?_ (fun _ => ?_)) | (with_reducible refine XI_cpy ?_ (fun _ _ => ?_)) | exact True.intro | ((show inr _ _ _); first | (with_reducible assumption) | (unfold inr; decide)) | fail) (by repeat' first | (with_reducible exact kp_refl _ _) | (with_reducible assumption) | (with_reducible refine kp_ui ?_ ?_) | (with_reducible refine kp_fil ?_ ?_) | (with_reducible refine kp_cpy ?_ ?_) | (refine kp_trans ?_ (kp_wd k2 rfl)) | (refine kp_trans ?_ (kp_fx k2 rfl)) | (refine kp_trans ?_ (kp_wd k1 rfl)) | (refine kp_trans ?_ (kp_fx k1 rfl)) | rfl | fail)
set_option maxRecDepth 100000 in
set_option maxHeartbeats 4000000 in
theorem sx_aside {d L : Nat} {f : Nat → Nat → Int32} {g : Nat → Nat → Int64} {x1 : Int32} {R : Option Value → mH → Prop} (hd : 8 ≤ d) (hX : XI f) (H : ∀ v f' g', XI f' → kp [0, 21] f f' → R (some (.int v)) (shF L, f', g')) : Run mtab d 117 [.ref 5, .int x1] (shF L, f, g) R := by
  obtain ⟨d, rfl⟩ : ∃ e, d = e + 1 := ⟨d - 1, by omega⟩
  refine go_X10_aside rfl ?_
  conv => whnf
  refine ct_isWithin (by omega) (fun p => ?_) (fun p => ?_)
  · obtain ⟨j, hj, rfl⟩ := inr_nat (n := 2) rfl p
    conv => whnf
    refine ⟨fun _ => ?_, fun c => absurd c (by decide)⟩
    conv => whnf
    refine sx_reckon (by omega) hX (fun f1 g1 h1 k1 => ?_)
    conv => whnf
    refine sx_findAsides (by omega) h1 (fun v f2 g2 hv h2 k2 => ?_)
    conv => whnf
    repeat' first
      | ((with_reducible refine ⟨vp_in_nI (by omega) (by decide), ?_⟩) <;> conv => whnf)
      | (refine ⟨Or.inl rfl, ?_⟩ <;> conv => whnf)
      | (refine ⟨Or.inr rfl, ?_⟩ <;> conv => whnf)
      | (refine ⟨Or.inl True.intro, ?_⟩ <;> conv => whnf)
      | (refine ⟨Or.inr True.intro, ?_⟩ <;> conv => whnf)
      | (refine ⟨fun c => ?_, fun c => ?_⟩ <;> first | ((have c9 : (1 : Int32) = 0 := by with_reducible exact c); exact absurd c9 (by decide)) | exact absurd (rfl : (0 : Int32) = 0) (by with_reducible exact c) | exact absurd True.intro (by with_reducible exact c) | exact False.elim (by with_reducible exact c) | (conv => whnf))
      | (refine sx_asideAt (by omega) h2 (by omega) (fun v hv => ?_) <;> conv => whnf)
      | (refine ⟨by unfold vp_in; decide, ?_⟩ <;> conv => whnf)
      | fail
    all_goals exact H _ _ _ h2 (by repeat' first | (with_reducible exact kp_refl _ _) | (with_reducible assumption) | (with_reducible refine kp_ui ?_ ?_) | (with_reducible refine kp_fil ?_ ?_) | (with_reducible refine kp_cpy ?_ ?_) | (refine kp_trans ?_ (kp_wd k2 rfl)) | (refine kp_trans ?_ (kp_fx k2 rfl)) | (refine kp_trans ?_ (kp_wd k1 rfl)) | (refine kp_trans ?_ (kp_fx k1 rfl)) | rfl | fail)
  · conv => whnf
    refine ⟨fun c => absurd (by decide) c, fun _ => ?_⟩
    conv => whnf
    exact H _ _ _ hX (kp_refl _ _)
set_option maxRecDepth 100000 in
set_option maxHeartbeats 4000000 in
theorem sx_giveN {d L : Nat} {f : Nat → Nat → Int32} {g : Nat → Nat → Int64} {w a : Int32} {R : Option Value → mH → Prop} (hd : 1 ≤ d) (hX : XI f) (hw : vp_in w 40) (ha : inr 0 40 a) (h0 : ¬ f 168 7 = 0) (H : ∀ v f' g', (v = 0 ∨ v = 1) → XI f' → fx 169 172 f f' → R (some (.int v)) (shF L, f', g')) : Run mtab d 15 [.ref 168, .int w, .int a] (shF L, f, g) R := by
  obtain ⟨d, rfl⟩ : ∃ e, d = e + 1 := ⟨d - 1, by omega⟩
  refine go_X1_give rfl ?_
  conv => whnf
  repeat' first
    | ((with_reducible refine ⟨hw, ?_⟩) <;> conv => whnf)
    | ((with_reducible refine ⟨vpi ha (by decide), ?_⟩) <;> conv => whnf)
    | ((with_reducible refine ⟨vp_in_nI (by omega) (by decide), ?_⟩) <;> conv => whnf)
    | (refine ⟨Or.inl rfl, ?_⟩ <;> conv => whnf)
    | (refine ⟨Or.inr rfl, ?_⟩ <;> conv => whnf)
    | (refine ⟨Or.inl True.intro, ?_⟩ <;> conv => whnf)
    | (refine ⟨Or.inr True.intro, ?_⟩ <;> conv => whnf)
    | (refine ⟨fun c => ?_, fun c => ?_⟩ <;> first | ((have c9 : (1 : Int32) = 0 := by with_reducible exact c); exact absurd c9 (by decide)) | exact absurd (rfl : (0 : Int32) = 0) (by with_reducible exact c) | exact absurd True.intro (by with_reducible exact c) | exact False.elim (by with_reducible exact c) | exact absurd (by with_reducible exact c) h0 | (conv => whnf))
    | (refine ⟨by unfold vp_in; decide, ?_⟩ <;> conv => whnf)
    | fail
  all_goals first | exact ⟨Or.inl rfl, H _ _ _ (Or.inl rfl) (by repeat' first | (with_reducible assumption) | (with_reducible refine XI_ui ?_ ?_) | (with_reducible refine XI_fil ?_ (fun _ => ?_)) | (with_reducible refine XI_cpy ?_ (fun _ _ => ?_)) | exact True.intro | (exact (Or.inr ha : _ ∨ _)) | ((show inr _ _ _); first | (with_reducible assumption) | (unfold inr; decide)) | fail) (by repeat' first | (with_reducible exact fx_refl _ _ _) | (with_reducible assumption) | (with_reducible refine fx_ui ?_ ?_ ?_) | (with_reducible refine fx_fil ?_ ?_ ?_) | (with_reducible refine fx_cpy ?_ ?_ ?_) | omega | decide | fail)⟩ | exact ⟨Or.inr rfl, H _ _ _ (Or.inr rfl) (by repeat' first | (with_reducible assumption) | (with_reducible refine XI_ui ?_ ?_) | (with_reducible refine XI_fil ?_ (fun _ => ?_)) | (with_reducible refine XI_cpy ?_ (fun _ _ => ?_)) | exact True.intro | (exact (Or.inr ha : _ ∨ _)) | ((show inr _ _ _); first | (with_reducible assumption) | (unfold inr; decide)) | fail) (by repeat' first | (with_reducible exact fx_refl _ _ _) | (with_reducible assumption) | (with_reducible refine fx_ui ?_ ?_ ?_) | (with_reducible refine fx_fil ?_ ?_ ?_) | (with_reducible refine fx_cpy ?_ ?_ ?_) | omega | decide | fail)⟩ | exact H _ _ _ (Or.inl rfl) (by repeat' first | (with_reducible assumption) | (with_reducible refine XI_ui ?_ ?_) | (with_reducible refine XI_fil ?_ (fun _ => ?_)) | (with_reducible refine XI_cpy ?_ (fun _ _ => ?_)) | exact True.intro | (exact (Or.inr ha : _ ∨ _)) | ((show inr _ _ _); first | (with_reducible assumption) | (unfold inr; decide)) | fail) (by repeat' first | (with_reducible exact fx_refl _ _ _) | (with_reducible assumption) | (with_reducible refine fx_ui ?_ ?_ ?_) | (with_reducible refine fx_fil ?_ ?_ ?_) | (with_reducible refine fx_cpy ?_ ?_ ?_) | omega | decide | fail) | exact H _ _ _ (Or.inr rfl) (by repeat' first | (with_reducible assumption) | (with_reducible refine XI_ui ?_ ?_) | (with_reducible refine XI_fil ?_ (fun _ => ?_)) | (with_reducible refine XI_cpy ?_ (fun _ _ => ?_)) | exact True.intro | (exact (Or.inr ha : _ ∨ _)) | ((show inr _ _ _); first | (with_reducible assumption) | (unfold inr; decide)) | fail) (by repeat' first | (with_reducible exact fx_refl _ _ _) | (with_reducible assumption) | (with_reducible refine fx_ui ?_ ?_ ?_) | (with_reducible refine fx_fil ?_ ?_ ?_) | (with_reducible refine fx_cpy ?_ ?_ ?_) | omega | decide | fail)
set_option maxRecDepth 100000 in
set_option maxHeartbeats 4000000 in
theorem sx_give0 {d L : Nat} {f : Nat → Nat → Int32} {g : Nat → Nat → Int64} {w a : Int32} {R : Option Value → mH → Prop} (hd : 1 ≤ d) (hw : vp_in w 40) (h0 : f 168 7 = 0) (H : R (some (.int 1)) (shF L, m_ui f 169 w.toNatClampNeg (a + 1), g)) : Run mtab d 15 [.ref 168, .int w, .int a] (shF L, f, g) R := by
  obtain ⟨d, rfl⟩ : ∃ e, d = e + 1 := ⟨d - 1, by omega⟩
  refine go_X1_give rfl ?_
  conv => whnf
  repeat' first
    | ((with_reducible refine ⟨hw, ?_⟩) <;> conv => whnf)
    | ((with_reducible refine ⟨vp_in_nI (by omega) (by decide), ?_⟩) <;> conv => whnf)
    | (refine ⟨Or.inl rfl, ?_⟩ <;> conv => whnf)
    | (refine ⟨Or.inr rfl, ?_⟩ <;> conv => whnf)
    | (refine ⟨Or.inl True.intro, ?_⟩ <;> conv => whnf)
    | (refine ⟨Or.inr True.intro, ?_⟩ <;> conv => whnf)
    | (refine ⟨fun c => ?_, fun c => ?_⟩ <;> first | ((have c9 : (1 : Int32) = 0 := by with_reducible exact c); exact absurd c9 (by decide)) | exact absurd (rfl : (0 : Int32) = 0) (by with_reducible exact c) | exact absurd True.intro (by with_reducible exact c) | exact False.elim (by with_reducible exact c) | exact absurd h0 (by with_reducible exact c) | (conv => whnf))
    | (refine ⟨by unfold vp_in; decide, ?_⟩ <;> conv => whnf)
    | fail
  all_goals first | exact H | exact ⟨Or.inr rfl, H⟩
theorem vp_lt {x : Int32} {n : Nat} (h : vp_in x n) : x.toNatClampNeg < n := by
  unfold vp_in at h
  omega
theorem nI_nz {q : Nat} (h : ¬ q = 0) (h1 : q < 2 ^ 31) : ¬ nI q = 0 := fun e => h ((nI_eq (b := 0) h1 (by decide)).mp e)
theorem nI_m4 {q : Nat} (h1 : q < 2 ^ 31) : ¬ nI q = -4 := fun e => by
  have := congrArg Int32.toInt e
  rw [nI_toInt h1] at this
  have e4 : (-4 : Int32).toInt = -4 := rfl
  omega
set_option maxRecDepth 100000 in
set_option maxHeartbeats 4000000 in
theorem sx_pbN_lp {d L n : Nat} {f0 : Nat → Nat → Int32} {q : Nat} {R : Option Value → mH → Prop} (hd : 1 ≤ d) (hm : n ≤ 40) (hc0 : f0 168 7 = nI q) (hq0 : ¬ q = 0) (hq9 : q < 9) (H : ∀ v f' g', XI f' → fx 168 173 f0 f' → ¬ f' 168 7 = 0 → R (some (.int v)) (shF L, f', g'))  :
    ∀ (k i : Nat) (x : Int32) (a : Int32) (b : Int32) (s5 : Option Value) (f : Nat → Nat → Int32) (g : Nat → Nat → Int64), i + k = n → x = nI i → XI f → fx 169 172 f0 f → inr 0 40 b → WPe pg_X1_publish none (Run mtab d) R (m_drop pg_X1_publish 9) [some (.ref 168), some (.int (nI n)), some (.int a), some (.int b), some (.int x), s5] [] (shF L, f, g)
  | 0, i, x, a, b, s5, f, g, he, hx, hX, hF, hb => by
    have e : i = n := by omega
    subst hx
    have hcn : f 168 7 = nI q := (hF 168 7 (by omega)).trans hc0
    have hnz : ¬ f 168 7 = 0 := by rw [hcn]; exact nI_nz hq0 (by omega)
    subst e
    refine at_X1_publish ?_
    conv => whnf
    try simp only [hcn]
    refine ⟨fun c => ?_, fun c => absurd (nI_le (Nat.le_refl _) (by omega)) c⟩
    conv => whnf
    repeat' first
      | (simp only [hcn])
      | ((with_reducible refine ⟨vp_in_nI (by omega) (by decide), ?_⟩) <;> conv => whnf)
      | (refine ⟨Or.inl rfl, ?_⟩ <;> conv => whnf)
      | (refine ⟨Or.inr rfl, ?_⟩ <;> conv => whnf)
      | (refine ⟨Or.inl True.intro, ?_⟩ <;> conv => whnf)
      | (refine ⟨Or.inr True.intro, ?_⟩ <;> conv => whnf)
      | (refine ⟨fun c => ?_, fun c => ?_⟩ <;> first | ((have c9 : (1 : Int32) = 0 := by with_reducible exact c); exact absurd c9 (by decide)) | exact absurd (rfl : (0 : Int32) = 0) (by with_reducible exact c) | exact absurd True.intro (by with_reducible exact c) | exact False.elim (by with_reducible exact c) | (conv => whnf))
      | (refine ⟨by unfold vp_in; decide, ?_⟩ <;> conv => whnf)
      | fail
    all_goals exact H _ _ _ (XI_ui hX (show inr 0 9 _ from inr_n1 (m := 9) (by omega) rfl (by decide))) (fx_ui (by decide) (by decide) (fx_wide hF (by decide) (by decide))) (by rw [m_ui_ap, if_pos rfl, if_pos rfl, nI_1]; exact nI_nz (by omega) (by omega))
  | k + 1, i, x, a, b, s5, f, g, he, hx, hX, hF, hb => by
    subst hx
    have hcn : f 168 7 = nI q := (hF 168 7 (by omega)).trans hc0
    have hnz : ¬ f 168 7 = 0 := by rw [hcn]; exact nI_nz hq0 (by omega)
    refine at_X1_publish ?_
    conv => whnf
    try simp only [hcn]
    refine ⟨fun c => absurd c (nI_ge (b := n) (by omega) (by omega)), fun c => ?_⟩
    conv => whnf
    repeat' first
      | exact sx_pbN_lp hd hm hc0 hq0 hq9 H k (i + 1) _ _ _ _ _ _ (by omega) (nI_1 i) (by repeat' first | (with_reducible assumption) | (with_reducible refine XI_ui ?_ ?_) | (with_reducible refine XI_fil ?_ (fun _ => ?_)) | (with_reducible refine XI_cpy ?_ (fun _ _ => ?_)) | exact True.intro | ((show inr _ _ _); first | (with_reducible assumption) | (unfold inr; decide)) | fail) (by repeat' first | (with_reducible exact fx_refl _ _ _) | (with_reducible assumption) | (with_reducible refine fx_ui ?_ ?_ ?_) | (with_reducible refine fx_fil ?_ ?_ ?_) | (with_reducible refine fx_cpy ?_ ?_ ?_) | omega | decide | fail) (by first | (with_reducible assumption) | exact (xi_169 hX _).resolve_left (by with_reducible assumption) | exact (xi_169 h1 _).resolve_left (by with_reducible assumption))
      | ((with_reducible refine ⟨vx_172 hX _, ?_⟩) <;> conv => whnf)
      | ((with_reducible refine ⟨vx_172 h1 _, ?_⟩) <;> conv => whnf)
      | (have hk7 := k1 172 (nI i).toNatClampNeg (by omega); simp only [← hk7]; fail)
      | (simp only [hcn])
      | ((with_reducible refine ⟨vp_in_nI (by omega) (by decide), ?_⟩) <;> conv => whnf)
      | (refine ⟨Or.inl rfl, ?_⟩ <;> conv => whnf)
      | (refine ⟨Or.inr rfl, ?_⟩ <;> conv => whnf)
      | (refine ⟨Or.inl True.intro, ?_⟩ <;> conv => whnf)
      | (refine ⟨Or.inr True.intro, ?_⟩ <;> conv => whnf)
      | (refine ⟨fun c => ?_, fun c => ?_⟩ <;> first | ((have c9 : (1 : Int32) = 0 := by with_reducible exact c); exact absurd c9 (by decide)) | exact absurd (rfl : (0 : Int32) = 0) (by with_reducible exact c) | exact absurd True.intro (by with_reducible exact c) | exact False.elim (by with_reducible exact c) | (conv => whnf))
      | (refine sx_giveN (by omega) hX (vx_172 hX _) hb hnz (fun v f1 g1 hv h1 k1 => ?_) <;> (have k1' := fx_trans hF k1) <;> conv => whnf)
      | (refine ⟨by unfold vp_in; decide, ?_⟩ <;> conv => whnf)
      | fail
    all_goals exact H _ _ _ (XI_ui hX (show inr 0 9 _ from inr_n1 (m := 9) (by omega) rfl (by decide))) (fx_ui (by decide) (by decide) (fx_wide hF (by decide) (by decide))) (by rw [m_ui_ap, if_pos rfl, if_pos rfl, nI_1]; exact nI_nz (by omega) (by omega))
set_option maxRecDepth 100000 in
set_option maxHeartbeats 4000000 in
theorem sx_pb0_lp {d L n : Nat} {f0 : Nat → Nat → Int32} {R : Option Value → mH → Prop} (hd : 1 ≤ d) (hm : n ≤ 40) (hc0 : f0 168 7 = 0) (H : ∀ v f' g', XI f' → fx 168 173 f0 f' → ¬ f' 168 7 = 0 → R (some (.int v)) (shF L, f', g')) :
    ∀ (k i : Nat) (x a b : Int32) (s5 : Option Value) (f : Nat → Nat → Int32) (g : Nat → Nat → Int64), i + k = n → x = nI i → XI f → fx 169 172 f0 f → (∃ q, q ≤ i ∧ b = nI q) → (∀ j, j < 40 → f 169 j = -4 ∨ ∃ q, q ≤ i ∧ f 169 j = nI q) → WPe pg_X1_publish none (Run mtab d) R (m_drop pg_X1_publish 9) [some (.ref 168), some (.int (nI n)), some (.int a), some (.int b), some (.int x), s5] [] (shF L, f, g)
  | 0, i, x, a, b, s5, f, g, he, hx, hX, hF, hb, hN => by
    have e : i = n := by omega
    subst hx
    subst e
    have hz : f 168 7 = 0 := (hF 168 7 (by omega)).trans hc0
    refine at_X1_publish ?_
    conv => whnf
    refine ⟨fun c => ?_, fun c => absurd (nI_le (Nat.le_refl _) (by omega)) c⟩
    conv => whnf
    simp only [hz]
    exact H _ _ _ (XI_ui hX (show inr 0 9 _ by unfold inr; decide)) (fx_ui (by decide) (by decide) (fx_wide hF (by decide) (by decide))) (by rw [m_ui_ap, if_pos rfl, if_pos rfl]; decide)
  | k + 1, i, x, a, b, s5, f, g, he, hx, hX, hF, hb, hN => by
    subst hx
    obtain ⟨q, hqi, rfl⟩ := hb
    have hz : f 168 7 = 0 := (hF 168 7 (by omega)).trans hc0
    refine at_X1_publish ?_
    conv => whnf
    refine ⟨fun c => absurd c (nI_ge (b := n) (by omega) (by omega)), fun c => ?_⟩
    conv => whnf
    refine ⟨vp_in_nI (by omega) (by decide), ?_⟩
    conv => whnf
    refine ⟨vx_172 hX _, ?_⟩
    conv => whnf
    refine ⟨fun c2 => ?_, fun c2 => ?_⟩
    · conv => whnf
      refine ⟨vx_172 hX _, ?_⟩
      conv => whnf
      refine ⟨fun c3 => absurd c3 c2, fun c3 => ?_⟩
      conv => whnf
      refine ⟨vx_172 hX _, ?_⟩
      conv => whnf
      obtain ⟨p, hp, ep⟩ := (hN (f 172 (nI i).toNatClampNeg).toNatClampNeg (vp_lt (vx_172 hX _))).resolve_left c2
      exact sx_pb0_lp hd hm hc0 H k (i + 1) _ _ _ _ _ _ (by omega) (nI_1 i) hX hF ⟨p, by omega, ep⟩ (fun j hj => (hN j hj).imp id (fun ⟨r, h1, h2⟩ => ⟨r, by omega, h2⟩))
    · conv => whnf
      refine sx_give0 (by omega) (vx_172 hX _) hz ?_
      conv => whnf
      refine ⟨fun c3 => absurd c3 (by decide), fun _ => ?_⟩
      conv => whnf
      refine ⟨vx_172 hX _, ?_⟩
      conv => whnf
      simp only [m_ui_ap, m_fil_ap, m_cpy_ap, Nat.reduceEqDiff, Nat.reduceLT, Nat.reduceLeDiff, eq_self, ↓reduceIte, false_and, and_false, true_and, and_true, and_self, nI_1]
      refine ⟨fun c3 => absurd c3 (nI_m4 (by omega)), fun c3 => ?_⟩
      conv => whnf
      refine ⟨vx_172 hX _, ?_⟩
      conv => whnf
      simp only [m_ui_ap, m_fil_ap, m_cpy_ap, Nat.reduceEqDiff, Nat.reduceLT, Nat.reduceLeDiff, eq_self, ↓reduceIte, false_and, and_false, true_and, and_true, and_self, nI_1]
      refine sx_pb0_lp hd hm hc0 H k (i + 1) _ _ _ _ _ _ (by omega) rfl (XI_ui hX (Or.inr (inr_n (m := 40) (by omega) rfl (by decide)))) (fx_ui (by decide) (by decide) hF) ⟨q + 1, by omega, rfl⟩ (fun j hj => ?_)
      rw [m_ui_ap, if_pos rfl]
      split
      · exact Or.inr ⟨q + 1, by omega, rfl⟩
      · exact (hN j hj).imp id (fun ⟨r, h1, h2⟩ => ⟨r, by omega, h2⟩)
/-- before the first edition nothing has a number -/
def EI (f : Nat → Nat → Int32) : Prop := f 168 7 = 0 → ∀ j, j < 40 → f 169 j = -4
theorem EI_kp {l : List Nat} {f f' : Nat → Nat → Int32} (h : EI f) (k : kp l f f') (hl : hasN l 7 = false) : EI f' := fun e j hj => by
  rw [k 169 j (by exact hl)]
  exact h ((k 168 7 (by exact hl)).symm.trans e) j hj
set_option maxRecDepth 100000 in
set_option maxHeartbeats 4000000 in
theorem sx_publish {d L : Nat} {f : Nat → Nat → Int32} {g : Nat → Nat → Int64} {q : Nat} {R : Option Value → mH → Prop} (hd : 4 ≤ d) (hX : XI f) (hE : EI f) (hc : f 168 7 = nI q) (hq9 : q < 9) (H : ∀ v f' g', XI f' → fx 168 173 f f' → ¬ f' 168 7 = 0 → R (some (.int v)) (shF L, f', g')) : Run mtab d 14 [.ref 168] (shF L, f, g) R := by
  obtain ⟨d, rfl⟩ : ∃ e, d = e + 1 := ⟨d - 1, by omega⟩
  refine go_X1_publish rfl ?_
  conv => whnf
  refine sx_sortThoseIn (by omega) hX (fun n f1 g1 hn h1 k1 => ?_)
  conv => whnf
  have hc1 : f1 168 7 = nI q := (k1 168 7 (by omega)).trans hc
  have H' : ∀ v f' g', XI f' → fx 168 173 f1 f' → ¬ f' 168 7 = 0 → R (some (.int v)) (shF L, f', g') := fun v f' g' a b c => H v f' g' a (fx_trans (fx_wide k1 (by decide) (by decide)) b) c
  by_cases hz : q = 0
  · subst hz
    have hz1 : f1 168 7 = 0 := hc1
    exact sx_pb0_lp (by omega) hn hz1 H' n 0 _ _ _ _ _ _ (by omega) rfl h1 (fx_refl _ _ _) ⟨0, by omega, rfl⟩ (fun j hj => Or.inl ((k1 169 j (by omega)).trans (hE hc j hj)))
  · exact sx_pbN_lp (by omega) hn hc1 hz hq9 H' n 0 _ _ _ _ _ _ (by omega) rfl h1 (fx_refl _ _ _) (show inr 0 40 0 by unfold inr; decide)
set_option maxRecDepth 100000 in
set_option maxHeartbeats 4000000 in
theorem sx_edition {d L : Nat} {f : Nat → Nat → Int32} {g : Nat → Nat → Int64}  {R : Option Value → mH → Prop} (hd : 8 ≤ d) (hX : XI f) (hE : EI f) (H : ∀ v f' g', XI f' → kp [0, 7] f f' → EI f' → R (some (.int v)) (shF L, f', g')) : Run mtab d 127 [.ref 5] (shF L, f, g) R := by
  obtain ⟨d, rfl⟩ : ∃ e, d = e + 1 := ⟨d - 1, by omega⟩
  refine go_X10_edition rfl ?_
  conv => whnf
  obtain ⟨q, hq, hc⟩ := inr_nat (n := 9) rfl (xi_168 hX 7)
  simp only [hc]
  by_cases e9 : q = 9
  · subst e9
    refine ⟨fun c => absurd (by decide) c, fun c => ?_⟩
    conv => whnf
    exact H _ _ _ hX (kp_refl _ _) hE
  · refine ⟨fun c => ?_, fun c => absurd ((nI_eq (b := 9) (by omega) (by decide)).mp c) e9⟩
    conv => whnf
    refine sx_reckon (by omega) hX (fun f1 g1 h1 k1 => ?_)
    conv => whnf
    refine sx_publish (q := q) (by omega) h1 (EI_kp hE k1 rfl) ((k1 168 7 rfl).trans hc) (by omega) (fun v f2 g2 h2 k2 z2 => ?_)
    conv => whnf
    exact H _ _ _ h2 (kp_trans (kp_wd k1 rfl) (kp_fx k2 rfl)) (fun e => absurd e z2)
theorem nI_m6 (m : Nat) : nI m * 6 = nI (m * 6) := (Int32.ofNat_mul m 6).symm
theorem nI_k (a k : Nat) (c : Int32) (hc : c = nI k) : nI a + c = nI (a + k) := by rw [hc, nI_add]
theorem hd_at {l w : Int32} {m : Nat} (hm : m ≤ 10) (hl : inr (-1) 60 l) (h1 : ¬ w < 0) (h2 : ¬ l - nI (m * 6) < w) : ∃ a, w = nI a ∧ a + 6 * m ≤ 60 := by
  obtain ⟨a, ha, rfl⟩ := nI_of h1
  have p := Int32.le_iff_toInt_le.mp hl.1
  have q := Int32.le_iff_toInt_le.mp hl.2
  have e1 : (-1 : Int32).toInt = -1 := rfl
  have e2 : (60 : Int32).toInt = 60 := rfl
  have hs : (l - nI (m * 6)).toInt = l.toInt - (m * 6 : Nat) := by
    rw [Int32.toInt_sub, nI_toInt (by omega)]
    exact Int.bmod_eq_of_le (by omega) (by omega)
  rw [Int32.lt_iff_toInt_lt, hs, nI_toInt ha] at h2
  exact ⟨a, rfl, by omega⟩
set_option maxRecDepth 100000 in
set_option maxHeartbeats 4000000 in
theorem hd2_lp {d L m a s : Nat} {f0 : Nat → Nat → Int32} {x1 x2 x3 x4 x5 e : Int32} {R : Option Value → mH → Prop} (hd : 5 ≤ d) (hs : s < 4) (ha : a + 6 * m ≤ 60) (he : e = nI (a + 6 * m)) (HF : ∀ v f' g', XI f' → fx 100 107 f0 f' → R (some (.int v)) (shF L, f', g')) :
    ∀ (k i : Nat) (x : Int32) (f : Nat → Nat → Int32) (g : Nat → Nat → Int64), i + k = m → x = nI (a + 6 * i) → XI f → fx 100 107 f0 f → WPe pg_X10_holdings none (Run mtab d) R (m_drop pg_X10_holdings 90) [some (.ref 5), some (.int x1), some (.int x2), some (.int x3), some (.int x4), some (.int x5), some (.ref (175 + s)), some (.int e), some (.int x)] [] (shF L, f, g)
  | 0, i, x, f, g, hi, hx, hX, hF => by
    have e9 : i = m := by omega
    subst hx
    subst e9
    subst he
    refine at_X10_holdings ?_
    conv => whnf
    refine ⟨fun c => ?_, fun c => absurd (nI_le (Nat.le_refl _) (by omega)) c⟩
    conv => whnf
    repeat' first
      | ((with_reducible refine ⟨vp_in_nI (by omega) (by decide), ?_⟩) <;> conv => whnf)
      | (refine ⟨Or.inl rfl, ?_⟩ <;> conv => whnf)
      | (refine ⟨Or.inr rfl, ?_⟩ <;> conv => whnf)
      | (refine ⟨Or.inl True.intro, ?_⟩ <;> conv => whnf)
      | (refine ⟨Or.inr True.intro, ?_⟩ <;> conv => whnf)
      | (refine ⟨fun c => ?_, fun c => ?_⟩ <;> first | ((have c9 : (1 : Int32) = 0 := by with_reducible exact c); exact absurd c9 (by decide)) | exact absurd (rfl : (0 : Int32) = 0) (by with_reducible exact c) | exact absurd True.intro (by with_reducible exact c) | exact False.elim (by with_reducible exact c) | (conv => whnf))
      | (refine ⟨by unfold vp_in; decide, ?_⟩ <;> conv => whnf)
      | fail
    all_goals exact HF _ _ _ hX hF
  | k + 1, i, x, f, g, hi, hx, hX, hF => by
    subst hx
    subst he
    have hshp := shp_174 L s hs
    refine at_X10_holdings ?_
    conv => whnf
    refine ⟨fun c => absurd c (nI_ge (by omega) (by omega)), fun c => ?_⟩
    conv => whnf
    repeat' first
      | exact hd2_lp hd hs ha rfl HF k (i + 1) _ _ _ (by omega) (congrArg nI (by omega)) h1 (fx_trans hF k1)
      | ((with_reducible refine ⟨vp_in_nI (by omega) (by decide), ?_⟩) <;> conv => whnf)
      | (simp only [nI_1, nI_k _ 2 2 rfl, nI_k _ 3 3 rfl, nI_k _ 4 4 rfl, nI_k _ 5 5 rfl, nI_k _ 6 6 rfl])
      | ((with_reducible refine ⟨vp_in_nI (by omega) (by decide), ?_⟩) <;> conv => whnf)
      | (refine ⟨Or.inl rfl, ?_⟩ <;> conv => whnf)
      | (refine ⟨Or.inr rfl, ?_⟩ <;> conv => whnf)
      | (refine ⟨Or.inl True.intro, ?_⟩ <;> conv => whnf)
      | (refine ⟨Or.inr True.intro, ?_⟩ <;> conv => whnf)
      | (refine ⟨fun c => ?_, fun c => ?_⟩ <;> first | ((have c9 : (1 : Int32) = 0 := by with_reducible exact c); exact absurd c9 (by decide)) | exact absurd (rfl : (0 : Int32) = 0) (by with_reducible exact c) | exact absurd True.intro (by with_reducible exact c) | exact False.elim (by with_reducible exact c) | (conv => whnf))
      | (refine sx_Oadd (by omega) hX (fun v f1 g1 h1 k1 => ?_) <;> conv => whnf)
      | ((simp only [m_act_eq, mi, mj, m_act0, m_arr2, m_arr, hshp]) <;> conv => whnf)
      | (refine ⟨by unfold vp_in; decide, ?_⟩ <;> conv => whnf)
      | fail
    all_goals fail
set_option maxRecDepth 100000 in
set_option maxHeartbeats 4000000 in
theorem hd1_lp {d L m a s : Nat} {f : Nat → Nat → Int32} {g : Nat → Nat → Int64} {x1 x2 x3 x4 x5 e : Int32} {R : Option Value → mH → Prop} (hd : 5 ≤ d) (hX : XI f) (hs : s < 4) (ha : a + 6 * m ≤ 60) (he : e = nI (a + 6 * m)) (HR : ∀ v, R (some (.int v)) (shF L, f, g)) (HE : WPe pg_X10_holdings none (Run mtab d) R (m_drop pg_X10_holdings 90) [some (.ref 5), some (.int x1), some (.int x2), some (.int x3), some (.int x4), some (.int x5), some (.ref (175 + s)), some (.int e), some (.int x3)] [] (shF L, f, g)) :
    ∀ (k i : Nat) (x : Int32), i + k = m → x = nI (a + 6 * i) → WPe pg_X10_holdings none (Run mtab d) R (m_drop pg_X10_holdings 41) [some (.ref 5), some (.int x1), some (.int x2), some (.int x3), some (.int x4), some (.int x5), some (.ref (175 + s)), some (.int e), some (.int x)] [] (shF L, f, g)
  | 0, i, x, hi, hx => by
    have e9 : i = m := by omega
    subst hx
    subst e9
    subst he
    refine at_X10_holdings ?_
    conv => whnf
    refine ⟨fun c => ?_, fun c => absurd (nI_le (Nat.le_refl _) (by omega)) c⟩
    conv => whnf
    repeat' first
      | exact HE
      | ((with_reducible refine ⟨vp_in_nI (by omega) (by decide), ?_⟩) <;> conv => whnf)
      | (refine ⟨Or.inl rfl, ?_⟩ <;> conv => whnf)
      | (refine ⟨Or.inr rfl, ?_⟩ <;> conv => whnf)
      | (refine ⟨Or.inl True.intro, ?_⟩ <;> conv => whnf)
      | (refine ⟨Or.inr True.intro, ?_⟩ <;> conv => whnf)
      | (refine ⟨fun c => ?_, fun c => ?_⟩ <;> first | ((have c9 : (1 : Int32) = 0 := by with_reducible exact c); exact absurd c9 (by decide)) | exact absurd (rfl : (0 : Int32) = 0) (by with_reducible exact c) | exact absurd True.intro (by with_reducible exact c) | exact False.elim (by with_reducible exact c) | (conv => whnf))
      | (refine ⟨by unfold vp_in; decide, ?_⟩ <;> conv => whnf)
      | fail
    all_goals exact HR _
  | k + 1, i, x, hi, hx => by
    subst hx
    subst he
    have hshp := shp_174 L s hs
    refine at_X10_holdings ?_
    conv => whnf
    refine ⟨fun c => absurd c (nI_ge (by omega) (by omega)), fun c => ?_⟩
    conv => whnf
    repeat' first
      | exact hd1_lp hd hX hs ha rfl HR HE k (i + 1) _ (by omega) (congrArg nI (by omega))
      | ((with_reducible refine ⟨vp_in_nI (by omega) (by decide), ?_⟩) <;> conv => whnf)
      | (simp only [nI_1, nI_k _ 2 2 rfl, nI_k _ 3 3 rfl, nI_k _ 4 4 rfl, nI_k _ 5 5 rfl, nI_k _ 6 6 rfl])
      | ((with_reducible refine ⟨vp_in_nI (by omega) (by decide), ?_⟩) <;> conv => whnf)
      | (refine ⟨Or.inl rfl, ?_⟩ <;> conv => whnf)
      | (refine ⟨Or.inr rfl, ?_⟩ <;> conv => whnf)
      | (refine ⟨Or.inl True.intro, ?_⟩ <;> conv => whnf)
      | (refine ⟨Or.inr True.intro, ?_⟩ <;> conv => whnf)
      | (refine ⟨fun c => ?_, fun c => ?_⟩ <;> first | ((have c9 : (1 : Int32) = 0 := by with_reducible exact c); exact absurd c9 (by decide)) | exact absurd (rfl : (0 : Int32) = 0) (by with_reducible exact c) | exact absurd True.intro (by with_reducible exact c) | exact False.elim (by with_reducible exact c) | (conv => whnf))
      | (refine sx_isHoldingWell (by omega) hX (fun v hv => ?_) <;> conv => whnf)
      | ((simp only [m_act_eq, mi, mj, m_act0, m_arr2, m_arr, hshp]) <;> conv => whnf)
      | (refine ⟨by unfold vp_in; decide, ?_⟩ <;> conv => whnf)
      | fail
    all_goals first | exact HR _ | fail
set_option maxRecDepth 100000 in
set_option maxHeartbeats 4000000 in
theorem sx_holdings {d L : Nat} {f : Nat → Nat → Int32} {g : Nat → Nat → Int64} {x1 x2 x3 x4 : Int32} {R : Option Value → mH → Prop} (hd : 8 ≤ d) (hX : XI f) (H : ∀ v f' g', XI f' → kp [2] f f' → R (some (.int v)) (shF L, f', g')) : Run mtab d 133 [.ref 5, .int x1, .int x2, .int x3, .int x4] (shF L, f, g) R := by
  obtain ⟨d, rfl⟩ : ∃ e, d = e + 1 := ⟨d - 1, by omega⟩
  refine go_X10_holdings rfl ?_
  conv => whnf
  by_cases q : inr 0 3 x1
  · by_cases q2 : inr 0 10 x4
    · obtain ⟨m, hm, rfl⟩ := inr_nat (n := 10) rfl q2
      refine ct_isSheet (by omega) (fun _ => ?_) (fun p => absurd q p)
      conv => whnf
      refine ⟨fun c => absurd c (by decide), fun _ => ?_⟩
      conv => whnf
      refine ct_isLane (by omega) (fun p => ?_) (fun p => ?_)
      · conv => whnf
        refine ⟨fun c => absurd c (by decide), fun _ => ?_⟩
        conv => whnf
        refine ct_isWithin (by omega) (fun _ => ?_) (fun p => absurd q2 p)
        conv => whnf
        refine ⟨fun _ => ?_, fun c => absurd c (by decide)⟩
        conv => whnf
        simp only [nI_m6]
        refine sx_refuse (by omega) hX q (fun v hv => ?_) (fun r1 r2 => ?_)
        · conv => whnf
          refine ⟨fun c => absurd c hv, fun _ => ?_⟩
          conv => whnf
          exact H _ _ _ hX (kp_refl _ _)
        · conv => whnf
          refine ⟨fun _ => ?_, fun c => absurd (by decide) c⟩
          obtain ⟨a, rfl, ha⟩ := hd_at hm (xi_180 hX _) r1 r2
          have fin : ∀ s, s < 4 → WPe pg_X10_holdings none (Run mtab d) R (m_drop pg_X10_holdings 41) [some (.ref 5), some (.int x1), some (.int x2), some (.int (nI a)), some (.int (nI m)), some (.int 0), some (.ref (175 + s)), some (.int (nI a + nI m * 6)), some (.int (nI a))] [] (shF L, f, g) := fun s hs => by
            refine hd1_lp (m := m) (a := a) (by omega) hX hs ha (by rw [nI_m6, nI_add]; congr 1; omega) (fun v => H v f g hX (kp_refl _ _)) ?_ m 0 _ (by omega) rfl
            exact hd2_lp (m := m) (a := a) (by omega) hs ha (by rw [nI_m6, nI_add]; congr 1; omega) (fun v f' g' h1 h2 => H v f' g' h1 (kp_fx h2 rfl)) m 0 _ _ _ (by omega) rfl hX (fx_refl _ _ _)
          rcases inr_c3 q with rfl | rfl | rfl | rfl
          · conv => whnf
            refine ⟨⟨by unfold vp_in; decide, by decide, by decide⟩, ?_⟩
            exact fin 0 (by decide)
          · conv => whnf
            refine ⟨⟨by unfold vp_in; decide, by decide, by decide⟩, ?_⟩
            exact fin 1 (by decide)
          · conv => whnf
            refine ⟨⟨by unfold vp_in; decide, by decide, by decide⟩, ?_⟩
            exact fin 2 (by decide)
          · conv => whnf
            refine ⟨⟨by unfold vp_in; decide, by decide, by decide⟩, ?_⟩
            exact fin 3 (by decide)
      · conv => whnf
        refine ⟨fun _ => ?_, fun c => absurd (by decide) c⟩
        conv => whnf
        exact H _ _ _ hX (kp_refl _ _)
    · repeat' first
        | exact absurd ‹inr 0 10 x4› q2
        | ((with_reducible refine ⟨vp_in_nI (by omega) (by decide), ?_⟩) <;> conv => whnf)
        | (refine ⟨Or.inl rfl, ?_⟩ <;> conv => whnf)
        | (refine ⟨Or.inr rfl, ?_⟩ <;> conv => whnf)
        | (refine ⟨Or.inl True.intro, ?_⟩ <;> conv => whnf)
        | (refine ⟨Or.inr True.intro, ?_⟩ <;> conv => whnf)
        | (refine ⟨fun c => ?_, fun c => ?_⟩ <;> first | ((have c9 : (1 : Int32) = 0 := by with_reducible exact c); exact absurd c9 (by decide)) | exact absurd (rfl : (0 : Int32) = 0) (by with_reducible exact c) | exact absurd True.intro (by with_reducible exact c) | exact False.elim (by with_reducible exact c) | (conv => whnf))
        | (refine ct_isWithin (by omega) (fun p => ?_) (fun p => ?_) <;> conv => whnf)
        | (refine ct_isYear (by omega) (fun p => ?_) (fun p => ?_) <;> conv => whnf)
        | (refine ct_isSide (by omega) (fun p => ?_) (fun p => ?_) <;> conv => whnf)
        | (refine ct_isTitle (by omega) (fun p => ?_) (fun p => ?_) <;> conv => whnf)
        | (refine ct_isBits8 (by omega) (fun p => ?_) (fun p => ?_) <;> conv => whnf)
        | (refine ct_isBits20 (by omega) (fun p => ?_) (fun p => ?_) <;> conv => whnf)
        | (refine ct_isBits30 (by omega) (fun p => ?_) (fun p => ?_) <;> conv => whnf)
        | (refine ct_isToldWell (by omega) (fun p => ?_) (fun p => ?_) <;> conv => whnf)
        | (refine ct_isSheet (by omega) (fun p => ?_) (fun p => ?_) <;> conv => whnf)
        | (refine ct_isLane (by omega) (fun p => ?_) (fun p => ?_) <;> conv => whnf)
        | (refine ⟨by unfold vp_in; decide, ?_⟩ <;> conv => whnf)
        | fail
      all_goals exact H _ _ _ hX (kp_refl _ _)
  · repeat' first
      | exact absurd ‹inr 0 3 x1› q
      | ((with_reducible refine ⟨vp_in_nI (by omega) (by decide), ?_⟩) <;> conv => whnf)
      | (refine ⟨Or.inl rfl, ?_⟩ <;> conv => whnf)
      | (refine ⟨Or.inr rfl, ?_⟩ <;> conv => whnf)
      | (refine ⟨Or.inl True.intro, ?_⟩ <;> conv => whnf)
      | (refine ⟨Or.inr True.intro, ?_⟩ <;> conv => whnf)
      | (refine ⟨fun c => ?_, fun c => ?_⟩ <;> first | ((have c9 : (1 : Int32) = 0 := by with_reducible exact c); exact absurd c9 (by decide)) | exact absurd (rfl : (0 : Int32) = 0) (by with_reducible exact c) | exact absurd True.intro (by with_reducible exact c) | exact False.elim (by with_reducible exact c) | (conv => whnf))
      | (refine ct_isWithin (by omega) (fun p => ?_) (fun p => ?_) <;> conv => whnf)
      | (refine ct_isYear (by omega) (fun p => ?_) (fun p => ?_) <;> conv => whnf)
      | (refine ct_isSide (by omega) (fun p => ?_) (fun p => ?_) <;> conv => whnf)
      | (refine ct_isTitle (by omega) (fun p => ?_) (fun p => ?_) <;> conv => whnf)
      | (refine ct_isBits8 (by omega) (fun p => ?_) (fun p => ?_) <;> conv => whnf)
      | (refine ct_isBits20 (by omega) (fun p => ?_) (fun p => ?_) <;> conv => whnf)
      | (refine ct_isBits30 (by omega) (fun p => ?_) (fun p => ?_) <;> conv => whnf)
      | (refine ct_isToldWell (by omega) (fun p => ?_) (fun p => ?_) <;> conv => whnf)
      | (refine ct_isSheet (by omega) (fun p => ?_) (fun p => ?_) <;> conv => whnf)
      | (refine ct_isLane (by omega) (fun p => ?_) (fun p => ?_) <;> conv => whnf)
      | (refine ⟨by unfold vp_in; decide, ?_⟩ <;> conv => whnf)
      | fail
    all_goals exact H _ _ _ hX (kp_refl _ _)
def wadd (f : Nat → Nat → Int32) (n : Nat) (kind of h w t lo hi : Int32) : Nat → Nat → Int32 := (m_ui (m_ui (m_ui (m_ui (m_ui (m_ui (m_ui (m_ui (m_ui (m_ui f 7 n kind) 8 n of) 9 n h) 10 n w) 11 n lo) 12 n hi) (15 + n) 0 t) 96 n 1) 97 n 2000) 6 13 (nI n + 1))
def wtit (f : Nat → Nat → Int32) (j q : Nat) (y t : Int32) : Nat → Nat → Int32 := (m_ui (m_ui (m_ui f (15 + j) q t) (56 + j) q y) 96 j (nI q + 1))
def wcut (f : Nat → Nat → Int32) (j : Nat) (y h w : Int32) : Nat → Nat → Int32 := (m_ui (m_ui (m_ui f 97 j y) 98 j h) 99 j w)
theorem okv_r {a i : Nat} {v : Int32} (h : 15 ≤ a) (h' : a < 96) : okv a i v := by
  unfold okv
  repeat rw [if_neg (by omega)]
  trivial
theorem ne_r {j a : Nat} (h : a < 15 ∨ 96 ≤ a) (hj : j < 40) : ¬ a = 15 + j ∧ ¬ a = 56 + j ∧ ¬ 15 + j = a ∧ ¬ 56 + j = a := by omega
theorem m_ui_ne {f : Nat → Nat → Int32} {k j : Nat} {v : Int32} {a i : Nat} (h : ¬ a = k) : m_ui f k j v a i = f a i := by rw [m_ui_ap, if_neg h]
theorem m_ui_r {n : Nat} (hn : n < 40) {f : Nat → Nat → Int32} {j : Nat} {v : Int32} {i : Nat} : m_ui f (15 + n) j v 6 i = f 6 i := m_ui_ne (by omega)
set_option maxRecDepth 100000 in
set_option maxHeartbeats 4000000 in
theorem sx_Wadd {d L : Nat} {f : Nat → Nat → Int32} {g : Nat → Nat → Int64} {n : Nat} {x1 x2 x3 x4 x5 x6 x7 : Int32} {R : Option Value → mH → Prop} (hd : 1 ≤ d) (hb : f 6 13 = nI n) (hm : n ≤ 40) (HF : n = 40 → R (some (.int (-3))) (shF L, f, g)) (H : n < 40 → R (some (.int (nI n))) (shF L, wadd f n x1 x2 x3 x4 x5 x6 x7, g)) : Run mtab d 70 [.ref 6, .int x1, .int x2, .int x3, .int x4, .int x5, .int x6, .int x7] (shF L, f, g) R := by
  obtain ⟨d, rfl⟩ : ∃ e, d = e + 1 := ⟨d - 1, by omega⟩
  refine go_X8_add rfl ?_
  conv => whnf
  by_cases hq : n = 40
  · subst hq
    repeat' first
      | (simp only [hb])
      | ((with_reducible refine ⟨vp_in_nI (by omega) (by decide), ?_⟩) <;> conv => whnf)
      | (refine ⟨Or.inl rfl, ?_⟩ <;> conv => whnf)
      | (refine ⟨Or.inr rfl, ?_⟩ <;> conv => whnf)
      | (refine ⟨Or.inl True.intro, ?_⟩ <;> conv => whnf)
      | (refine ⟨Or.inr True.intro, ?_⟩ <;> conv => whnf)
      | (refine ⟨fun c => ?_, fun c => ?_⟩ <;> first | ((have c9 : (1 : Int32) = 0 := by with_reducible exact c); exact absurd c9 (by decide)) | exact absurd (rfl : (0 : Int32) = 0) (by with_reducible exact c) | exact absurd True.intro (by with_reducible exact c) | exact False.elim (by with_reducible exact c) | exact absurd (by decide) c | (conv => whnf))
      | (refine ⟨by unfold vp_in; decide, ?_⟩ <;> conv => whnf)
      | fail
    all_goals exact HF rfl
  · have hlt : n < 40 := by omega
    have hcl : (nI n).toNatClampNeg = n := nI_clamp (by omega)
    repeat' first
      | (simp only [hb, m_ui_r hlt, m_ui_ap, m_fil_ap, m_cpy_ap, Nat.reduceEqDiff, Nat.reduceLT, Nat.reduceLeDiff, eq_self, ↓reduceIte, false_and, and_false, true_and, and_true, and_self])
      | ((with_reducible refine ⟨vp_in_nI (by omega) (by decide), ?_⟩) <;> conv => whnf)
      | (refine ⟨Or.inl rfl, ?_⟩ <;> conv => whnf)
      | (refine ⟨Or.inr rfl, ?_⟩ <;> conv => whnf)
      | (refine ⟨Or.inl True.intro, ?_⟩ <;> conv => whnf)
      | (refine ⟨Or.inr True.intro, ?_⟩ <;> conv => whnf)
      | (refine ⟨fun c => ?_, fun c => ?_⟩ <;> first | ((have c9 : (1 : Int32) = 0 := by with_reducible exact c); exact absurd c9 (by decide)) | exact absurd (rfl : (0 : Int32) = 0) (by with_reducible exact c) | exact absurd True.intro (by with_reducible exact c) | exact False.elim (by with_reducible exact c) | exact absurd ((nI_eq (b := 40) (by omega) (by decide)).mp c) hq | (conv => whnf))
      | ((refine ⟨⟨vp_in_nI (by omega) (by decide), by rw [hcl]; show n < 40; omega, by rw [hcl, row_14 n hlt]; rfl⟩, ?_⟩) <;> simp only [hcl, row_14 n hlt, Option.getD_some] <;> conv => whnf)
      | ((simp only [m_act_eq, mi, mj, m_act0, m_arr2, m_arr, shp_14 L n hlt, shp_55 L n hlt]) <;> conv => whnf)
      | (refine ⟨by unfold vp_in; decide, ?_⟩ <;> conv => whnf)
      | fail
    all_goals (simp only [hcl]; exact H hlt)
set_option maxRecDepth 100000 in
set_option maxHeartbeats 4000000 in
theorem sx_addTitle {d L : Nat} {f : Nat → Nat → Int32} {g : Nat → Nat → Int64} {j q : Nat} {x2 x3 : Int32} {R : Option Value → mH → Prop} (hd : 1 ≤ d) (hj : j < 40) (hq : f 96 j = nI q) (hq1 : 1 ≤ q) (hq4 : q ≤ 4) (HN : x2 ≤ f (56 + j) (q - 1) → R (some (.int (-2))) (shF L, f, g)) (HF : ¬ x2 ≤ f (56 + j) (q - 1) → q = 4 → R (some (.int (-3))) (shF L, f, g)) (H : ¬ x2 ≤ f (56 + j) (q - 1) → q < 4 → R (some (.int (nI q + 1))) (shF L, wtit f j q x2 x3, g)) : Run mtab d 71 [.ref 6, .int (nI j), .int x2, .int x3] (shF L, f, g) R := by
  obtain ⟨d, rfl⟩ : ∃ e, d = e + 1 := ⟨d - 1, by omega⟩
  refine go_X8_addTitle rfl ?_
  conv => whnf
  have hcl : (nI j).toNatClampNeg = j := nI_clamp (by omega)
  have hclq : (nI q).toNatClampNeg = q := nI_clamp (by omega)
  have hclp : (nI (q - 1)).toNatClampNeg = q - 1 := nI_clamp (by omega)
  have hp1 : nI q - 1 = nI (q - 1) := by
    obtain ⟨k, rfl⟩ : ∃ k, q = k + 1 := ⟨q - 1, by omega⟩
    exact nI_pred k
  have hqq : f 96 (nI j).toNatClampNeg = nI q := by rw [hcl, hq]
  by_cases h4 : q = 4
  · subst h4
    repeat' first
      | ((with_reducible refine ⟨vp_in_nI (n := 4 - 1) (by omega) (by decide), ?_⟩) <;> conv => whnf)
      | (simp only [hqq, hp1, hclp])
      | ((with_reducible refine ⟨vp_in_nI (by omega) (by decide), ?_⟩) <;> conv => whnf)
      | (refine ⟨Or.inl rfl, ?_⟩ <;> conv => whnf)
      | (refine ⟨Or.inr rfl, ?_⟩ <;> conv => whnf)
      | (refine ⟨Or.inl True.intro, ?_⟩ <;> conv => whnf)
      | (refine ⟨Or.inr True.intro, ?_⟩ <;> conv => whnf)
      | (refine ⟨fun c => ?_, fun c => ?_⟩ <;> first | ((have c9 : (1 : Int32) = 0 := by with_reducible exact c); exact absurd c9 (by decide)) | exact absurd (rfl : (0 : Int32) = 0) (by with_reducible exact c) | exact absurd True.intro (by with_reducible exact c) | exact False.elim (by with_reducible exact c) | exact absurd (by decide) c | (conv => whnf))
      | ((refine ⟨⟨vp_in_nI (by omega) (by decide), by rw [hcl]; show j < 40; omega, by rw [hcl, row_14 j hj]; rfl⟩, ?_⟩) <;> simp only [hcl, row_14 j hj, Option.getD_some] <;> conv => whnf)
      | ((refine ⟨⟨vp_in_nI (by omega) (by decide), by rw [hcl]; show j < 40; omega, by rw [hcl, row_55 j hj]; rfl⟩, ?_⟩) <;> simp only [hcl, row_55 j hj, Option.getD_some] <;> conv => whnf)
      | ((simp only [m_act_eq, mi, mj, m_act0, m_arr2, m_arr, shp_14 L j hj, shp_55 L j hj]) <;> conv => whnf)
      | (refine ⟨by unfold vp_in; decide, ?_⟩ <;> conv => whnf)
      | fail
    all_goals (first | exact HN (i32_nlt.mp ‹_›) | exact HF (i32_nle.mpr ‹_›) rfl | exact HN (by assumption) | exact HF (by assumption) rfl)
  · have hlt4 : q < 4 := by omega
    repeat' first
      | (simp only [hqq, hp1, hclp])
      | ((with_reducible refine ⟨vp_in_nI (by omega) (by decide), ?_⟩) <;> conv => whnf)
      | (refine ⟨Or.inl rfl, ?_⟩ <;> conv => whnf)
      | (refine ⟨Or.inr rfl, ?_⟩ <;> conv => whnf)
      | (refine ⟨Or.inl True.intro, ?_⟩ <;> conv => whnf)
      | (refine ⟨Or.inr True.intro, ?_⟩ <;> conv => whnf)
      | (refine ⟨fun c => ?_, fun c => ?_⟩ <;> first | ((have c9 : (1 : Int32) = 0 := by with_reducible exact c); exact absurd c9 (by decide)) | exact absurd (rfl : (0 : Int32) = 0) (by with_reducible exact c) | exact absurd True.intro (by with_reducible exact c) | exact False.elim (by with_reducible exact c) | exact absurd ((nI_eq (b := 4) (by omega) (by decide)).mp c) h4 | (conv => whnf))
      | ((refine ⟨⟨vp_in_nI (by omega) (by decide), by rw [hcl]; show j < 40; omega, by rw [hcl, row_14 j hj]; rfl⟩, ?_⟩) <;> simp only [hcl, row_14 j hj, Option.getD_some] <;> conv => whnf)
      | ((refine ⟨⟨vp_in_nI (by omega) (by decide), by rw [hcl]; show j < 40; omega, by rw [hcl, row_55 j hj]; rfl⟩, ?_⟩) <;> simp only [hcl, row_55 j hj, Option.getD_some] <;> conv => whnf)
      | ((simp only [m_act_eq, mi, mj, m_act0, m_arr2, m_arr, shp_14 L j hj, shp_55 L j hj]) <;> conv => whnf)
      | (refine ⟨by unfold vp_in; decide, ?_⟩ <;> conv => whnf)
      | fail
    all_goals (try simp only [hclq, hcl]) <;> (first | exact HN (i32_nlt.mp ‹_›) | exact H (i32_nle.mpr ‹_›) hlt4 | exact HN (by assumption) | exact H (by assumption) hlt4)
set_option maxRecDepth 100000 in
set_option maxHeartbeats 4000000 in
theorem sx_trim {d L : Nat} {f : Nat → Nat → Int32} {g : Nat → Nat → Int64} {j : Nat} {x2 x3 x4 : Int32} {R : Option Value → mH → Prop} (hd : 1 ≤ d) (hj : j < 40) (H0 : ¬ (f 97 j = 2000 ∧ x3 ≤ f 9 j ∧ x4 ≤ f 10 j ∧ ¬ (x3 = f 9 j ∧ x4 = f 10 j)) → R (some (.int (-2))) (shF L, f, g)) (H1 : (f 97 j = 2000 ∧ x3 ≤ f 9 j ∧ x4 ≤ f 10 j ∧ ¬ (x3 = f 9 j ∧ x4 = f 10 j)) → R (some (.int 1)) (shF L, wcut f j x2 x3 x4, g)) : Run mtab d 72 [.ref 6, .int (nI j), .int x2, .int x3, .int x4] (shF L, f, g) R := by
  obtain ⟨d, rfl⟩ : ∃ e, d = e + 1 := ⟨d - 1, by omega⟩
  refine go_X8_trim rfl ?_
  conv => whnf
  have hcl : (nI j).toNatClampNeg = j := nI_clamp (by omega)
  repeat' first
    | (simp only [hcl])
    | ((with_reducible refine ⟨vp_in_nI (by omega) (by decide), ?_⟩) <;> conv => whnf)
    | (refine ⟨Or.inl rfl, ?_⟩ <;> conv => whnf)
    | (refine ⟨Or.inr rfl, ?_⟩ <;> conv => whnf)
    | (refine ⟨Or.inl True.intro, ?_⟩ <;> conv => whnf)
    | (refine ⟨Or.inr True.intro, ?_⟩ <;> conv => whnf)
    | (refine ⟨fun c => ?_, fun c => ?_⟩ <;> first | ((have c9 : (1 : Int32) = 0 := by with_reducible exact c); exact absurd c9 (by decide)) | exact absurd (rfl : (0 : Int32) = 0) (by with_reducible exact c) | exact absurd True.intro (by with_reducible exact c) | exact False.elim (by with_reducible exact c) | (conv => whnf))
    | (refine ⟨by unfold vp_in; decide, ?_⟩ <;> conv => whnf)
    | fail
  all_goals first | exact H0 (by simp only [← i32_nle] at *; grind) | exact H1 (by simp only [← i32_nle] at *; grind)
def hasw (n : Nat) (x : Int32) : Prop := ∃ j, j < n ∧ x = nI j
theorem nhasw {n : Nat} {x : Int32} (q : ∀ j, j < n → ¬ x = nI j) : ¬ hasw n x := fun ⟨j, hj, e⟩ => q j hj e
def AddS (n : Nat) (f f1 : Nat → Nat → Int32) (kind of h w t lo hi v : Int32) : Prop := (n = 40 ∧ v = -3 ∧ f1 = f) ∨ (n < 40 ∧ v = nI n ∧ f1 = wadd f n kind of h w t lo hi)
def SX_work (n : Nat) (f f1 : Nat → Nat → Int32) (x1 x2 x3 x4 x5 x6 v : Int32) : Prop :=
  (¬ ((x1 = 0 ∨ x1 = 2) ∧ toldw x2 x3 x4 x5 x6) ∧ v = -1 ∧ f1 = f) ∨ (((x1 = 0 ∨ x1 = 2) ∧ toldw x2 x3 x4 x5 x6) ∧ AddS n f f1 x1 (-4) x2 x3 x4 x5 x6 v)
def SX_version (n : Nat) (f f1 : Nat → Nat → Int32) (x1 x2 x3 x4 x5 x6 v : Int32) : Prop :=
  (¬ (hasw n x1 ∧ toldw x2 x3 x4 x5 x6) ∧ v = -1 ∧ f1 = f) ∨ (∃ j, j < n ∧ x1 = nI j ∧ toldw x2 x3 x4 x5 x6 ∧ ((¬ (f 7 j = 0 ∨ f 7 j = 1) ∧ v = -12 ∧ f1 = f) ∨ ((f 7 j = 0 ∨ f 7 j = 1) ∧ AddS n f f1 1 x1 x2 x3 x4 x5 x6 v)))
def SX_print (n : Nat) (f f1 : Nat → Nat → Int32) (x1 x2 x3 x4 x5 x6 x7 v : Int32) : Prop :=
  (¬ (hasw n x1 ∧ toldw x3 x4 x5 x6 x7) ∧ v = -1 ∧ f1 = f) ∨ (∃ j, j < n ∧ x1 = nI j ∧ toldw x3 x4 x5 x6 x7 ∧ ((n = 40 ∧ v = -3 ∧ f1 = f) ∨ (n < 40 ∧ v = nI n ∧ f1 = m_ui (wadd f n 3 x1 x3 x4 x5 x6 x7) 13 n (vp_nar .boolean x2))))
def SX_retitle (n : Nat) (f f1 : Nat → Nat → Int32) (x1 x2 x3 v : Int32) : Prop :=
  (¬ (hasw n x1 ∧ inr 1800 1999 x2 ∧ inr 1 1073741823 x3) ∧ v = -1 ∧ f1 = f) ∨ (∃ j q, j < n ∧ x1 = nI j ∧ inr 1800 1999 x2 ∧ inr 1 1073741823 x3 ∧ f 96 j = nI q ∧ 1 ≤ q ∧ q ≤ 4 ∧ ((x2 ≤ f (56 + j) (q - 1) ∧ v = -2 ∧ f1 = f) ∨ (¬ x2 ≤ f (56 + j) (q - 1) ∧ q = 4 ∧ v = -3 ∧ f1 = f) ∨ (¬ x2 ≤ f (56 + j) (q - 1) ∧ q < 4 ∧ v = nI q + 1 ∧ f1 = wtit f j q x2 x3)))
def cutok (f : Nat → Nat → Int32) (j : Nat) (x3 x4 : Int32) : Prop := f 97 j = 2000 ∧ x3 ≤ f 9 j ∧ x4 ≤ f 10 j ∧ ¬ (x3 = f 9 j ∧ x4 = f 10 j)
def SX_cut (n : Nat) (f f1 : Nat → Nat → Int32) (x1 x2 x3 x4 v : Int32) : Prop :=
  (¬ (hasw n x1 ∧ inr 1800 1999 x2 ∧ inr 10 5000 x3 ∧ inr 10 5000 x4) ∧ v = -1 ∧ f1 = f) ∨ (∃ j, j < n ∧ x1 = nI j ∧ inr 1800 1999 x2 ∧ inr 10 5000 x3 ∧ inr 10 5000 x4 ∧ ((¬ (f 7 j = 2 ∨ f 7 j = 3) ∧ v = -12 ∧ f1 = f) ∨ ((f 7 j = 2 ∨ f 7 j = 3) ∧ ¬ cutok f j x3 x4 ∧ v = -2 ∧ f1 = f) ∨ ((f 7 j = 2 ∨ f 7 j = 3) ∧ cutok f j x3 x4 ∧ v = 1 ∧ f1 = wcut f j x2 x3 x4)))
def SX_told (n : Nat) (f : Nat → Nat → Int32) (x1 x2 v : Int32) : Prop :=
  (¬ hasw n x1 ∧ v = -1) ∨ (∃ j, j < n ∧ x1 = nI j ∧ ((x2 = 0 ∧ v = f 7 j) ∨ (x2 = 1 ∧ v = f 9 j) ∨ (x2 = 2 ∧ v = f 10 j) ∨ (x2 = 3 ∧ v = f 11 j) ∨ (x2 = 4 ∧ v = f 12 j) ∨ (x2 = 5 ∧ v = f 8 j) ∨ ((¬ x2 = 0 ∧ ¬ x2 = 1 ∧ ¬ x2 = 2 ∧ ¬ x2 = 3 ∧ ¬ x2 = 4 ∧ ¬ x2 = 5) ∧ v = -1)))
/-- the last place up to k with p, else 0 -/
def lat (p : Nat → Prop) [DecidablePred p] : Nat → Nat
  | 0 => 0
  | k + 1 => if p (k + 1) then k + 1 else lat p k
theorem lat_le (p : Nat → Prop) [DecidablePred p] : ∀ k, lat p k ≤ k
  | 0 => Nat.le_refl 0
  | k + 1 => by
    unfold lat
    split
    · exact Nat.le_refl _
    · exact Nat.le_succ_of_le (lat_le p k)
def titC (f : Nat → Nat → Int32) (j q : Nat) (y : Int32) : Int32 := f (15 + j) (lat (fun i => f (56 + j) i ≤ y) (q - 1))
def SX_then (n : Nat) (f : Nat → Nat → Int32) (x1 x2 x3 v : Int32) : Prop :=
  (¬ (hasw n x1 ∧ inr 1800 1999 x2) ∧ v = -1) ∨ (∃ j q, j < n ∧ x1 = nI j ∧ inr 1800 1999 x2 ∧ f 96 j = nI q ∧ 1 ≤ q ∧ q ≤ 4 ∧ ((x3 = 0 ∧ v = titC f j q x2) ∨ (x3 = 1 ∧ v = if x2 < f 97 j then f 9 j else f 98 j) ∨ (x3 = 2 ∧ v = if x2 < f 97 j then f 10 j else f 99 j) ∨ ((¬ x3 = 0 ∧ ¬ x3 = 1 ∧ ¬ x3 = 2) ∧ v = -1)))
def SX_turned (n : Nat) (f : Nat → Nat → Int32) (x1 v : Int32) : Prop :=
  (¬ hasw n x1 ∧ v = -1) ∨ (∃ j, j < n ∧ x1 = nI j ∧ ((¬ f 7 j = 3 ∧ v = -12) ∨ (f 7 j = 3 ∧ ¬ f 13 j = 0 ∧ v = 1) ∨ (f 7 j = 3 ∧ f 13 j = 0 ∧ v = 0)))
set_option maxRecDepth 100000 in
set_option maxHeartbeats 4000000 in
theorem sf_isPainted {d L : Nat} {f : Nat → Nat → Int32} {g : Nat → Nat → Int64} {j : Nat} {R : Option Value → mH → Prop} (hd : 1 ≤ d) (hj : j < 40) (H1 : (f 7 j = 0 ∨ f 7 j = 1) → R (some (.int 1)) (shF L, f, g)) (H0 : ¬ (f 7 j = 0 ∨ f 7 j = 1) → R (some (.int 0)) (shF L, f, g)) : Run mtab d 68 [.ref 6, .int (nI j)] (shF L, f, g) R := by
  obtain ⟨d, rfl⟩ : ∃ e, d = e + 1 := ⟨d - 1, by omega⟩
  refine go_X8_isPainted rfl ?_
  conv => whnf
  have hcl : (nI j).toNatClampNeg = j := nI_clamp (by omega)
  repeat' first
    | (simp only [hcl])
    | ((with_reducible refine ⟨vp_in_nI (by omega) (by decide), ?_⟩) <;> conv => whnf)
    | (refine ⟨Or.inl rfl, ?_⟩ <;> conv => whnf)
    | (refine ⟨Or.inr rfl, ?_⟩ <;> conv => whnf)
    | (refine ⟨Or.inl True.intro, ?_⟩ <;> conv => whnf)
    | (refine ⟨Or.inr True.intro, ?_⟩ <;> conv => whnf)
    | (refine ⟨fun c => ?_, fun c => ?_⟩ <;> first | ((have c9 : (1 : Int32) = 0 := by with_reducible exact c); exact absurd c9 (by decide)) | exact absurd (rfl : (0 : Int32) = 0) (by with_reducible exact c) | exact absurd True.intro (by with_reducible exact c) | exact False.elim (by with_reducible exact c) | (conv => whnf))
    | (refine ⟨by unfold vp_in; decide, ?_⟩ <;> conv => whnf)
    | fail
  all_goals first | exact ⟨Or.inl rfl, H0 (by grind)⟩ | exact ⟨Or.inr rfl, H1 (by grind)⟩ | exact H0 (by grind) | exact H1 (by grind)
set_option maxRecDepth 100000 in
set_option maxHeartbeats 4000000 in
theorem sf_isOnPaper {d L : Nat} {f : Nat → Nat → Int32} {g : Nat → Nat → Int64} {j : Nat} {R : Option Value → mH → Prop} (hd : 1 ≤ d) (hj : j < 40) (H1 : (f 7 j = 2 ∨ f 7 j = 3) → R (some (.int 1)) (shF L, f, g)) (H0 : ¬ (f 7 j = 2 ∨ f 7 j = 3) → R (some (.int 0)) (shF L, f, g)) : Run mtab d 69 [.ref 6, .int (nI j)] (shF L, f, g) R := by
  obtain ⟨d, rfl⟩ : ∃ e, d = e + 1 := ⟨d - 1, by omega⟩
  refine go_X8_isOnPaper rfl ?_
  conv => whnf
  have hcl : (nI j).toNatClampNeg = j := nI_clamp (by omega)
  repeat' first
    | (simp only [hcl])
    | ((with_reducible refine ⟨vp_in_nI (by omega) (by decide), ?_⟩) <;> conv => whnf)
    | (refine ⟨Or.inl rfl, ?_⟩ <;> conv => whnf)
    | (refine ⟨Or.inr rfl, ?_⟩ <;> conv => whnf)
    | (refine ⟨Or.inl True.intro, ?_⟩ <;> conv => whnf)
    | (refine ⟨Or.inr True.intro, ?_⟩ <;> conv => whnf)
    | (refine ⟨fun c => ?_, fun c => ?_⟩ <;> first | ((have c9 : (1 : Int32) = 0 := by with_reducible exact c); exact absurd c9 (by decide)) | exact absurd (rfl : (0 : Int32) = 0) (by with_reducible exact c) | exact absurd True.intro (by with_reducible exact c) | exact False.elim (by with_reducible exact c) | (conv => whnf))
    | (refine ⟨by unfold vp_in; decide, ?_⟩ <;> conv => whnf)
    | fail
  all_goals first | exact ⟨Or.inl rfl, H0 (by grind)⟩ | exact ⟨Or.inr rfl, H1 (by grind)⟩ | exact H0 (by grind) | exact H1 (by grind)
set_option maxRecDepth 100000 in
set_option maxHeartbeats 4000000 in
theorem sf_heightIn {d L : Nat} {f : Nat → Nat → Int32} {g : Nat → Nat → Int64} {j : Nat} {y : Int32} {R : Option Value → mH → Prop} (hd : 1 ≤ d) (hj : j < 40) (H : R (some (.int (if y < f 97 j then f 9 j else f 98 j))) (shF L, f, g)) : Run mtab d 74 [.ref 6, .int (nI j), .int y] (shF L, f, g) R := by
  obtain ⟨d, rfl⟩ : ∃ e, d = e + 1 := ⟨d - 1, by omega⟩
  refine go_X8_heightIn rfl ?_
  conv => whnf
  have hcl : (nI j).toNatClampNeg = j := nI_clamp (by omega)
  repeat' first
    | (simp only [hcl])
    | ((with_reducible refine ⟨vp_in_nI (by omega) (by decide), ?_⟩) <;> conv => whnf)
    | (refine ⟨Or.inl rfl, ?_⟩ <;> conv => whnf)
    | (refine ⟨Or.inr rfl, ?_⟩ <;> conv => whnf)
    | (refine ⟨Or.inl True.intro, ?_⟩ <;> conv => whnf)
    | (refine ⟨Or.inr True.intro, ?_⟩ <;> conv => whnf)
    | (refine ⟨fun c => ?_, fun c => ?_⟩ <;> first | ((have c9 : (1 : Int32) = 0 := by with_reducible exact c); exact absurd c9 (by decide)) | exact absurd (rfl : (0 : Int32) = 0) (by with_reducible exact c) | exact absurd True.intro (by with_reducible exact c) | exact False.elim (by with_reducible exact c) | (conv => whnf))
    | (refine ⟨by unfold vp_in; decide, ?_⟩ <;> conv => whnf)
    | fail
  all_goals first | (rw [if_pos (by first | assumption | exact i32_nle.mp ‹_›)] at H; exact H) | (rw [if_neg (by first | assumption | exact i32_nlt.mpr ‹_›)] at H; exact H)
set_option maxRecDepth 100000 in
set_option maxHeartbeats 4000000 in
theorem sf_widthIn {d L : Nat} {f : Nat → Nat → Int32} {g : Nat → Nat → Int64} {j : Nat} {y : Int32} {R : Option Value → mH → Prop} (hd : 1 ≤ d) (hj : j < 40) (H : R (some (.int (if y < f 97 j then f 10 j else f 99 j))) (shF L, f, g)) : Run mtab d 75 [.ref 6, .int (nI j), .int y] (shF L, f, g) R := by
  obtain ⟨d, rfl⟩ : ∃ e, d = e + 1 := ⟨d - 1, by omega⟩
  refine go_X8_widthIn rfl ?_
  conv => whnf
  have hcl : (nI j).toNatClampNeg = j := nI_clamp (by omega)
  repeat' first
    | (simp only [hcl])
    | ((with_reducible refine ⟨vp_in_nI (by omega) (by decide), ?_⟩) <;> conv => whnf)
    | (refine ⟨Or.inl rfl, ?_⟩ <;> conv => whnf)
    | (refine ⟨Or.inr rfl, ?_⟩ <;> conv => whnf)
    | (refine ⟨Or.inl True.intro, ?_⟩ <;> conv => whnf)
    | (refine ⟨Or.inr True.intro, ?_⟩ <;> conv => whnf)
    | (refine ⟨fun c => ?_, fun c => ?_⟩ <;> first | ((have c9 : (1 : Int32) = 0 := by with_reducible exact c); exact absurd c9 (by decide)) | exact absurd (rfl : (0 : Int32) = 0) (by with_reducible exact c) | exact absurd True.intro (by with_reducible exact c) | exact False.elim (by with_reducible exact c) | (conv => whnf))
    | (refine ⟨by unfold vp_in; decide, ?_⟩ <;> conv => whnf)
    | fail
  all_goals first | (rw [if_pos (by first | assumption | exact i32_nle.mp ‹_›)] at H; exact H) | (rw [if_neg (by first | assumption | exact i32_nlt.mpr ‹_›)] at H; exact H)
set_option maxRecDepth 100000 in
set_option maxHeartbeats 4000000 in
theorem tif_lp {d L j q : Nat} {f : Nat → Nat → Int32} {g : Nat → Nat → Int64} {y : Int32} {R : Option Value → mH → Prop} (hj : j < 40) (hq : f 96 j = nI q) (hq1 : 1 ≤ q) (hq4 : q ≤ 4) (H : R (some (.int (titC f j q y))) (shF L, f, g)) :
    ∀ (k i : Nat) (x b : Int32), i + k = q - 1 → x = nI (i + 1) → b = nI (lat (fun i => f (56 + j) i ≤ y) i) → WPe pg_X8_titleIn none (Run mtab d) R (m_drop pg_X8_titleIn 4) [some (.ref 6), some (.int (nI j)), some (.int y), some (.int b), some (.int x)] [] (shF L, f, g)
  | 0, i, x, b, hk, hx, hb => by
    subst hx
    subst hb
    have hcl : (nI j).toNatClampNeg = j := nI_clamp (by omega)
    have e : i = q - 1 := by omega
    subst e
    have hqq : f 96 (nI j).toNatClampNeg = nI (q - 1 + 1) := by rw [hcl, hq]; congr 1; omega
    have hlt := lat_le (fun i => f (56 + j) i ≤ y) (q - 1)
    have hcb : (nI (lat (fun i => f (56 + j) i ≤ y) (q - 1))).toNatClampNeg = lat (fun i => f (56 + j) i ≤ y) (q - 1) := nI_clamp (by omega)
    refine at_X8_titleIn ?_
    conv => whnf
    refine ⟨vp_in_nI (by omega) (by decide), ?_⟩
    conv => whnf
    simp only [hqq]
    refine ⟨fun c => ?_, fun c => absurd (nI_le (Nat.le_refl _) (by omega)) c⟩
    conv => whnf
    ((refine ⟨⟨vp_in_nI (by omega) (by decide), by rw [hcl]; show j < 40; omega, by rw [hcl, row_14 j hj]; rfl⟩, ?_⟩) <;> simp only [hcl, row_14 j hj, Option.getD_some] <;> conv => whnf)
    ((simp only [m_act_eq, mi, mj, m_act0, m_arr2, m_arr, shp_14 L j hj, shp_55 L j hj]) <;> conv => whnf)
    refine ⟨vp_in_nI (by omega) (by decide), ?_⟩
    conv => whnf
    simp only [hcb]
    exact H
  | k + 1, i, x, b, hk, hx, hb => by
    subst hx
    subst hb
    have hcl : (nI j).toNatClampNeg = j := nI_clamp (by omega)
    have hqq : f 96 (nI j).toNatClampNeg = nI q := by rw [hcl, hq]
    have hci : (nI (i + 1)).toNatClampNeg = i + 1 := nI_clamp (by omega)
    refine at_X8_titleIn ?_
    conv => whnf
    refine ⟨vp_in_nI (by omega) (by decide), ?_⟩
    conv => whnf
    simp only [hqq]
    refine ⟨fun c => absurd c (nI_ge (b := q) (by omega) (by omega)), fun c => ?_⟩
    conv => whnf
    ((refine ⟨⟨vp_in_nI (by omega) (by decide), by rw [hcl]; show j < 40; omega, by rw [hcl, row_55 j hj]; rfl⟩, ?_⟩) <;> simp only [hcl, row_55 j hj, Option.getD_some] <;> conv => whnf)
    ((simp only [m_act_eq, mi, mj, m_act0, m_arr2, m_arr, shp_14 L j hj, shp_55 L j hj]) <;> conv => whnf)
    refine ⟨vp_in_nI (by omega) (by decide), ?_⟩
    conv => whnf
    simp only [hci]
    refine ⟨fun c2 => ?_, fun c2 => ?_⟩
    · conv => whnf
      exact tif_lp hj hq hq1 hq4 H k (i + 1) _ _ (by omega) (nI_1 (i + 1)) (by
        show _ = nI (if f (56 + j) (i + 1) ≤ y then i + 1 else lat (fun i => f (56 + j) i ≤ y) i)
        rw [if_neg (i32_nle.mpr c2)])
    · conv => whnf
      exact tif_lp hj hq hq1 hq4 H k (i + 1) _ _ (by omega) (nI_1 (i + 1)) (by
        show _ = nI (if f (56 + j) (i + 1) ≤ y then i + 1 else lat (fun i => f (56 + j) i ≤ y) i)
        rw [if_pos (i32_nlt.mp c2)])
set_option maxRecDepth 100000 in
set_option maxHeartbeats 4000000 in
theorem sf_titleIn {d L : Nat} {f : Nat → Nat → Int32} {g : Nat → Nat → Int64} {j q : Nat} {y : Int32} {R : Option Value → mH → Prop} (hd : 2 ≤ d) (hj : j < 40) (hq : f 96 j = nI q) (hq1 : 1 ≤ q) (hq4 : q ≤ 4) (H : R (some (.int (titC f j q y))) (shF L, f, g)) : Run mtab d 73 [.ref 6, .int (nI j), .int y] (shF L, f, g) R := by
  obtain ⟨d, rfl⟩ : ∃ e, d = e + 1 := ⟨d - 1, by omega⟩
  refine go_X8_titleIn rfl ?_
  conv => whnf
  exact tif_lp hj hq hq1 hq4 H (q - 1) 0 _ _ (by omega) rfl rfl
set_option maxRecDepth 100000 in
set_option maxHeartbeats 4000000 in
theorem sf_work {d L : Nat} {f : Nat → Nat → Int32} {g : Nat → Nat → Int64} {n : Nat} {x1 x2 x3 x4 x5 x6 : Int32} {R : Option Value → mH → Prop} (hd : 5 ≤ d) (hb : f 6 13 = nI n) (hm : n ≤ 40) (H : ∀ v f1, SX_work n f f1 x1 x2 x3 x4 x5 x6 v → R (some (.int v)) (shF L, f1, g)) : Run mtab d 90 [.ref 5, .int x1, .int x2, .int x3, .int x4, .int x5, .int x6] (shF L, f, g) R := by
  obtain ⟨d, rfl⟩ : ∃ e, d = e + 1 := ⟨d - 1, by omega⟩
  refine go_X10_work rfl ?_
  conv => whnf
  repeat' first
    | ((with_reducible refine ⟨vp_in_nI (by omega) (by decide), ?_⟩) <;> conv => whnf)
    | (refine ⟨Or.inl rfl, ?_⟩ <;> conv => whnf)
    | (refine ⟨Or.inr rfl, ?_⟩ <;> conv => whnf)
    | (refine ⟨Or.inl True.intro, ?_⟩ <;> conv => whnf)
    | (refine ⟨Or.inr True.intro, ?_⟩ <;> conv => whnf)
    | (refine ⟨fun c => ?_, fun c => ?_⟩ <;> first | ((have c9 : (1 : Int32) = 0 := by with_reducible exact c); exact absurd c9 (by decide)) | exact absurd (rfl : (0 : Int32) = 0) (by with_reducible exact c) | exact absurd True.intro (by with_reducible exact c) | exact False.elim (by with_reducible exact c) | (conv => whnf))
    | (refine ct_isWithin (by omega) (fun p => ?_) (fun p => ?_) <;> conv => whnf)
    | (refine ct_isYear (by omega) (fun p => ?_) (fun p => ?_) <;> conv => whnf)
    | (refine ct_isSide (by omega) (fun p => ?_) (fun p => ?_) <;> conv => whnf)
    | (refine ct_isTitle (by omega) (fun p => ?_) (fun p => ?_) <;> conv => whnf)
    | (refine ct_isBits8 (by omega) (fun p => ?_) (fun p => ?_) <;> conv => whnf)
    | (refine ct_isBits20 (by omega) (fun p => ?_) (fun p => ?_) <;> conv => whnf)
    | (refine ct_isBits30 (by omega) (fun p => ?_) (fun p => ?_) <;> conv => whnf)
    | (refine ct_isToldWell (by omega) (fun p => ?_) (fun p => ?_) <;> conv => whnf)
    | (refine ct_isSheet (by omega) (fun p => ?_) (fun p => ?_) <;> conv => whnf)
    | (refine ct_isLane (by omega) (fun p => ?_) (fun p => ?_) <;> conv => whnf)
    | (refine sx_Wadd (by omega) hb hm (fun q => ?_) (fun q => ?_) <;> conv => whnf)
    | (refine ⟨by unfold vp_in; decide, ?_⟩ <;> conv => whnf)
    | fail
  all_goals first | exact H _ _ (Or.inl ⟨(by first | exact fun hh => absurd hh.2 (by assumption) | exact fun hh => absurd hh.1 (nhasw (by assumption)) | grind), rfl, rfl⟩) | exact H _ _ (Or.inr ⟨⟨by grind, by assumption⟩, Or.inl ⟨q, rfl, rfl⟩⟩) | exact H _ _ (Or.inr ⟨⟨by grind, by assumption⟩, Or.inr ⟨q, rfl, rfl⟩⟩)
set_option maxRecDepth 100000 in
set_option maxHeartbeats 4000000 in
theorem sf_version {d L : Nat} {f : Nat → Nat → Int32} {g : Nat → Nat → Int64} {n : Nat} {x1 x2 x3 x4 x5 x6 : Int32} {R : Option Value → mH → Prop} (hd : 5 ≤ d) (hb : f 6 13 = nI n) (hm : n ≤ 40) (H : ∀ v f1, SX_version n f f1 x1 x2 x3 x4 x5 x6 v → R (some (.int v)) (shF L, f1, g)) : Run mtab d 91 [.ref 5, .int x1, .int x2, .int x3, .int x4, .int x5, .int x6] (shF L, f, g) R := by
  obtain ⟨d, rfl⟩ : ∃ e, d = e + 1 := ⟨d - 1, by omega⟩
  refine go_X10_version rfl ?_
  conv => whnf
  repeat' first
    | ((with_reducible refine ⟨vp_in_nI (by omega) (by decide), ?_⟩) <;> conv => whnf)
    | (refine ⟨Or.inl rfl, ?_⟩ <;> conv => whnf)
    | (refine ⟨Or.inr rfl, ?_⟩ <;> conv => whnf)
    | (refine ⟨Or.inl True.intro, ?_⟩ <;> conv => whnf)
    | (refine ⟨Or.inr True.intro, ?_⟩ <;> conv => whnf)
    | (refine ⟨fun c => ?_, fun c => ?_⟩ <;> first | ((have c9 : (1 : Int32) = 0 := by with_reducible exact c); exact absurd c9 (by decide)) | exact absurd (rfl : (0 : Int32) = 0) (by with_reducible exact c) | exact absurd True.intro (by with_reducible exact c) | exact False.elim (by with_reducible exact c) | (conv => whnf))
    | (refine ct_has (by omega) hb hm (fun j hj e => ?_) (fun q => ?_) <;> (try subst e) <;> conv => whnf)
    | (refine ct_isWithin (by omega) (fun p => ?_) (fun p => ?_) <;> conv => whnf)
    | (refine ct_isYear (by omega) (fun p => ?_) (fun p => ?_) <;> conv => whnf)
    | (refine ct_isSide (by omega) (fun p => ?_) (fun p => ?_) <;> conv => whnf)
    | (refine ct_isTitle (by omega) (fun p => ?_) (fun p => ?_) <;> conv => whnf)
    | (refine ct_isBits8 (by omega) (fun p => ?_) (fun p => ?_) <;> conv => whnf)
    | (refine ct_isBits20 (by omega) (fun p => ?_) (fun p => ?_) <;> conv => whnf)
    | (refine ct_isBits30 (by omega) (fun p => ?_) (fun p => ?_) <;> conv => whnf)
    | (refine ct_isToldWell (by omega) (fun p => ?_) (fun p => ?_) <;> conv => whnf)
    | (refine ct_isSheet (by omega) (fun p => ?_) (fun p => ?_) <;> conv => whnf)
    | (refine ct_isLane (by omega) (fun p => ?_) (fun p => ?_) <;> conv => whnf)
    | (refine sf_isPainted (by omega) (by omega) (fun p => ?_) (fun p => ?_) <;> conv => whnf)
    | (refine sx_Wadd (by omega) hb hm (fun q => ?_) (fun q => ?_) <;> conv => whnf)
    | (refine ⟨by unfold vp_in; decide, ?_⟩ <;> conv => whnf)
    | fail
  all_goals first | exact H _ _ (Or.inl ⟨(by first | exact fun hh => absurd hh.2 (by assumption) | exact fun hh => absurd hh.1 (nhasw (by assumption)) | grind), rfl, rfl⟩) | exact H _ _ (Or.inr ⟨_, hj, rfl, by assumption, Or.inl ⟨p, rfl, rfl⟩⟩) | exact H _ _ (Or.inr ⟨_, hj, rfl, by assumption, Or.inr ⟨p, Or.inl ⟨q, rfl, rfl⟩⟩⟩) | exact H _ _ (Or.inr ⟨_, hj, rfl, by assumption, Or.inr ⟨p, Or.inr ⟨q, rfl, rfl⟩⟩⟩)
set_option maxRecDepth 100000 in
set_option maxHeartbeats 4000000 in
theorem sf_print {d L : Nat} {f : Nat → Nat → Int32} {g : Nat → Nat → Int64} {n : Nat} {x1 x2 x3 x4 x5 x6 x7 : Int32} {R : Option Value → mH → Prop} (hd : 5 ≤ d) (hb : f 6 13 = nI n) (hm : n ≤ 40) (H : ∀ v f1, SX_print n f f1 x1 x2 x3 x4 x5 x6 x7 v → R (some (.int v)) (shF L, f1, g)) : Run mtab d 92 [.ref 5, .int x1, .int x2, .int x3, .int x4, .int x5, .int x6, .int x7] (shF L, f, g) R := by
  obtain ⟨d, rfl⟩ : ∃ e, d = e + 1 := ⟨d - 1, by omega⟩
  refine go_X10_print rfl ?_
  conv => whnf
  repeat' first
    | ((with_reducible refine ⟨vp_in_nI (by omega) (by decide), ?_⟩) <;> conv => whnf)
    | (refine ⟨Or.inl rfl, ?_⟩ <;> conv => whnf)
    | (refine ⟨Or.inr rfl, ?_⟩ <;> conv => whnf)
    | (refine ⟨Or.inl True.intro, ?_⟩ <;> conv => whnf)
    | (refine ⟨Or.inr True.intro, ?_⟩ <;> conv => whnf)
    | (refine ⟨fun c => ?_, fun c => ?_⟩ <;> first | ((have c9 : (1 : Int32) = 0 := by with_reducible exact c); exact absurd c9 (by decide)) | exact absurd (rfl : (0 : Int32) = 0) (by with_reducible exact c) | exact absurd True.intro (by with_reducible exact c) | exact False.elim (by with_reducible exact c) | exact absurd c (nI_pos (by omega)) | exact absurd (show (-3 : Int32) < 0 by decide) (by with_reducible exact c) | ((have c9 : (0 : Int32) ≤ -3 := by with_reducible exact c); exact absurd c9 (by decide)) | exact absurd (nI_pos' (by omega)) (by with_reducible exact c) | (conv => whnf))
    | (refine ct_has (by omega) hb hm (fun j hj e => ?_) (fun q => ?_) <;> (try subst e) <;> conv => whnf)
    | (refine ct_isWithin (by omega) (fun p => ?_) (fun p => ?_) <;> conv => whnf)
    | (refine ct_isYear (by omega) (fun p => ?_) (fun p => ?_) <;> conv => whnf)
    | (refine ct_isSide (by omega) (fun p => ?_) (fun p => ?_) <;> conv => whnf)
    | (refine ct_isTitle (by omega) (fun p => ?_) (fun p => ?_) <;> conv => whnf)
    | (refine ct_isBits8 (by omega) (fun p => ?_) (fun p => ?_) <;> conv => whnf)
    | (refine ct_isBits20 (by omega) (fun p => ?_) (fun p => ?_) <;> conv => whnf)
    | (refine ct_isBits30 (by omega) (fun p => ?_) (fun p => ?_) <;> conv => whnf)
    | (refine ct_isToldWell (by omega) (fun p => ?_) (fun p => ?_) <;> conv => whnf)
    | (refine ct_isSheet (by omega) (fun p => ?_) (fun p => ?_) <;> conv => whnf)
    | (refine ct_isLane (by omega) (fun p => ?_) (fun p => ?_) <;> conv => whnf)
    | (refine sx_Wadd (by omega) hb hm (fun qn => ?_) (fun qn => ?_) <;> (have hcn : (nI n).toNatClampNeg = n := nI_clamp (by omega)) <;> conv => whnf)
    | (refine ⟨by unfold vp_in; decide, ?_⟩ <;> conv => whnf)
    | fail
  all_goals first | exact H _ _ (Or.inl ⟨(by first | exact fun hh => absurd hh.2 (by assumption) | exact fun hh => absurd hh.1 (nhasw (by assumption)) | grind), rfl, rfl⟩) | exact H _ _ (Or.inr ⟨_, hj, rfl, by assumption, Or.inl ⟨qn, rfl, rfl⟩⟩) | (simp only [hcn]; exact H _ _ (Or.inr ⟨_, hj, rfl, by assumption, Or.inr ⟨qn, rfl, rfl⟩⟩))
set_option maxRecDepth 100000 in
set_option maxHeartbeats 4000000 in
theorem sf_retitle {d L : Nat} {f : Nat → Nat → Int32} {g : Nat → Nat → Int64} {n : Nat} {x1 x2 x3 : Int32} {R : Option Value → mH → Prop} (hd : 5 ≤ d) (hb : f 6 13 = nI n) (hm : n ≤ 40) (hT : ∀ j, j < n → ∃ q, 1 ≤ q ∧ q ≤ 4 ∧ f 96 j = nI q) (H : ∀ v f1, SX_retitle n f f1 x1 x2 x3 v → R (some (.int v)) (shF L, f1, g)) : Run mtab d 93 [.ref 5, .int x1, .int x2, .int x3] (shF L, f, g) R := by
  obtain ⟨d, rfl⟩ : ∃ e, d = e + 1 := ⟨d - 1, by omega⟩
  refine go_X10_retitle rfl ?_
  conv => whnf
  repeat' first
    | ((with_reducible refine ⟨vp_in_nI (by omega) (by decide), ?_⟩) <;> conv => whnf)
    | (refine ⟨Or.inl rfl, ?_⟩ <;> conv => whnf)
    | (refine ⟨Or.inr rfl, ?_⟩ <;> conv => whnf)
    | (refine ⟨Or.inl True.intro, ?_⟩ <;> conv => whnf)
    | (refine ⟨Or.inr True.intro, ?_⟩ <;> conv => whnf)
    | (refine ⟨fun c => ?_, fun c => ?_⟩ <;> first | ((have c9 : (1 : Int32) = 0 := by with_reducible exact c); exact absurd c9 (by decide)) | exact absurd (rfl : (0 : Int32) = 0) (by with_reducible exact c) | exact absurd True.intro (by with_reducible exact c) | exact False.elim (by with_reducible exact c) | (conv => whnf))
    | (refine ct_has (by omega) hb hm (fun j hj e => ?_) (fun q => ?_) <;> (try subst e) <;> conv => whnf)
    | (refine ct_isWithin (by omega) (fun p => ?_) (fun p => ?_) <;> conv => whnf)
    | (refine ct_isYear (by omega) (fun p => ?_) (fun p => ?_) <;> conv => whnf)
    | (refine ct_isSide (by omega) (fun p => ?_) (fun p => ?_) <;> conv => whnf)
    | (refine ct_isTitle (by omega) (fun p => ?_) (fun p => ?_) <;> conv => whnf)
    | (refine ct_isBits8 (by omega) (fun p => ?_) (fun p => ?_) <;> conv => whnf)
    | (refine ct_isBits20 (by omega) (fun p => ?_) (fun p => ?_) <;> conv => whnf)
    | (refine ct_isBits30 (by omega) (fun p => ?_) (fun p => ?_) <;> conv => whnf)
    | (refine ct_isToldWell (by omega) (fun p => ?_) (fun p => ?_) <;> conv => whnf)
    | (refine ct_isSheet (by omega) (fun p => ?_) (fun p => ?_) <;> conv => whnf)
    | (refine ct_isLane (by omega) (fun p => ?_) (fun p => ?_) <;> conv => whnf)
    | ((obtain ⟨q, hq1, hq4, hq⟩ := hT j hj); refine sx_addTitle (by omega) (by omega) hq hq1 hq4 (fun u => ?_) (fun u u2 => ?_) (fun u u2 => ?_) <;> conv => whnf)
    | (refine ⟨by unfold vp_in; decide, ?_⟩ <;> conv => whnf)
    | fail
  all_goals first | exact H _ _ (Or.inl ⟨(by first | exact fun hh => absurd hh.1 (nhasw (by assumption)) | exact fun hh => absurd hh.2.1 (by assumption) | exact fun hh => absurd hh.2.2 (by assumption) | exact fun hh => absurd hh.2.2.1 (by assumption) | exact fun hh => absurd hh.2.2.2 (by assumption)), rfl, rfl⟩) | exact H _ _ (Or.inr ⟨_, q, hj, rfl, by assumption, by assumption, hq, hq1, hq4, Or.inl ⟨u, rfl, rfl⟩⟩) | exact H _ _ (Or.inr ⟨_, q, hj, rfl, by assumption, by assumption, hq, hq1, hq4, Or.inr (Or.inl ⟨u, u2, rfl, rfl⟩)⟩) | exact H _ _ (Or.inr ⟨_, q, hj, rfl, by assumption, by assumption, hq, hq1, hq4, Or.inr (Or.inr ⟨u, u2, rfl, rfl⟩)⟩)
set_option maxRecDepth 100000 in
set_option maxHeartbeats 4000000 in
theorem sf_cut {d L : Nat} {f : Nat → Nat → Int32} {g : Nat → Nat → Int64} {n : Nat} {x1 x2 x3 x4 : Int32} {R : Option Value → mH → Prop} (hd : 5 ≤ d) (hb : f 6 13 = nI n) (hm : n ≤ 40) (H : ∀ v f1, SX_cut n f f1 x1 x2 x3 x4 v → R (some (.int v)) (shF L, f1, g)) : Run mtab d 94 [.ref 5, .int x1, .int x2, .int x3, .int x4] (shF L, f, g) R := by
  obtain ⟨d, rfl⟩ : ∃ e, d = e + 1 := ⟨d - 1, by omega⟩
  refine go_X10_cut rfl ?_
  conv => whnf
  repeat' first
    | ((with_reducible refine ⟨vp_in_nI (by omega) (by decide), ?_⟩) <;> conv => whnf)
    | (refine ⟨Or.inl rfl, ?_⟩ <;> conv => whnf)
    | (refine ⟨Or.inr rfl, ?_⟩ <;> conv => whnf)
    | (refine ⟨Or.inl True.intro, ?_⟩ <;> conv => whnf)
    | (refine ⟨Or.inr True.intro, ?_⟩ <;> conv => whnf)
    | (refine ⟨fun c => ?_, fun c => ?_⟩ <;> first | ((have c9 : (1 : Int32) = 0 := by with_reducible exact c); exact absurd c9 (by decide)) | exact absurd (rfl : (0 : Int32) = 0) (by with_reducible exact c) | exact absurd True.intro (by with_reducible exact c) | exact False.elim (by with_reducible exact c) | (conv => whnf))
    | (refine ct_has (by omega) hb hm (fun j hj e => ?_) (fun q => ?_) <;> (try subst e) <;> conv => whnf)
    | (refine ct_isWithin (by omega) (fun p => ?_) (fun p => ?_) <;> conv => whnf)
    | (refine ct_isYear (by omega) (fun p => ?_) (fun p => ?_) <;> conv => whnf)
    | (refine ct_isSide (by omega) (fun p => ?_) (fun p => ?_) <;> conv => whnf)
    | (refine ct_isTitle (by omega) (fun p => ?_) (fun p => ?_) <;> conv => whnf)
    | (refine ct_isBits8 (by omega) (fun p => ?_) (fun p => ?_) <;> conv => whnf)
    | (refine ct_isBits20 (by omega) (fun p => ?_) (fun p => ?_) <;> conv => whnf)
    | (refine ct_isBits30 (by omega) (fun p => ?_) (fun p => ?_) <;> conv => whnf)
    | (refine ct_isToldWell (by omega) (fun p => ?_) (fun p => ?_) <;> conv => whnf)
    | (refine ct_isSheet (by omega) (fun p => ?_) (fun p => ?_) <;> conv => whnf)
    | (refine ct_isLane (by omega) (fun p => ?_) (fun p => ?_) <;> conv => whnf)
    | (refine sf_isOnPaper (by omega) (by omega) (fun pp => ?_) (fun pp => ?_) <;> conv => whnf)
    | (refine sx_trim (by omega) (by omega) (fun u => ?_) (fun u => ?_) <;> conv => whnf)
    | (refine ⟨by unfold vp_in; decide, ?_⟩ <;> conv => whnf)
    | fail
  all_goals first | exact H _ _ (Or.inl ⟨(by first | exact fun hh => absurd hh.1 (nhasw (by assumption)) | exact fun hh => absurd hh.2.1 (by assumption) | exact fun hh => absurd hh.2.2 (by assumption) | exact fun hh => absurd hh.2.2.1 (by assumption) | exact fun hh => absurd hh.2.2.2 (by assumption)), rfl, rfl⟩) | exact H _ _ (Or.inr ⟨_, hj, rfl, by assumption, by assumption, by assumption, Or.inl ⟨pp, rfl, rfl⟩⟩) | exact H _ _ (Or.inr ⟨_, hj, rfl, by assumption, by assumption, by assumption, Or.inr (Or.inl ⟨pp, u, rfl, rfl⟩)⟩) | exact H _ _ (Or.inr ⟨_, hj, rfl, by assumption, by assumption, by assumption, Or.inr (Or.inr ⟨pp, u, rfl, rfl⟩)⟩)
set_option maxRecDepth 100000 in
set_option maxHeartbeats 4000000 in
theorem sf_told {d L : Nat} {f : Nat → Nat → Int32} {g : Nat → Nat → Int64} {n : Nat} {x1 x2 : Int32} {R : Option Value → mH → Prop} (hd : 5 ≤ d) (hb : f 6 13 = nI n) (hm : n ≤ 40) (H : ∀ v, SX_told n f x1 x2 v → R (some (.int v)) (shF L, f, g)) : Run mtab d 95 [.ref 5, .int x1, .int x2] (shF L, f, g) R := by
  obtain ⟨d, rfl⟩ : ∃ e, d = e + 1 := ⟨d - 1, by omega⟩
  refine go_X10_told rfl ?_
  conv => whnf
  repeat' first
    | ((with_reducible refine ⟨vp_in_nI (by omega) (by decide), ?_⟩) <;> conv => whnf)
    | (refine ⟨Or.inl rfl, ?_⟩ <;> conv => whnf)
    | (refine ⟨Or.inr rfl, ?_⟩ <;> conv => whnf)
    | (refine ⟨Or.inl True.intro, ?_⟩ <;> conv => whnf)
    | (refine ⟨Or.inr True.intro, ?_⟩ <;> conv => whnf)
    | (refine ⟨fun c => ?_, fun c => ?_⟩ <;> first | ((have c9 : (1 : Int32) = 0 := by with_reducible exact c); exact absurd c9 (by decide)) | exact absurd (rfl : (0 : Int32) = 0) (by with_reducible exact c) | exact absurd True.intro (by with_reducible exact c) | exact False.elim (by with_reducible exact c) | (conv => whnf))
    | (refine ct_has (by omega) hb hm (fun j hj e => ?_) (fun q => ?_) <;> (try subst e) <;> conv => whnf)
    | (refine ⟨by unfold vp_in; decide, ?_⟩ <;> conv => whnf)
    | (refine ⟨fun c => ?_, ?_⟩ <;> conv => whnf)
    | (intro c; conv => whnf)
    | fail
  all_goals first | exact H _ (Or.inl ⟨nhasw (by assumption), rfl⟩) | ((try simp only [show (nI j).toNatClampNeg = j from nI_clamp (by omega)]); first | exact H _ (Or.inr ⟨j, hj, rfl, Or.inl ⟨by exact c, rfl⟩⟩) | exact H _ (Or.inr ⟨j, hj, rfl, Or.inr (Or.inl ⟨by exact c, rfl⟩)⟩) | exact H _ (Or.inr ⟨j, hj, rfl, Or.inr (Or.inr (Or.inl ⟨by exact c, rfl⟩))⟩) | exact H _ (Or.inr ⟨j, hj, rfl, Or.inr (Or.inr (Or.inr (Or.inl ⟨by exact c, rfl⟩)))⟩) | exact H _ (Or.inr ⟨j, hj, rfl, Or.inr (Or.inr (Or.inr (Or.inr (Or.inl ⟨by exact c, rfl⟩))))⟩) | exact H _ (Or.inr ⟨j, hj, rfl, Or.inr (Or.inr (Or.inr (Or.inr (Or.inr (Or.inl ⟨by exact c, rfl⟩)))))⟩) | exact H _ (Or.inr ⟨j, hj, rfl, Or.inr (Or.inr (Or.inr (Or.inr (Or.inr (Or.inr (⟨⟨c.1.1.1.1.1, c.1.1.1.1.2, c.1.1.1.2, c.1.1.2, c.1.2, c.2⟩, rfl⟩))))))⟩))
set_option maxRecDepth 100000 in
set_option maxHeartbeats 4000000 in
theorem sf_then {d L : Nat} {f : Nat → Nat → Int32} {g : Nat → Nat → Int64} {n : Nat} {x1 x2 x3 : Int32} {R : Option Value → mH → Prop} (hd : 5 ≤ d) (hb : f 6 13 = nI n) (hm : n ≤ 40) (hT : ∀ j, j < n → ∃ q, 1 ≤ q ∧ q ≤ 4 ∧ f 96 j = nI q) (H : ∀ v, SX_then n f x1 x2 x3 v → R (some (.int v)) (shF L, f, g)) : Run mtab d 96 [.ref 5, .int x1, .int x2, .int x3] (shF L, f, g) R := by
  obtain ⟨d, rfl⟩ : ∃ e, d = e + 1 := ⟨d - 1, by omega⟩
  refine go_X10_then rfl ?_
  conv => whnf
  repeat' first
    | ((with_reducible refine ⟨vp_in_nI (by omega) (by decide), ?_⟩) <;> conv => whnf)
    | (refine ⟨Or.inl rfl, ?_⟩ <;> conv => whnf)
    | (refine ⟨Or.inr rfl, ?_⟩ <;> conv => whnf)
    | (refine ⟨Or.inl True.intro, ?_⟩ <;> conv => whnf)
    | (refine ⟨Or.inr True.intro, ?_⟩ <;> conv => whnf)
    | (refine ⟨fun c => ?_, fun c => ?_⟩ <;> first | ((have c9 : (1 : Int32) = 0 := by with_reducible exact c); exact absurd c9 (by decide)) | exact absurd (rfl : (0 : Int32) = 0) (by with_reducible exact c) | exact absurd True.intro (by with_reducible exact c) | exact False.elim (by with_reducible exact c) | (conv => whnf))
    | (refine ct_has (by omega) hb hm (fun j hj e => ?_) (fun q => ?_) <;> (try subst e) <;> conv => whnf)
    | (refine ct_isWithin (by omega) (fun p => ?_) (fun p => ?_) <;> conv => whnf)
    | (refine ct_isYear (by omega) (fun p => ?_) (fun p => ?_) <;> conv => whnf)
    | (refine ct_isSide (by omega) (fun p => ?_) (fun p => ?_) <;> conv => whnf)
    | (refine ct_isTitle (by omega) (fun p => ?_) (fun p => ?_) <;> conv => whnf)
    | (refine ct_isBits8 (by omega) (fun p => ?_) (fun p => ?_) <;> conv => whnf)
    | (refine ct_isBits20 (by omega) (fun p => ?_) (fun p => ?_) <;> conv => whnf)
    | (refine ct_isBits30 (by omega) (fun p => ?_) (fun p => ?_) <;> conv => whnf)
    | (refine ct_isToldWell (by omega) (fun p => ?_) (fun p => ?_) <;> conv => whnf)
    | (refine ct_isSheet (by omega) (fun p => ?_) (fun p => ?_) <;> conv => whnf)
    | (refine ct_isLane (by omega) (fun p => ?_) (fun p => ?_) <;> conv => whnf)
    | ((obtain ⟨q, hq1, hq4, hq⟩ := hT j hj); refine sf_titleIn (by omega) (by omega) hq hq1 hq4 ?_ <;> conv => whnf)
    | (refine sf_heightIn (by omega) (by omega) ?_ <;> conv => whnf)
    | (refine sf_widthIn (by omega) (by omega) ?_ <;> conv => whnf)
    | (refine ⟨by unfold vp_in; decide, ?_⟩ <;> conv => whnf)
    | (refine ⟨fun c => ?_, ?_⟩ <;> conv => whnf)
    | (intro c; conv => whnf)
    | fail
  all_goals first | exact H _ (Or.inl ⟨fun hh => absurd hh.1 (nhasw (by assumption)), rfl⟩) | exact H _ (Or.inl ⟨fun hh => absurd hh.2 (by assumption), rfl⟩) | exact H _ (Or.inr ⟨j, q, hj, rfl, by assumption, hq, hq1, hq4, Or.inl ⟨by exact c, rfl⟩⟩) | (obtain ⟨q, hq1, hq4, hq⟩ := hT j hj; first | exact H _ (Or.inr ⟨j, q, hj, rfl, by assumption, hq, hq1, hq4, Or.inl ⟨by exact c, rfl⟩⟩) | exact H _ (Or.inr ⟨j, q, hj, rfl, by assumption, hq, hq1, hq4, Or.inr (Or.inl ⟨by exact c, rfl⟩)⟩) | exact H _ (Or.inr ⟨j, q, hj, rfl, by assumption, hq, hq1, hq4, Or.inr (Or.inr (Or.inl ⟨by exact c, rfl⟩))⟩) | exact H _ (Or.inr ⟨j, q, hj, rfl, by assumption, hq, hq1, hq4, Or.inr (Or.inr (Or.inr (⟨⟨c.1.1, c.1.2, c.2⟩, rfl⟩)))⟩))
set_option maxRecDepth 100000 in
set_option maxHeartbeats 4000000 in
theorem sf_turned {d L : Nat} {f : Nat → Nat → Int32} {g : Nat → Nat → Int64} {n : Nat} {x1 : Int32} {R : Option Value → mH → Prop} (hd : 5 ≤ d) (hb : f 6 13 = nI n) (hm : n ≤ 40) (H : ∀ v, SX_turned n f x1 v → R (some (.int v)) (shF L, f, g)) : Run mtab d 97 [.ref 5, .int x1] (shF L, f, g) R := by
  obtain ⟨d, rfl⟩ : ∃ e, d = e + 1 := ⟨d - 1, by omega⟩
  refine go_X10_turned rfl ?_
  conv => whnf
  repeat' first
    | ((with_reducible refine ⟨vp_in_nI (by omega) (by decide), ?_⟩) <;> conv => whnf)
    | (refine ⟨Or.inl rfl, ?_⟩ <;> conv => whnf)
    | (refine ⟨Or.inr rfl, ?_⟩ <;> conv => whnf)
    | (refine ⟨Or.inl True.intro, ?_⟩ <;> conv => whnf)
    | (refine ⟨Or.inr True.intro, ?_⟩ <;> conv => whnf)
    | (refine ⟨fun c => ?_, fun c => ?_⟩ <;> first | ((have c9 : (1 : Int32) = 0 := by with_reducible exact c); exact absurd c9 (by decide)) | exact absurd (rfl : (0 : Int32) = 0) (by with_reducible exact c) | exact absurd True.intro (by with_reducible exact c) | exact False.elim (by with_reducible exact c) | (conv => whnf))
    | (refine ct_has (by omega) hb hm (fun j hj e => ?_) (fun q => ?_) <;> (try subst e) <;> conv => whnf)
    | (refine ct_bit (by omega) (fun p => ?_) (fun p => ?_) <;> conv => whnf)
    | (refine ⟨by unfold vp_in; decide, ?_⟩ <;> conv => whnf)
    | fail
  all_goals first | exact H _ (Or.inl ⟨nhasw (by assumption), rfl⟩) | (simp only [show (nI j).toNatClampNeg = j from nI_clamp (by omega)] at *; first | exact H _ (Or.inr ⟨j, hj, rfl, Or.inl ⟨by assumption, rfl⟩⟩) | exact H _ (Or.inr ⟨j, hj, rfl, Or.inr (Or.inl ⟨by assumption, by assumption, rfl⟩)⟩) | exact H _ (Or.inr ⟨j, hj, rfl, Or.inr (Or.inr ⟨by assumption, by assumption, rfl⟩)⟩))
