set_option maxRecDepth 100000 in
set_option maxHeartbeats 4000000 in
theorem sx_middle {d L : Nat} {f : Nat → Nat → Int32} {g : Nat → Nat → Int64} {w : Int32} {R : Option Value → mH → Prop} (hd : 1 ≤ d) (hX : XI f) (hw : vp_in w 40) (H : ∀ v, R (some (.int v)) (shF L, f, g)) : Run mtab d 17 [.ref 168, .int w] (shF L, f, g) R := by
  obtain ⟨d, rfl⟩ : ∃ e, d = e + 1 := ⟨d - 1, by omega⟩
  refine go_X1_middle rfl ?_
  conv => whnf
  repeat' first
    | ((with_reducible refine ⟨hw, ?_⟩) <;> conv => whnf)
    | ((with_reducible refine ⟨vp_in_nI (by omega) (by decide), ?_⟩) <;> conv => whnf)
    | (refine ⟨Or.inl rfl, ?_⟩ <;> conv => whnf)
    | (refine ⟨Or.inr rfl, ?_⟩ <;> conv => whnf)
    | (refine ⟨Or.inl True.intro, ?_⟩ <;> conv => whnf)
    | (refine ⟨Or.inr True.intro, ?_⟩ <;> conv => whnf)
    | (refine ⟨fun c => ?_, fun c => ?_⟩ <;> first | ((have c9 : (1 : Int32) = 0 := by with_reducible exact c); exact absurd c9 (by decide)) | exact absurd (rfl : (0 : Int32) = 0) (by with_reducible exact c) | exact absurd True.intro (by with_reducible exact c) | exact False.elim (by with_reducible exact c) | (conv => whnf))
    | (refine ⟨by unfold vp_in; decide, ?_⟩ <;> conv => whnf)
    | fail
  all_goals exact H _
set_option maxRecDepth 100000 in
set_option maxHeartbeats 4000000 in
theorem srt_in {d L p q : Nat} {f0 : Nat → Nat → Int32} {R : Option Value → mH → Prop} (hd : 1 ≤ d) (hp : p < 40) (hq : q < 40) (HO : ∀ (b' x' : Int32) (s : Option Value) (f' : Nat → Nat → Int32) (g' : Nat → Nat → Int64), b' = nI (q + 1) → x' = nI (p + 1) → XI f' → fx 172 173 f0 f' → WPe pg_X1_sortThoseIn none (Run mtab d) R (m_drop pg_X1_sortThoseIn 4) [some (.ref 168), some (.int b'), some (.int x'), s] [] (shF L, f', g')) :
    ∀ (t : Nat) (y : Int32) (f : Nat → Nat → Int32) (g : Nat → Nat → Int64), t ≤ q → y = nI t → XI f → fx 172 173 f0 f → WPe pg_X1_sortThoseIn none (Run mtab d) R (m_drop pg_X1_sortThoseIn 19) [some (.ref 168), some (.int (nI q)), some (.int (nI p)), some (.int y)] [] (shF L, f, g)
  | 0, y, f, g, ht, hy, hX, hF => by
    subst hy
    refine at_X1_sortThoseIn ?_
    conv => whnf
    refine ⟨fun c => ?_, fun c => absurd (by decide) c⟩
    conv => whnf
    refine ⟨vp_in_nI (by omega) (by decide), ?_⟩
    conv => whnf
    exact HO _ _ _ _ _ (nI_1 q) (nI_1 p) (XI_ui hX (show inr 0 39 _ from inr_n (m := 39) (by omega) rfl (by decide))) (fx_ui (by decide) (by decide) hF)
  | t + 1, y, f, g, ht, hy, hX, hF => by
    subst hy
    have hp1 : nI (t + 1) - 1 = nI t := nI_pred t
    refine at_X1_sortThoseIn ?_
    conv => whnf
    refine ⟨fun c => absurd c (nI_nle (by omega) (by omega)), fun c => ?_⟩
    conv => whnf
    simp only [hp1]
    refine ⟨vp_in_nI (by omega) (by decide), ?_⟩
    conv => whnf
    refine sx_middle (by omega) hX (vx_172 hX _) (fun v1 => ?_)
    conv => whnf
    refine sx_middle (by omega) hX (vp_in_nI hp (by decide)) (fun v2 => ?_)
    conv => whnf
    refine ⟨fun c2 => ?_, fun c2 => ?_⟩
    · conv => whnf
      refine ⟨vp_in_nI (by omega) (by decide), ?_⟩
      conv => whnf
      exact HO _ _ _ _ _ (nI_1 q) (nI_1 p) (XI_ui hX (show inr 0 39 _ from inr_n (m := 39) (by omega) rfl (by decide))) (fx_ui (by decide) (by decide) hF)
    · conv => whnf
      simp only [hp1]
      refine ⟨vp_in_nI (by omega) (by decide), ?_⟩
      conv => whnf
      refine ⟨vp_in_nI (by omega) (by decide), ?_⟩
      conv => whnf
      exact srt_in hd hp hq HO t _ _ g (by omega) (by rw [← Int32.sub_eq_add_neg, nI_pred]) (XI_ui hX (show inr 0 39 _ from xi_172 hX _)) (fx_ui (by decide) (by decide) hF)
set_option maxRecDepth 100000 in
set_option maxHeartbeats 4000000 in
theorem sx_sort_lp {d L n : Nat} {f0 : Nat → Nat → Int32}  {R : Option Value → mH → Prop} (hd : 1 ≤ d) (hm : n ≤ 40) (h0 : f0 6 13 = nI n) (H : ∀ q f' g', q ≤ 40 → XI f' → fx 172 173 f0 f' → R (some (.int (nI q))) (shF L, f', g'))  :
    ∀ (k i : Nat) (x : Int32) (b : Int32) (s : Option Value) (f : Nat → Nat → Int32) (g : Nat → Nat → Int64), i + k = n → x = nI i → XI f → fx 172 173 f0 f → (∃ q, q ≤ i ∧ b = nI q) → WPe pg_X1_sortThoseIn none (Run mtab d) R (m_drop pg_X1_sortThoseIn 4) [some (.ref 168), some (.int b), some (.int x), s] [] (shF L, f, g)
  | 0, i, x, b, s, f, g, he, hx, hX, hF, hb => by
    have e : i = n := by omega
    subst hx
    have hc : f 6 13 = nI n := (hF 6 13 (by omega)).trans h0
    obtain ⟨q, hqi, rfl⟩ := hb
    subst e
    refine at_X1_sortThoseIn ?_
    conv => whnf
    try simp only [hc]
    refine ⟨fun c => ?_, fun c => absurd (nI_le (Nat.le_refl _) (by omega)) c⟩
    conv => whnf
    repeat' first
      | (simp only [hc])
      | ((with_reducible refine ⟨vp_in_nI (by omega) (by decide), ?_⟩) <;> conv => whnf)
      | (refine ⟨Or.inl rfl, ?_⟩ <;> conv => whnf)
      | (refine ⟨Or.inr rfl, ?_⟩ <;> conv => whnf)
      | (refine ⟨Or.inl True.intro, ?_⟩ <;> conv => whnf)
      | (refine ⟨Or.inr True.intro, ?_⟩ <;> conv => whnf)
      | (refine ⟨fun c => ?_, fun c => ?_⟩ <;> first | ((have c9 : (1 : Int32) = 0 := by with_reducible exact c); exact absurd c9 (by decide)) | exact absurd (rfl : (0 : Int32) = 0) (by with_reducible exact c) | exact absurd True.intro (by with_reducible exact c) | exact False.elim (by with_reducible exact c) | (conv => whnf))
      | (refine ⟨by unfold vp_in; decide, ?_⟩ <;> conv => whnf)
      | fail
    all_goals exact H q _ _ (by omega) hX hF
  | k + 1, i, x, b, s, f, g, he, hx, hX, hF, hb => by
    subst hx
    have hc : f 6 13 = nI n := (hF 6 13 (by omega)).trans h0
    obtain ⟨q, hqi, rfl⟩ := hb
    refine at_X1_sortThoseIn ?_
    conv => whnf
    try simp only [hc]
    refine ⟨fun c => absurd c (nI_ge (b := n) (by omega) (by omega)), fun c => ?_⟩
    conv => whnf
    repeat' first
      | exact sx_sort_lp hd hm h0 H k (i + 1) _ _ _ _ _ (by omega) (nI_1 i) (by repeat' first | (with_reducible assumption) | (with_reducible refine XI_ui ?_ ?_) | (with_reducible refine XI_fil ?_ (fun _ => ?_)) | (with_reducible refine XI_cpy ?_ (fun _ _ => ?_)) | exact True.intro | ((show inr _ _ _); first | (with_reducible assumption) | (unfold inr; decide)) | fail) (by repeat' first | (with_reducible exact fx_refl _ _ _) | (with_reducible assumption) | (with_reducible refine fx_ui ?_ ?_ ?_) | (with_reducible refine fx_fil ?_ ?_ ?_) | (with_reducible refine fx_cpy ?_ ?_ ?_) | omega | decide | fail) ⟨q, by omega, rfl⟩
      | exact srt_in (p := i) (q := q) hd (by omega) (by omega) (fun b' x' s f' g' hb' hx' hX' hF' => sx_sort_lp hd hm h0 H k (i + 1) x' b' s f' g' (by omega) hx' hX' hF' ⟨q + 1, by omega, hb'⟩) q _ _ _ (Nat.le_refl q) rfl hX hF
      | (simp only [hc])
      | ((with_reducible refine ⟨vp_in_nI (by omega) (by decide), ?_⟩) <;> conv => whnf)
      | (refine ⟨Or.inl rfl, ?_⟩ <;> conv => whnf)
      | (refine ⟨Or.inr rfl, ?_⟩ <;> conv => whnf)
      | (refine ⟨Or.inl True.intro, ?_⟩ <;> conv => whnf)
      | (refine ⟨Or.inr True.intro, ?_⟩ <;> conv => whnf)
      | (refine ⟨fun c => ?_, fun c => ?_⟩ <;> first | ((have c9 : (1 : Int32) = 0 := by with_reducible exact c); exact absurd c9 (by decide)) | exact absurd (rfl : (0 : Int32) = 0) (by with_reducible exact c) | exact absurd True.intro (by with_reducible exact c) | exact False.elim (by with_reducible exact c) | (conv => whnf))
      | (refine ⟨by unfold vp_in; decide, ?_⟩ <;> conv => whnf)
      | fail
    all_goals exact H q _ _ (by omega) hX hF
set_option maxRecDepth 100000 in
set_option maxHeartbeats 4000000 in
theorem sx_sortThoseIn {d L : Nat} {f : Nat → Nat → Int32} {g : Nat → Nat → Int64}  {R : Option Value → mH → Prop} (hd : 2 ≤ d) (hX : XI f) (H : ∀ q f' g', q ≤ 40 → XI f' → fx 172 173 f f' → R (some (.int (nI q))) (shF L, f', g')) : Run mtab d 16 [.ref 168] (shF L, f, g) R := by
  obtain ⟨d, rfl⟩ : ∃ e, d = e + 1 := ⟨d - 1, by omega⟩
  refine go_X1_sortThoseIn rfl ?_
  conv => whnf
  obtain ⟨n, hm, hn⟩ := inr_nat (n := 40) rfl (xi_6 hX 13)
  exact sx_sort_lp (by omega) hm hn H n 0 _ _ _ _ _ (by omega) rfl hX (fx_refl _ _ _) ⟨0, by omega, rfl⟩
