set_option maxRecDepth 100000 in
set_option maxHeartbeats 4000000 in
theorem sm_isAhead {d L : Nat} {f : Nat → Nat → Int32} {g : Nat → Nat → Int64} {p : Nat} {w : Int32} {R : Option Value → mH → Prop} (hd : 1 ≤ d) (hX : XI f) (hp : p < 40) (hw : vp_in w 40) (H : ∀ v, (v = 0 ∨ v = 1) → R (some (.int v)) (shF L, f, g)) : Run mtab d 232 [.ref 181, .int (nI p), .int w] (shF L, f, g) R := by
  obtain ⟨d, rfl⟩ : ∃ e, d = e + 1 := ⟨d - 1, by omega⟩
  refine go_X11_isAhead rfl ?_
  conv => whnf
  repeat' first
    | ((with_reducible refine ⟨hw, ?_⟩) <;> conv => whnf)
    | ((with_reducible refine ⟨vp_in_nI (by omega) (by decide), ?_⟩) <;> conv => whnf)
    | (refine ⟨Or.inl rfl, ?_⟩ <;> conv => whnf)
    | (refine ⟨Or.inr rfl, ?_⟩ <;> conv => whnf)
    | (refine ⟨Or.inl True.intro, ?_⟩ <;> conv => whnf)
    | (refine ⟨Or.inr True.intro, ?_⟩ <;> conv => whnf)
    | (refine ⟨fun c => ?_, fun c => ?_⟩ <;> first | ((have c9 : (1 : Int32) = 0 := by with_reducible exact c); exact absurd c9 (by decide)) | exact absurd (rfl : (0 : Int32) = 0) (by with_reducible exact c) | exact absurd True.intro (by with_reducible exact c) | exact False.elim (by with_reducible exact c) | (conv => whnf))
    | (refine ⟨by unfold vp_in; decide, ?_⟩ <;> conv => whnf)
    | fail
  all_goals first | exact ⟨Or.inl rfl, H _ (Or.inl rfl)⟩ | exact ⟨Or.inr rfl, H _ (Or.inr rfl)⟩ | exact H _ (Or.inl rfl) | exact H _ (Or.inr rfl)
set_option maxRecDepth 100000 in
set_option maxHeartbeats 4000000 in
theorem msr_in {d L p q : Nat} {f0 : Nat → Nat → Int32} {s4 s5 s6 s7 : Option Value} {R : Option Value → mH → Prop} (hd : 1 ≤ d) (hp : p < 40) (hq : q < 40) (HO : ∀ (b' x' : Int32) (s3 : Option Value) (f' : Nat → Nat → Int32) (g' : Nat → Nat → Int64), b' = nI (q + 1) → x' = nI (p + 1) → XI f' → fx 223 224 f0 f' → WPe pg_X11_edition none (Run mtab d) R (m_drop pg_X11_edition 12) [some (.ref 181), some (.int b'), some (.int x'), s3, s4, s5, s6, s7] [] (shF L, f', g')) :
    ∀ (t : Nat) (y : Int32) (f : Nat → Nat → Int32) (g : Nat → Nat → Int64), t ≤ q → y = nI t → XI f → fx 223 224 f0 f → WPe pg_X11_edition none (Run mtab d) R (m_drop pg_X11_edition 26) [some (.ref 181), some (.int (nI q)), some (.int (nI p)), some (.int y), s4, s5, s6, s7] [] (shF L, f, g)
  | 0, y, f, g, ht, hy, hX, hF => by
    subst hy
    refine at_X11_edition ?_
    conv => whnf
    refine ⟨fun c => ?_, fun c => absurd (by decide) c⟩
    conv => whnf
    refine ⟨vp_in_nI (by omega) (by decide), ?_⟩
    conv => whnf
    exact HO _ _ _ _ _ (nI_1 q) (nI_1 p) (XI_ui hX (show inr 0 39 _ from inr_n (m := 39) (by omega) rfl (by decide))) (fx_ui (by decide) (by decide) hF)
  | t + 1, y, f, g, ht, hy, hX, hF => by
    subst hy
    have hp1 : nI (t + 1) - 1 = nI t := nI_pred t
    refine at_X11_edition ?_
    conv => whnf
    refine ⟨fun c => absurd c (nI_nle (by omega) (by omega)), fun c => ?_⟩
    conv => whnf
    simp only [hp1]
    refine ⟨vp_in_nI (by omega) (by decide), ?_⟩
    conv => whnf
    refine sm_isAhead (by omega) hX hp (vx_223 hX _) (fun v1 hv1 => ?_)
    conv => whnf
    refine ⟨fun c2 => ?_, fun c2 => ?_⟩
    · conv => whnf
      refine ⟨vp_in_nI (by omega) (by decide), ?_⟩
      conv => whnf
      exact HO _ _ _ _ _ (nI_1 q) (nI_1 p) (XI_ui hX (show inr 0 39 _ from inr_n (m := 39) (by omega) rfl (by decide))) (fx_ui (by decide) (by decide) hF)
    · conv => whnf
      simp only [hp1]
      refine ⟨vp_in_nI (by omega) (by decide), ?_⟩
      conv => whnf
      refine ⟨vp_in_nI (by omega) (by decide), ?_⟩
      conv => whnf
      exact msr_in hd hp hq HO t _ _ g (by omega) (by rw [← Int32.sub_eq_add_neg, nI_pred]) (XI_ui hX (show inr 0 39 _ from xi_223 hX _)) (fx_ui (by decide) (by decide) hF)
set_option maxRecDepth 100000 in
set_option maxHeartbeats 4000000 in
theorem sm_ed2_lp {d L n : Nat} {f0 : Nat → Nat → Int32}  {R : Option Value → mH → Prop} (hd : 1 ≤ d) (hm : n ≤ 40) (H : ∀ v f' g', XI f' → kp [10, 17, 22, 23] f0 f' → R (some (.int v)) (shF L, f', g'))  :
    ∀ (k i : Nat) (x : Int32) (a : Int32) (b : Int32) (s5 : Option Value) (s6 : Option Value) (s7 : Option Value) (f : Nat → Nat → Int32) (g : Nat → Nat → Int64), i + k = n → x = nI i → XI f → kp [10, 17, 22, 23] f0 f → inr 0 40 b → WPe pg_X11_edition none (Run mtab d) R (m_drop pg_X11_edition 64) [some (.ref 181), some (.int (nI n)), some (.int a), some (.int b), some (.int x), s5, s6, s7] [] (shF L, f, g)
  | 0, i, x, a, b, s5, s6, s7, f, g, he, hx, hX, hF, hb => by
    have e : i = n := by omega
    subst hx
    subst e
    refine at_X11_edition ?_
    conv => whnf
    try simp only [nI_1, m_ui_ap, m_fil_ap, m_cpy_ap, Nat.reduceEqDiff, Nat.reduceLT, Nat.reduceLeDiff, eq_self, ↓reduceIte, false_and, and_false, true_and, and_true, and_self]
    refine ⟨fun c => ?_, fun c => absurd (nI_le (Nat.le_refl _) (by omega)) c⟩
    conv => whnf
    repeat' first
      | ((with_reducible refine ⟨vx_223 hX _, ?_⟩) <;> conv => whnf)
      | ((with_reducible refine ⟨vpi hb (by decide), ?_⟩) <;> conv => whnf)
      | (simp only [nI_1, m_ui_ap, m_fil_ap, m_cpy_ap, Nat.reduceEqDiff, Nat.reduceLT, Nat.reduceLeDiff, eq_self, ↓reduceIte, false_and, and_false, true_and, and_true, and_self])
      | ((with_reducible refine ⟨vp_in_nI (by omega) (by decide), ?_⟩) <;> conv => whnf)
      | (refine ⟨Or.inl rfl, ?_⟩ <;> conv => whnf)
      | (refine ⟨Or.inr rfl, ?_⟩ <;> conv => whnf)
      | (refine ⟨Or.inl True.intro, ?_⟩ <;> conv => whnf)
      | (refine ⟨Or.inr True.intro, ?_⟩ <;> conv => whnf)
      | (refine ⟨fun c => ?_, fun c => ?_⟩ <;> first | ((have c9 : (1 : Int32) = 0 := by with_reducible exact c); exact absurd c9 (by decide)) | exact absurd (rfl : (0 : Int32) = 0) (by with_reducible exact c) | exact absurd True.intro (by with_reducible exact c) | exact False.elim (by with_reducible exact c) | (conv => whnf))
      | (refine ⟨by unfold vp_in; decide, ?_⟩ <;> conv => whnf)
      | fail
    all_goals exact H _ _ _ (XI_ui hX True.intro) (kp_ui rfl hF)
  | k + 1, i, x, a, b, s5, s6, s7, f, g, he, hx, hX, hF, hb => by
    subst hx
    refine at_X11_edition ?_
    conv => whnf
    try simp only [nI_1, m_ui_ap, m_fil_ap, m_cpy_ap, Nat.reduceEqDiff, Nat.reduceLT, Nat.reduceLeDiff, eq_self, ↓reduceIte, false_and, and_false, true_and, and_true, and_self]
    refine ⟨fun c => absurd c (nI_ge (b := n) (by omega) (by omega)), fun c => ?_⟩
    conv => whnf
    repeat' first
      | exact sm_ed2_lp hd hm H k (i + 1) _ _ _ _ _ _ _ _ (by omega) (by first | rfl | exact nI_1 i) (by repeat' first | (with_reducible assumption) | (with_reducible refine XI_ui ?_ ?_) | (with_reducible refine XI_fil ?_ (fun _ => ?_)) | (with_reducible refine XI_cpy ?_ (fun _ _ => ?_)) | exact True.intro | ((show inr _ _ _); first | (with_reducible assumption) | ((with_reducible refine inr_n1 (m := 40) ?_ ?_ ?_) <;> first | omega | rfl | decide) | ((with_reducible refine inr_n (m := 40) ?_ ?_ ?_) <;> first | omega | rfl | decide) | (unfold inr; decide)) | fail) (by repeat' first | (with_reducible exact kp_refl _ _) | (with_reducible assumption) | (with_reducible refine kp_ui ?_ ?_) | (with_reducible refine kp_fil ?_ ?_) | (with_reducible refine kp_cpy ?_ ?_) | rfl | fail) (by first | (with_reducible assumption) | (with_reducible exact xi_221 hX _) | (with_reducible refine inr_n (m := 40) ?_ ?_ ?_) <;> first | omega | rfl | decide)
      | ((with_reducible refine ⟨vx_223 hX _, ?_⟩) <;> conv => whnf)
      | ((with_reducible refine ⟨vpi hb (by decide), ?_⟩) <;> conv => whnf)
      | (simp only [nI_1, m_ui_ap, m_fil_ap, m_cpy_ap, Nat.reduceEqDiff, Nat.reduceLT, Nat.reduceLeDiff, eq_self, ↓reduceIte, false_and, and_false, true_and, and_true, and_self])
      | ((with_reducible refine ⟨vp_in_nI (by omega) (by decide), ?_⟩) <;> conv => whnf)
      | (refine ⟨Or.inl rfl, ?_⟩ <;> conv => whnf)
      | (refine ⟨Or.inr rfl, ?_⟩ <;> conv => whnf)
      | (refine ⟨Or.inl True.intro, ?_⟩ <;> conv => whnf)
      | (refine ⟨Or.inr True.intro, ?_⟩ <;> conv => whnf)
      | (refine ⟨fun c => ?_, fun c => ?_⟩ <;> first | ((have c9 : (1 : Int32) = 0 := by with_reducible exact c); exact absurd c9 (by decide)) | exact absurd (rfl : (0 : Int32) = 0) (by with_reducible exact c) | exact absurd True.intro (by with_reducible exact c) | exact False.elim (by with_reducible exact c) | (conv => whnf))
      | (refine ⟨by unfold vp_in; decide, ?_⟩ <;> conv => whnf)
      | fail
    all_goals exact H _ _ _ (XI_ui hX True.intro) (kp_ui rfl hF)
set_option maxRecDepth 100000 in
set_option maxHeartbeats 4000000 in
theorem sm_ed1_lp {d L n : Nat} {f0 : Nat → Nat → Int32} {vn : Nat} {fz : Nat → Nat → Int32} {R : Option Value → mH → Prop} (hd : 3 ≤ d) (hm : n ≤ 40) (h0 : f0 181 0 = nI n) (hv0 : f0 181 48 = nI vn) (hk : vn ≤ 60) (k0 : kp [10, 17, 22, 23] fz f0) (H : ∀ v f' g', XI f' → kp [10, 17, 22, 23] fz f' → R (some (.int v)) (shF L, f', g'))  :
    ∀ (k i : Nat) (x : Int32) (b : Int32) (s3 : Option Value) (s4 : Option Value) (s5 : Option Value) (s6 : Option Value) (s7 : Option Value) (f : Nat → Nat → Int32) (g : Nat → Nat → Int64), i + k = n → x = nI i → XI f → fx 223 224 f0 f → (∃ q, q ≤ i ∧ b = nI q) → WPe pg_X11_edition none (Run mtab d) R (m_drop pg_X11_edition 12) [some (.ref 181), some (.int b), some (.int x), s3, s4, s5, s6, s7] [] (shF L, f, g)
  | 0, i, x, b, s3, s4, s5, s6, s7, f, g, he, hx, hX, hF, hb => by
    have e : i = n := by omega
    subst hx
    have hc : f 181 0 = nI n := (hF 181 0 (by omega)).trans h0
    have hvb : f 181 48 = nI vn := (hF 181 48 (by omega)).trans hv0
    obtain ⟨q, hqi, rfl⟩ := hb
    subst e
    refine at_X11_edition ?_
    conv => whnf
    try simp only [hc, hvb]
    refine ⟨fun c => ?_, fun c => absurd (nI_le (Nat.le_refl _) (by omega)) c⟩
    conv => whnf
    repeat' first
      | exact sm_ed2_lp (f0 := fz) (by omega) (by omega) H q 0 _ _ _ _ _ _ _ _ (by omega) rfl hX (kp_trans k0 (kp_fx hF rfl)) (show inr 0 40 0 by unfold inr; decide)
      | (simp only [hc, hvb])
      | ((with_reducible refine ⟨vp_in_nI (by omega) (by decide), ?_⟩) <;> conv => whnf)
      | (refine ⟨Or.inl rfl, ?_⟩ <;> conv => whnf)
      | (refine ⟨Or.inr rfl, ?_⟩ <;> conv => whnf)
      | (refine ⟨Or.inl True.intro, ?_⟩ <;> conv => whnf)
      | (refine ⟨Or.inr True.intro, ?_⟩ <;> conv => whnf)
      | (refine ⟨fun c => ?_, fun c => ?_⟩ <;> first | ((have c9 : (1 : Int32) = 0 := by with_reducible exact c); exact absurd c9 (by decide)) | exact absurd (rfl : (0 : Int32) = 0) (by with_reducible exact c) | exact absurd True.intro (by with_reducible exact c) | exact False.elim (by with_reducible exact c) | (conv => whnf))
      | (refine ⟨by unfold vp_in; decide, ?_⟩ <;> conv => whnf)
      | fail
    all_goals fail
  | k + 1, i, x, b, s3, s4, s5, s6, s7, f, g, he, hx, hX, hF, hb => by
    subst hx
    have hc : f 181 0 = nI n := (hF 181 0 (by omega)).trans h0
    have hvb : f 181 48 = nI vn := (hF 181 48 (by omega)).trans hv0
    obtain ⟨q, hqi, rfl⟩ := hb
    refine at_X11_edition ?_
    conv => whnf
    try simp only [hc, hvb]
    refine ⟨fun c => absurd c (nI_ge (b := n) (by omega) (by omega)), fun c => ?_⟩
    conv => whnf
    repeat' first
      | exact sm_ed1_lp hd hm h0 hv0 hk k0 H k (i + 1) _ _ _ _ _ _ _ _ _ (by omega) (nI_1 i) (by repeat' first | (with_reducible assumption) | (with_reducible refine XI_ui ?_ ?_) | (with_reducible refine XI_fil ?_ (fun _ => ?_)) | (with_reducible refine XI_cpy ?_ (fun _ _ => ?_)) | exact True.intro | ((show inr _ _ _); first | (with_reducible assumption) | (unfold inr; decide)) | fail) (by repeat' first | (with_reducible exact fx_refl _ _ _) | (with_reducible assumption) | (with_reducible refine fx_ui ?_ ?_ ?_) | (with_reducible refine fx_fil ?_ ?_ ?_) | (with_reducible refine fx_cpy ?_ ?_ ?_) | omega | decide | fail) ⟨q, by omega, rfl⟩
      | exact msr_in (p := i) (q := q) (by omega) (by omega) (by omega) (fun b' x' s3 f' g' hb' hx' hX' hF' => sm_ed1_lp hd hm h0 hv0 hk k0 H k (i + 1) x' b' s3 _ _ _ _ f' g' (by omega) hx' hX' hF' ⟨q + 1, by omega, hb'⟩) q _ _ _ (Nat.le_refl q) rfl hX hF
      | (simp only [hc, hvb])
      | ((with_reducible refine ⟨vp_in_nI (by omega) (by decide), ?_⟩) <;> conv => whnf)
      | (refine ⟨Or.inl rfl, ?_⟩ <;> conv => whnf)
      | (refine ⟨Or.inr rfl, ?_⟩ <;> conv => whnf)
      | (refine ⟨Or.inl True.intro, ?_⟩ <;> conv => whnf)
      | (refine ⟨Or.inr True.intro, ?_⟩ <;> conv => whnf)
      | (refine ⟨fun c => ?_, fun c => ?_⟩ <;> first | ((have c9 : (1 : Int32) = 0 := by with_reducible exact c); exact absurd c9 (by decide)) | exact absurd (rfl : (0 : Int32) = 0) (by with_reducible exact c) | exact absurd True.intro (by with_reducible exact c) | exact False.elim (by with_reducible exact c) | (conv => whnf))
      | (refine sm_stateOf (by omega) hX hk (fun v => ?_) <;> conv => whnf)
      | (refine ⟨by unfold vp_in; decide, ?_⟩ <;> conv => whnf)
      | fail
    all_goals fail
set_option maxRecDepth 100000 in
set_option maxHeartbeats 4000000 in
theorem sm_edition {d L : Nat} {f : Nat → Nat → Int32} {g : Nat → Nat → Int64}  {R : Option Value → mH → Prop} (hd : 9 ≤ d) (hX : XI f) (H : ∀ v f' g', XI f' → kp [10, 17, 22, 23] f f' → R (some (.int v)) (shF L, f', g')) : Run mtab d 233 [.ref 181] (shF L, f, g) R := by
  obtain ⟨d, rfl⟩ : ∃ e, d = e + 1 := ⟨d - 1, by omega⟩
  refine go_X11_edition rfl ?_
  conv => whnf
  refine ⟨fun c => ?_, fun c => ?_⟩
  · conv => whnf
    refine sm_refresh (by omega) hX (fun f1 g1 h1 k1 => ?_)
    obtain ⟨n, hm, hb⟩ := inr_nat (n := 40) rfl (xi_181_0 h1)
    obtain ⟨vn, hvm, hvb⟩ := inr_nat (n := 60) rfl (xi_181_48 h1)
    conv => whnf
    exact sm_ed1_lp (f0 := f1) (by omega) hm hb hvb hvm (kp_wd k1 rfl) H n 0 _ _ _ _ _ _ _ _ _ (by omega) rfl h1 (fx_refl _ _ _) ⟨0, by omega, rfl⟩
  · conv => whnf
    exact H _ _ _ hX (kp_refl _ _)
