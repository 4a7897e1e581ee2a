set_option maxRecDepth 100000 in
set_option maxHeartbeats 8000000 in
theorem vt_lp {d L j cn : Nat} {f : Nat → Nat → Int32} {g : Nat → Nat → Int64} {y x3 x4 x5 hs : Int32} {R : Option Value → mH → Prop} (hd : 4 ≤ d) (hX : XI f) (hj : j < 40) (cnb : f 181 48 = nI cn) (cnm : cn ≤ 60) (H : ∀ v f' g', XI f' → kp [10, 14, 22] f f' → R (some (.int v)) (shF L, f', g')) :
    ∀ (k i : Nat) (x a : Int32) (s9 s10 s11 s12 : Option Value), i + k = 8 → x = nI i → WPe pg_X11_vote none (Run mtab d) R (m_drop pg_X11_vote 41) [some (.ref 181), some (.int (nI j)), some (.int y), some (.int x3), some (.int x4), some (.int x5), some (.int hs), some (.int a), some (.int x), s9, s10, s11, s12] [] (shF L, f, g)
  | 0, i, x, a, s9, s10, s11, s12, hi, hx => by
    have e : i = 8 := by omega
    subst e
    subst hx
    refine at_X11_vote ?_
    conv => whnf
    refine ⟨fun _ => ?_, fun c => absurd (by decide) c⟩
    conv => whnf
    refine sm_ones (by omega) (fun v0 => ?_)
    conv => whnf
    by_cases hq : cn = 60
    · subst hq
      repeat' first
        | (simp only [cnb])
        | ((with_reducible refine ⟨vp_in_nI (by omega) (by decide), ?_⟩) <;> conv => whnf)
        | (refine ⟨Or.inl rfl, ?_⟩ <;> conv => whnf)
        | (refine ⟨Or.inr rfl, ?_⟩ <;> conv => whnf)
        | (refine ⟨Or.inl True.intro, ?_⟩ <;> conv => whnf)
        | (refine ⟨Or.inr True.intro, ?_⟩ <;> conv => whnf)
        | (refine ⟨fun c => ?_, fun c => ?_⟩ <;> first | ((have c9 : (1 : Int32) = 0 := by with_reducible exact c); exact absurd c9 (by decide)) | exact absurd (rfl : (0 : Int32) = 0) (by with_reducible exact c) | exact absurd True.intro (by with_reducible exact c) | exact False.elim (by with_reducible exact c) | exact absurd (by decide) c | (conv => whnf))
        | (refine ⟨by unfold vp_in; decide, ?_⟩ <;> conv => whnf)
        | fail
      all_goals exact H _ _ _ (by repeat' first | (with_reducible assumption) | (with_reducible refine XI_ui ?_ ?_) | (with_reducible refine XI_fil ?_ (fun _ => ?_)) | (with_reducible refine XI_cpy ?_ (fun _ _ => ?_)) | exact True.intro | ((show inr _ _ _); first | (with_reducible assumption) | (unfold inr; decide)) | fail) (by repeat' first | (with_reducible exact kp_refl _ _) | (with_reducible assumption) | (with_reducible refine kp_ui ?_ ?_) | (with_reducible refine kp_fil ?_ ?_) | (with_reducible refine kp_cpy ?_ ?_) | rfl | fail)
    · have hlt : cn < 60 := by omega
      repeat' first
        | (simp only [cnb, nI_6m, nI_1, nI_k _ 2 2 rfl, nI_k _ 3 3 rfl, nI_k _ 4 4 rfl, nI_k _ 5 5 rfl, nI_k _ 6 6 rfl, m_ui_ap, m_fil_ap, m_cpy_ap, Nat.reduceEqDiff, Nat.reduceLT, Nat.reduceLeDiff, eq_self, ↓reduceIte, false_and, and_false, true_and, and_true, and_self])
        | ((with_reducible refine ⟨vp_in_nI (by omega) (by decide), ?_⟩) <;> conv => whnf)
        | (refine ⟨Or.inl rfl, ?_⟩ <;> conv => whnf)
        | (refine ⟨Or.inr rfl, ?_⟩ <;> conv => whnf)
        | (refine ⟨Or.inl True.intro, ?_⟩ <;> conv => whnf)
        | (refine ⟨Or.inr True.intro, ?_⟩ <;> conv => whnf)
        | (refine ⟨fun c => ?_, fun c => ?_⟩ <;> first | ((have c9 : (1 : Int32) = 0 := by with_reducible exact c); exact absurd c9 (by decide)) | exact absurd (rfl : (0 : Int32) = 0) (by with_reducible exact c) | exact absurd True.intro (by with_reducible exact c) | exact False.elim (by with_reducible exact c) | exact absurd ((nI_eq (b := 60) (by omega) (by decide)).mp c) hq | (conv => whnf))
        | (refine sm_ones (by omega) (fun v => ?_) <;> conv => whnf)
        | (refine sm_rulePart (by omega) hX (xi_182 hX _) (fun v => ?_) <;> conv => whnf)
        | (refine ⟨by unfold vp_in; decide, ?_⟩ <;> conv => whnf)
        | fail
      all_goals exact H _ _ _ (by repeat' first | (with_reducible assumption) | (with_reducible refine XI_ui ?_ ?_) | (with_reducible refine XI_fil ?_ (fun _ => ?_)) | (with_reducible refine XI_cpy ?_ (fun _ _ => ?_)) | exact True.intro | ((show inr _ _ _); first | (with_reducible assumption) | ((with_reducible refine inr_n1 (m := 60) ?_ ?_ ?_) <;> first | omega | rfl | decide) | ((with_reducible refine inr_n (m := 60) ?_ ?_ ?_) <;> first | omega | rfl | decide) | (unfold inr; decide)) | fail) (by repeat' first | (with_reducible exact kp_refl _ _) | (with_reducible assumption) | (with_reducible refine kp_ui ?_ ?_) | (with_reducible refine kp_fil ?_ ?_) | (with_reducible refine kp_cpy ?_ ?_) | rfl | fail)
  | k + 1, i, x, a, s9, s10, s11, s12, hi, hx => by
    subst hx
    refine at_X11_vote ?_
    conv => whnf
    refine ⟨fun c => absurd c (nI_ge (b := 8) (by omega) (by omega)), fun c => ?_⟩
    conv => whnf
    refine ⟨vp_in_nI (by omega) (by decide), ?_⟩
    conv => whnf
    refine ⟨fun c => ?_, fun c => ?_⟩
    · conv => whnf
      exact vt_lp hd hX hj cnb cnm H k (i + 1) _ _ _ _ _ _ (by omega) (nI_1 i)
    · conv => whnf
      exact vt_lp hd hX hj cnb cnm H k (i + 1) _ _ _ _ _ _ (by omega) (nI_1 i)
set_option maxRecDepth 100000 in
set_option maxHeartbeats 4000000 in
theorem sm_vote {d L : Nat} {f : Nat → Nat → Int32} {g : Nat → Nat → Int64} {x1 x2 x3 x4 x5 : Int32} {R : Option Value → mH → Prop} (hd : 8 ≤ d) (hX : XI f) (H : ∀ v f' g', XI f' → kp [10, 14, 22] f f' → R (some (.int v)) (shF L, f', g')) : Run mtab d 225 [.ref 181, .int x1, .int x2, .int x3, .int x4, .int x5] (shF L, f, g) R := by
  obtain ⟨d, rfl⟩ : ∃ e, d = e + 1 := ⟨d - 1, by omega⟩
  refine go_X11_vote rfl ?_
  conv => whnf
  obtain ⟨n, hm, hb⟩ := inr_nat (n := 40) rfl (xi_181_0 hX)
  obtain ⟨cn, cnm, cnb⟩ := inr_nat (n := 60) rfl (xi_181_48 hX)
  repeat' first
    | exact vt_lp (by omega) hX (by omega) cnb cnm H 8 0 _ _ _ _ _ _ (by omega) rfl
    | ((refine ⟨show ¬ (100 : Int32) = 0 by decide, ?_⟩) <;> conv => whnf)
    | ((with_reducible refine ⟨vp_in_nI (by omega) (by decide), ?_⟩) <;> conv => whnf)
    | (refine ⟨Or.inl rfl, ?_⟩ <;> conv => whnf)
    | (refine ⟨Or.inr rfl, ?_⟩ <;> conv => whnf)
    | (refine ⟨Or.inl True.intro, ?_⟩ <;> conv => whnf)
    | (refine ⟨Or.inr True.intro, ?_⟩ <;> conv => whnf)
    | (refine ⟨fun c => ?_, fun c => ?_⟩ <;> first | ((have c9 : (1 : Int32) = 0 := by with_reducible exact c); exact absurd c9 (by decide)) | exact absurd (rfl : (0 : Int32) = 0) (by with_reducible exact c) | exact absurd True.intro (by with_reducible exact c) | exact False.elim (by with_reducible exact c) | (conv => whnf))
    | (refine ct_mIsWork (by omega) hb hm (fun j hj e => ?_) (fun q => ?_) <;> (try subst e) <;> conv => whnf)
    | ((with_reducible refine ct_i_0_9999 (by omega) (fun p => ?_) (fun p => ?_)) <;> conv => whnf)
    | ((with_reducible refine ct_i_0_255 (by omega) (fun p => ?_) (fun p => ?_)) <;> conv => whnf)
    | (refine sm_mayHold (by omega) hX (fun v => ?_) <;> conv => whnf)
    | (refine ⟨by unfold vp_in; decide, ?_⟩ <;> conv => whnf)
    | fail
  all_goals exact H _ _ _ hX (kp_refl _ _)
set_option maxRecDepth 100000 in
set_option maxHeartbeats 4000000 in
theorem mh2_lp {d L m b h0 : Nat} {f0 : Nat → Nat → Int32} {x1 x2 x3 : Int32} {R : Option Value → mH → Prop} (hd : 1 ≤ d) (hbm : b + 6 * m ≤ 240) (hh : h0 + m ≤ 60) (H : ∀ v f' g', XI f' → kp [10, 12, 22] f0 f' → R (some (.int v)) (shF L, f', g')) :
    ∀ (k i : Nat) (x : Int32) (f : Nat → Nat → Int32) (g : Nat → Nat → Int64), i + k = m → x = nI (b + 6 * i) → f 181 14 = nI (h0 + i) → XI f → kp [10, 12, 22] f0 f → WPe pg_X11_holdings none (Run mtab d) R (m_drop pg_X11_holdings 109) [some (.ref 181), some (.int x1), some (.int x2), some (.int x3), some (.int (nI m)), some (.int (nI b)), some (.int x)] [] (shF L, f, g)
  | 0, i, x, f, g, hi, hx, hhb, hX, hF => by
    have e9 : i = m := by omega
    subst hx
    subst e9
    refine at_X11_holdings ?_
    conv => whnf
    simp only [nI_6m, nI_add]
    refine ⟨fun c => ?_, fun c => absurd (nI_le (Nat.le_refl _) (by omega)) c⟩
    conv => whnf
    exact H _ _ _ hX hF
  | k + 1, i, x, f, g, hi, hx, hhb, hX, hF => by
    subst hx
    refine at_X11_holdings ?_
    conv => whnf
    simp only [nI_6m, nI_add]
    refine ⟨fun c => absurd c (nI_ge (by omega) (by omega)), fun c => ?_⟩
    conv => whnf
    repeat' first
      | exact mh2_lp hd hbm hh H k (i + 1) _ _ _ (by omega) (congrArg nI (by omega)) (e1.trans (congrArg nI (by omega))) h1 (kp_trans hF k1)
      | (simp only [nI_6m, nI_add, nI_1, nI_k _ 2 2 rfl, nI_k _ 3 3 rfl, nI_k _ 4 4 rfl, nI_k _ 5 5 rfl, nI_k _ 6 6 rfl])
      | ((with_reducible refine ⟨vp_in_nI (by omega) (by decide), ?_⟩) <;> conv => whnf)
      | (refine ⟨Or.inl rfl, ?_⟩ <;> conv => whnf)
      | (refine ⟨Or.inr rfl, ?_⟩ <;> conv => whnf)
      | (refine ⟨Or.inl True.intro, ?_⟩ <;> conv => whnf)
      | (refine ⟨Or.inr True.intro, ?_⟩ <;> conv => whnf)
      | (refine ⟨fun c => ?_, fun c => ?_⟩ <;> first | ((have c9 : (1 : Int32) = 0 := by with_reducible exact c); exact absurd c9 (by decide)) | exact absurd (rfl : (0 : Int32) = 0) (by with_reducible exact c) | exact absurd True.intro (by with_reducible exact c) | exact False.elim (by with_reducible exact c) | (conv => whnf))
      | (refine sm_keepHolding (by omega) hX hhb (by omega) (fun f1 g1 h1 k1 e1 => ?_) <;> conv => whnf)
      | (refine ⟨by unfold vp_in; decide, ?_⟩ <;> conv => whnf)
      | fail
set_option maxRecDepth 100000 in
set_option maxHeartbeats 4000000 in
theorem mh1_lp {d L m b : Nat} {f : Nat → Nat → Int32} {g : Nat → Nat → Int64} {x1 x2 x3 : Int32} {R : Option Value → mH → Prop} (hd : 4 ≤ d) (hX : XI f) (hm : m ≤ 10) (hbm : b + 6 * m ≤ 240) (H : ∀ v f' g', XI f' → kp [10, 12, 22] f f' → R (some (.int v)) (shF L, f', g')) :
    ∀ (k i : Nat) (x : Int32), i + k = m → x = nI (b + 6 * i) → WPe pg_X11_holdings none (Run mtab d) R (m_drop pg_X11_holdings 51) [some (.ref 181), some (.int x1), some (.int x2), some (.int x3), some (.int (nI m)), some (.int (nI b)), some (.int x)] [] (shF L, f, g)
  | 0, i, x, hi, hx => by
    have e9 : i = m := by omega
    subst hx
    subst e9
    obtain ⟨h0, hhm, hhb⟩ := inr_nat (n := 60) rfl (xi_181_14 hX)
    refine at_X11_holdings ?_
    conv => whnf
    simp only [nI_6m, nI_add]
    refine ⟨fun c => ?_, fun c => absurd (nI_le (Nat.le_refl _) (by omega)) c⟩
    conv => whnf
    simp only [hhb, nI_add]
    refine ⟨fun c2 => ?_, fun c2 => ?_⟩
    · conv => whnf
      have c3 : nI (h0 + i) ≤ nI 60 := c2
      rw [nI_leI (by omega) (by decide)] at c3
      exact mh2_lp (h0 := h0) (by omega) hbm c3 H i 0 _ _ _ (by omega) rfl hhb hX (kp_refl _ _)
    · conv => whnf
      exact H _ _ _ hX (kp_refl _ _)
  | k + 1, i, x, hi, hx => by
    subst hx
    refine at_X11_holdings ?_
    conv => whnf
    simp only [nI_6m, nI_add]
    refine ⟨fun c => absurd c (nI_ge (by omega) (by omega)), fun c => ?_⟩
    conv => whnf
    repeat' first
      | exact mh1_lp hd hX hm hbm H k (i + 1) _ (by omega) (congrArg nI (by omega))
      | (simp only [nI_6m, nI_add, nI_1, nI_k _ 2 2 rfl, nI_k _ 3 3 rfl, nI_k _ 4 4 rfl, nI_k _ 5 5 rfl, nI_k _ 6 6 rfl])
      | ((with_reducible refine ⟨vp_in_nI (by omega) (by decide), ?_⟩) <;> conv => whnf)
      | (refine ⟨Or.inl rfl, ?_⟩ <;> conv => whnf)
      | (refine ⟨Or.inr rfl, ?_⟩ <;> conv => whnf)
      | (refine ⟨Or.inl True.intro, ?_⟩ <;> conv => whnf)
      | (refine ⟨Or.inr True.intro, ?_⟩ <;> conv => whnf)
      | (refine ⟨fun c => ?_, fun c => ?_⟩ <;> first | ((have c9 : (1 : Int32) = 0 := by with_reducible exact c); exact absurd c9 (by decide)) | exact absurd (rfl : (0 : Int32) = 0) (by with_reducible exact c) | exact absurd True.intro (by with_reducible exact c) | exact False.elim (by with_reducible exact c) | (conv => whnf))
      | (refine sm_isHolding (by omega) hX (fun v hv => ?_) <;> conv => whnf)
      | (refine ⟨by unfold vp_in; decide, ?_⟩ <;> conv => whnf)
      | fail
    all_goals exact H _ _ _ hX (kp_refl _ _)
theorem hd_am {z w : Int32} {m : Nat} (hm : m ≤ 10) (hl : inr 0 60 z) (h : inr 0 (z - nI (6 * m)) w) : ∃ a, w = nI a ∧ a + 6 * m ≤ 60 := by
  obtain ⟨a, ha, rfl⟩ := nI_of (i32_nlt.mpr h.1)
  have p := Int32.le_iff_toInt_le.mp hl.1
  have q := Int32.le_iff_toInt_le.mp hl.2
  have e1 : (0 : Int32).toInt = 0 := rfl
  have e2 : (60 : Int32).toInt = 60 := rfl
  have hs : (z - nI (6 * m)).toInt = z.toInt - (6 * m : Nat) := by
    rw [Int32.toInt_sub, nI_toInt (by omega)]
    exact Int.bmod_eq_of_le (by omega) (by omega)
  have h2 := h.2
  rw [Int32.le_iff_toInt_le, hs, nI_toInt ha] at h2
  exact ⟨a, rfl, by omega⟩
set_option maxRecDepth 100000 in
set_option maxHeartbeats 4000000 in
theorem sm_holdings {d L : Nat} {f : Nat → Nat → Int32} {g : Nat → Nat → Int64} {x1 x2 x3 x4 : Int32} {R : Option Value → mH → Prop} (hd : 8 ≤ d) (hX : XI f) (H : ∀ v f' g', XI f' → kp [10, 12, 22] f f' → R (some (.int v)) (shF L, f', g')) : Run mtab d 240 [.ref 181, .int x1, .int x2, .int x3, .int x4] (shF L, f, g) R := by
  obtain ⟨d, rfl⟩ : ∃ e, d = e + 1 := ⟨d - 1, by omega⟩
  refine go_X11_holdings rfl ?_
  conv => whnf
  refine ct_mIsSheet (by omega) (fun pp => ?_) (fun pp => ?_)
  · obtain ⟨s, hs, rfl⟩ := inr_nat (n := 3) rfl pp.1
    conv => whnf
    refine ⟨fun c => absurd c (by decide), fun _ => ?_⟩
    conv => whnf
    refine ct_i_0_10 (by omega) (fun p2 => ?_) (fun p2 => ?_)
    · obtain ⟨m, hm, rfl⟩ := inr_nat (n := 10) rfl p2
      conv => whnf
      refine ⟨fun _ => ?_, fun c => absurd c (by decide)⟩
      conv => whnf
      refine ⟨vp_in_nI (by omega) (by decide), ?_⟩
      conv => whnf
      refine ⟨fun c => ?_, fun c => ?_⟩
      · conv => whnf
        refine ⟨vp_in_nI (by omega) (by decide), ?_⟩
        conv => whnf
        simp only [nI_6m]
        refine ct_i_0_v (by omega) (fun p3 => ?_) (fun p3 => ?_)
        · obtain ⟨a, rfl, ha⟩ := hd_am hm (xi_225 hX _) p3
          conv => whnf
          refine ⟨fun _ => ?_, fun c => absurd c (by decide)⟩
          conv => whnf
          simp only [nI_60m, nI_add]
          exact mh1_lp (by omega) hX hm (by omega) H m 0 _ (by omega) rfl
        · conv => whnf
          refine ⟨fun c => absurd (by decide) c, fun _ => ?_⟩
          conv => whnf
          exact H _ _ _ hX (kp_refl _ _)
      · conv => whnf
        refine ⟨vp_in_nI (by omega) (by decide), ?_⟩
        conv => whnf
        refine ⟨fun c => ?_, fun c => ?_⟩
        · conv => whnf
          exact H _ _ _ hX (kp_refl _ _)
        · conv => whnf
          exact H _ _ _ hX (kp_refl _ _)
    · conv => whnf
      refine ⟨fun c => absurd (by decide) c, fun _ => ?_⟩
      conv => whnf
      exact H _ _ _ hX (kp_refl _ _)
  · conv => whnf
    refine ⟨fun _ => ?_, fun c => absurd (by decide) c⟩
    conv => whnf
    exact H _ _ _ hX (kp_refl _ _)
