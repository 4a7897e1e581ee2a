set_option maxRecDepth 100000 in
set_option maxHeartbeats 4000000 in
theorem sm_readClause {d L : Nat} {f : Nat → Nat → Int32} {g : Nat → Nat → Int64} {m p : Nat} {R : Option Value → mH → Prop} (hd : 4 ≤ d) (hX : XI f) (t : tm m p f) (H : ∀ v p' f' g', (v = 0 ∨ v = 1) → tm m p' f' → XI f' → kp [10] f f' → R (some (.int v)) (shF L, f', g')) : Run mtab d 219 [.ref 181] (shF L, f, g) R := by
  obtain ⟨d, rfl⟩ : ∃ e, d = e + 1 := ⟨d - 1, by omega⟩
  refine go_X11_readClause rfl ?_
  conv => whnf
  refine sm_next (by omega) hX t (fun v p1 f1 g1 hv t1 h1 k1 => ?_)
  obtain ⟨u1, u2, u3, u4⟩ := id t1
  by_cases q : v = 112
  · subst q
    have hl : p1 < m := hv.resolve_right (by decide)
    conv => whnf
    refine ⟨fun c => absurd rfl c, fun _ => ?_⟩
    conv => whnf
    refine ⟨fun _ => ?_, fun c => absurd (by decide) c⟩
    conv => whnf
    simp only [u2]
    refine sm_number0 (by omega) (xm_up h1 t1 hl) (tm_up t1 hl) (fun v2 p2 f2 g2 t2 h2 k2 => ?_)
    have kk2 : kp [10] f f2 := kp_trans (kp_ui rfl k1) k2
    conv => whnf
    refine ⟨fun c => ?_, fun c => ?_⟩
    · conv => whnf
      exact ⟨Or.inl rfl, H _ _ _ _ (Or.inl rfl) t2 h2 kk2⟩
    · conv => whnf
      refine sm_takes (by omega) h2 (by decide) t2 (fun v3 p3 f3 g3 hv3 t3 h3 k3 => ?_)
      have kk3 : kp [10] f f3 := kp_trans kk2 k3
      conv => whnf
      refine ⟨fun c => ?_, fun c => ?_⟩
      · conv => whnf
        refine sm_number0 (by omega) h3 t3 (fun v4 p4 f4 g4 t4 h4 k4 => ?_)
        have kk4 : kp [10] f f4 := kp_trans kk3 k4
        conv => whnf
        refine ⟨fun c => ?_, fun c => ?_⟩
        · conv => whnf
          exact ⟨Or.inl rfl, H _ _ _ _ (Or.inl rfl) t4 h4 kk4⟩
        · conv => whnf
          refine sm_takes (by omega) h4 (by decide) t4 (fun v5 p5 f5 g5 hv5 t5 h5 k5 => ?_)
          have kk5 : kp [10] f f5 := kp_trans kk4 k5
          conv => whnf
          refine ⟨fun c => ?_, fun c => ?_⟩
          · conv => whnf
            refine sm_number0 (by omega) h5 t5 (fun v6 p6 f6 g6 t6 h6 k6 => ?_)
            have kk6 : kp [10] f f6 := kp_trans kk5 k6
            conv => whnf
            refine ⟨fun c => ?_, fun c => ?_⟩
            · conv => whnf
              refine ⟨by unfold vp_in; decide, ?_⟩
              conv => whnf
              refine ⟨by unfold vp_in; decide, ?_⟩
              conv => whnf
              refine ⟨by unfold vp_in; decide, ?_⟩
              conv => whnf
              exact ⟨Or.inr rfl, H _ _ _ _ (Or.inr rfl) t6 (XI_ui (XI_ui (XI_ui h6 True.intro) True.intro) True.intro) (kp_ui rfl (kp_ui rfl (kp_ui rfl kk6)))⟩
            · conv => whnf
              exact ⟨Or.inl rfl, H _ _ _ _ (Or.inl rfl) t6 h6 kk6⟩
          · conv => whnf
            exact ⟨Or.inl rfl, H _ _ _ _ (Or.inl rfl) t5 h5 kk5⟩
      · conv => whnf
        exact ⟨Or.inl rfl, H _ _ _ _ (Or.inl rfl) t3 h3 kk3⟩
  · have q1 := q
    clear q
    by_cases q : v = 118
    · subst q
      have hl : p1 < m := hv.resolve_right (by decide)
      conv => whnf
      refine ⟨fun _ => ?_, fun c => absurd c (by decide)⟩
      conv => whnf
      refine ⟨fun c => absurd rfl c, fun _ => ?_⟩
      conv => whnf
      refine ⟨fun _ => ?_, fun c => absurd (by decide) c⟩
      conv => whnf
      simp only [u2]
      refine sm_number0 (by omega) (xm_up h1 t1 hl) (tm_up t1 hl) (fun v2 p2 f2 g2 t2 h2 k2 => ?_)
      have kk2 : kp [10] f f2 := kp_trans (kp_ui rfl k1) k2
      conv => whnf
      refine ⟨fun c => ?_, fun c => ?_⟩
      · conv => whnf
        exact ⟨Or.inl rfl, H _ _ _ _ (Or.inl rfl) t2 h2 kk2⟩
      · conv => whnf
        refine sm_takes (by omega) h2 (by decide) t2 (fun v3 p3 f3 g3 hv3 t3 h3 k3 => ?_)
        have kk3 : kp [10] f f3 := kp_trans kk2 k3
        conv => whnf
        refine ⟨fun c => ?_, fun c => ?_⟩
        · conv => whnf
          refine sm_number0 (by omega) h3 t3 (fun v4 p4 f4 g4 t4 h4 k4 => ?_)
          have kk4 : kp [10] f f4 := kp_trans kk3 k4
          conv => whnf
          refine ⟨fun c => ?_, fun c => ?_⟩
          · conv => whnf
            exact ⟨Or.inl rfl, H _ _ _ _ (Or.inl rfl) t4 h4 kk4⟩
          · conv => whnf
            refine sm_takes (by omega) h4 (by decide) t4 (fun v5 p5 f5 g5 hv5 t5 h5 k5 => ?_)
            have kk5 : kp [10] f f5 := kp_trans kk4 k5
            conv => whnf
            refine ⟨fun c => ?_, fun c => ?_⟩
            · conv => whnf
              refine sm_number0 (by omega) h5 t5 (fun v6 p6 f6 g6 t6 h6 k6 => ?_)
              have kk6 : kp [10] f f6 := kp_trans kk5 k6
              conv => whnf
              refine ⟨fun c => ?_, fun c => ?_⟩
              · conv => whnf
                refine ⟨by unfold vp_in; decide, ?_⟩
                conv => whnf
                refine ⟨by unfold vp_in; decide, ?_⟩
                conv => whnf
                refine ⟨by unfold vp_in; decide, ?_⟩
                conv => whnf
                exact ⟨Or.inr rfl, H _ _ _ _ (Or.inr rfl) t6 (XI_ui (XI_ui (XI_ui h6 True.intro) True.intro) True.intro) (kp_ui rfl (kp_ui rfl (kp_ui rfl kk6)))⟩
              · conv => whnf
                exact ⟨Or.inl rfl, H _ _ _ _ (Or.inl rfl) t6 h6 kk6⟩
            · conv => whnf
              exact ⟨Or.inl rfl, H _ _ _ _ (Or.inl rfl) t5 h5 kk5⟩
        · conv => whnf
          exact ⟨Or.inl rfl, H _ _ _ _ (Or.inl rfl) t3 h3 kk3⟩
    · have q2 := q
      clear q
      by_cases q : v = 100
      · subst q
        have hl : p1 < m := hv.resolve_right (by decide)
        conv => whnf
        refine ⟨fun _ => ?_, fun c => absurd c (by decide)⟩
        conv => whnf
        refine ⟨fun _ => ?_, fun c => absurd c (by decide)⟩
        conv => whnf
        refine ⟨fun c => absurd rfl c, fun _ => ?_⟩
        conv => whnf
        refine ⟨fun _ => ?_, fun c => absurd (by decide) c⟩
        conv => whnf
        simp only [u2]
        refine sm_number0 (by omega) (xm_up h1 t1 hl) (tm_up t1 hl) (fun v2 p2 f2 g2 t2 h2 k2 => ?_)
        have kk2 : kp [10] f f2 := kp_trans (kp_ui rfl k1) k2
        conv => whnf
        refine ⟨fun c => ?_, fun c => ?_⟩
        · conv => whnf
          exact ⟨Or.inl rfl, H _ _ _ _ (Or.inl rfl) t2 h2 kk2⟩
        · conv => whnf
          refine sm_takes (by omega) h2 (by decide) t2 (fun v3 p3 f3 g3 hv3 t3 h3 k3 => ?_)
          have kk3 : kp [10] f f3 := kp_trans kk2 k3
          conv => whnf
          refine ⟨fun c => ?_, fun c => ?_⟩
          · conv => whnf
            refine sm_number0 (by omega) h3 t3 (fun v4 p4 f4 g4 t4 h4 k4 => ?_)
            have kk4 : kp [10] f f4 := kp_trans kk3 k4
            conv => whnf
            refine ⟨fun c => ?_, fun c => ?_⟩
            · conv => whnf
              exact ⟨Or.inl rfl, H _ _ _ _ (Or.inl rfl) t4 h4 kk4⟩
            · conv => whnf
              refine sm_takes (by omega) h4 (by decide) t4 (fun v5 p5 f5 g5 hv5 t5 h5 k5 => ?_)
              have kk5 : kp [10] f f5 := kp_trans kk4 k5
              conv => whnf
              refine ⟨fun c => ?_, fun c => ?_⟩
              · conv => whnf
                refine sm_number0 (by omega) h5 t5 (fun v6 p6 f6 g6 t6 h6 k6 => ?_)
                have kk6 : kp [10] f f6 := kp_trans kk5 k6
                conv => whnf
                refine ⟨fun c => ?_, fun c => ?_⟩
                · conv => whnf
                  refine ⟨by unfold vp_in; decide, ?_⟩
                  conv => whnf
                  refine ⟨by unfold vp_in; decide, ?_⟩
                  conv => whnf
                  refine ⟨by unfold vp_in; decide, ?_⟩
                  conv => whnf
                  exact ⟨Or.inr rfl, H _ _ _ _ (Or.inr rfl) t6 (XI_ui (XI_ui (XI_ui h6 True.intro) True.intro) True.intro) (kp_ui rfl (kp_ui rfl (kp_ui rfl kk6)))⟩
                · conv => whnf
                  exact ⟨Or.inl rfl, H _ _ _ _ (Or.inl rfl) t6 h6 kk6⟩
              · conv => whnf
                exact ⟨Or.inl rfl, H _ _ _ _ (Or.inl rfl) t5 h5 kk5⟩
          · conv => whnf
            exact ⟨Or.inl rfl, H _ _ _ _ (Or.inl rfl) t3 h3 kk3⟩
      · have q3 := q
        clear q
        by_cases q : v = 114
        · subst q
          have hl : p1 < m := hv.resolve_right (by decide)
          conv => whnf
          refine ⟨fun _ => ?_, fun c => absurd c (by decide)⟩
          conv => whnf
          refine ⟨fun _ => ?_, fun c => absurd c (by decide)⟩
          conv => whnf
          refine ⟨fun _ => ?_, fun c => absurd c (by decide)⟩
          conv => whnf
          refine ⟨fun c => absurd rfl c, fun _ => ?_⟩
          conv => whnf
          refine ⟨fun _ => ?_, fun c => absurd (by decide) c⟩
          conv => whnf
          simp only [u2]
          refine sm_number0 (by omega) (xm_up h1 t1 hl) (tm_up t1 hl) (fun v2 p2 f2 g2 t2 h2 k2 => ?_)
          have kk2 : kp [10] f f2 := kp_trans (kp_ui rfl k1) k2
          conv => whnf
          refine ⟨fun c => ?_, fun c => ?_⟩
          · conv => whnf
            exact ⟨Or.inl rfl, H _ _ _ _ (Or.inl rfl) t2 h2 kk2⟩
          · conv => whnf
            refine sm_takes (by omega) h2 (by decide) t2 (fun v3 p3 f3 g3 hv3 t3 h3 k3 => ?_)
            have kk3 : kp [10] f f3 := kp_trans kk2 k3
            conv => whnf
            refine ⟨fun c => ?_, fun c => ?_⟩
            · conv => whnf
              refine sm_number0 (by omega) h3 t3 (fun v4 p4 f4 g4 t4 h4 k4 => ?_)
              have kk4 : kp [10] f f4 := kp_trans kk3 k4
              conv => whnf
              refine ⟨fun c => ?_, fun c => ?_⟩
              · conv => whnf
                exact ⟨Or.inl rfl, H _ _ _ _ (Or.inl rfl) t4 h4 kk4⟩
              · conv => whnf
                refine sm_takes (by omega) h4 (by decide) t4 (fun v5 p5 f5 g5 hv5 t5 h5 k5 => ?_)
                have kk5 : kp [10] f f5 := kp_trans kk4 k5
                conv => whnf
                refine ⟨fun c => ?_, fun c => ?_⟩
                · conv => whnf
                  refine sm_number0 (by omega) h5 t5 (fun v6 p6 f6 g6 t6 h6 k6 => ?_)
                  have kk6 : kp [10] f f6 := kp_trans kk5 k6
                  conv => whnf
                  refine ⟨fun c => ?_, fun c => ?_⟩
                  · conv => whnf
                    refine ⟨by unfold vp_in; decide, ?_⟩
                    conv => whnf
                    refine ⟨by unfold vp_in; decide, ?_⟩
                    conv => whnf
                    refine ⟨by unfold vp_in; decide, ?_⟩
                    conv => whnf
                    exact ⟨Or.inr rfl, H _ _ _ _ (Or.inr rfl) t6 (XI_ui (XI_ui (XI_ui h6 True.intro) True.intro) True.intro) (kp_ui rfl (kp_ui rfl (kp_ui rfl kk6)))⟩
                  · conv => whnf
                    exact ⟨Or.inl rfl, H _ _ _ _ (Or.inl rfl) t6 h6 kk6⟩
                · conv => whnf
                  exact ⟨Or.inl rfl, H _ _ _ _ (Or.inl rfl) t5 h5 kk5⟩
            · conv => whnf
              exact ⟨Or.inl rfl, H _ _ _ _ (Or.inl rfl) t3 h3 kk3⟩
        · have q4 := q
          conv => whnf
          refine ⟨fun _ => ?_, fun c => absurd c q1⟩
          conv => whnf
          refine ⟨fun _ => ?_, fun c => absurd c q2⟩
          conv => whnf
          refine ⟨fun _ => ?_, fun c => absurd c q3⟩
          conv => whnf
          refine ⟨fun _ => ?_, fun c => absurd c q4⟩
          conv => whnf
          refine ⟨fun c => absurd c (by decide), fun _ => ?_⟩
          conv => whnf
          exact ⟨Or.inl rfl, H _ _ _ _ (Or.inl rfl) t1 h1 k1⟩
theorem fin_c {n : Nat} (h : n < 3) : ¬ nI n + 1 = 4 := by
  rw [nI_1]
  exact fun e => absurd ((nI_eq (b := 4) (by omega) (by decide)).mp e) (by omega)
set_option maxRecDepth 100000 in
theorem ra_end {d L m p : Nat} {f0 f : Nat → Nat → Int32} {g : Nat → Nat → Int64} {a : Int32} {s3 : Option Value} {R : Option Value → mH → Prop} (t : tm m p f) (hX : XI f) (hF : kp [10] f0 f) (H : ∀ v p' f' g', tm m p' f' → XI f' → kp [10] f0 f' → R (some (.int v)) (shF L, f', g')) : WPe pg_X11_readAll none (Run mtab d) R (m_drop pg_X11_readAll 19) [some (.ref 181), some (.int a), some (.int 0), s3] [] (shF L, f, g) := by
  refine at_X11_readAll ?_
  conv => whnf
  refine ⟨fun _ => ?_, fun c => absurd rfl c⟩
  conv => whnf
  exact H _ _ _ _ t hX hF
set_option maxRecDepth 100000 in
theorem ra_lp {d L m : Nat} {f0 : Nat → Nat → Int32} {R : Option Value → mH → Prop} (hd : 4 ≤ d) (H : ∀ v p' f' g', tm m p' f' → XI f' → kp [10] f0 f' → R (some (.int v)) (shF L, f', g')) :
    ∀ (k n p : Nat) (a : Int32) (s3 : Option Value) (f : Nat → Nat → Int32) (g : Nat → Nat → Int64), n + k = 3 → a = nI n → tm m p f → XI f → kp [10] f0 f → WPe pg_X11_readAll none (Run mtab d) R (m_drop pg_X11_readAll 19) [some (.ref 181), some (.int a), some (.int 1), s3] [] (shF L, f, g) := by
  intro k
  induction k with
  | zero =>
    intro n p a s3 f g hn ha t hX hF
    have e : n = 3 := by omega
    subst e
    subst ha
    refine at_X11_readAll ?_
    conv => whnf
    refine ⟨fun c => absurd c (by decide), fun _ => ?_⟩
    conv => whnf
    refine sm_readClause (by omega) hX t (fun v p1 f1 g1 hv t1 h1 k1 => ?_)
    conv => whnf
    refine ⟨fun c1 => ?_, fun c1 => ?_⟩
    · conv => whnf
      refine sm_next (by omega) h1 t1 (fun v2 p2 f2 g2 hv2 t2 h2 k2 => ?_)
      have kk : kp [10] f0 f2 := kp_trans hF (kp_trans k1 k2)
      obtain ⟨u1, u2, u3, u4⟩ := id t2
      conv => whnf
      refine ⟨fun c2 => ?_, fun c2 => ?_⟩
      · conv => whnf
        refine ⟨fun _ => ?_, fun c => absurd c2 (by exact c)⟩
        conv => whnf
        refine ⟨fun _ => ?_, fun c => absurd rfl c⟩
        conv => whnf
        have e0 : nI p2 + 0 = nI p2 := Int32.add_zero _
        simp only [u2, e0]
        exact ra_end (tm_back t2 u3) (xm_back h2 t2 u3) (kp_ui rfl kk) H
      · conv => whnf
        refine ⟨fun c3 => ?_, fun c3 => ?_⟩
        · conv => whnf
          exact H _ _ _ _ t2 h2 kk
        · conv => whnf
          refine ⟨fun c4 => absurd (by decide) c4, fun c4 => ?_⟩
          conv => whnf
          exact H _ _ _ _ t2 h2 kk
    · conv => whnf
      exact H _ _ _ _ t1 h1 (kp_trans hF k1)
  | succ k ih =>
    intro n p a s3 f g hn ha t hX hF
    subst ha
    refine at_X11_readAll ?_
    conv => whnf
    refine ⟨fun c => absurd c (by decide), fun _ => ?_⟩
    conv => whnf
    refine sm_readClause (by omega) hX t (fun v p1 f1 g1 hv t1 h1 k1 => ?_)
    conv => whnf
    refine ⟨fun c1 => ?_, fun c1 => ?_⟩
    · conv => whnf
      refine sm_next (by omega) h1 t1 (fun v2 p2 f2 g2 hv2 t2 h2 k2 => ?_)
      have kk : kp [10] f0 f2 := kp_trans hF (kp_trans k1 k2)
      obtain ⟨u1, u2, u3, u4⟩ := id t2
      conv => whnf
      refine ⟨fun c2 => ?_, fun c2 => ?_⟩
      · conv => whnf
        refine ⟨fun _ => ?_, fun c => absurd c2 (by exact c)⟩
        conv => whnf
        refine ⟨fun _ => ?_, fun c => absurd rfl c⟩
        conv => whnf
        have e0 : nI p2 + 0 = nI p2 := Int32.add_zero _
        simp only [u2, e0]
        exact ra_end (tm_back t2 u3) (xm_back h2 t2 u3) (kp_ui rfl kk) H
      · conv => whnf
        refine ⟨fun c3 => ?_, fun c3 => ?_⟩
        · conv => whnf
          exact H _ _ _ _ t2 h2 kk
        · conv => whnf
          refine ⟨fun c4 => ?_, fun c4 => absurd c4 (fin_c (by omega))⟩
          conv => whnf
          refine ⟨fun c => absurd (by exact c) c2, fun _ => ?_⟩
          conv => whnf
          refine ⟨fun c => absurd c (by decide), fun _ => ?_⟩
          conv => whnf
          have hl : p2 < m := hv2.resolve_right (fun e => c2 (by rw [e]; decide))
          simp only [u2]
          exact ih (n + 1) (p2 + 1) _ _ _ _ (by omega) (nI_1 n) (tm_up t2 hl) (xm_up h2 t2 hl) (kp_ui rfl kk)
    · conv => whnf
      exact H _ _ _ _ t1 h1 (kp_trans hF k1)
set_option maxRecDepth 100000 in
set_option maxHeartbeats 4000000 in
theorem ra_fil_lp {d L : Nat} {f0 : Nat → Nat → Int32} {m : Nat} {R : Option Value → mH → Prop} (hd : 4 ≤ d) (H : ∀ v p' f' g', tm m p' f' → XI f' → kp [10] f0 f' → R (some (.int v)) (shF L, f', g'))  :
    ∀ (k i : Nat) (x : Int32) (s2 : Option Value) (s3 : Option Value) (f : Nat → Nat → Int32) (g : Nat → Nat → Int64), i + k = 12 → x = nI i → XI f → kp [10] f0 f → tm m 0 f → WPe pg_X11_readAll none (Run mtab d) R (m_drop pg_X11_readAll 5) [some (.ref 181), some (.int x), s2, s3] [] (shF L, f, g)
  | 0, i, x, s2, s3, f, g, he, hx, hX, hF, t => by
    have e : i = 12 := by omega
    subst hx
    subst e
    refine at_X11_readAll ?_
    conv => whnf
    refine ⟨fun c => ?_, fun c => absurd (by decide) c⟩
    conv => whnf
    repeat' first
      | exact ra_lp (by omega) H 3 0 0 _ _ _ _ (by omega) rfl t hX hF
      | ((with_reducible refine ⟨vp_in_nI (by omega) (by decide), ?_⟩) <;> conv => whnf)
      | (refine ⟨Or.inl rfl, ?_⟩ <;> conv => whnf)
      | (refine ⟨Or.inr rfl, ?_⟩ <;> conv => whnf)
      | (refine ⟨Or.inl True.intro, ?_⟩ <;> conv => whnf)
      | (refine ⟨Or.inr True.intro, ?_⟩ <;> conv => whnf)
      | (refine ⟨fun c => ?_, fun c => ?_⟩ <;> first | ((have c9 : (1 : Int32) = 0 := by with_reducible exact c); exact absurd c9 (by decide)) | exact absurd (rfl : (0 : Int32) = 0) (by with_reducible exact c) | exact absurd True.intro (by with_reducible exact c) | exact False.elim (by with_reducible exact c) | (conv => whnf))
      | (refine ⟨by unfold vp_in; decide, ?_⟩ <;> conv => whnf)
      | fail
    all_goals fail
  | k + 1, i, x, s2, s3, f, g, he, hx, hX, hF, t => by
    subst hx
    refine at_X11_readAll ?_
    conv => whnf
    refine ⟨fun c => absurd c (nI_ge (b := 12) (by omega) (by omega)), fun c => ?_⟩
    conv => whnf
    repeat' first
      | exact ra_fil_lp hd H k (i + 1) _ _ _ _ _ (by omega) (nI_1 i) (by repeat' first | (with_reducible assumption) | (with_reducible refine XI_ui ?_ ?_) | (with_reducible refine XI_fil ?_ (fun _ => ?_)) | (with_reducible refine XI_cpy ?_ (fun _ _ => ?_)) | exact True.intro | ((show inr _ _ _); first | (with_reducible assumption) | (unfold inr; decide)) | fail) (by repeat' first | (with_reducible exact kp_refl _ _) | (with_reducible assumption) | (with_reducible refine kp_ui ?_ ?_) | (with_reducible refine kp_fil ?_ ?_) | (with_reducible refine kp_cpy ?_ ?_) | rfl | fail) t
      | ((with_reducible refine ⟨vp_in_nI (by omega) (by decide), ?_⟩) <;> conv => whnf)
      | (refine ⟨Or.inl rfl, ?_⟩ <;> conv => whnf)
      | (refine ⟨Or.inr rfl, ?_⟩ <;> conv => whnf)
      | (refine ⟨Or.inl True.intro, ?_⟩ <;> conv => whnf)
      | (refine ⟨Or.inr True.intro, ?_⟩ <;> conv => whnf)
      | (refine ⟨fun c => ?_, fun c => ?_⟩ <;> first | ((have c9 : (1 : Int32) = 0 := by with_reducible exact c); exact absurd c9 (by decide)) | exact absurd (rfl : (0 : Int32) = 0) (by with_reducible exact c) | exact absurd True.intro (by with_reducible exact c) | exact False.elim (by with_reducible exact c) | (conv => whnf))
      | (refine ⟨by unfold vp_in; decide, ?_⟩ <;> conv => whnf)
      | fail
    all_goals fail
set_option maxRecDepth 100000 in
set_option maxHeartbeats 4000000 in
theorem sm_readAll {d L : Nat} {f : Nat → Nat → Int32} {g : Nat → Nat → Int64} {m : Nat} {R : Option Value → mH → Prop} (hd : 5 ≤ d) (hX : XI f) (hm : f 181 46 = nI m) (hm5 : m ≤ 50) (H : ∀ v p' f' g', tm m p' f' → XI f' → kp [10] f f' → R (some (.int v)) (shF L, f', g')) : Run mtab d 220 [.ref 181] (shF L, f, g) R := by
  obtain ⟨d, rfl⟩ : ∃ e, d = e + 1 := ⟨d - 1, by omega⟩
  refine go_X11_readAll rfl ?_
  conv => whnf
  exact ra_fil_lp (by omega) H 12 0 _ _ _ _ _ (by omega) rfl (XI_ui hX (show inr 0 50 _ by unfold inr; decide)) (kp_ui rfl (kp_refl _ _)) ⟨hm, rfl, by omega, hm5⟩
set_option maxRecDepth 100000 in
set_option maxHeartbeats 4000000 in
theorem sm_rul_lp {d L : Nat} {f0 : Nat → Nat → Int32} {w : Int32} {R : Option Value → mH → Prop} (hd : 1 ≤ d) (H : ∀ v f' g', XI f' → kp [10, 13] f0 f' → R (some (.int v)) (shF L, f', g'))  :
    ∀ (k i : Nat) (x : Int32) (f : Nat → Nat → Int32) (g : Nat → Nat → Int64), i + k = 4 → x = nI i → XI f → kp [10, 13] f0 f → WPe pg_X11_rules none (Run mtab d) R (m_drop pg_X11_rules 15) [some (.ref 181), some (.int w), some (.int x)] [] (shF L, f, g)
  | 0, i, x, f, g, he, hx, hX, hF => by
    have e : i = 4 := by omega
    subst hx
    subst e
    refine at_X11_rules ?_
    conv => whnf
    try simp only [nI_6m, nI_3m, nI_1, nI_k _ 2 2 rfl, nI_k _ 3 3 rfl, nI_k _ 4 4 rfl, nI_k _ 5 5 rfl, nI_k _ 6 6 rfl]
    refine ⟨fun c => ?_, fun c => absurd (by decide) c⟩
    conv => whnf
    repeat' first
      | (simp only [nI_6m, nI_3m, nI_1, nI_k _ 2 2 rfl, nI_k _ 3 3 rfl, nI_k _ 4 4 rfl, nI_k _ 5 5 rfl, nI_k _ 6 6 rfl])
      | ((with_reducible refine ⟨vp_in_nI (by omega) (by decide), ?_⟩) <;> conv => whnf)
      | (refine ⟨Or.inl rfl, ?_⟩ <;> conv => whnf)
      | (refine ⟨Or.inr rfl, ?_⟩ <;> conv => whnf)
      | (refine ⟨Or.inl True.intro, ?_⟩ <;> conv => whnf)
      | (refine ⟨Or.inr True.intro, ?_⟩ <;> conv => whnf)
      | (refine ⟨fun c => ?_, fun c => ?_⟩ <;> first | ((have c9 : (1 : Int32) = 0 := by with_reducible exact c); exact absurd c9 (by decide)) | exact absurd (rfl : (0 : Int32) = 0) (by with_reducible exact c) | exact absurd True.intro (by with_reducible exact c) | exact False.elim (by with_reducible exact c) | (conv => whnf))
      | (refine ⟨by unfold vp_in; decide, ?_⟩ <;> conv => whnf)
      | fail
    all_goals exact H _ _ _ hX hF
  | k + 1, i, x, f, g, he, hx, hX, hF => by
    subst hx
    refine at_X11_rules ?_
    conv => whnf
    try simp only [nI_6m, nI_3m, nI_1, nI_k _ 2 2 rfl, nI_k _ 3 3 rfl, nI_k _ 4 4 rfl, nI_k _ 5 5 rfl, nI_k _ 6 6 rfl]
    refine ⟨fun c => absurd c (nI_ge (b := 4) (by omega) (by omega)), fun c => ?_⟩
    conv => whnf
    repeat' first
      | exact sm_rul_lp hd H k (i + 1) _  _ _ (by omega) (nI_1 i) (by repeat' first | (with_reducible assumption) | (with_reducible refine XI_ui ?_ ?_) | (with_reducible refine XI_fil ?_ (fun _ => ?_)) | (with_reducible refine XI_cpy ?_ (fun _ _ => ?_)) | exact True.intro | ((show inr _ _ _); first | (with_reducible assumption) | (unfold inr; decide)) | fail) (by repeat' first | (with_reducible exact kp_refl _ _) | (with_reducible assumption) | (with_reducible refine kp_ui ?_ ?_) | (with_reducible refine kp_fil ?_ ?_) | (with_reducible refine kp_cpy ?_ ?_) | rfl | fail)
      | (simp only [nI_6m, nI_3m, nI_1, nI_k _ 2 2 rfl, nI_k _ 3 3 rfl, nI_k _ 4 4 rfl, nI_k _ 5 5 rfl, nI_k _ 6 6 rfl])
      | ((with_reducible refine ⟨vp_in_nI (by omega) (by decide), ?_⟩) <;> conv => whnf)
      | (refine ⟨Or.inl rfl, ?_⟩ <;> conv => whnf)
      | (refine ⟨Or.inr rfl, ?_⟩ <;> conv => whnf)
      | (refine ⟨Or.inl True.intro, ?_⟩ <;> conv => whnf)
      | (refine ⟨Or.inr True.intro, ?_⟩ <;> conv => whnf)
      | (refine ⟨fun c => ?_, fun c => ?_⟩ <;> first | ((have c9 : (1 : Int32) = 0 := by with_reducible exact c); exact absurd c9 (by decide)) | exact absurd (rfl : (0 : Int32) = 0) (by with_reducible exact c) | exact absurd True.intro (by with_reducible exact c) | exact False.elim (by with_reducible exact c) | (conv => whnf))
      | (refine ⟨by unfold vp_in; decide, ?_⟩ <;> conv => whnf)
      | fail
    all_goals exact H _ _ _ hX hF
set_option maxRecDepth 100000 in
set_option maxHeartbeats 4000000 in
theorem sm_rules {d L : Nat} {f : Nat → Nat → Int32} {g : Nat → Nat → Int64}  {R : Option Value → mH → Prop} (hd : 8 ≤ d) (hX : XI f) (H : ∀ v f' g', XI f' → kp [10, 13] f f' → R (some (.int v)) (shF L, f', g')) : Run mtab d 221 [.ref 181] (shF L, f, g) R := by
  obtain ⟨d, rfl⟩ : ∃ e, d = e + 1 := ⟨d - 1, by omega⟩
  refine go_X11_rules rfl ?_
  conv => whnf
  obtain ⟨m, hm, hb⟩ := inr_nat (n := 50) rfl (xi_181_46 hX)
  refine sm_readAll (by omega) hX hb hm (fun v p1 f1 g1 t1 h1 k1 => ?_)
  have h0 : XI (m_ui f1 181 46 0) := XI_ui h1 (show inr 0 50 _ by unfold inr; decide)
  have k0 : kp [10, 13] f (m_ui f1 181 46 0) := kp_ui rfl (kp_wd k1 rfl)
  conv => whnf
  refine ⟨fun c => ?_, fun c => ?_⟩
  · conv => whnf
    exact sm_rul_lp (by omega) H 4 0 _ _ _ (by omega) rfl h0 k0
  · conv => whnf
    exact H _ _ _ h0 k0
