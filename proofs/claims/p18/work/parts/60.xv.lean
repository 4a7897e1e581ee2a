set_option maxRecDepth 100000 in
theorem cls_lp {d L m : Nat} {f0 : Nat → Nat → Int32} {R : Option Value → mH → Prop} (hd : 7 ≤ d) (H : ∀ v p' f' g', tp m p' f' → XI f' → fx 107 119 f0 f' → R (some (.int v)) (shF L, f', g')) :
    ∀ (k i : Nat) (x : Int32) (p : Nat) (f : Nat → Nat → Int32) (g : Nat → Nat → Int64), i + k = 5 → x = nI i → tp m p f → XI f → fx 107 119 f0 f → WPe pg_X6_readClauses none (Run mtab d) R (m_drop pg_X6_readClauses 2) [some (.ref 107), some (.int x)] [] (shF L, f, g)
  | 0, i, x, p, f, g, hk, hx, t, hX, hF => by
    have e : i = 5 := by omega
    subst hx
    subst e
    refine at_X6_readClauses ?_
    conv => whnf
    refine ⟨fun c => ?_, fun c => absurd (by decide) c⟩
    conv => whnf
    exact H _ p f g t hX hF
  | k + 1, i, x, p, f, g, hk, hx, t, hX, hF => by
    subst hx
    refine at_X6_readClauses ?_
    conv => whnf
    refine ⟨fun c => absurd c (nI_nlt (a := 4) (b := i) (by omega) (by omega)), fun c => ?_⟩
    conv => whnf
    refine sx_readClause (by omega) hX t (fun p1 f1 g1 t1 h1 k1 => ?_)
    conv => whnf
    refine sx_skip (by omega) h1 t1 (fun p2 f2 g2 t2 h2 k2 => ?_)
    have kk : fx 107 119 f0 f2 := fx_trans hF (fx_trans k1 k2)
    conv => whnf
    refine ⟨fun c1 => ?_, fun c1 => ?_⟩
    · conv => whnf
      exact H _ p2 f2 g2 t2 h2 kk
    · conv => whnf
      refine ⟨fun c2 => ?_, fun c2 => ?_⟩
      · conv => whnf
        refine ⟨fun c3 => ?_, fun c3 => ?_⟩
        · conv => whnf
          refine sx_readSign (by omega) h2 t2 (fun p4 f4 g4 t4 h4 k4 => ?_)
          conv => whnf
          exact cls_lp hd H k (i + 1) _ p4 f4 g4 (by omega) (nI_1 i) t4 h4 (fx_trans kk k4)
        · conv => whnf
          refine sx_blame (by omega) h2 t2 (fun f3 g3 t3 h3 k3 => ?_)
          conv => whnf
          refine sx_readSign (by omega) h3 t3 (fun p4 f4 g4 t4 h4 k4 => ?_)
          conv => whnf
          exact cls_lp hd H k (i + 1) _ p4 f4 g4 (by omega) (nI_1 i) t4 h4 (fx_trans kk (fx_trans k3 k4))
      · conv => whnf
        exact H _ p2 f2 g2 t2 h2 kk
set_option maxRecDepth 100000 in
set_option maxHeartbeats 4000000 in
theorem sx_readClauses {d L : Nat} {f : Nat → Nat → Int32} {g : Nat → Nat → Int64} {m p : Nat} {R : Option Value → mH → Prop} (hd : 8 ≤ d) (hX : XI f) (t : tp m p f) (H : ∀ v p' f' g', tp m p' f' → XI f' → fx 107 119 f f' → R (some (.int v)) (shF L, f', g')) : Run mtab d 56 [.ref 107] (shF L, f, g) R := by
  obtain ⟨d, rfl⟩ : ∃ e, d = e + 1 := ⟨d - 1, by omega⟩
  refine go_X6_readClauses rfl ?_
  conv => whnf
  exact cls_lp (by omega) H 4 1 _ p f g (by omega) rfl t hX (fx_refl _ _ _)
/-- the kinds above -/
def ab3 (f : Nat → Nat → Int32) : Prop := f 3 0 = 0 ∧ f 3 1 = 0 ∧ f 3 2 = 0 ∧ f 3 3 = 2
set_option maxRecDepth 100000 in
set_option maxHeartbeats 4000000 in
theorem enf_4 {d L : Nat} {f0 f : Nat → Nat → Int32} {g : Nat → Nat → Int64} {s : Option Value} {R : Option Value → mH → Prop} (hd : 1 ≤ d) (hX : XI f) (hF : fx 107 119 f0 f) (hA : ab3 f) (H : ∀ f' g', XI f' → fx 107 119 f0 f' → R none (shF L, f', g')) : WPe pg_X6_enforce none (Run mtab d) R (m_drop pg_X6_enforce 2) [some (.ref 107), some (.int (0 + 1 + 1 + 1 + 1)), s] [] (shF L, f, g) := by
  refine at_X6_enforce ?_
  conv => whnf
  refine ⟨fun c => ?_, fun c => absurd (by decide) c⟩
  conv => whnf
  exact H _ _ hX hF
set_option maxRecDepth 100000 in
set_option maxHeartbeats 4000000 in
theorem enf_3 {d L : Nat} {f0 f : Nat → Nat → Int32} {g : Nat → Nat → Int64} {s : Option Value} {R : Option Value → mH → Prop} (hd : 1 ≤ d) (hX : XI f) (hF : fx 107 119 f0 f) (hA : ab3 f) (H : ∀ f' g', XI f' → fx 107 119 f0 f' → R none (shF L, f', g')) : WPe pg_X6_enforce none (Run mtab d) R (m_drop pg_X6_enforce 2) [some (.ref 107), some (.int (0 + 1 + 1 + 1)), s] [] (shF L, f, g) := by
  refine at_X6_enforce ?_
  conv => whnf
  refine ⟨fun c => absurd c (by decide), fun _ => ?_⟩
  conv => whnf
  refine ⟨⟨by unfold vp_in; decide, by decide, by decide⟩, ?_⟩
  conv => whnf
  refine ⟨by unfold vp_in; decide, ?_⟩
  conv => whnf
  refine ⟨fun c => ?_, fun c => ?_⟩
  · conv => whnf
    refine ⟨⟨by unfold vp_in; decide, by decide, by decide⟩, ?_⟩
    conv => whnf
    refine rp_cpy (a := 117) (b := 112) (by omega) rfl rfl rfl (by decide) ?_
    conv => whnf
    exact enf_4 hd (XI_cpy hX (fun _ _ => True.intro)) (fx_cpy (by decide) (by decide) hF) hA H
  · conv => whnf
    refine ⟨fun _ => ?_, fun c => absurd c (by decide)⟩
    conv => whnf
    refine ⟨by unfold vp_in; decide, ?_⟩
    have ha : f 3 (Int32.toNatClampNeg (0 + 1 + 1 + 1)) = 2 := hA.2.2.2
    conv => whnf
    simp only [ha]
    refine ⟨⟨by unfold vp_in; decide, by decide, by decide⟩, ?_⟩
    conv => whnf
    refine ⟨⟨by unfold vp_in; decide, by decide, by decide⟩, ?_⟩
    conv => whnf
    refine rp_cpy (a := 111) (b := 112) (by omega) rfl rfl rfl (by decide) ?_
    conv => whnf
    exact enf_4 hd (XI_cpy hX (fun _ _ => True.intro)) (fx_cpy (by decide) (by decide) hF) hA H
set_option maxRecDepth 100000 in
set_option maxHeartbeats 4000000 in
theorem enf_2 {d L : Nat} {f0 f : Nat → Nat → Int32} {g : Nat → Nat → Int64} {s : Option Value} {R : Option Value → mH → Prop} (hd : 1 ≤ d) (hX : XI f) (hF : fx 107 119 f0 f) (hA : ab3 f) (H : ∀ f' g', XI f' → fx 107 119 f0 f' → R none (shF L, f', g')) : WPe pg_X6_enforce none (Run mtab d) R (m_drop pg_X6_enforce 2) [some (.ref 107), some (.int (0 + 1 + 1)), s] [] (shF L, f, g) := by
  refine at_X6_enforce ?_
  conv => whnf
  refine ⟨fun c => absurd c (by decide), fun _ => ?_⟩
  conv => whnf
  refine ⟨⟨by unfold vp_in; decide, by decide, by decide⟩, ?_⟩
  conv => whnf
  refine ⟨by unfold vp_in; decide, ?_⟩
  conv => whnf
  refine ⟨fun c => ?_, fun c => ?_⟩
  · conv => whnf
    refine ⟨⟨by unfold vp_in; decide, by decide, by decide⟩, ?_⟩
    conv => whnf
    refine rp_cpy (a := 116) (b := 111) (by omega) rfl rfl rfl (by decide) ?_
    conv => whnf
    exact enf_3 hd (XI_cpy hX (fun _ _ => True.intro)) (fx_cpy (by decide) (by decide) hF) hA H
  · conv => whnf
    refine ⟨fun _ => ?_, fun c => absurd c (by decide)⟩
    conv => whnf
    refine ⟨by unfold vp_in; decide, ?_⟩
    have ha : f 3 (Int32.toNatClampNeg (0 + 1 + 1)) = 0 := hA.2.2.1
    conv => whnf
    simp only [ha]
    refine ⟨⟨by unfold vp_in; decide, by decide, by decide⟩, ?_⟩
    conv => whnf
    refine ⟨⟨by unfold vp_in; decide, by decide, by decide⟩, ?_⟩
    conv => whnf
    refine rp_cpy (a := 109) (b := 111) (by omega) rfl rfl rfl (by decide) ?_
    conv => whnf
    exact enf_3 hd (XI_cpy hX (fun _ _ => True.intro)) (fx_cpy (by decide) (by decide) hF) hA H
set_option maxRecDepth 100000 in
set_option maxHeartbeats 4000000 in
theorem enf_1 {d L : Nat} {f0 f : Nat → Nat → Int32} {g : Nat → Nat → Int64} {s : Option Value} {R : Option Value → mH → Prop} (hd : 1 ≤ d) (hX : XI f) (hF : fx 107 119 f0 f) (hA : ab3 f) (H : ∀ f' g', XI f' → fx 107 119 f0 f' → R none (shF L, f', g')) : WPe pg_X6_enforce none (Run mtab d) R (m_drop pg_X6_enforce 2) [some (.ref 107), some (.int (0 + 1)), s] [] (shF L, f, g) := by
  refine at_X6_enforce ?_
  conv => whnf
  refine ⟨fun c => absurd c (by decide), fun _ => ?_⟩
  conv => whnf
  refine ⟨⟨by unfold vp_in; decide, by decide, by decide⟩, ?_⟩
  conv => whnf
  refine ⟨by unfold vp_in; decide, ?_⟩
  conv => whnf
  refine ⟨fun c => ?_, fun c => ?_⟩
  · conv => whnf
    refine ⟨⟨by unfold vp_in; decide, by decide, by decide⟩, ?_⟩
    conv => whnf
    refine rp_cpy (a := 115) (b := 110) (by omega) rfl rfl rfl (by decide) ?_
    conv => whnf
    exact enf_2 hd (XI_cpy hX (fun _ _ => True.intro)) (fx_cpy (by decide) (by decide) hF) hA H
  · conv => whnf
    refine ⟨fun _ => ?_, fun c => absurd c (by decide)⟩
    conv => whnf
    refine ⟨by unfold vp_in; decide, ?_⟩
    have ha : f 3 (Int32.toNatClampNeg (0 + 1)) = 0 := hA.2.1
    conv => whnf
    simp only [ha]
    refine ⟨⟨by unfold vp_in; decide, by decide, by decide⟩, ?_⟩
    conv => whnf
    refine ⟨⟨by unfold vp_in; decide, by decide, by decide⟩, ?_⟩
    conv => whnf
    refine rp_cpy (a := 109) (b := 110) (by omega) rfl rfl rfl (by decide) ?_
    conv => whnf
    exact enf_2 hd (XI_cpy hX (fun _ _ => True.intro)) (fx_cpy (by decide) (by decide) hF) hA H
set_option maxRecDepth 100000 in
set_option maxHeartbeats 4000000 in
theorem enf_0 {d L : Nat} {f0 f : Nat → Nat → Int32} {g : Nat → Nat → Int64} {s : Option Value} {R : Option Value → mH → Prop} (hd : 1 ≤ d) (hX : XI f) (hF : fx 107 119 f0 f) (hA : ab3 f) (H : ∀ f' g', XI f' → fx 107 119 f0 f' → R none (shF L, f', g')) : WPe pg_X6_enforce none (Run mtab d) R (m_drop pg_X6_enforce 2) [some (.ref 107), some (.int (0)), s] [] (shF L, f, g) := by
  refine at_X6_enforce ?_
  conv => whnf
  refine ⟨fun c => absurd c (by decide), fun _ => ?_⟩
  conv => whnf
  refine ⟨⟨by unfold vp_in; decide, by decide, by decide⟩, ?_⟩
  conv => whnf
  refine ⟨by unfold vp_in; decide, ?_⟩
  conv => whnf
  refine ⟨fun c => ?_, fun c => ?_⟩
  · conv => whnf
    refine ⟨⟨by unfold vp_in; decide, by decide, by decide⟩, ?_⟩
    conv => whnf
    refine rp_cpy (a := 114) (b := 109) (by omega) rfl rfl rfl (by decide) ?_
    conv => whnf
    exact enf_1 hd (XI_cpy hX (fun _ _ => True.intro)) (fx_cpy (by decide) (by decide) hF) hA H
  · conv => whnf
    refine ⟨fun c => absurd (by decide) c, fun _ => ?_⟩
    conv => whnf
    refine ⟨⟨by unfold vp_in; decide, by decide, by decide⟩, ?_⟩
    conv => whnf
    refine rp_cpy (a := 2) (b := 109) (by omega) rfl rfl rfl (by decide) ?_
    conv => whnf
    exact enf_1 hd (XI_cpy hX (fun _ _ => True.intro)) (fx_cpy (by decide) (by decide) hF) hA H
set_option maxRecDepth 100000 in
set_option maxHeartbeats 4000000 in
theorem sx_enforce {d L : Nat} {f : Nat → Nat → Int32} {g : Nat → Nat → Int64}  {R : Option Value → mH → Prop} (hd : 2 ≤ d) (hX : XI f) (hA : ab3 f) (H : ∀ f' g', XI f' → fx 107 119 f f' → R none (shF L, f', g')) : Run mtab d 55 [.ref 107] (shF L, f, g) R := by
  obtain ⟨d, rfl⟩ : ∃ e, d = e + 1 := ⟨d - 1, by omega⟩
  refine go_X6_enforce rfl ?_
  conv => whnf
  exact enf_0 (by omega) hX (fx_refl _ _ _) hA H
set_option maxRecDepth 100000 in
set_option maxHeartbeats 4000000 in
theorem sx_readTape {d L : Nat} {f : Nat → Nat → Int32} {g : Nat → Nat → Int64}  {R : Option Value → mH → Prop} (hd : 9 ≤ d) (hX : XI f) (hA : ab3 f) (H : ∀ v f' g', XI f' → fx 107 119 f f' → R (some (.int v)) (shF L, f', g')) : Run mtab d 54 [.ref 107] (shF L, f, g) R := by
  obtain ⟨d, rfl⟩ : ∃ e, d = e + 1 := ⟨d - 1, by omega⟩
  refine go_X6_readTape rfl ?_
  conv => whnf
  obtain ⟨m, hm, hb⟩ := inr_nat (n := 50) rfl (xi_107_3 hX)
  repeat' first
    | (refine ⟨⟨by unfold vp_in; decide, by decide, by decide⟩, ?_⟩ <;> conv => whnf)
    | (refine ⟨by unfold vp_in; decide, ?_⟩ <;> conv => whnf)
    | ((with_reducible refine ⟨vp_in_nI (by omega) (by decide), ?_⟩) <;> conv => whnf)
    | (refine ⟨Or.inl rfl, ?_⟩ <;> conv => whnf)
    | (refine ⟨Or.inr rfl, ?_⟩ <;> conv => whnf)
    | (refine ⟨Or.inl True.intro, ?_⟩ <;> conv => whnf)
    | (refine ⟨Or.inr True.intro, ?_⟩ <;> conv => whnf)
    | (refine ⟨fun c => ?_, fun c => ?_⟩ <;> first | ((have c9 : (1 : Int32) = 0 := by with_reducible exact c); exact absurd c9 (by decide)) | exact absurd (rfl : (0 : Int32) = 0) (by with_reducible exact c) | exact absurd True.intro (by with_reducible exact c) | exact False.elim (by with_reducible exact c) | exact absurd (show (4 : Int32) ≤ 0 + 1 + 1 + 1 + 1 by decide) (by with_reducible exact c) | exact absurd (by with_reducible exact c) (show ¬ (4 : Int32) ≤ 0 by decide) | exact absurd (by with_reducible exact c) (show ¬ (4 : Int32) ≤ 0 + 1 by decide) | exact absurd (by with_reducible exact c) (show ¬ (4 : Int32) ≤ 0 + 1 + 1 by decide) | exact absurd (by with_reducible exact c) (show ¬ (4 : Int32) ≤ 0 + 1 + 1 + 1 by decide) | (conv => whnf))
    | (refine at_X6_readTape ?_ <;> conv => whnf)
    | (refine sx_readClauses (m := m) (p := 0) (by omega) (by repeat' first | (with_reducible assumption) | (with_reducible refine XI_ui ?_ ?_) | (with_reducible refine XI_fil ?_ (fun _ => ?_)) | (with_reducible refine XI_cpy ?_ (fun _ _ => ?_)) | exact True.intro | ((show inr _ _ _); first | (with_reducible assumption) | (unfold inr; decide)) | fail) ⟨hb, rfl, Nat.zero_le _, hm⟩ (fun v p1 f1 g1 t1 h1 k1 => ?_) <;> (have kk : fx 107 119 f f1 := fx_trans (by repeat' first | (with_reducible exact fx_refl _ _ _) | (with_reducible assumption) | (with_reducible refine fx_ui ?_ ?_ ?_) | (with_reducible refine fx_fil ?_ ?_ ?_) | (with_reducible refine fx_cpy ?_ ?_ ?_) | omega | decide | fail) k1) <;> (have hA1 : ab3 f1 := ⟨(kk 3 0 (by omega)).trans hA.1, (kk 3 1 (by omega)).trans hA.2.1, (kk 3 2 (by omega)).trans hA.2.2.1, (kk 3 3 (by omega)).trans hA.2.2.2⟩) <;> conv => whnf)
    | (refine sx_enforce (by omega) (by repeat' first | (with_reducible assumption) | (with_reducible refine XI_ui ?_ ?_) | (with_reducible refine XI_fil ?_ (fun _ => ?_)) | (with_reducible refine XI_cpy ?_ (fun _ _ => ?_)) | exact True.intro | ((show inr _ _ _); first | (with_reducible assumption) | (unfold inr; decide)) | fail) hA1 (fun f2 g2 h2 k2 => ?_) <;> conv => whnf)
    | (refine ⟨by unfold vp_in; decide, ?_⟩ <;> conv => whnf)
    | fail
  all_goals first | exact H _ _ _ (by repeat' first | (with_reducible assumption) | (with_reducible refine XI_ui ?_ ?_) | (with_reducible refine XI_fil ?_ (fun _ => ?_)) | (with_reducible refine XI_cpy ?_ (fun _ _ => ?_)) | exact True.intro | ((show inr _ _ _); first | (with_reducible assumption) | (unfold inr; decide)) | fail) (by repeat' first | (with_reducible exact fx_refl _ _ _) | (with_reducible assumption) | (with_reducible refine fx_ui ?_ ?_ ?_) | (with_reducible refine fx_fil ?_ ?_ ?_) | (with_reducible refine fx_cpy ?_ ?_ ?_) | (refine fx_trans ?_ (fx_wide k2 (by omega) (by omega))) | omega | decide | fail) | exact H _ _ _ (by repeat' first | (with_reducible assumption) | (with_reducible refine XI_ui ?_ ?_) | (with_reducible refine XI_fil ?_ (fun _ => ?_)) | (with_reducible refine XI_cpy ?_ (fun _ _ => ?_)) | exact True.intro | ((show inr _ _ _); first | (with_reducible assumption) | (unfold inr; decide)) | fail) (by repeat' first | (with_reducible exact fx_refl _ _ _) | (with_reducible assumption) | (with_reducible refine fx_ui ?_ ?_ ?_) | (with_reducible refine fx_fil ?_ ?_ ?_) | (with_reducible refine fx_cpy ?_ ?_ ?_) | omega | decide | fail)
set_option maxRecDepth 100000 in
set_option maxHeartbeats 4000000 in
theorem sx_rules {d L : Nat} {f : Nat → Nat → Int32} {g : Nat → Nat → Int64}  {R : Option Value → mH → Prop} (hd : 10 ≤ d) (hX : XI f) (hA : ab3 f) (H : ∀ v f' g', XI f' → kp [3] f f' → R (some (.int v)) (shF L, f', g')) : Run mtab d 120 [.ref 5] (shF L, f, g) R := by
  obtain ⟨d, rfl⟩ : ∃ e, d = e + 1 := ⟨d - 1, by omega⟩
  refine go_X10_rules rfl ?_
  conv => whnf
  repeat' first
    | ((with_reducible refine ⟨vp_in_nI (by omega) (by decide), ?_⟩) <;> conv => whnf)
    | (refine ⟨Or.inl rfl, ?_⟩ <;> conv => whnf)
    | (refine ⟨Or.inr rfl, ?_⟩ <;> conv => whnf)
    | (refine ⟨Or.inl True.intro, ?_⟩ <;> conv => whnf)
    | (refine ⟨Or.inr True.intro, ?_⟩ <;> conv => whnf)
    | (refine ⟨fun c => ?_, fun c => ?_⟩ <;> first | ((have c9 : (1 : Int32) = 0 := by with_reducible exact c); exact absurd c9 (by decide)) | exact absurd (rfl : (0 : Int32) = 0) (by with_reducible exact c) | exact absurd True.intro (by with_reducible exact c) | exact False.elim (by with_reducible exact c) | (conv => whnf))
    | (refine sx_readTape (by omega) hX hA (fun v f1 g1 h1 k1 => ?_) <;> conv => whnf)
    | (refine ⟨by unfold vp_in; decide, ?_⟩ <;> conv => whnf)
    | fail
  all_goals exact H _ _ _ (by repeat' first | (with_reducible assumption) | (with_reducible refine XI_ui ?_ ?_) | (with_reducible refine XI_fil ?_ (fun _ => ?_)) | (with_reducible refine XI_cpy ?_ (fun _ _ => ?_)) | exact True.intro | ((show inr _ _ _); first | (with_reducible assumption) | (unfold inr; decide)) | fail) (by repeat' first | (with_reducible exact kp_refl _ _) | (with_reducible assumption) | (with_reducible refine kp_ui ?_ ?_) | (with_reducible refine kp_fil ?_ ?_) | (with_reducible refine kp_cpy ?_ ?_) | (refine kp_trans ?_ (kp_wd k1 rfl)) | (refine kp_trans ?_ (kp_fx k1 rfl)) | rfl | fail)
