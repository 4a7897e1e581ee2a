/-- the tape: its length, the place on it -/
def tp (m p : Nat) (f : Nat → Nat → Int32) : Prop := f 107 3 = nI m ∧ f 107 4 = nI p ∧ p ≤ m ∧ m ≤ 50
theorem vp_tp {m p : Nat} (c : ¬ nI m ≤ nI p) (hm : m ≤ 50) (hp : p ≤ m) : vp_in (nI p) 50 := by
  rw [nI_leI (by omega) (by omega)] at c
  exact vp_in_nI (by omega) (by decide)
theorem tp_up {m p : Nat} {f : Nat → Nat → Int32} (t : tp m p f) (c : ¬ nI m ≤ nI p) : tp m (p + 1) (m_ui f 107 4 (nI p + 1)) := by
  obtain ⟨a, b, d, e⟩ := t
  rw [nI_leI (by omega) (by omega)] at c
  exact ⟨a, nI_1 p, by omega, e⟩
theorem xi_up {m p : Nat} {f : Nat → Nat → Int32} (hX : XI f) (t : tp m p f) (c : ¬ nI m ≤ nI p) : XI (m_ui f 107 4 (nI p + 1)) := by
  obtain ⟨a, b, d, e⟩ := t
  rw [nI_leI (by omega) (by omega)] at c
  exact XI_ui hX (show inr 0 50 _ from inr_n1 (m := 50) (by omega) rfl (by decide))
theorem run_wp {d k : Nat} {M : mM} {as : List Value} {h : mH} {R : Option Value → mH → Prop} (hk : mtab[k]? = some M) (he : m_entb M as h = true) (H : WPe M.2.2.2.2.2.2.2.2 (m_bud M h) (Run mtab d) R M.2.2.2.2.2.2.2.2 (m_init M.2.2.1 as) [] h) : Run mtab (d + 1) (k + 6) as h R := by
  unfold Run
  dsimp only
  rw [m_nth_eq, hk]
  exact m_ent_of he H
theorem rq_ix {d : Nat} {x : Int32} {h : mH} {R : Option Value → mH → Prop} (hd : 5 ≤ d) (H : ∀ v, inr (-1) 3 v → R (some (.int v)) h) : Run mtab d 2 [.ref 4, .int x] h R := by
  obtain ⟨d, rfl⟩ : ∃ e, d = e + 1 := ⟨d - 1, by omega⟩
  refine (⟨by omega, H _ ?_⟩ : 4 ≤ d ∧ R (some (.int (m_let x))) h)
  unfold m_let inr
  split
  · decide
  · split
    · decide
    · split
      · decide
      · split <;> decide
set_option maxRecDepth 100000 in
theorem skip_lp {d L m : Nat} {f0 : Nat → Nat → Int32} {R : Option Value → mH → Prop} (H : ∀ p f' g', tp m p f' → XI f' → fx 107 119 f0 f' → R none (shF L, f', g')) :
    ∀ (k p : Nat) (f : Nat → Nat → Int32) (g : Nat → Nat → Int64), p + k = m → tp m p f → XI f → fx 107 119 f0 f → WPe pg_X6_skipBlanks none (Run mtab d) R (m_drop pg_X6_skipBlanks 0) [some (.ref 107)] [] (shF L, f, g)
  | 0, p, f, g, hk, t, hX, hF => by
    obtain ⟨u1, u2, u3, u4⟩ := id t
    refine at_X6_skipBlanks ?_
    conv => whnf
    simp only [u1, u2]
    refine ⟨fun c => ?_, fun c => absurd (nI_le (by omega) (by omega)) c⟩
    conv => whnf
    exact H p f g t hX hF
  | k + 1, p, f, g, hk, t, hX, hF => by
    obtain ⟨u1, u2, u3, u4⟩ := id t
    refine at_X6_skipBlanks ?_
    conv => whnf
    simp only [u1, u2]
    refine ⟨fun c => absurd c (nI_ge (by omega) (by omega)), fun c => ?_⟩
    conv => whnf
    simp only [u2]
    refine ⟨vp_in_nI (by omega) (by decide), ?_⟩
    conv => whnf
    refine ⟨fun c' => ?_, fun c' => ?_⟩
    · conv => whnf
      exact H p f g t hX hF
    · conv => whnf
      simp only [u2]
      exact skip_lp H k (p + 1) _ g (by omega) (tp_up t c) (xi_up hX t c) (fx_ui (by decide) (by decide) hF)
theorem sx_skip {d L m p : Nat} {f : Nat → Nat → Int32} {g : Nat → Nat → Int64} {R : Option Value → mH → Prop} (hd : 1 ≤ d) (hX : XI f) (t : tp m p f) (H : ∀ p f' g', tp m p f' → XI f' → fx 107 119 f f' → R none (shF L, f', g')) : Run mtab d 61 [.ref 107] (shF L, f, g) R := by
  obtain ⟨d, rfl⟩ : ∃ e, d = e + 1 := ⟨d - 1, by omega⟩
  refine run_wp (k := 55) (M := M_X6_skipBlanks) rfl rfl ?_
  have := skip_lp (d := d) (L := L) H (m - p) p f g (by have := t.2.2.1; omega) t hX (fx_refl _ _ _)
  rw [m_drop_0] at this
  exact this
set_option maxRecDepth 100000 in
set_option maxHeartbeats 4000000 in
theorem sx_blame {d L : Nat} {f : Nat → Nat → Int32} {g : Nat → Nat → Int64} {m p : Nat} {x : Int32} {R : Option Value → mH → Prop} (hd : 1 ≤ d) (hX : XI f) (t : tp m p f) (H : ∀ f' g', tp m p f' → XI f' → fx 107 119 f f' → R none (shF L, f', g')) : Run mtab d 62 [.ref 107, .int x] (shF L, f, g) R := by
  obtain ⟨d, rfl⟩ : ∃ e, d = e + 1 := ⟨d - 1, by omega⟩
  refine go_X6_blame rfl ?_
  conv => whnf
  repeat' first
    | ((with_reducible refine ⟨vp_in_nI (by omega) (by decide), ?_⟩) <;> conv => whnf)
    | (refine ⟨Or.inl rfl, ?_⟩ <;> conv => whnf)
    | (refine ⟨Or.inr rfl, ?_⟩ <;> conv => whnf)
    | (refine ⟨Or.inl True.intro, ?_⟩ <;> conv => whnf)
    | (refine ⟨Or.inr True.intro, ?_⟩ <;> conv => whnf)
    | (refine ⟨fun c => ?_, fun c => ?_⟩ <;> first | ((have c9 : (1 : Int32) = 0 := by with_reducible exact c); exact absurd c9 (by decide)) | exact absurd (rfl : (0 : Int32) = 0) (by with_reducible exact c) | exact absurd True.intro (by with_reducible exact c) | exact False.elim (by with_reducible exact c) | (conv => whnf))
    | (refine ⟨by unfold vp_in; decide, ?_⟩ <;> conv => whnf)
    | fail
  all_goals exact H _ _ t (by repeat' first | (with_reducible assumption) | (with_reducible refine XI_ui ?_ ?_) | (with_reducible refine XI_fil ?_ (fun _ => ?_)) | (with_reducible refine XI_cpy ?_ (fun _ _ => ?_)) | exact True.intro | ((show inr _ _ _); first | (with_reducible assumption) | (unfold inr; decide)) | fail) (by repeat' first | (with_reducible exact fx_refl _ _ _) | (with_reducible assumption) | (with_reducible refine fx_ui ?_ ?_ ?_) | (with_reducible refine fx_fil ?_ ?_ ?_) | (with_reducible refine fx_cpy ?_ ?_ ?_) | omega | decide | fail)
set_option maxRecDepth 100000 in
set_option maxHeartbeats 4000000 in
theorem sx_readSign {d L : Nat} {f : Nat → Nat → Int32} {g : Nat → Nat → Int64} {m p : Nat} {x : Int32} {R : Option Value → mH → Prop} (hd : 3 ≤ d) (hX : XI f) (t : tp m p f) (H : ∀ p' f' g', tp m p' f' → XI f' → fx 107 119 f f' → R none (shF L, f', g')) : Run mtab d 59 [.ref 107, .int x] (shF L, f, g) R := by
  obtain ⟨d, rfl⟩ : ∃ e, d = e + 1 := ⟨d - 1, by omega⟩
  refine go_X6_readSign rfl ?_
  conv => whnf
  repeat' first
    | (simp only [u1, u2])
    | ((with_reducible refine ⟨vp_tp (by assumption) u4 u3, ?_⟩) <;> conv => whnf)
    | ((with_reducible refine ⟨vp_in_nI (by omega) (by decide), ?_⟩) <;> conv => whnf)
    | (refine ⟨Or.inl rfl, ?_⟩ <;> conv => whnf)
    | (refine ⟨Or.inr rfl, ?_⟩ <;> conv => whnf)
    | (refine ⟨Or.inl True.intro, ?_⟩ <;> conv => whnf)
    | (refine ⟨Or.inr True.intro, ?_⟩ <;> conv => whnf)
    | (refine ⟨fun c => ?_, fun c => ?_⟩ <;> first | ((have c9 : (1 : Int32) = 0 := by with_reducible exact c); exact absurd c9 (by decide)) | exact absurd (rfl : (0 : Int32) = 0) (by with_reducible exact c) | exact absurd True.intro (by with_reducible exact c) | exact False.elim (by with_reducible exact c) | (conv => whnf))
    | (refine sx_skip (by omega) hX t (fun p1 f1 g1 t1 h1 k1 => ?_) <;> (obtain ⟨u1, u2, u3, u4⟩ := id t1) <;> conv => whnf)
    | (refine sx_blame (by omega) h1 t1 (fun f2 g2 t2 h2 k2 => ?_) <;> conv => whnf)
    | (refine ⟨by unfold vp_in; decide, ?_⟩ <;> conv => whnf)
    | fail
  all_goals first | exact H _ _ _ t2 h2 (fx_trans k1 k2) | exact H _ _ _ (tp_up t1 (by assumption)) (xi_up h1 t1 (by assumption)) (fx_ui (by decide) (by decide) k1)
set_option maxRecDepth 100000 in
set_option maxHeartbeats 4000000 in
theorem sx_readKind {d L : Nat} {f : Nat → Nat → Int32} {g : Nat → Nat → Int64} {m p : Nat} {R : Option Value → mH → Prop} (hd : 6 ≤ d) (hX : XI f) (t : tp m p f) (H : ∀ v p' f' g', inr (-1) 3 v → tp m p' f' → XI f' → fx 107 119 f f' → R (some (.int v)) (shF L, f', g')) : Run mtab d 58 [.ref 107] (shF L, f, g) R := by
  obtain ⟨d, rfl⟩ : ∃ e, d = e + 1 := ⟨d - 1, by omega⟩
  refine go_X6_readKind rfl ?_
  conv => whnf
  repeat' first
    | (simp only [u1, u2])
    | ((with_reducible refine ⟨vp_tp (by assumption) u4 u3, ?_⟩) <;> conv => whnf)
    | ((with_reducible refine ⟨vp_in_nI (by omega) (by decide), ?_⟩) <;> conv => whnf)
    | (refine ⟨Or.inl rfl, ?_⟩ <;> conv => whnf)
    | (refine ⟨Or.inr rfl, ?_⟩ <;> conv => whnf)
    | (refine ⟨Or.inl True.intro, ?_⟩ <;> conv => whnf)
    | (refine ⟨Or.inr True.intro, ?_⟩ <;> conv => whnf)
    | (refine ⟨fun c => ?_, fun c => ?_⟩ <;> first | ((have c9 : (1 : Int32) = 0 := by with_reducible exact c); exact absurd c9 (by decide)) | exact absurd (rfl : (0 : Int32) = 0) (by with_reducible exact c) | exact absurd True.intro (by with_reducible exact c) | exact False.elim (by with_reducible exact c) | exact absurd (show (-1 : Int32) < 0 by decide) (i32_nlt.mpr (by with_reducible exact c)) | (conv => whnf))
    | (refine sx_skip (by omega) hX t (fun p1 f1 g1 t1 h1 k1 => ?_) <;> (obtain ⟨u1, u2, u3, u4⟩ := id t1) <;> conv => whnf)
    | (refine sx_blame (by omega) h1 t1 (fun f2 g2 t2 h2 k2 => ?_) <;> conv => whnf)
    | (refine rq_ix (by omega) (fun v hv => ?_) <;> conv => whnf)
    | (refine ⟨by unfold vp_in; decide, ?_⟩ <;> conv => whnf)
    | fail
  all_goals first | exact H _ _ _ _ (by assumption) t2 h2 (fx_trans k1 k2) | exact H _ _ _ _ (show inr (-1) 3 (-1) by unfold inr; decide) t2 h2 (fx_trans k1 k2) | exact H _ _ _ _ (by assumption) (tp_up t1 (by assumption)) (xi_up h1 t1 (by assumption)) (fx_ui (by decide) (by decide) k1)
set_option maxRecDepth 100000 in
set_option maxHeartbeats 4000000 in
theorem num_lp {d L m : Nat} {f0 : Nat → Nat → Int32} {x y st : Int32} {R : Option Value → mH → Prop} (hd : 2 ≤ d) (H : ∀ v p' f' g', tp m p' f' → XI f' → fx 107 119 f0 f' → R (some (.int v)) (shF L, f', g')) :
    ∀ (k p : Nat) (a : Int32) (f : Nat → Nat → Int32) (g : Nat → Nat → Int64), p + k = m → tp m p f → XI f → fx 107 119 f0 f → WPe pg_X6_readNumber none (Run mtab d) R (m_drop pg_X6_readNumber 7) [some (.ref 107), some (.int x), some (.int y), some (.int st), some (.int a)] [] (shF L, f, g)
  | 0, p, a, f, g, hk, t, hX, hF => by
    obtain ⟨u1, u2, u3, u4⟩ := id t
    refine at_X6_readNumber ?_
    conv => whnf
    simp only [u1, u2]
    refine ⟨fun c => ?_, fun c => absurd (nI_le (by omega) (by omega)) c⟩
    conv => whnf
    repeat' first
      | ((with_reducible refine ⟨vp_in_nI (by omega) (by decide), ?_⟩) <;> conv => whnf)
      | (refine ⟨Or.inl rfl, ?_⟩ <;> conv => whnf)
      | (refine ⟨Or.inr rfl, ?_⟩ <;> conv => whnf)
      | (refine ⟨Or.inl True.intro, ?_⟩ <;> conv => whnf)
      | (refine ⟨Or.inr True.intro, ?_⟩ <;> conv => whnf)
      | (refine ⟨fun c => ?_, fun c => ?_⟩ <;> first | ((have c9 : (1 : Int32) = 0 := by with_reducible exact c); exact absurd c9 (by decide)) | exact absurd (rfl : (0 : Int32) = 0) (by with_reducible exact c) | exact absurd True.intro (by with_reducible exact c) | exact False.elim (by with_reducible exact c) | (conv => whnf))
      | (refine ct_isWithin (by omega) (fun p => ?_) (fun p => ?_) <;> conv => whnf)
      | (refine sx_blame (by omega) hX t (fun f2 g2 t2 h2 k2 => ?_) <;> conv => whnf)
      | (refine ⟨by unfold vp_in; decide, ?_⟩ <;> conv => whnf)
      | fail
    all_goals first | exact H _ _ _ _ t2 h2 (fx_trans hF k2) | exact H _ _ _ _ t hX hF
  | k + 1, p, a, f, g, hk, t, hX, hF => by
    obtain ⟨u1, u2, u3, u4⟩ := id t
    refine at_X6_readNumber ?_
    conv => whnf
    simp only [u1, u2]
    refine ⟨fun c => absurd c (nI_ge (by omega) (by omega)), fun cc => ?_⟩
    conv => whnf
    simp only [u2]
    refine ⟨vp_in_nI (by omega) (by decide), ?_⟩
    conv => whnf
    refine ct_isWithin (by omega) (fun pp => ?_) (fun pp => ?_)
    · conv => whnf
      refine ⟨fun c => absurd c (by decide), fun _ => ?_⟩
      conv => whnf
      simp only [u2]
      refine ⟨vp_in_nI (by omega) (by decide), ?_⟩
      conv => whnf
      refine rq_min (by omega) (fun v => ?_)
      conv => whnf
      simp only [u2]
      exact num_lp hd H k (p + 1) _ _ g (by omega) (tp_up t cc) (xi_up hX t cc) (fx_ui (by decide) (by decide) hF)
    · conv => whnf
      refine ⟨fun _ => ?_, fun c => absurd (by decide) c⟩
      conv => whnf
      repeat' first
        | ((with_reducible refine ⟨vp_in_nI (by omega) (by decide), ?_⟩) <;> conv => whnf)
        | (refine ⟨Or.inl rfl, ?_⟩ <;> conv => whnf)
        | (refine ⟨Or.inr rfl, ?_⟩ <;> conv => whnf)
        | (refine ⟨Or.inl True.intro, ?_⟩ <;> conv => whnf)
        | (refine ⟨Or.inr True.intro, ?_⟩ <;> conv => whnf)
        | (refine ⟨fun c => ?_, fun c => ?_⟩ <;> first | ((have c9 : (1 : Int32) = 0 := by with_reducible exact c); exact absurd c9 (by decide)) | exact absurd (rfl : (0 : Int32) = 0) (by with_reducible exact c) | exact absurd True.intro (by with_reducible exact c) | exact False.elim (by with_reducible exact c) | (conv => whnf))
        | (refine ct_isWithin (by omega) (fun p => ?_) (fun p => ?_) <;> conv => whnf)
        | (refine sx_blame (by omega) hX t (fun f2 g2 t2 h2 k2 => ?_) <;> conv => whnf)
        | (refine ⟨by unfold vp_in; decide, ?_⟩ <;> conv => whnf)
        | fail
      all_goals first | exact H _ _ _ _ t2 h2 (fx_trans hF k2) | exact H _ _ _ _ t hX hF
set_option maxRecDepth 100000 in
set_option maxHeartbeats 4000000 in
theorem sx_readNumber {d L : Nat} {f : Nat → Nat → Int32} {g : Nat → Nat → Int64} {m p : Nat} {x y : Int32} {R : Option Value → mH → Prop} (hd : 4 ≤ d) (hX : XI f) (t : tp m p f) (H : ∀ v p' f' g', tp m p' f' → XI f' → fx 107 119 f f' → R (some (.int v)) (shF L, f', g')) : Run mtab d 60 [.ref 107, .int x, .int y] (shF L, f, g) R := by
  obtain ⟨d, rfl⟩ : ∃ e, d = e + 1 := ⟨d - 1, by omega⟩
  refine go_X6_readNumber rfl ?_
  conv => whnf
  refine sx_skip (by omega) hX t (fun p1 f1 g1 t1 h1 k1 => ?_)
  conv => whnf
  exact num_lp (by omega) H (m - p1) p1 _ _ _ (by have := t1.2.2.1; omega) t1 h1 k1
theorem inr_m13 {x : Int32} (h : inr (-1) 3 x) : x = -1 ∨ x = 0 ∨ x = 1 ∨ x = 2 ∨ x = 3 := by
  have h1 := Int32.le_iff_toInt_le.mp h.1
  have h2 := Int32.le_iff_toInt_le.mp h.2
  simp only [← Int32.toInt_inj]
  have e0 : (0 : Int32).toInt = 0 := rfl
  have e1 : (1 : Int32).toInt = 1 := rfl
  have e2 : (2 : Int32).toInt = 2 := rfl
  have e3 : (3 : Int32).toInt = 3 := rfl
  have e4 : (-1 : Int32).toInt = -1 := rfl
  omega
set_option maxRecDepth 100000 in
set_option maxHeartbeats 4000000 in
theorem sx_readClause {d L : Nat} {f : Nat → Nat → Int32} {g : Nat → Nat → Int64} {m p : Nat} {R : Option Value → mH → Prop} (hd : 7 ≤ d) (hX : XI f) (t : tp m p f) (H : ∀ p' f' g', tp m p' f' → XI f' → fx 107 119 f f' → R none (shF L, f', g')) : Run mtab d 57 [.ref 107] (shF L, f, g) R := by
  obtain ⟨d, rfl⟩ : ∃ e, d = e + 1 := ⟨d - 1, by omega⟩
  refine go_X6_readClause rfl ?_
  conv => whnf
  refine sx_readKind (by omega) hX t (fun v p1 f1 g1 hv t1 h1 k1 => ?_)
  conv => whnf
  refine sx_readNumber (by omega) h1 t1 (fun n1 p2 f2 g2 t2 h2 k2 => ?_)
  conv => whnf
  refine sx_readSign (by omega) h2 t2 (fun p3 f3 g3 t3 h3 k3 => ?_)
  conv => whnf
  refine sx_readNumber (by omega) h3 t3 (fun n2 p4 f4 g4 t4 h4 k4 => ?_)
  conv => whnf
  refine sx_readSign (by omega) h4 t4 (fun p5 f5 g5 t5 h5 k5 => ?_)
  conv => whnf
  refine sx_readNumber (by omega) h5 t5 (fun n3 p6 f6 g6 t6 h6 k6 => ?_)
  have kk : fx 107 119 f f6 := fx_trans k1 (fx_trans k2 (fx_trans k3 (fx_trans k4 (fx_trans k5 k6))))
  rcases inr_m13 hv with rfl | rfl | rfl | rfl | rfl
  all_goals conv => whnf
  all_goals
    repeat' first
      | (refine ⟨⟨by unfold vp_in; decide, by decide, by decide⟩, ?_⟩ <;> conv => whnf)
      | ((with_reducible refine ⟨vp_in_nI (by omega) (by decide), ?_⟩) <;> conv => whnf)
      | (refine ⟨Or.inl rfl, ?_⟩ <;> conv => whnf)
      | (refine ⟨Or.inr rfl, ?_⟩ <;> conv => whnf)
      | (refine ⟨Or.inl True.intro, ?_⟩ <;> conv => whnf)
      | (refine ⟨Or.inr True.intro, ?_⟩ <;> conv => whnf)
      | (refine ⟨fun c => ?_, fun c => ?_⟩ <;> first | ((have c9 : (1 : Int32) = 0 := by with_reducible exact c); exact absurd c9 (by decide)) | exact absurd (rfl : (0 : Int32) = 0) (by with_reducible exact c) | exact absurd True.intro (by with_reducible exact c) | exact False.elim (by with_reducible exact c) | exact absurd (by decide) c | exact absurd c (by decide) | (conv => whnf))
      | (refine ⟨by unfold vp_in; decide, ?_⟩ <;> conv => whnf)
      | fail
  all_goals exact H _ _ _ t6 (by repeat' first | (with_reducible assumption) | (with_reducible refine XI_ui ?_ ?_) | (with_reducible refine XI_fil ?_ (fun _ => ?_)) | (with_reducible refine XI_cpy ?_ (fun _ _ => ?_)) | exact True.intro | ((show inr _ _ _); first | (with_reducible assumption) | (unfold inr; decide)) | fail) (by repeat' first | (with_reducible exact fx_refl _ _ _) | (with_reducible assumption) | (with_reducible refine fx_ui ?_ ?_ ?_) | (with_reducible refine fx_fil ?_ ?_ ?_) | (with_reducible refine fx_cpy ?_ ?_ ?_) | omega | decide | fail)
