set_option maxRecDepth 100000 in
set_option maxHeartbeats 4000000 in
theorem sx_giveN {d L : Nat} {f : Nat → Nat → Int32} {g : Nat → Nat → Int64} {w a : Int32} {R : Option Value → mH → Prop} (hd : 1 ≤ d) (hX : XI f) (hw : vp_in w 40) (ha : inr 0 40 a) (h0 : ¬ f 168 7 = 0) (H : ∀ v f' g', (v = 0 ∨ v = 1) → XI f' → fx 169 172 f f' → R (some (.int v)) (shF L, f', g')) : Run mtab d 15 [.ref 168, .int w, .int a] (shF L, f, g) R := by
  obtain ⟨d, rfl⟩ : ∃ e, d = e + 1 := ⟨d - 1, by omega⟩
  refine go_X1_give rfl ?_
  conv => whnf
  repeat' first
    | ((with_reducible refine ⟨hw, ?_⟩) <;> conv => whnf)
    | ((with_reducible refine ⟨vpi ha (by decide), ?_⟩) <;> conv => whnf)
    | ((with_reducible refine ⟨vp_in_nI (by omega) (by decide), ?_⟩) <;> conv => whnf)
    | (refine ⟨Or.inl rfl, ?_⟩ <;> conv => whnf)
    | (refine ⟨Or.inr rfl, ?_⟩ <;> conv => whnf)
    | (refine ⟨Or.inl True.intro, ?_⟩ <;> conv => whnf)
    | (refine ⟨Or.inr True.intro, ?_⟩ <;> conv => whnf)
    | (refine ⟨fun c => ?_, fun c => ?_⟩ <;> first | ((have c9 : (1 : Int32) = 0 := by with_reducible exact c); exact absurd c9 (by decide)) | exact absurd (rfl : (0 : Int32) = 0) (by with_reducible exact c) | exact absurd True.intro (by with_reducible exact c) | exact False.elim (by with_reducible exact c) | exact absurd (by with_reducible exact c) h0 | (conv => whnf))
    | (refine ⟨by unfold vp_in; decide, ?_⟩ <;> conv => whnf)
    | fail
  all_goals first | exact ⟨Or.inl rfl, H _ _ _ (Or.inl rfl) (by repeat' first | (with_reducible assumption) | (with_reducible refine XI_ui ?_ ?_) | (with_reducible refine XI_fil ?_ (fun _ => ?_)) | (with_reducible refine XI_cpy ?_ (fun _ _ => ?_)) | exact True.intro | (exact (Or.inr ha : _ ∨ _)) | ((show inr _ _ _); first | (with_reducible assumption) | (unfold inr; decide)) | fail) (by repeat' first | (with_reducible exact fx_refl _ _ _) | (with_reducible assumption) | (with_reducible refine fx_ui ?_ ?_ ?_) | (with_reducible refine fx_fil ?_ ?_ ?_) | (with_reducible refine fx_cpy ?_ ?_ ?_) | omega | decide | fail)⟩ | exact ⟨Or.inr rfl, H _ _ _ (Or.inr rfl) (by repeat' first | (with_reducible assumption) | (with_reducible refine XI_ui ?_ ?_) | (with_reducible refine XI_fil ?_ (fun _ => ?_)) | (with_reducible refine XI_cpy ?_ (fun _ _ => ?_)) | exact True.intro | (exact (Or.inr ha : _ ∨ _)) | ((show inr _ _ _); first | (with_reducible assumption) | (unfold inr; decide)) | fail) (by repeat' first | (with_reducible exact fx_refl _ _ _) | (with_reducible assumption) | (with_reducible refine fx_ui ?_ ?_ ?_) | (with_reducible refine fx_fil ?_ ?_ ?_) | (with_reducible refine fx_cpy ?_ ?_ ?_) | omega | decide | fail)⟩ | exact H _ _ _ (Or.inl rfl) (by repeat' first | (with_reducible assumption) | (with_reducible refine XI_ui ?_ ?_) | (with_reducible refine XI_fil ?_ (fun _ => ?_)) | (with_reducible refine XI_cpy ?_ (fun _ _ => ?_)) | exact True.intro | (exact (Or.inr ha : _ ∨ _)) | ((show inr _ _ _); first | (with_reducible assumption) | (unfold inr; decide)) | fail) (by repeat' first | (with_reducible exact fx_refl _ _ _) | (with_reducible assumption) | (with_reducible refine fx_ui ?_ ?_ ?_) | (with_reducible refine fx_fil ?_ ?_ ?_) | (with_reducible refine fx_cpy ?_ ?_ ?_) | omega | decide | fail) | exact H _ _ _ (Or.inr rfl) (by repeat' first | (with_reducible assumption) | (with_reducible refine XI_ui ?_ ?_) | (with_reducible refine XI_fil ?_ (fun _ => ?_)) | (with_reducible refine XI_cpy ?_ (fun _ _ => ?_)) | exact True.intro | (exact (Or.inr ha : _ ∨ _)) | ((show inr _ _ _); first | (with_reducible assumption) | (unfold inr; decide)) | fail) (by repeat' first | (with_reducible exact fx_refl _ _ _) | (with_reducible assumption) | (with_reducible refine fx_ui ?_ ?_ ?_) | (with_reducible refine fx_fil ?_ ?_ ?_) | (with_reducible refine fx_cpy ?_ ?_ ?_) | omega | decide | fail)
set_option maxRecDepth 100000 in
set_option maxHeartbeats 4000000 in
theorem sx_give0 {d L : Nat} {f : Nat → Nat → Int32} {g : Nat → Nat → Int64} {w a : Int32} {R : Option Value → mH → Prop} (hd : 1 ≤ d) (hw : vp_in w 40) (h0 : f 168 7 = 0) (H : R (some (.int 1)) (shF L, m_ui f 169 w.toNatClampNeg (a + 1), g)) : Run mtab d 15 [.ref 168, .int w, .int a] (shF L, f, g) R := by
  obtain ⟨d, rfl⟩ : ∃ e, d = e + 1 := ⟨d - 1, by omega⟩
  refine go_X1_give rfl ?_
  conv => whnf
  repeat' first
    | ((with_reducible refine ⟨hw, ?_⟩) <;> conv => whnf)
    | ((with_reducible refine ⟨vp_in_nI (by omega) (by decide), ?_⟩) <;> conv => whnf)
    | (refine ⟨Or.inl rfl, ?_⟩ <;> conv => whnf)
    | (refine ⟨Or.inr rfl, ?_⟩ <;> conv => whnf)
    | (refine ⟨Or.inl True.intro, ?_⟩ <;> conv => whnf)
    | (refine ⟨Or.inr True.intro, ?_⟩ <;> conv => whnf)
    | (refine ⟨fun c => ?_, fun c => ?_⟩ <;> first | ((have c9 : (1 : Int32) = 0 := by with_reducible exact c); exact absurd c9 (by decide)) | exact absurd (rfl : (0 : Int32) = 0) (by with_reducible exact c) | exact absurd True.intro (by with_reducible exact c) | exact False.elim (by with_reducible exact c) | exact absurd h0 (by with_reducible exact c) | (conv => whnf))
    | (refine ⟨by unfold vp_in; decide, ?_⟩ <;> conv => whnf)
    | fail
  all_goals first | exact H | exact ⟨Or.inr rfl, H⟩
theorem vp_lt {x : Int32} {n : Nat} (h : vp_in x n) : x.toNatClampNeg < n := by
  unfold vp_in at h
  omega
theorem nI_nz {q : Nat} (h : ¬ q = 0) (h1 : q < 2 ^ 31) : ¬ nI q = 0 := fun e => h ((nI_eq (b := 0) h1 (by decide)).mp e)
theorem nI_m4 {q : Nat} (h1 : q < 2 ^ 31) : ¬ nI q = -4 := fun e => by
  have := congrArg Int32.toInt e
  rw [nI_toInt h1] at this
  have e4 : (-4 : Int32).toInt = -4 := rfl
  omega
set_option maxRecDepth 100000 in
set_option maxHeartbeats 4000000 in
theorem sx_pbN_lp {d L n : Nat} {f0 : Nat → Nat → Int32} {q : Nat} {R : Option Value → mH → Prop} (hd : 1 ≤ d) (hm : n ≤ 40) (hc0 : f0 168 7 = nI q) (hq0 : ¬ q = 0) (hq9 : q < 9) (H : ∀ v f' g', XI f' → fx 168 173 f0 f' → ¬ f' 168 7 = 0 → R (some (.int v)) (shF L, f', g'))  :
    ∀ (k i : Nat) (x : Int32) (a : Int32) (b : Int32) (s5 : Option Value) (f : Nat → Nat → Int32) (g : Nat → Nat → Int64), i + k = n → x = nI i → XI f → fx 169 172 f0 f → inr 0 40 b → WPe pg_X1_publish none (Run mtab d) R (m_drop pg_X1_publish 9) [some (.ref 168), some (.int (nI n)), some (.int a), some (.int b), some (.int x), s5] [] (shF L, f, g)
  | 0, i, x, a, b, s5, f, g, he, hx, hX, hF, hb => by
    have e : i = n := by omega
    subst hx
    have hcn : f 168 7 = nI q := (hF 168 7 (by omega)).trans hc0
    have hnz : ¬ f 168 7 = 0 := by rw [hcn]; exact nI_nz hq0 (by omega)
    subst e
    refine at_X1_publish ?_
    conv => whnf
    try simp only [hcn]
    refine ⟨fun c => ?_, fun c => absurd (nI_le (Nat.le_refl _) (by omega)) c⟩
    conv => whnf
    repeat' first
      | (simp only [hcn])
      | ((with_reducible refine ⟨vp_in_nI (by omega) (by decide), ?_⟩) <;> conv => whnf)
      | (refine ⟨Or.inl rfl, ?_⟩ <;> conv => whnf)
      | (refine ⟨Or.inr rfl, ?_⟩ <;> conv => whnf)
      | (refine ⟨Or.inl True.intro, ?_⟩ <;> conv => whnf)
      | (refine ⟨Or.inr True.intro, ?_⟩ <;> conv => whnf)
      | (refine ⟨fun c => ?_, fun c => ?_⟩ <;> first | ((have c9 : (1 : Int32) = 0 := by with_reducible exact c); exact absurd c9 (by decide)) | exact absurd (rfl : (0 : Int32) = 0) (by with_reducible exact c) | exact absurd True.intro (by with_reducible exact c) | exact False.elim (by with_reducible exact c) | (conv => whnf))
      | (refine ⟨by unfold vp_in; decide, ?_⟩ <;> conv => whnf)
      | fail
    all_goals exact H _ _ _ (XI_ui hX (show inr 0 9 _ from inr_n1 (m := 9) (by omega) rfl (by decide))) (fx_ui (by decide) (by decide) (fx_wide hF (by decide) (by decide))) (by rw [m_ui_ap, if_pos rfl, if_pos rfl, nI_1]; exact nI_nz (by omega) (by omega))
  | k + 1, i, x, a, b, s5, f, g, he, hx, hX, hF, hb => by
    subst hx
    have hcn : f 168 7 = nI q := (hF 168 7 (by omega)).trans hc0
    have hnz : ¬ f 168 7 = 0 := by rw [hcn]; exact nI_nz hq0 (by omega)
    refine at_X1_publish ?_
    conv => whnf
    try simp only [hcn]
    refine ⟨fun c => absurd c (nI_ge (b := n) (by omega) (by omega)), fun c => ?_⟩
    conv => whnf
    repeat' first
      | exact sx_pbN_lp hd hm hc0 hq0 hq9 H k (i + 1) _ _ _ _ _ _ (by omega) (nI_1 i) (by repeat' first | (with_reducible assumption) | (with_reducible refine XI_ui ?_ ?_) | (with_reducible refine XI_fil ?_ (fun _ => ?_)) | (with_reducible refine XI_cpy ?_ (fun _ _ => ?_)) | exact True.intro | ((show inr _ _ _); first | (with_reducible assumption) | (unfold inr; decide)) | fail) (by repeat' first | (with_reducible exact fx_refl _ _ _) | (with_reducible assumption) | (with_reducible refine fx_ui ?_ ?_ ?_) | (with_reducible refine fx_fil ?_ ?_ ?_) | (with_reducible refine fx_cpy ?_ ?_ ?_) | omega | decide | fail) (by first | (with_reducible assumption) | exact (xi_169 hX _).resolve_left (by with_reducible assumption) | exact (xi_169 h1 _).resolve_left (by with_reducible assumption))
      | ((with_reducible refine ⟨vx_172 hX _, ?_⟩) <;> conv => whnf)
      | ((with_reducible refine ⟨vx_172 h1 _, ?_⟩) <;> conv => whnf)
      | (have hk7 := k1 172 (nI i).toNatClampNeg (by omega); simp only [← hk7]; fail)
      | (simp only [hcn])
      | ((with_reducible refine ⟨vp_in_nI (by omega) (by decide), ?_⟩) <;> conv => whnf)
      | (refine ⟨Or.inl rfl, ?_⟩ <;> conv => whnf)
      | (refine ⟨Or.inr rfl, ?_⟩ <;> conv => whnf)
      | (refine ⟨Or.inl True.intro, ?_⟩ <;> conv => whnf)
      | (refine ⟨Or.inr True.intro, ?_⟩ <;> conv => whnf)
      | (refine ⟨fun c => ?_, fun c => ?_⟩ <;> first | ((have c9 : (1 : Int32) = 0 := by with_reducible exact c); exact absurd c9 (by decide)) | exact absurd (rfl : (0 : Int32) = 0) (by with_reducible exact c) | exact absurd True.intro (by with_reducible exact c) | exact False.elim (by with_reducible exact c) | (conv => whnf))
      | (refine sx_giveN (by omega) hX (vx_172 hX _) hb hnz (fun v f1 g1 hv h1 k1 => ?_) <;> (have k1' := fx_trans hF k1) <;> conv => whnf)
      | (refine ⟨by unfold vp_in; decide, ?_⟩ <;> conv => whnf)
      | fail
    all_goals exact H _ _ _ (XI_ui hX (show inr 0 9 _ from inr_n1 (m := 9) (by omega) rfl (by decide))) (fx_ui (by decide) (by decide) (fx_wide hF (by decide) (by decide))) (by rw [m_ui_ap, if_pos rfl, if_pos rfl, nI_1]; exact nI_nz (by omega) (by omega))
set_option maxRecDepth 100000 in
set_option maxHeartbeats 4000000 in
theorem sx_pb0_lp {d L n : Nat} {f0 : Nat → Nat → Int32} {R : Option Value → mH → Prop} (hd : 1 ≤ d) (hm : n ≤ 40) (hc0 : f0 168 7 = 0) (H : ∀ v f' g', XI f' → fx 168 173 f0 f' → ¬ f' 168 7 = 0 → R (some (.int v)) (shF L, f', g')) :
    ∀ (k i : Nat) (x a b : Int32) (s5 : Option Value) (f : Nat → Nat → Int32) (g : Nat → Nat → Int64), i + k = n → x = nI i → XI f → fx 169 172 f0 f → (∃ q, q ≤ i ∧ b = nI q) → (∀ j, j < 40 → f 169 j = -4 ∨ ∃ q, q ≤ i ∧ f 169 j = nI q) → WPe pg_X1_publish none (Run mtab d) R (m_drop pg_X1_publish 9) [some (.ref 168), some (.int (nI n)), some (.int a), some (.int b), some (.int x), s5] [] (shF L, f, g)
  | 0, i, x, a, b, s5, f, g, he, hx, hX, hF, hb, hN => by
    have e : i = n := by omega
    subst hx
    subst e
    have hz : f 168 7 = 0 := (hF 168 7 (by omega)).trans hc0
    refine at_X1_publish ?_
    conv => whnf
    refine ⟨fun c => ?_, fun c => absurd (nI_le (Nat.le_refl _) (by omega)) c⟩
    conv => whnf
    simp only [hz]
    exact H _ _ _ (XI_ui hX (show inr 0 9 _ by unfold inr; decide)) (fx_ui (by decide) (by decide) (fx_wide hF (by decide) (by decide))) (by rw [m_ui_ap, if_pos rfl, if_pos rfl]; decide)
  | k + 1, i, x, a, b, s5, f, g, he, hx, hX, hF, hb, hN => by
    subst hx
    obtain ⟨q, hqi, rfl⟩ := hb
    have hz : f 168 7 = 0 := (hF 168 7 (by omega)).trans hc0
    refine at_X1_publish ?_
    conv => whnf
    refine ⟨fun c => absurd c (nI_ge (b := n) (by omega) (by omega)), fun c => ?_⟩
    conv => whnf
    refine ⟨vp_in_nI (by omega) (by decide), ?_⟩
    conv => whnf
    refine ⟨vx_172 hX _, ?_⟩
    conv => whnf
    refine ⟨fun c2 => ?_, fun c2 => ?_⟩
    · conv => whnf
      refine ⟨vx_172 hX _, ?_⟩
      conv => whnf
      refine ⟨fun c3 => absurd c3 c2, fun c3 => ?_⟩
      conv => whnf
      refine ⟨vx_172 hX _, ?_⟩
      conv => whnf
      obtain ⟨p, hp, ep⟩ := (hN (f 172 (nI i).toNatClampNeg).toNatClampNeg (vp_lt (vx_172 hX _))).resolve_left c2
      exact sx_pb0_lp hd hm hc0 H k (i + 1) _ _ _ _ _ _ (by omega) (nI_1 i) hX hF ⟨p, by omega, ep⟩ (fun j hj => (hN j hj).imp id (fun ⟨r, h1, h2⟩ => ⟨r, by omega, h2⟩))
    · conv => whnf
      refine sx_give0 (by omega) (vx_172 hX _) hz ?_
      conv => whnf
      refine ⟨fun c3 => absurd c3 (by decide), fun _ => ?_⟩
      conv => whnf
      refine ⟨vx_172 hX _, ?_⟩
      conv => whnf
      simp only [m_ui_ap, m_fil_ap, m_cpy_ap, Nat.reduceEqDiff, Nat.reduceLT, Nat.reduceLeDiff, eq_self, ↓reduceIte, false_and, and_false, true_and, and_true, and_self, nI_1]
      refine ⟨fun c3 => absurd c3 (nI_m4 (by omega)), fun c3 => ?_⟩
      conv => whnf
      refine ⟨vx_172 hX _, ?_⟩
      conv => whnf
      simp only [m_ui_ap, m_fil_ap, m_cpy_ap, Nat.reduceEqDiff, Nat.reduceLT, Nat.reduceLeDiff, eq_self, ↓reduceIte, false_and, and_false, true_and, and_true, and_self, nI_1]
      refine sx_pb0_lp hd hm hc0 H k (i + 1) _ _ _ _ _ _ (by omega) rfl (XI_ui hX (Or.inr (inr_n (m := 40) (by omega) rfl (by decide)))) (fx_ui (by decide) (by decide) hF) ⟨q + 1, by omega, rfl⟩ (fun j hj => ?_)
      rw [m_ui_ap, if_pos rfl]
      split
      · exact Or.inr ⟨q + 1, by omega, rfl⟩
      · exact (hN j hj).imp id (fun ⟨r, h1, h2⟩ => ⟨r, by omega, h2⟩)
/-- before the first edition nothing has a number -/
def EI (f : Nat → Nat → Int32) : Prop := f 168 7 = 0 → ∀ j, j < 40 → f 169 j = -4
theorem EI_kp {l : List Nat} {f f' : Nat → Nat → Int32} (h : EI f) (k : kp l f f') (hl : hasN l 7 = false) : EI f' := fun e j hj => by
  rw [k 169 j (by exact hl)]
  exact h ((k 168 7 (by exact hl)).symm.trans e) j hj
set_option maxRecDepth 100000 in
set_option maxHeartbeats 4000000 in
theorem sx_publish {d L : Nat} {f : Nat → Nat → Int32} {g : Nat → Nat → Int64} {q : Nat} {R : Option Value → mH → Prop} (hd : 4 ≤ d) (hX : XI f) (hE : EI f) (hc : f 168 7 = nI q) (hq9 : q < 9) (H : ∀ v f' g', XI f' → fx 168 173 f f' → ¬ f' 168 7 = 0 → R (some (.int v)) (shF L, f', g')) : Run mtab d 14 [.ref 168] (shF L, f, g) R := by
  obtain ⟨d, rfl⟩ : ∃ e, d = e + 1 := ⟨d - 1, by omega⟩
  refine go_X1_publish rfl ?_
  conv => whnf
  refine sx_sortThoseIn (by omega) hX (fun n f1 g1 hn h1 k1 => ?_)
  conv => whnf
  have hc1 : f1 168 7 = nI q := (k1 168 7 (by omega)).trans hc
  have H' : ∀ v f' g', XI f' → fx 168 173 f1 f' → ¬ f' 168 7 = 0 → R (some (.int v)) (shF L, f', g') := fun v f' g' a b c => H v f' g' a (fx_trans (fx_wide k1 (by decide) (by decide)) b) c
  by_cases hz : q = 0
  · subst hz
    have hz1 : f1 168 7 = 0 := hc1
    exact sx_pb0_lp (by omega) hn hz1 H' n 0 _ _ _ _ _ _ (by omega) rfl h1 (fx_refl _ _ _) ⟨0, by omega, rfl⟩ (fun j hj => Or.inl ((k1 169 j (by omega)).trans (hE hc j hj)))
  · exact sx_pbN_lp (by omega) hn hc1 hz hq9 H' n 0 _ _ _ _ _ _ (by omega) rfl h1 (fx_refl _ _ _) (show inr 0 40 0 by unfold inr; decide)
set_option maxRecDepth 100000 in
set_option maxHeartbeats 4000000 in
theorem sx_edition {d L : Nat} {f : Nat → Nat → Int32} {g : Nat → Nat → Int64}  {R : Option Value → mH → Prop} (hd : 8 ≤ d) (hX : XI f) (hE : EI f) (H : ∀ v f' g', XI f' → kp [0, 7] f f' → EI f' → R (some (.int v)) (shF L, f', g')) : Run mtab d 127 [.ref 5] (shF L, f, g) R := by
  obtain ⟨d, rfl⟩ : ∃ e, d = e + 1 := ⟨d - 1, by omega⟩
  refine go_X10_edition rfl ?_
  conv => whnf
  obtain ⟨q, hq, hc⟩ := inr_nat (n := 9) rfl (xi_168 hX 7)
  simp only [hc]
  by_cases e9 : q = 9
  · subst e9
    refine ⟨fun c => absurd (by decide) c, fun c => ?_⟩
    conv => whnf
    exact H _ _ _ hX (kp_refl _ _) hE
  · refine ⟨fun c => ?_, fun c => absurd ((nI_eq (b := 9) (by omega) (by decide)).mp c) e9⟩
    conv => whnf
    refine sx_reckon (by omega) hX (fun f1 g1 h1 k1 => ?_)
    conv => whnf
    refine sx_publish (q := q) (by omega) h1 (EI_kp hE k1 rfl) ((k1 168 7 rfl).trans hc) (by omega) (fun v f2 g2 h2 k2 z2 => ?_)
    conv => whnf
    exact H _ _ _ h2 (kp_trans (kp_wd k1 rfl) (kp_fx k2 rfl)) (fun e => absurd e z2)
