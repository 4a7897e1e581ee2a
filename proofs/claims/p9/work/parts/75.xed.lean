set_option maxRecDepth 100000 in
set_option maxHeartbeats 4000000 in
theorem sx_giveN {d L : Nat} {f : Nat → Nat → Int32} {g : Nat → Nat → Int64} {w a : Int32} {R : Option Value → mH → Prop} (hd : 1 ≤ d) (hX : XI f) (hw : vp_in w 40) (ha : inr 0 40 a) (h0 : ¬ f 168 7 = 0) (H : ∀ v f' g', (v = 0 ∨ v = 1) → XI f' → fx 169 172 f f' → R (some (.int v)) (shF L, f', g')) : Run mtab d 15 [.ref 168, .int w, .int a] (shF L, f, g) R := by
  obtain ⟨d, rfl⟩ : ∃ e, d = e + 1 := ⟨d - 1, by omega⟩
  refine go_X1_give rfl ?_
  conv => whnf
  repeat' first
    | ((with_reducible refine ⟨hw, ?_⟩) <;> conv => whnf)
    | ((with_reducible refine ⟨vpi ha (by decide), ?_⟩) <;> conv => whnf)
    | ((with_reducible refine ⟨vp_in_nI (by omega) (by decide), ?_⟩) <;> conv => whnf)
    | (refine ⟨Or.inl rfl, ?_⟩ <;> conv => whnf)
    | (refine ⟨Or.inr rfl, ?_⟩ <;> conv => whnf)
    | (refine ⟨Or.inl True.intro, ?_⟩ <;> conv => whnf)
    | (refine ⟨Or.inr True.intro, ?_⟩ <;> conv => whnf)
    | (refine ⟨fun c => ?_, fun c => ?_⟩ <;> first | ((have c9 : (1 : Int32) = 0 := by with_reducible exact c); exact absurd c9 (by decide)) | exact absurd (rfl : (0 : Int32) = 0) (by with_reducible exact c) | exact absurd True.intro (by with_reducible exact c) | exact False.elim (by with_reducible exact c) | exact absurd (by with_reducible exact c) h0 | (conv => whnf))
    | (refine ⟨by unfold vp_in; decide, ?_⟩ <;> conv => whnf)
    | fail
  all_goals first | exact ⟨Or.inl rfl, H _ _ _ (Or.inl rfl) (by repeat' first | (with_reducible assumption) | (with_reducible refine XI_ui ?_ ?_) | (with_reducible refine XI_fil ?_ (fun _ => ?_)) | (with_reducible refine XI_cpy ?_ (fun _ _ => ?_)) | exact True.intro | (exact (Or.inr ha : _ ∨ _)) | ((show inr _ _ _); first | (with_reducible assumption) | (unfold inr; decide)) | fail) (by repeat' first | (with_reducible exact fx_refl _ _ _) | (with_reducible assumption) | (with_reducible refine fx_ui ?_ ?_ ?_) | (with_reducible refine fx_fil ?_ ?_ ?_) | (with_reducible refine fx_cpy ?_ ?_ ?_) | omega | decide | fail)⟩ | exact ⟨Or.inr rfl, H _ _ _ (Or.inr rfl) (by repeat' first | (with_reducible assumption) | (with_reducible refine XI_ui ?_ ?_) | (with_reducible refine XI_fil ?_ (fun _ => ?_)) | (with_reducible refine XI_cpy ?_ (fun _ _ => ?_)) | exact True.intro | (exact (Or.inr ha : _ ∨ _)) | ((show inr _ _ _); first | (with_reducible assumption) | (unfold inr; decide)) | fail) (by repeat' first | (with_reducible exact fx_refl _ _ _) | (with_reducible assumption) | (with_reducible refine fx_ui ?_ ?_ ?_) | (with_reducible refine fx_fil ?_ ?_ ?_) | (with_reducible refine fx_cpy ?_ ?_ ?_) | omega | decide | fail)⟩ | exact H _ _ _ (Or.inl rfl) (by repeat' first | (with_reducible assumption) | (with_reducible refine XI_ui ?_ ?_) | (with_reducible refine XI_fil ?_ (fun _ => ?_)) | (with_reducible refine XI_cpy ?_ (fun _ _ => ?_)) | exact True.intro | (exact (Or.inr ha : _ ∨ _)) | ((show inr _ _ _); first | (with_reducible assumption) | (unfold inr; decide)) | fail) (by repeat' first | (with_reducible exact fx_refl _ _ _) | (with_reducible assumption) | (with_reducible refine fx_ui ?_ ?_ ?_) | (with_reducible refine fx_fil ?_ ?_ ?_) | (with_reducible refine fx_cpy ?_ ?_ ?_) | omega | decide | fail) | exact H _ _ _ (Or.inr rfl) (by repeat' first | (with_reducible assumption) | (with_reducible refine XI_ui ?_ ?_) | (with_reducible refine XI_fil ?_ (fun _ => ?_)) | (with_reducible refine XI_cpy ?_ (fun _ _ => ?_)) | exact True.intro | (exact (Or.inr ha : _ ∨ _)) | ((show inr _ _ _); first | (with_reducible assumption) | (unfold inr; decide)) | fail) (by repeat' first | (with_reducible exact fx_refl _ _ _) | (with_reducible assumption) | (with_reducible refine fx_ui ?_ ?_ ?_) | (with_reducible refine fx_fil ?_ ?_ ?_) | (with_reducible refine fx_cpy ?_ ?_ ?_) | omega | decide | fail)
set_option maxRecDepth 100000 in
set_option maxHeartbeats 4000000 in
theorem sx_give0 {d L : Nat} {f : Nat → Nat → Int32} {g : Nat → Nat → Int64} {w a : Int32} {R : Option Value → mH → Prop} (hd : 1 ≤ d) (hw : vp_in w 40) (h0 : f 168 7 = 0) (H : R (some (.int 1)) (shF L, m_ui f 169 w.toNatClampNeg (a + 1), g)) : Run mtab d 15 [.ref 168, .int w, .int a] (shF L, f, g) R := by
  obtain ⟨d, rfl⟩ : ∃ e, d = e + 1 := ⟨d - 1, by omega⟩
  refine go_X1_give rfl ?_
  conv => whnf
  repeat' first
    | ((with_reducible refine ⟨hw, ?_⟩) <;> conv => whnf)
    | ((with_reducible refine ⟨vp_in_nI (by omega) (by decide), ?_⟩) <;> conv => whnf)
    | (refine ⟨Or.inl rfl, ?_⟩ <;> conv => whnf)
    | (refine ⟨Or.inr rfl, ?_⟩ <;> conv => whnf)
    | (refine ⟨Or.inl True.intro, ?_⟩ <;> conv => whnf)
    | (refine ⟨Or.inr True.intro, ?_⟩ <;> conv => whnf)
    | (refine ⟨fun c => ?_, fun c => ?_⟩ <;> first | ((have c9 : (1 : Int32) = 0 := by with_reducible exact c); exact absurd c9 (by decide)) | exact absurd (rfl : (0 : Int32) = 0) (by with_reducible exact c) | exact absurd True.intro (by with_reducible exact c) | exact False.elim (by with_reducible exact c) | exact absurd h0 (by with_reducible exact c) | (conv => whnf))
    | (refine ⟨by unfold vp_in; decide, ?_⟩ <;> conv => whnf)
    | fail
  all_goals first | exact H | exact ⟨Or.inr rfl, H⟩
theorem vp_lt {x : Int32} {n : Nat} (h : vp_in x n) : x.toNatClampNeg < n := by
  unfold vp_in at h
  omega
theorem nI_nz {q : Nat} (h : ¬ q = 0) (h1 : q < 2 ^ 31) : ¬ nI q = 0 := fun e => h ((nI_eq (b := 0) h1 (by decide)).mp e)
theorem nI_m4 {q : Nat} (h1 : q < 2 ^ 31) : ¬ nI q = -4 := fun e => by
  have := congrArg Int32.toInt e
  rw [nI_toInt h1] at this
  have e4 : (-4 : Int32).toInt = -4 := rfl
  omega
set_option maxRecDepth 100000 in
set_option maxHeartbeats 4000000 in
theorem sx_pbN_lp {d L n : Nat} {f0 : Nat → Nat → Int32} {q : Nat} {R : Option Value → mH → Prop} (hd : 1 ≤ d) (hm : n ≤ 40) (hc0 : f0 168 7 = nI q) (hq0 : ¬ q = 0) (hq9 : q < 9) (H : ∀ v f' g', XI f' → fx 168 173 f0 f' → ¬ f' 168 7 = 0 → R (some (.int v)) (shF L, f', g'))  :
    ∀ (k i : Nat) (x : Int32) (a : Int32) (b : Int32) (s5 : Option Value) (f : Nat → Nat → Int32) (g : Nat → Nat → Int64), i + k = n → x = nI i → XI f → fx 169 172 f0 f → inr 0 40 b → WPe pg_X1_publish none (Run mtab d) R (m_drop pg_X1_publish 9) [some (.ref 168), some (.int (nI n)), some (.int a), some (.int b), some (.int x), s5] [] (shF L, f, g)
  | 0, i, x, a, b, s5, f, g, he, hx, hX, hF, hb => by
    have e : i = n := by omega
    subst hx
    have hcn : f 168 7 = nI q := (hF 168 7 (by omega)).trans hc0
    have hnz : ¬ f 168 7 = 0 := by rw [hcn]; exact nI_nz hq0 (by omega)
    subst e
    refine at_X1_publish ?_
    conv => whnf
    try simp only [hcn]
    refine ⟨fun c => ?_, fun c => absurd (nI_le (Nat.le_refl _) (by omega)) c⟩
    conv => whnf
    repeat' first
      | (simp only [hcn])
      | ((with_reducible refine ⟨vp_in_nI (by omega) (by decide), ?_⟩) <;> conv => whnf)
      | (refine ⟨Or.inl rfl, ?_⟩ <;> conv => whnf)
      | (refine ⟨Or.inr rfl, ?_⟩ <;> conv => whnf)
      | (refine ⟨Or.inl True.intro, ?_⟩ <;> conv => whnf)
      | (refine ⟨Or.inr True.intro, ?_⟩ <;> conv => whnf)
      | (refine ⟨fun c => ?_, fun c => ?_⟩ <;> first | ((have c9 : (1 : Int32) = 0 := by with_reducible exact c); exact absurd c9 (by decide)) | exact absurd (rfl : (0 : Int32) = 0) (by with_reducible exact c) | exact absurd True.intro (by with_reducible exact c) | exact False.elim (by with_reducible exact c) | (conv => whnf))
      | (refine ⟨by unfold vp_in; decide, ?_⟩ <;> conv => whnf)
      | fail
    all_goals exact H _ _ _ (XI_ui hX (show inr 0 9 _ from inr_n1 (m := 9) (by omega) rfl (by decide))) (fx_ui (by decide) (by decide) (fx_wide hF (by decide) (by decide))) (by rw [m_ui_ap, if_pos rfl, if_pos rfl, nI_1]; exact nI_nz (by omega) (by omega))
  | k + 1, i, x, a, b, s5, f, g, he, hx, hX, hF, hb => by
    subst hx
    have hcn : f 168 7 = nI q := (hF 168 7 (by omega)).trans hc0
    have hnz : ¬ f 168 7 = 0 := by rw [hcn]; exact nI_nz hq0 (by omega)
    refine at_X1_publish ?_
    conv => whnf
    try simp only [hcn]
    refine ⟨fun c => absurd c (nI_ge (b := n) (by omega) (by omega)), fun c => ?_⟩
    conv => whnf
    repeat' first
      | exact sx_pbN_lp hd hm hc0 hq0 hq9 H k (i + 1) _ _ _ _ _ _ (by omega) (nI_1 i) (by repeat' first | (with_reducible assumption) | (with_reducible refine XI_ui ?_ ?_) | (with_reducible refine XI_fil ?_ (fun _ => ?_)) | (with_reducible refine XI_cpy ?_ (fun _ _ => ?_)) | exact True.intro | ((show inr _ _ _); first | (with_reducible assumption) | (unfold inr; decide)) | fail) (by repeat' first | (with_reducible exact fx_refl _ _ _) | (with_reducible assumption) | (with_reducible refine fx_ui ?_ ?_ ?_) | (with_reducible refine fx_fil ?_ ?_ ?_) | (with_reducible refine fx_cpy ?_ ?_ ?_) | omega | decide | fail) (by first | (with_reducible assumption) | exact (xi_169 hX _).resolve_left (by with_reducible assumption) | exact (xi_169 h1 _).resolve_left (by with_reducible assumption))
      | ((with_reducible refine ⟨vx_172 hX _, ?_⟩) <;> conv => whnf)
      | ((with_reducible refine ⟨vx_172 h1 _, ?_⟩) <;> conv => whnf)
      | (have hk7 := k1 172 (nI i).toNatClampNeg (by omega); simp only [← hk7]; fail)
      | (simp only [hcn])
      | ((with_reducible refine ⟨vp_in_nI (by omega) (by decide), ?_⟩) <;> conv => whnf)
      | (refine ⟨Or.inl rfl, ?_⟩ <;> conv => whnf)
      | (refine ⟨Or.inr rfl, ?_⟩ <;> conv => whnf)
      | (refine ⟨Or.inl True.intro, ?_⟩ <;> conv => whnf)
      | (refine ⟨Or.inr True.intro, ?_⟩ <;> conv => whnf)
      | (refine ⟨fun c => ?_, fun c => ?_⟩ <;> first | ((have c9 : (1 : Int32) = 0 := by with_reducible exact c); exact absurd c9 (by decide)) | exact absurd (rfl : (0 : Int32) = 0) (by with_reducible exact c) | exact absurd True.intro (by with_reducible exact c) | exact False.elim (by with_reducible exact c) | (conv => whnf))
      | (refine sx_giveN (by omega) hX (vx_172 hX _) hb hnz (fun v f1 g1 hv h1 k1 => ?_) <;> (have k1' := fx_trans hF k1) <;> conv => whnf)
      | (refine ⟨by unfold vp_in; decide, ?_⟩ <;> conv => whnf)
      | fail
    all_goals exact H _ _ _ (XI_ui hX (show inr 0 9 _ from inr_n1 (m := 9) (by omega) rfl (by decide))) (fx_ui (by decide) (by decide) (fx_wide hF (by decide) (by decide))) (by rw [m_ui_ap, if_pos rfl, if_pos rfl, nI_1]; exact nI_nz (by omega) (by omega))
set_option maxRecDepth 100000 in
set_option maxHeartbeats 4000000 in
theorem sx_pb0_lp {d L n : Nat} {f0 : Nat → Nat → Int32} {R : Option Value → mH → Prop} (hd : 1 ≤ d) (hm : n ≤ 40) (hc0 : f0 168 7 = 0) (H : ∀ v f' g', XI f' → fx 168 173 f0 f' → ¬ f' 168 7 = 0 → R (some (.int v)) (shF L, f', g')) :
    ∀ (k i : Nat) (x a b : Int32) (s5 : Option Value) (f : Nat → Nat → Int32) (g : Nat → Nat → Int64), i + k = n → x = nI i → XI f → fx 169 172 f0 f → (∃ q, q ≤ i ∧ b = nI q) → (∀ j, j < 40 → f 169 j = -4 ∨ ∃ q, q ≤ i ∧ f 169 j = nI q) → WPe pg_X1_publish none (Run mtab d) R (m_drop pg_X1_publish 9) [some (.ref 168), some (.int (nI n)), some (.int a), some (.int b), some (.int x), s5] [] (shF L, f, g)
  | 0, i, x, a, b, s5, f, g, he, hx, hX, hF, hb, hN => by
    have e : i = n := by omega
    subst hx
    subst e
    have hz : f 168 7 = 0 := (hF 168 7 (by omega)).trans hc0
    refine at_X1_publish ?_
    conv => whnf
    refine ⟨fun c => ?_, fun c => absurd (nI_le (Nat.le_refl _) (by omega)) c⟩
    conv => whnf
    simp only [hz]
    exact H _ _ _ (XI_ui hX (show inr 0 9 _ by unfold inr; decide)) (fx_ui (by decide) (by decide) (fx_wide hF (by decide) (by decide))) (by rw [m_ui_ap, if_pos rfl, if_pos rfl]; decide)
  | k + 1, i, x, a, b, s5, f, g, he, hx, hX, hF, hb, hN => by
    subst hx
    obtain ⟨q, hqi, rfl⟩ := hb
    have hz : f 168 7 = 0 := (hF 168 7 (by omega)).trans hc0
    refine at_X1_publish ?_
    conv => whnf
    refine ⟨fun c => absurd c (nI_ge (b := n) (by omega) (by omega)), fun c => ?_⟩
    conv => whnf
    refine ⟨vp_in_nI (by omega) (by decide), ?_⟩
    conv => whnf
    refine ⟨vx_172 hX _, ?_⟩
    conv => whnf
    refine ⟨fun c2 => ?_, fun c2 => ?_⟩
    · conv => whnf
      refine ⟨vx_172 hX _, ?_⟩
      conv => whnf
      refine ⟨fun c3 => absurd c3 c2, fun c3 => ?_⟩
      conv => whnf
      refine ⟨vx_172 hX _, ?_⟩
      conv => whnf
      obtain ⟨p, hp, ep⟩ := (hN (f 172 (nI i).toNatClampNeg).toNatClampNeg (vp_lt (vx_172 hX _))).resolve_left c2
      exact sx_pb0_lp hd hm hc0 H k (i + 1) _ _ _ _ _ _ (by omega) (nI_1 i) hX hF ⟨p, by omega, ep⟩ (fun j hj => (hN j hj).imp id (fun ⟨r, h1, h2⟩ => ⟨r, by omega, h2⟩))
    · conv => whnf
      refine sx_give0 (by omega) (vx_172 hX _) hz ?_
      conv => whnf
      refine ⟨fun c3 => absurd c3 (by decide), fun _ => ?_⟩
      conv => whnf
      refine ⟨vx_172 hX _, ?_⟩
      conv => whnf
      simp only [m_ui_ap, m_fil_ap, m_cpy_ap, Nat.reduceEqDiff, Nat.reduceLT, Nat.reduceLeDiff, eq_self, ↓reduceIte, false_and, and_false, true_and, and_true, and_self, nI_1]
      refine ⟨fun c3 => absurd c3 (nI_m4 (by omega)), fun c3 => ?_⟩
      conv => whnf
      refine ⟨vx_172 hX _, ?_⟩
      conv => whnf
      simp only [m_ui_ap, m_fil_ap, m_cpy_ap, Nat.reduceEqDiff, Nat.reduceLT, Nat.reduceLeDiff, eq_self, ↓reduceIte, false_and, and_false, true_and, and_true, and_self, nI_1]
      refine sx_pb0_lp hd hm hc0 H k (i + 1) _ _ _ _ _ _ (by omega) rfl (XI_ui hX (Or.inr (inr_n (m := 40) (by omega) rfl (by decide)))) (fx_ui (by decide) (by decide) hF) ⟨q + 1, by omega, rfl⟩ (fun j hj => ?_)
      rw [m_ui_ap, if_pos rfl]
      split
      · exact Or.inr ⟨q + 1, by omega, rfl⟩
      · exact (hN j hj).imp id (fun ⟨r, h1, h2⟩ => ⟨r, by omega, h2⟩)
/-- before the first edition nothing has a number -/
def EI (f : Nat → Nat → Int32) : Prop := f 168 7 = 0 → ∀ j, j < 40 → f 169 j = -4
theorem EI_kp {l : List Nat} {f f' : Nat → Nat → Int32} (h : EI f) (k : kp l f f') (hl : hasN l 7 = false) : EI f' := fun e j hj => by
  rw [k 169 j (by exact hl)]
  exact h ((k 168 7 (by exact hl)).symm.trans e) j hj
set_option maxRecDepth 100000 in
set_option maxHeartbeats 4000000 in
theorem sx_publish {d L : Nat} {f : Nat → Nat → Int32} {g : Nat → Nat → Int64} {q : Nat} {R : Option Value → mH → Prop} (hd : 4 ≤ d) (hX : XI f) (hE : EI f) (hc : f 168 7 = nI q) (hq9 : q < 9) (H : ∀ v f' g', XI f' → fx 168 173 f f' → ¬ f' 168 7 = 0 → R (some (.int v)) (shF L, f', g')) : Run mtab d 14 [.ref 168] (shF L, f, g) R := by
  obtain ⟨d, rfl⟩ : ∃ e, d = e + 1 := ⟨d - 1, by omega⟩
  refine go_X1_publish rfl ?_
  conv => whnf
  refine sx_sortThoseIn (by omega) hX (fun n f1 g1 hn h1 k1 => ?_)
  conv => whnf
  have hc1 : f1 168 7 = nI q := (k1 168 7 (by omega)).trans hc
  have H' : ∀ v f' g', XI f' → fx 168 173 f1 f' → ¬ f' 168 7 = 0 → R (some (.int v)) (shF L, f', g') := fun v f' g' a b c => H v f' g' a (fx_trans (fx_wide k1 (by decide) (by decide)) b) c
  by_cases hz : q = 0
  · subst hz
    have hz1 : f1 168 7 = 0 := hc1
    exact sx_pb0_lp (by omega) hn hz1 H' n 0 _ _ _ _ _ _ (by omega) rfl h1 (fx_refl _ _ _) ⟨0, by omega, rfl⟩ (fun j hj => Or.inl ((k1 169 j (by omega)).trans (hE hc j hj)))
  · exact sx_pbN_lp (by omega) hn hc1 hz hq9 H' n 0 _ _ _ _ _ _ (by omega) rfl h1 (fx_refl _ _ _) (show inr 0 40 0 by unfold inr; decide)
set_option maxRecDepth 100000 in
set_option maxHeartbeats 4000000 in
theorem sx_edition {d L : Nat} {f : Nat → Nat → Int32} {g : Nat → Nat → Int64}  {R : Option Value → mH → Prop} (hd : 8 ≤ d) (hX : XI f) (hE : EI f) (H : ∀ v f' g', XI f' → kp [0, 7] f f' → EI f' → R (some (.int v)) (shF L, f', g')) : Run mtab d 127 [.ref 5] (shF L, f, g) R := by
  obtain ⟨d, rfl⟩ : ∃ e, d = e + 1 := ⟨d - 1, by omega⟩
  refine go_X10_edition rfl ?_
  conv => whnf
  obtain ⟨q, hq, hc⟩ := inr_nat (n := 9) rfl (xi_168 hX 7)
  simp only [hc]
  by_cases e9 : q = 9
  · subst e9
    refine ⟨fun c => absurd (by decide) c, fun c => ?_⟩
    conv => whnf
    exact H _ _ _ hX (kp_refl _ _) hE
  · refine ⟨fun c => ?_, fun c => absurd ((nI_eq (b := 9) (by omega) (by decide)).mp c) e9⟩
    conv => whnf
    refine sx_reckon (by omega) hX (fun f1 g1 h1 k1 => ?_)
    conv => whnf
    refine sx_publish (q := q) (by omega) h1 (EI_kp hE k1 rfl) ((k1 168 7 rfl).trans hc) (by omega) (fun v f2 g2 h2 k2 z2 => ?_)
    conv => whnf
    exact H _ _ _ h2 (kp_trans (kp_wd k1 rfl) (kp_fx k2 rfl)) (fun e => absurd e z2)
theorem nI_m6 (m : Nat) : nI m * 6 = nI (m * 6) := (Int32.ofNat_mul m 6).symm
theorem nI_k (a k : Nat) (c : Int32) (hc : c = nI k) : nI a + c = nI (a + k) := by rw [hc, nI_add]
theorem hd_at {l w : Int32} {m : Nat} (hm : m ≤ 10) (hl : inr (-1) 60 l) (h1 : ¬ w < 0) (h2 : ¬ l - nI (m * 6) < w) : ∃ a, w = nI a ∧ a + 6 * m ≤ 60 := by
  obtain ⟨a, ha, rfl⟩ := nI_of h1
  have p := Int32.le_iff_toInt_le.mp hl.1
  have q := Int32.le_iff_toInt_le.mp hl.2
  have e1 : (-1 : Int32).toInt = -1 := rfl
  have e2 : (60 : Int32).toInt = 60 := rfl
  have hs : (l - nI (m * 6)).toInt = l.toInt - (m * 6 : Nat) := by
    rw [Int32.toInt_sub, nI_toInt (by omega)]
    exact Int.bmod_eq_of_le (by omega) (by omega)
  rw [Int32.lt_iff_toInt_lt, hs, nI_toInt ha] at h2
  exact ⟨a, rfl, by omega⟩
set_option maxRecDepth 100000 in
set_option maxHeartbeats 4000000 in
theorem hd2_lp {d L m a s : Nat} {f0 : Nat → Nat → Int32} {x1 x2 x3 x4 x5 e : Int32} {R : Option Value → mH → Prop} (hd : 5 ≤ d) (hs : s < 4) (ha : a + 6 * m ≤ 60) (he : e = nI (a + 6 * m)) (HF : ∀ v f' g', XI f' → fx 100 107 f0 f' → R (some (.int v)) (shF L, f', g')) :
    ∀ (k i : Nat) (x : Int32) (f : Nat → Nat → Int32) (g : Nat → Nat → Int64), i + k = m → x = nI (a + 6 * i) → XI f → fx 100 107 f0 f → WPe pg_X10_holdings none (Run mtab d) R (m_drop pg_X10_holdings 90) [some (.ref 5), some (.int x1), some (.int x2), some (.int x3), some (.int x4), some (.int x5), some (.ref (175 + s)), some (.int e), some (.int x)] [] (shF L, f, g)
  | 0, i, x, f, g, hi, hx, hX, hF => by
    have e9 : i = m := by omega
    subst hx
    subst e9
    subst he
    refine at_X10_holdings ?_
    conv => whnf
    refine ⟨fun c => ?_, fun c => absurd (nI_le (Nat.le_refl _) (by omega)) c⟩
    conv => whnf
    repeat' first
      | ((with_reducible refine ⟨vp_in_nI (by omega) (by decide), ?_⟩) <;> conv => whnf)
      | (refine ⟨Or.inl rfl, ?_⟩ <;> conv => whnf)
      | (refine ⟨Or.inr rfl, ?_⟩ <;> conv => whnf)
      | (refine ⟨Or.inl True.intro, ?_⟩ <;> conv => whnf)
      | (refine ⟨Or.inr True.intro, ?_⟩ <;> conv => whnf)
      | (refine ⟨fun c => ?_, fun c => ?_⟩ <;> first | ((have c9 : (1 : Int32) = 0 := by with_reducible exact c); exact absurd c9 (by decide)) | exact absurd (rfl : (0 : Int32) = 0) (by with_reducible exact c) | exact absurd True.intro (by with_reducible exact c) | exact False.elim (by with_reducible exact c) | (conv => whnf))
      | (refine ⟨by unfold vp_in; decide, ?_⟩ <;> conv => whnf)
      | fail
    all_goals exact HF _ _ _ hX hF
  | k + 1, i, x, f, g, hi, hx, hX, hF => by
    subst hx
    subst he
    have hshp := shp_174 L s hs
    refine at_X10_holdings ?_
    conv => whnf
    refine ⟨fun c => absurd c (nI_ge (by omega) (by omega)), fun c => ?_⟩
    conv => whnf
    repeat' first
      | exact hd2_lp hd hs ha rfl HF k (i + 1) _ _ _ (by omega) (congrArg nI (by omega)) h1 (fx_trans hF k1)
      | ((with_reducible refine ⟨vp_in_nI (by omega) (by decide), ?_⟩) <;> conv => whnf)
      | (simp only [nI_1, nI_k _ 2 2 rfl, nI_k _ 3 3 rfl, nI_k _ 4 4 rfl, nI_k _ 5 5 rfl, nI_k _ 6 6 rfl])
      | ((with_reducible refine ⟨vp_in_nI (by omega) (by decide), ?_⟩) <;> conv => whnf)
      | (refine ⟨Or.inl rfl, ?_⟩ <;> conv => whnf)
      | (refine ⟨Or.inr rfl, ?_⟩ <;> conv => whnf)
      | (refine ⟨Or.inl True.intro, ?_⟩ <;> conv => whnf)
      | (refine ⟨Or.inr True.intro, ?_⟩ <;> conv => whnf)
      | (refine ⟨fun c => ?_, fun c => ?_⟩ <;> first | ((have c9 : (1 : Int32) = 0 := by with_reducible exact c); exact absurd c9 (by decide)) | exact absurd (rfl : (0 : Int32) = 0) (by with_reducible exact c) | exact absurd True.intro (by with_reducible exact c) | exact False.elim (by with_reducible exact c) | (conv => whnf))
      | (refine sx_Oadd (by omega) hX (fun v f1 g1 h1 k1 => ?_) <;> conv => whnf)
      | ((simp only [m_act_eq, mi, mj, m_act0, m_arr2, m_arr, hshp]) <;> conv => whnf)
      | (refine ⟨by unfold vp_in; decide, ?_⟩ <;> conv => whnf)
      | fail
    all_goals fail
set_option maxRecDepth 100000 in
set_option maxHeartbeats 4000000 in
theorem hd1_lp {d L m a s : Nat} {f : Nat → Nat → Int32} {g : Nat → Nat → Int64} {x1 x2 x3 x4 x5 e : Int32} {R : Option Value → mH → Prop} (hd : 5 ≤ d) (hX : XI f) (hs : s < 4) (ha : a + 6 * m ≤ 60) (he : e = nI (a + 6 * m)) (HR : ∀ v, R (some (.int v)) (shF L, f, g)) (HE : WPe pg_X10_holdings none (Run mtab d) R (m_drop pg_X10_holdings 90) [some (.ref 5), some (.int x1), some (.int x2), some (.int x3), some (.int x4), some (.int x5), some (.ref (175 + s)), some (.int e), some (.int x3)] [] (shF L, f, g)) :
    ∀ (k i : Nat) (x : Int32), i + k = m → x = nI (a + 6 * i) → WPe pg_X10_holdings none (Run mtab d) R (m_drop pg_X10_holdings 41) [some (.ref 5), some (.int x1), some (.int x2), some (.int x3), some (.int x4), some (.int x5), some (.ref (175 + s)), some (.int e), some (.int x)] [] (shF L, f, g)
  | 0, i, x, hi, hx => by
    have e9 : i = m := by omega
    subst hx
    subst e9
    subst he
    refine at_X10_holdings ?_
    conv => whnf
    refine ⟨fun c => ?_, fun c => absurd (nI_le (Nat.le_refl _) (by omega)) c⟩
    conv => whnf
    repeat' first
      | exact HE
      | ((with_reducible refine ⟨vp_in_nI (by omega) (by decide), ?_⟩) <;> conv => whnf)
      | (refine ⟨Or.inl rfl, ?_⟩ <;> conv => whnf)
      | (refine ⟨Or.inr rfl, ?_⟩ <;> conv => whnf)
      | (refine ⟨Or.inl True.intro, ?_⟩ <;> conv => whnf)
      | (refine ⟨Or.inr True.intro, ?_⟩ <;> conv => whnf)
      | (refine ⟨fun c => ?_, fun c => ?_⟩ <;> first | ((have c9 : (1 : Int32) = 0 := by with_reducible exact c); exact absurd c9 (by decide)) | exact absurd (rfl : (0 : Int32) = 0) (by with_reducible exact c) | exact absurd True.intro (by with_reducible exact c) | exact False.elim (by with_reducible exact c) | (conv => whnf))
      | (refine ⟨by unfold vp_in; decide, ?_⟩ <;> conv => whnf)
      | fail
    all_goals exact HR _
  | k + 1, i, x, hi, hx => by
    subst hx
    subst he
    have hshp := shp_174 L s hs
    refine at_X10_holdings ?_
    conv => whnf
    refine ⟨fun c => absurd c (nI_ge (by omega) (by omega)), fun c => ?_⟩
    conv => whnf
    repeat' first
      | exact hd1_lp hd hX hs ha rfl HR HE k (i + 1) _ (by omega) (congrArg nI (by omega))
      | ((with_reducible refine ⟨vp_in_nI (by omega) (by decide), ?_⟩) <;> conv => whnf)
      | (simp only [nI_1, nI_k _ 2 2 rfl, nI_k _ 3 3 rfl, nI_k _ 4 4 rfl, nI_k _ 5 5 rfl, nI_k _ 6 6 rfl])
      | ((with_reducible refine ⟨vp_in_nI (by omega) (by decide), ?_⟩) <;> conv => whnf)
      | (refine ⟨Or.inl rfl, ?_⟩ <;> conv => whnf)
      | (refine ⟨Or.inr rfl, ?_⟩ <;> conv => whnf)
      | (refine ⟨Or.inl True.intro, ?_⟩ <;> conv => whnf)
      | (refine ⟨Or.inr True.intro, ?_⟩ <;> conv => whnf)
      | (refine ⟨fun c => ?_, fun c => ?_⟩ <;> first | ((have c9 : (1 : Int32) = 0 := by with_reducible exact c); exact absurd c9 (by decide)) | exact absurd (rfl : (0 : Int32) = 0) (by with_reducible exact c) | exact absurd True.intro (by with_reducible exact c) | exact False.elim (by with_reducible exact c) | (conv => whnf))
      | (refine sx_isHoldingWell (by omega) hX (fun v hv => ?_) <;> conv => whnf)
      | ((simp only [m_act_eq, mi, mj, m_act0, m_arr2, m_arr, hshp]) <;> conv => whnf)
      | (refine ⟨by unfold vp_in; decide, ?_⟩ <;> conv => whnf)
      | fail
    all_goals first | exact HR _ | fail
set_option maxRecDepth 100000 in
set_option maxHeartbeats 4000000 in
theorem sx_holdings {d L : Nat} {f : Nat → Nat → Int32} {g : Nat → Nat → Int64} {x1 x2 x3 x4 : Int32} {R : Option Value → mH → Prop} (hd : 8 ≤ d) (hX : XI f) (H : ∀ v f' g', XI f' → kp [2] f f' → R (some (.int v)) (shF L, f', g')) : Run mtab d 133 [.ref 5, .int x1, .int x2, .int x3, .int x4] (shF L, f, g) R := by
  obtain ⟨d, rfl⟩ : ∃ e, d = e + 1 := ⟨d - 1, by omega⟩
  refine go_X10_holdings rfl ?_
  conv => whnf
  by_cases q : inr 0 3 x1
  · by_cases q2 : inr 0 10 x4
    · obtain ⟨m, hm, rfl⟩ := inr_nat (n := 10) rfl q2
      refine ct_isSheet (by omega) (fun _ => ?_) (fun p => absurd q p)
      conv => whnf
      refine ⟨fun c => absurd c (by decide), fun _ => ?_⟩
      conv => whnf
      refine ct_isLane (by omega) (fun p => ?_) (fun p => ?_)
      · conv => whnf
        refine ⟨fun c => absurd c (by decide), fun _ => ?_⟩
        conv => whnf
        refine ct_isWithin (by omega) (fun _ => ?_) (fun p => absurd q2 p)
        conv => whnf
        refine ⟨fun _ => ?_, fun c => absurd c (by decide)⟩
        conv => whnf
        simp only [nI_m6]
        refine sx_refuse (by omega) hX q (fun v hv => ?_) (fun r1 r2 => ?_)
        · conv => whnf
          refine ⟨fun c => absurd c hv, fun _ => ?_⟩
          conv => whnf
          exact H _ _ _ hX (kp_refl _ _)
        · conv => whnf
          refine ⟨fun _ => ?_, fun c => absurd (by decide) c⟩
          obtain ⟨a, rfl, ha⟩ := hd_at hm (xi_180 hX _) r1 r2
          have fin : ∀ s, s < 4 → WPe pg_X10_holdings none (Run mtab d) R (m_drop pg_X10_holdings 41) [some (.ref 5), some (.int x1), some (.int x2), some (.int (nI a)), some (.int (nI m)), some (.int 0), some (.ref (175 + s)), some (.int (nI a + nI m * 6)), some (.int (nI a))] [] (shF L, f, g) := fun s hs => by
            refine hd1_lp (m := m) (a := a) (by omega) hX hs ha (by rw [nI_m6, nI_add]; congr 1; omega) (fun v => H v f g hX (kp_refl _ _)) ?_ m 0 _ (by omega) rfl
            exact hd2_lp (m := m) (a := a) (by omega) hs ha (by rw [nI_m6, nI_add]; congr 1; omega) (fun v f' g' h1 h2 => H v f' g' h1 (kp_fx h2 rfl)) m 0 _ _ _ (by omega) rfl hX (fx_refl _ _ _)
          rcases inr_c3 q with rfl | rfl | rfl | rfl
          · conv => whnf
            refine ⟨⟨by unfold vp_in; decide, by decide, by decide⟩, ?_⟩
            exact fin 0 (by decide)
          · conv => whnf
            refine ⟨⟨by unfold vp_in; decide, by decide, by decide⟩, ?_⟩
            exact fin 1 (by decide)
          · conv => whnf
            refine ⟨⟨by unfold vp_in; decide, by decide, by decide⟩, ?_⟩
            exact fin 2 (by decide)
          · conv => whnf
            refine ⟨⟨by unfold vp_in; decide, by decide, by decide⟩, ?_⟩
            exact fin 3 (by decide)
      · conv => whnf
        refine ⟨fun _ => ?_, fun c => absurd (by decide) c⟩
        conv => whnf
        exact H _ _ _ hX (kp_refl _ _)
    · repeat' first
        | exact absurd ‹inr 0 10 x4› q2
        | ((with_reducible refine ⟨vp_in_nI (by omega) (by decide), ?_⟩) <;> conv => whnf)
        | (refine ⟨Or.inl rfl, ?_⟩ <;> conv => whnf)
        | (refine ⟨Or.inr rfl, ?_⟩ <;> conv => whnf)
        | (refine ⟨Or.inl True.intro, ?_⟩ <;> conv => whnf)
        | (refine ⟨Or.inr True.intro, ?_⟩ <;> conv => whnf)
        | (refine ⟨fun c => ?_, fun c => ?_⟩ <;> first | ((have c9 : (1 : Int32) = 0 := by with_reducible exact c); exact absurd c9 (by decide)) | exact absurd (rfl : (0 : Int32) = 0) (by with_reducible exact c) | exact absurd True.intro (by with_reducible exact c) | exact False.elim (by with_reducible exact c) | (conv => whnf))
        | (refine ct_isWithin (by omega) (fun p => ?_) (fun p => ?_) <;> conv => whnf)
        | (refine ct_isYear (by omega) (fun p => ?_) (fun p => ?_) <;> conv => whnf)
        | (refine ct_isSide (by omega) (fun p => ?_) (fun p => ?_) <;> conv => whnf)
        | (refine ct_isTitle (by omega) (fun p => ?_) (fun p => ?_) <;> conv => whnf)
        | (refine ct_isBits8 (by omega) (fun p => ?_) (fun p => ?_) <;> conv => whnf)
        | (refine ct_isBits20 (by omega) (fun p => ?_) (fun p => ?_) <;> conv => whnf)
        | (refine ct_isBits30 (by omega) (fun p => ?_) (fun p => ?_) <;> conv => whnf)
        | (refine ct_isToldWell (by omega) (fun p => ?_) (fun p => ?_) <;> conv => whnf)
        | (refine ct_isSheet (by omega) (fun p => ?_) (fun p => ?_) <;> conv => whnf)
        | (refine ct_isLane (by omega) (fun p => ?_) (fun p => ?_) <;> conv => whnf)
        | (refine ⟨by unfold vp_in; decide, ?_⟩ <;> conv => whnf)
        | fail
      all_goals exact H _ _ _ hX (kp_refl _ _)
  · repeat' first
      | exact absurd ‹inr 0 3 x1› q
      | ((with_reducible refine ⟨vp_in_nI (by omega) (by decide), ?_⟩) <;> conv => whnf)
      | (refine ⟨Or.inl rfl, ?_⟩ <;> conv => whnf)
      | (refine ⟨Or.inr rfl, ?_⟩ <;> conv => whnf)
      | (refine ⟨Or.inl True.intro, ?_⟩ <;> conv => whnf)
      | (refine ⟨Or.inr True.intro, ?_⟩ <;> conv => whnf)
      | (refine ⟨fun c => ?_, fun c => ?_⟩ <;> first | ((have c9 : (1 : Int32) = 0 := by with_reducible exact c); exact absurd c9 (by decide)) | exact absurd (rfl : (0 : Int32) = 0) (by with_reducible exact c) | exact absurd True.intro (by with_reducible exact c) | exact False.elim (by with_reducible exact c) | (conv => whnf))
      | (refine ct_isWithin (by omega) (fun p => ?_) (fun p => ?_) <;> conv => whnf)
      | (refine ct_isYear (by omega) (fun p => ?_) (fun p => ?_) <;> conv => whnf)
      | (refine ct_isSide (by omega) (fun p => ?_) (fun p => ?_) <;> conv => whnf)
      | (refine ct_isTitle (by omega) (fun p => ?_) (fun p => ?_) <;> conv => whnf)
      | (refine ct_isBits8 (by omega) (fun p => ?_) (fun p => ?_) <;> conv => whnf)
      | (refine ct_isBits20 (by omega) (fun p => ?_) (fun p => ?_) <;> conv => whnf)
      | (refine ct_isBits30 (by omega) (fun p => ?_) (fun p => ?_) <;> conv => whnf)
      | (refine ct_isToldWell (by omega) (fun p => ?_) (fun p => ?_) <;> conv => whnf)
      | (refine ct_isSheet (by omega) (fun p => ?_) (fun p => ?_) <;> conv => whnf)
      | (refine ct_isLane (by omega) (fun p => ?_) (fun p => ?_) <;> conv => whnf)
      | (refine ⟨by unfold vp_in; decide, ?_⟩ <;> conv => whnf)
      | fail
    all_goals exact H _ _ _ hX (kp_refl _ _)
def wadd (f : Nat → Nat → Int32) (n : Nat) (kind of h w t lo hi : Int32) : Nat → Nat → Int32 := (m_ui (m_ui (m_ui (m_ui (m_ui (m_ui (m_ui (m_ui (m_ui (m_ui f 7 n kind) 8 n of) 9 n h) 10 n w) 11 n lo) 12 n hi) (15 + n) 0 t) 96 n 1) 97 n 2000) 6 13 (nI n + 1))
def wtit (f : Nat → Nat → Int32) (j q : Nat) (y t : Int32) : Nat → Nat → Int32 := (m_ui (m_ui (m_ui f (15 + j) q t) (56 + j) q y) 96 j (nI q + 1))
def wcut (f : Nat → Nat → Int32) (j : Nat) (y h w : Int32) : Nat → Nat → Int32 := (m_ui (m_ui (m_ui f 97 j y) 98 j h) 99 j w)
theorem okv_r {a i : Nat} {v : Int32} (h : 15 ≤ a) (h' : a < 96) : okv a i v := by
  unfold okv
  repeat rw [if_neg (by omega)]
  trivial
theorem ne_r {j a : Nat} (h : a < 15 ∨ 96 ≤ a) (hj : j < 40) : ¬ a = 15 + j ∧ ¬ a = 56 + j ∧ ¬ 15 + j = a ∧ ¬ 56 + j = a := by omega
theorem m_ui_ne {f : Nat → Nat → Int32} {k j : Nat} {v : Int32} {a i : Nat} (h : ¬ a = k) : m_ui f k j v a i = f a i := by rw [m_ui_ap, if_neg h]
theorem m_ui_r {n : Nat} (hn : n < 40) {f : Nat → Nat → Int32} {j : Nat} {v : Int32} {i : Nat} : m_ui f (15 + n) j v 6 i = f 6 i := m_ui_ne (by omega)
set_option maxRecDepth 100000 in
set_option maxHeartbeats 4000000 in
theorem sx_Wadd {d L : Nat} {f : Nat → Nat → Int32} {g : Nat → Nat → Int64} {n : Nat} {x1 x2 x3 x4 x5 x6 x7 : Int32} {R : Option Value → mH → Prop} (hd : 1 ≤ d) (hb : f 6 13 = nI n) (hm : n ≤ 40) (HF : n = 40 → R (some (.int (-3))) (shF L, f, g)) (H : n < 40 → R (some (.int (nI n))) (shF L, wadd f n x1 x2 x3 x4 x5 x6 x7, g)) : Run mtab d 70 [.ref 6, .int x1, .int x2, .int x3, .int x4, .int x5, .int x6, .int x7] (shF L, f, g) R := by
  obtain ⟨d, rfl⟩ : ∃ e, d = e + 1 := ⟨d - 1, by omega⟩
  refine go_X8_add rfl ?_
  conv => whnf
  by_cases hq : n = 40
  · subst hq
    repeat' first
      | (simp only [hb])
      | ((with_reducible refine ⟨vp_in_nI (by omega) (by decide), ?_⟩) <;> conv => whnf)
      | (refine ⟨Or.inl rfl, ?_⟩ <;> conv => whnf)
      | (refine ⟨Or.inr rfl, ?_⟩ <;> conv => whnf)
      | (refine ⟨Or.inl True.intro, ?_⟩ <;> conv => whnf)
      | (refine ⟨Or.inr True.intro, ?_⟩ <;> conv => whnf)
      | (refine ⟨fun c => ?_, fun c => ?_⟩ <;> first | ((have c9 : (1 : Int32) = 0 := by with_reducible exact c); exact absurd c9 (by decide)) | exact absurd (rfl : (0 : Int32) = 0) (by with_reducible exact c) | exact absurd True.intro (by with_reducible exact c) | exact False.elim (by with_reducible exact c) | exact absurd (by decide) c | (conv => whnf))
      | (refine ⟨by unfold vp_in; decide, ?_⟩ <;> conv => whnf)
      | fail
    all_goals exact HF rfl
  · have hlt : n < 40 := by omega
    have hcl : (nI n).toNatClampNeg = n := nI_clamp (by omega)
    repeat' first
      | (simp only [hb, m_ui_r hlt, m_ui_ap, m_fil_ap, m_cpy_ap, Nat.reduceEqDiff, Nat.reduceLT, Nat.reduceLeDiff, eq_self, ↓reduceIte, false_and, and_false, true_and, and_true, and_self])
      | ((with_reducible refine ⟨vp_in_nI (by omega) (by decide), ?_⟩) <;> conv => whnf)
      | (refine ⟨Or.inl rfl, ?_⟩ <;> conv => whnf)
      | (refine ⟨Or.inr rfl, ?_⟩ <;> conv => whnf)
      | (refine ⟨Or.inl True.intro, ?_⟩ <;> conv => whnf)
      | (refine ⟨Or.inr True.intro, ?_⟩ <;> conv => whnf)
      | (refine ⟨fun c => ?_, fun c => ?_⟩ <;> first | ((have c9 : (1 : Int32) = 0 := by with_reducible exact c); exact absurd c9 (by decide)) | exact absurd (rfl : (0 : Int32) = 0) (by with_reducible exact c) | exact absurd True.intro (by with_reducible exact c) | exact False.elim (by with_reducible exact c) | exact absurd ((nI_eq (b := 40) (by omega) (by decide)).mp c) hq | (conv => whnf))
      | ((refine ⟨⟨vp_in_nI (by omega) (by decide), by rw [hcl]; show n < 40; omega, by rw [hcl, row_14 n hlt]; rfl⟩, ?_⟩) <;> simp only [hcl, row_14 n hlt, Option.getD_some] <;> conv => whnf)
      | ((simp only [m_act_eq, mi, mj, m_act0, m_arr2, m_arr, shp_14 L n hlt, shp_55 L n hlt]) <;> conv => whnf)
      | (refine ⟨by unfold vp_in; decide, ?_⟩ <;> conv => whnf)
      | fail
    all_goals (simp only [hcl]; exact H hlt)
set_option maxRecDepth 100000 in
set_option maxHeartbeats 4000000 in
theorem sx_addTitle {d L : Nat} {f : Nat → Nat → Int32} {g : Nat → Nat → Int64} {j q : Nat} {x2 x3 : Int32} {R : Option Value → mH → Prop} (hd : 1 ≤ d) (hj : j < 40) (hq : f 96 j = nI q) (hq1 : 1 ≤ q) (hq4 : q ≤ 4) (HN : x2 ≤ f (56 + j) (q - 1) → R (some (.int (-2))) (shF L, f, g)) (HF : ¬ x2 ≤ f (56 + j) (q - 1) → q = 4 → R (some (.int (-3))) (shF L, f, g)) (H : ¬ x2 ≤ f (56 + j) (q - 1) → q < 4 → R (some (.int (nI q + 1))) (shF L, wtit f j q x2 x3, g)) : Run mtab d 71 [.ref 6, .int (nI j), .int x2, .int x3] (shF L, f, g) R := by
  obtain ⟨d, rfl⟩ : ∃ e, d = e + 1 := ⟨d - 1, by omega⟩
  refine go_X8_addTitle rfl ?_
  conv => whnf
  have hcl : (nI j).toNatClampNeg = j := nI_clamp (by omega)
  have hclq : (nI q).toNatClampNeg = q := nI_clamp (by omega)
  have hclp : (nI (q - 1)).toNatClampNeg = q - 1 := nI_clamp (by omega)
  have hp1 : nI q - 1 = nI (q - 1) := by
    obtain ⟨k, rfl⟩ : ∃ k, q = k + 1 := ⟨q - 1, by omega⟩
    exact nI_pred k
  have hqq : f 96 (nI j).toNatClampNeg = nI q := by rw [hcl, hq]
  by_cases h4 : q = 4
  · subst h4
    repeat' first
      | ((with_reducible refine ⟨vp_in_nI (n := 4 - 1) (by omega) (by decide), ?_⟩) <;> conv => whnf)
      | (simp only [hqq, hp1, hclp])
      | ((with_reducible refine ⟨vp_in_nI (by omega) (by decide), ?_⟩) <;> conv => whnf)
      | (refine ⟨Or.inl rfl, ?_⟩ <;> conv => whnf)
      | (refine ⟨Or.inr rfl, ?_⟩ <;> conv => whnf)
      | (refine ⟨Or.inl True.intro, ?_⟩ <;> conv => whnf)
      | (refine ⟨Or.inr True.intro, ?_⟩ <;> conv => whnf)
      | (refine ⟨fun c => ?_, fun c => ?_⟩ <;> first | ((have c9 : (1 : Int32) = 0 := by with_reducible exact c); exact absurd c9 (by decide)) | exact absurd (rfl : (0 : Int32) = 0) (by with_reducible exact c) | exact absurd True.intro (by with_reducible exact c) | exact False.elim (by with_reducible exact c) | exact absurd (by decide) c | (conv => whnf))
      | ((refine ⟨⟨vp_in_nI (by omega) (by decide), by rw [hcl]; show j < 40; omega, by rw [hcl, row_14 j hj]; rfl⟩, ?_⟩) <;> simp only [hcl, row_14 j hj, Option.getD_some] <;> conv => whnf)
      | ((refine ⟨⟨vp_in_nI (by omega) (by decide), by rw [hcl]; show j < 40; omega, by rw [hcl, row_55 j hj]; rfl⟩, ?_⟩) <;> simp only [hcl, row_55 j hj, Option.getD_some] <;> conv => whnf)
      | ((simp only [m_act_eq, mi, mj, m_act0, m_arr2, m_arr, shp_14 L j hj, shp_55 L j hj]) <;> conv => whnf)
      | (refine ⟨by unfold vp_in; decide, ?_⟩ <;> conv => whnf)
      | fail
    all_goals (first | exact HN (i32_nlt.mp ‹_›) | exact HF (i32_nle.mpr ‹_›) rfl | exact HN (by assumption) | exact HF (by assumption) rfl)
  · have hlt4 : q < 4 := by omega
    repeat' first
      | (simp only [hqq, hp1, hclp])
      | ((with_reducible refine ⟨vp_in_nI (by omega) (by decide), ?_⟩) <;> conv => whnf)
      | (refine ⟨Or.inl rfl, ?_⟩ <;> conv => whnf)
      | (refine ⟨Or.inr rfl, ?_⟩ <;> conv => whnf)
      | (refine ⟨Or.inl True.intro, ?_⟩ <;> conv => whnf)
      | (refine ⟨Or.inr True.intro, ?_⟩ <;> conv => whnf)
      | (refine ⟨fun c => ?_, fun c => ?_⟩ <;> first | ((have c9 : (1 : Int32) = 0 := by with_reducible exact c); exact absurd c9 (by decide)) | exact absurd (rfl : (0 : Int32) = 0) (by with_reducible exact c) | exact absurd True.intro (by with_reducible exact c) | exact False.elim (by with_reducible exact c) | exact absurd ((nI_eq (b := 4) (by omega) (by decide)).mp c) h4 | (conv => whnf))
      | ((refine ⟨⟨vp_in_nI (by omega) (by decide), by rw [hcl]; show j < 40; omega, by rw [hcl, row_14 j hj]; rfl⟩, ?_⟩) <;> simp only [hcl, row_14 j hj, Option.getD_some] <;> conv => whnf)
      | ((refine ⟨⟨vp_in_nI (by omega) (by decide), by rw [hcl]; show j < 40; omega, by rw [hcl, row_55 j hj]; rfl⟩, ?_⟩) <;> simp only [hcl, row_55 j hj, Option.getD_some] <;> conv => whnf)
      | ((simp only [m_act_eq, mi, mj, m_act0, m_arr2, m_arr, shp_14 L j hj, shp_55 L j hj]) <;> conv => whnf)
      | (refine ⟨by unfold vp_in; decide, ?_⟩ <;> conv => whnf)
      | fail
    all_goals (try simp only [hclq, hcl]) <;> (first | exact HN (i32_nlt.mp ‹_›) | exact H (i32_nle.mpr ‹_›) hlt4 | exact HN (by assumption) | exact H (by assumption) hlt4)
set_option maxRecDepth 100000 in
set_option maxHeartbeats 4000000 in
theorem sx_trim {d L : Nat} {f : Nat → Nat → Int32} {g : Nat → Nat → Int64} {j : Nat} {x2 x3 x4 : Int32} {R : Option Value → mH → Prop} (hd : 1 ≤ d) (hj : j < 40) (H0 : ¬ (f 97 j = 2000 ∧ x3 ≤ f 9 j ∧ x4 ≤ f 10 j ∧ ¬ (x3 = f 9 j ∧ x4 = f 10 j)) → R (some (.int (-2))) (shF L, f, g)) (H1 : (f 97 j = 2000 ∧ x3 ≤ f 9 j ∧ x4 ≤ f 10 j ∧ ¬ (x3 = f 9 j ∧ x4 = f 10 j)) → R (some (.int 1)) (shF L, wcut f j x2 x3 x4, g)) : Run mtab d 72 [.ref 6, .int (nI j), .int x2, .int x3, .int x4] (shF L, f, g) R := by
  obtain ⟨d, rfl⟩ : ∃ e, d = e + 1 := ⟨d - 1, by omega⟩
  refine go_X8_trim rfl ?_
  conv => whnf
  have hcl : (nI j).toNatClampNeg = j := nI_clamp (by omega)
  repeat' first
    | (simp only [hcl])
    | ((with_reducible refine ⟨vp_in_nI (by omega) (by decide), ?_⟩) <;> conv => whnf)
    | (refine ⟨Or.inl rfl, ?_⟩ <;> conv => whnf)
    | (refine ⟨Or.inr rfl, ?_⟩ <;> conv => whnf)
    | (refine ⟨Or.inl True.intro, ?_⟩ <;> conv => whnf)
    | (refine ⟨Or.inr True.intro, ?_⟩ <;> conv => whnf)
    | (refine ⟨fun c => ?_, fun c => ?_⟩ <;> first | ((have c9 : (1 : Int32) = 0 := by with_reducible exact c); exact absurd c9 (by decide)) | exact absurd (rfl : (0 : Int32) = 0) (by with_reducible exact c) | exact absurd True.intro (by with_reducible exact c) | exact False.elim (by with_reducible exact c) | (conv => whnf))
    | (refine ⟨by unfold vp_in; decide, ?_⟩ <;> conv => whnf)
    | fail
  all_goals first | exact H0 (by simp only [← i32_nle] at *; grind) | exact H1 (by simp only [← i32_nle] at *; grind)
