def edn (x : Int32) : Int32 := if x = 9 then 9 else x + 1
theorem edn_9 {x : Int32} (h : x = 9) : x = edn x := by
  unfold edn
  rw [if_pos h]
  exact h
theorem edn_n {x : Int32} (h : ¬ x = 9) : edn x = x + 1 := by
  unfold edn
  rw [if_neg h]
set_option maxRecDepth 100000 in
set_option maxHeartbeats 4000000 in
theorem sx_pbNb_lp {d L n : Nat} {f0 : Nat → Nat → Int32} {q : Nat} {R : Option Value → mH → Prop} (hd : 1 ≤ d) (hm : n ≤ 40) (hc0 : f0 168 7 = nI q) (hq0 : ¬ q = 0) (hq9 : q < 9) (H : ∀ v f' g', XI f' → fx 168 173 f0 f' → f' 168 7 = f0 168 7 + 1 → R (some (.int v)) (shF L, f', g'))  :
    ∀ (k i : Nat) (x : Int32) (a : Int32) (b : Int32) (s5 : Option Value) (f : Nat → Nat → Int32) (g : Nat → Nat → Int64), i + k = n → x = nI i → XI f → fx 169 172 f0 f → inr 0 40 b → WPe pg_X1_publish none (Run mtab d) R (m_drop pg_X1_publish 9) [some (.ref 168), some (.int (nI n)), some (.int a), some (.int b), some (.int x), s5] [] (shF L, f, g)
  | 0, i, x, a, b, s5, f, g, he, hx, hX, hF, hb => by
    have e : i = n := by omega
    subst hx
    have hcn : f 168 7 = nI q := (hF 168 7 (by omega)).trans hc0
    have hnz : ¬ f 168 7 = 0 := by rw [hcn]; exact nI_nz hq0 (by omega)
    subst e
    refine at_X1_publish ?_
    conv => whnf
    try simp only [hcn]
    refine ⟨fun c => ?_, fun c => absurd (nI_le (Nat.le_refl _) (by omega)) c⟩
    conv => whnf
    repeat' first
      | (simp only [hcn])
      | ((with_reducible refine ⟨vp_in_nI (by omega) (by decide), ?_⟩) <;> conv => whnf)
      | (refine ⟨Or.inl rfl, ?_⟩ <;> conv => whnf)
      | (refine ⟨Or.inr rfl, ?_⟩ <;> conv => whnf)
      | (refine ⟨Or.inl True.intro, ?_⟩ <;> conv => whnf)
      | (refine ⟨Or.inr True.intro, ?_⟩ <;> conv => whnf)
      | (refine ⟨fun c => ?_, fun c => ?_⟩ <;> first | ((have c9 : (1 : Int32) = 0 := by with_reducible exact c); exact absurd c9 (by decide)) | exact absurd (rfl : (0 : Int32) = 0) (by with_reducible exact c) | exact absurd True.intro (by with_reducible exact c) | exact False.elim (by with_reducible exact c) | (conv => whnf))
      | (refine ⟨by unfold vp_in; decide, ?_⟩ <;> conv => whnf)
      | fail
    all_goals exact H _ _ _ (XI_ui hX (show inr 0 9 _ from inr_n1 (m := 9) (by omega) rfl (by decide))) (fx_ui (by decide) (by decide) (fx_wide hF (by decide) (by decide))) (by rw [m_ui_ap, if_pos rfl, if_pos rfl, hc0])
  | k + 1, i, x, a, b, s5, f, g, he, hx, hX, hF, hb => by
    subst hx
    have hcn : f 168 7 = nI q := (hF 168 7 (by omega)).trans hc0
    have hnz : ¬ f 168 7 = 0 := by rw [hcn]; exact nI_nz hq0 (by omega)
    refine at_X1_publish ?_
    conv => whnf
    try simp only [hcn]
    refine ⟨fun c => absurd c (nI_ge (b := n) (by omega) (by omega)), fun c => ?_⟩
    conv => whnf
    repeat' first
      | exact sx_pbNb_lp hd hm hc0 hq0 hq9 H k (i + 1) _ _ _ _ _ _ (by omega) (nI_1 i) (by repeat' first | (with_reducible assumption) | (with_reducible refine XI_ui ?_ ?_) | (with_reducible refine XI_fil ?_ (fun _ => ?_)) | (with_reducible refine XI_cpy ?_ (fun _ _ => ?_)) | exact True.intro | ((show inr _ _ _); first | (with_reducible assumption) | (unfold inr; decide)) | fail) (by repeat' first | (with_reducible exact fx_refl _ _ _) | (with_reducible assumption) | (with_reducible refine fx_ui ?_ ?_ ?_) | (with_reducible refine fx_fil ?_ ?_ ?_) | (with_reducible refine fx_cpy ?_ ?_ ?_) | omega | decide | fail) (by first | (with_reducible assumption) | exact (xi_169 hX _).resolve_left (by with_reducible assumption) | exact (xi_169 h1 _).resolve_left (by with_reducible assumption))
      | ((with_reducible refine ⟨vx_172 hX _, ?_⟩) <;> conv => whnf)
      | ((with_reducible refine ⟨vx_172 h1 _, ?_⟩) <;> conv => whnf)
      | (have hk7 := k1 172 (nI i).toNatClampNeg (by omega); simp only [← hk7]; fail)
      | (simp only [hcn])
      | ((with_reducible refine ⟨vp_in_nI (by omega) (by decide), ?_⟩) <;> conv => whnf)
      | (refine ⟨Or.inl rfl, ?_⟩ <;> conv => whnf)
      | (refine ⟨Or.inr rfl, ?_⟩ <;> conv => whnf)
      | (refine ⟨Or.inl True.intro, ?_⟩ <;> conv => whnf)
      | (refine ⟨Or.inr True.intro, ?_⟩ <;> conv => whnf)
      | (refine ⟨fun c => ?_, fun c => ?_⟩ <;> first | ((have c9 : (1 : Int32) = 0 := by with_reducible exact c); exact absurd c9 (by decide)) | exact absurd (rfl : (0 : Int32) = 0) (by with_reducible exact c) | exact absurd True.intro (by with_reducible exact c) | exact False.elim (by with_reducible exact c) | (conv => whnf))
      | (refine sx_giveN (by omega) hX (vx_172 hX _) hb hnz (fun v f1 g1 hv h1 k1 => ?_) <;> (have k1' := fx_trans hF k1) <;> conv => whnf)
      | (refine ⟨by unfold vp_in; decide, ?_⟩ <;> conv => whnf)
      | fail
    all_goals exact H _ _ _ (XI_ui hX (show inr 0 9 _ from inr_n1 (m := 9) (by omega) rfl (by decide))) (fx_ui (by decide) (by decide) (fx_wide hF (by decide) (by decide))) (by rw [m_ui_ap, if_pos rfl, if_pos rfl, hc0])
set_option maxRecDepth 100000 in
set_option maxHeartbeats 4000000 in
theorem sx_pb0b_lp {d L n : Nat} {f0 : Nat → Nat → Int32} {R : Option Value → mH → Prop} (hd : 1 ≤ d) (hm : n ≤ 40) (hc0 : f0 168 7 = 0) (H : ∀ v f' g', XI f' → fx 168 173 f0 f' → f' 168 7 = f0 168 7 + 1 → R (some (.int v)) (shF L, f', g')) :
    ∀ (k i : Nat) (x a b : Int32) (s5 : Option Value) (f : Nat → Nat → Int32) (g : Nat → Nat → Int64), i + k = n → x = nI i → XI f → fx 169 172 f0 f → (∃ q, q ≤ i ∧ b = nI q) → (∀ j, j < 40 → f 169 j = -4 ∨ ∃ q, q ≤ i ∧ f 169 j = nI q) → WPe pg_X1_publish none (Run mtab d) R (m_drop pg_X1_publish 9) [some (.ref 168), some (.int (nI n)), some (.int a), some (.int b), some (.int x), s5] [] (shF L, f, g)
  | 0, i, x, a, b, s5, f, g, he, hx, hX, hF, hb, hN => by
    have e : i = n := by omega
    subst hx
    subst e
    have hz : f 168 7 = 0 := (hF 168 7 (by omega)).trans hc0
    refine at_X1_publish ?_
    conv => whnf
    refine ⟨fun c => ?_, fun c => absurd (nI_le (Nat.le_refl _) (by omega)) c⟩
    conv => whnf
    simp only [hz]
    exact H _ _ _ (XI_ui hX (show inr 0 9 _ by unfold inr; decide)) (fx_ui (by decide) (by decide) (fx_wide hF (by decide) (by decide))) (by rw [m_ui_ap, if_pos rfl, if_pos rfl, hc0])
  | k + 1, i, x, a, b, s5, f, g, he, hx, hX, hF, hb, hN => by
    subst hx
    obtain ⟨q, hqi, rfl⟩ := hb
    have hz : f 168 7 = 0 := (hF 168 7 (by omega)).trans hc0
    refine at_X1_publish ?_
    conv => whnf
    refine ⟨fun c => absurd c (nI_ge (b := n) (by omega) (by omega)), fun c => ?_⟩
    conv => whnf
    refine ⟨vp_in_nI (by omega) (by decide), ?_⟩
    conv => whnf
    refine ⟨vx_172 hX _, ?_⟩
    conv => whnf
    refine ⟨fun c2 => ?_, fun c2 => ?_⟩
    · conv => whnf
      refine ⟨vx_172 hX _, ?_⟩
      conv => whnf
      refine ⟨fun c3 => absurd c3 c2, fun c3 => ?_⟩
      conv => whnf
      refine ⟨vx_172 hX _, ?_⟩
      conv => whnf
      obtain ⟨p, hp, ep⟩ := (hN (f 172 (nI i).toNatClampNeg).toNatClampNeg (vp_lt (vx_172 hX _))).resolve_left c2
      exact sx_pb0b_lp hd hm hc0 H k (i + 1) _ _ _ _ _ _ (by omega) (nI_1 i) hX hF ⟨p, by omega, ep⟩ (fun j hj => (hN j hj).imp id (fun ⟨r, h1, h2⟩ => ⟨r, by omega, h2⟩))
    · conv => whnf
      refine sx_give0 (by omega) (vx_172 hX _) hz ?_
      conv => whnf
      refine ⟨fun c3 => absurd c3 (by decide), fun _ => ?_⟩
      conv => whnf
      refine ⟨vx_172 hX _, ?_⟩
      conv => whnf
      simp only [m_ui_ap, m_fil_ap, m_cpy_ap, Nat.reduceEqDiff, Nat.reduceLT, Nat.reduceLeDiff, eq_self, ↓reduceIte, false_and, and_false, true_and, and_true, and_self, nI_1]
      refine ⟨fun c3 => absurd c3 (nI_m4 (by omega)), fun c3 => ?_⟩
      conv => whnf
      refine ⟨vx_172 hX _, ?_⟩
      conv => whnf
      simp only [m_ui_ap, m_fil_ap, m_cpy_ap, Nat.reduceEqDiff, Nat.reduceLT, Nat.reduceLeDiff, eq_self, ↓reduceIte, false_and, and_false, true_and, and_true, and_self, nI_1]
      refine sx_pb0b_lp hd hm hc0 H k (i + 1) _ _ _ _ _ _ (by omega) rfl (XI_ui hX (Or.inr (inr_n (m := 40) (by omega) rfl (by decide)))) (fx_ui (by decide) (by decide) hF) ⟨q + 1, by omega, rfl⟩ (fun j hj => ?_)
      rw [m_ui_ap, if_pos rfl]
      split
      · exact Or.inr ⟨q + 1, by omega, rfl⟩
      · exact (hN j hj).imp id (fun ⟨r, h1, h2⟩ => ⟨r, by omega, h2⟩)
set_option maxRecDepth 100000 in
set_option maxHeartbeats 4000000 in
theorem sf_publish {d L : Nat} {f : Nat → Nat → Int32} {g : Nat → Nat → Int64} {q : Nat} {R : Option Value → mH → Prop} (hd : 4 ≤ d) (hX : XI f) (hE : EI f) (hc : f 168 7 = nI q) (hq9 : q < 9) (H : ∀ v f' g', XI f' → fx 168 173 f f' → f' 168 7 = f 168 7 + 1 → R (some (.int v)) (shF L, f', g')) : Run mtab d 14 [.ref 168] (shF L, f, g) R := by
  obtain ⟨d, rfl⟩ : ∃ e, d = e + 1 := ⟨d - 1, by omega⟩
  refine go_X1_publish rfl ?_
  conv => whnf
  refine sx_sortThoseIn (by omega) hX (fun n f1 g1 hn h1 k1 => ?_)
  conv => whnf
  have hc1 : f1 168 7 = nI q := (k1 168 7 (by omega)).trans hc
  have H' : ∀ v f' g', XI f' → fx 168 173 f1 f' → f' 168 7 = f1 168 7 + 1 → R (some (.int v)) (shF L, f', g') := fun v f' g' a b c => H v f' g' a (fx_trans (fx_wide k1 (by decide) (by decide)) b) (c.trans (by rw [k1 168 7 (by omega)]))
  by_cases hz : q = 0
  · subst hz
    have hz1 : f1 168 7 = 0 := hc1
    exact sx_pb0b_lp (by omega) hn hz1 H' n 0 _ _ _ _ _ _ (by omega) rfl h1 (fx_refl _ _ _) ⟨0, by omega, rfl⟩ (fun j hj => Or.inl ((k1 169 j (by omega)).trans (hE hc j hj)))
  · exact sx_pbNb_lp (by omega) hn hc1 hz hq9 H' n 0 _ _ _ _ _ _ (by omega) rfl h1 (fx_refl _ _ _) (show inr 0 40 0 by unfold inr; decide)
set_option maxRecDepth 100000 in
set_option maxHeartbeats 4000000 in
theorem sf_edition {d L : Nat} {f : Nat → Nat → Int32} {g : Nat → Nat → Int64}  {R : Option Value → mH → Prop} (hd : 8 ≤ d) (hX : XI f) (hE : EI f) (H : ∀ v f' g', XI f' → kp [0, 7] f f' → EI f' → f' 168 7 = edn (f 168 7) → R (some (.int v)) (shF L, f', g')) : Run mtab d 127 [.ref 5] (shF L, f, g) R := by
  obtain ⟨d, rfl⟩ : ∃ e, d = e + 1 := ⟨d - 1, by omega⟩
  refine go_X10_edition rfl ?_
  conv => whnf
  obtain ⟨q, hq, hc⟩ := inr_nat (n := 9) rfl (xi_168 hX 7)
  simp only [hc]
  by_cases e9 : q = 9
  · subst e9
    refine ⟨fun c => absurd (by decide) c, fun c => ?_⟩
    conv => whnf
    exact H _ _ _ hX (kp_refl _ _) hE (edn_9 hc)
  · have hn9 : ¬ f 168 7 = 9 := fun z => e9 ((nI_eq (b := 9) (by omega) (by decide)).mp (hc.symm.trans z))
    refine ⟨fun c => ?_, fun c => absurd ((nI_eq (b := 9) (by omega) (by decide)).mp c) e9⟩
    conv => whnf
    refine sx_reckon (by omega) hX (fun f1 g1 h1 k1 => ?_)
    conv => whnf
    refine sf_publish (q := q) (by omega) h1 (EI_kp hE k1 rfl) ((k1 168 7 rfl).trans hc) (by omega) (fun v f2 g2 h2 k2 z2 => ?_)
    conv => whnf
    have z3 : f2 168 7 = nI (q + 1) := by rw [z2, k1 168 7 rfl, hc, nI_1]
    exact H _ _ _ h2 (kp_trans (kp_wd k1 rfl) (kp_fx k2 rfl)) (fun e => absurd (z3.symm.trans e) (nI_nz (by omega) (by omega))) (by rw [edn_n hn9, z2, k1 168 7 rfl])
set_option maxRecDepth 100000 in
set_option maxHeartbeats 4000000 in
theorem smf_ed2_lp {d L n : Nat} {f0 : Nat → Nat → Int32} {ev : Int32} {R : Option Value → mH → Prop} (hd : 1 ≤ d) (hm : n ≤ 40) (H : ∀ v f' g', XI f' → kp [10, 17] f0 f' → f' 181 50 = ev + 1 → R (some (.int v)) (shF L, f', g'))  :
    ∀ (k i : Nat) (x : Int32) (a : Int32) (b : Int32) (s5 : Option Value) (s6 : Option Value) (s7 : Option Value) (f : Nat → Nat → Int32) (g : Nat → Nat → Int64), i + k = n → x = nI i → XI f → kp [10, 17] f0 f → inr 0 40 b → f 181 50 = ev → WPe pg_X11_edition none (Run mtab d) R (m_drop pg_X11_edition 64) [some (.ref 181), some (.int (nI n)), some (.int a), some (.int b), some (.int x), s5, s6, s7] [] (shF L, f, g)
  | 0, i, x, a, b, s5, s6, s7, f, g, he, hx, hX, hF, hb, he5 => by
    have e : i = n := by omega
    subst hx
    subst e
    refine at_X11_edition ?_
    conv => whnf
    try simp only [nI_1, m_ui_ap, m_fil_ap, m_cpy_ap, Nat.reduceEqDiff, Nat.reduceLT, Nat.reduceLeDiff, eq_self, ↓reduceIte, false_and, and_false, true_and, and_true, and_self]
    refine ⟨fun c => ?_, fun c => absurd (nI_le (Nat.le_refl _) (by omega)) c⟩
    conv => whnf
    repeat' first
      | ((with_reducible refine ⟨vx_223 hX _, ?_⟩) <;> conv => whnf)
      | ((with_reducible refine ⟨vpi hb (by decide), ?_⟩) <;> conv => whnf)
      | (simp only [nI_1, m_ui_ap, m_fil_ap, m_cpy_ap, Nat.reduceEqDiff, Nat.reduceLT, Nat.reduceLeDiff, eq_self, ↓reduceIte, false_and, and_false, true_and, and_true, and_self])
      | ((with_reducible refine ⟨vp_in_nI (by omega) (by decide), ?_⟩) <;> conv => whnf)
      | (refine ⟨Or.inl rfl, ?_⟩ <;> conv => whnf)
      | (refine ⟨Or.inr rfl, ?_⟩ <;> conv => whnf)
      | (refine ⟨Or.inl True.intro, ?_⟩ <;> conv => whnf)
      | (refine ⟨Or.inr True.intro, ?_⟩ <;> conv => whnf)
      | (refine ⟨fun c => ?_, fun c => ?_⟩ <;> first | ((have c9 : (1 : Int32) = 0 := by with_reducible exact c); exact absurd c9 (by decide)) | exact absurd (rfl : (0 : Int32) = 0) (by with_reducible exact c) | exact absurd True.intro (by with_reducible exact c) | exact False.elim (by with_reducible exact c) | (conv => whnf))
      | (refine ⟨by unfold vp_in; decide, ?_⟩ <;> conv => whnf)
      | fail
    all_goals exact H _ _ _ (XI_ui hX True.intro) (kp_ui rfl hF) (by rw [m_ui_ap, if_pos rfl, if_pos rfl, he5])
  | k + 1, i, x, a, b, s5, s6, s7, f, g, he, hx, hX, hF, hb, he5 => by
    subst hx
    refine at_X11_edition ?_
    conv => whnf
    try simp only [nI_1, m_ui_ap, m_fil_ap, m_cpy_ap, Nat.reduceEqDiff, Nat.reduceLT, Nat.reduceLeDiff, eq_self, ↓reduceIte, false_and, and_false, true_and, and_true, and_self]
    refine ⟨fun c => absurd c (nI_ge (b := n) (by omega) (by omega)), fun c => ?_⟩
    conv => whnf
    repeat' first
      | exact smf_ed2_lp hd hm H k (i + 1) _ _ _ _ _ _ _ _ (by omega) (by first | rfl | exact nI_1 i) (by repeat' first | (with_reducible assumption) | (with_reducible refine XI_ui ?_ ?_) | (with_reducible refine XI_fil ?_ (fun _ => ?_)) | (with_reducible refine XI_cpy ?_ (fun _ _ => ?_)) | exact True.intro | ((show inr _ _ _); first | (with_reducible assumption) | ((with_reducible refine inr_n1 (m := 40) ?_ ?_ ?_) <;> first | omega | rfl | decide) | ((with_reducible refine inr_n (m := 40) ?_ ?_ ?_) <;> first | omega | rfl | decide) | (unfold inr; decide)) | fail) (by repeat' first | (with_reducible exact kp_refl _ _) | (with_reducible assumption) | (with_reducible refine kp_ui ?_ ?_) | (with_reducible refine kp_fil ?_ ?_) | (with_reducible refine kp_cpy ?_ ?_) | rfl | fail) (by first | (with_reducible assumption) | (with_reducible exact xi_221 hX _) | (with_reducible refine inr_n (m := 40) ?_ ?_ ?_) <;> first | omega | rfl | decide) (by first | (with_reducible assumption) | ((repeat rw [m_ui_o (by omega)]); exact he5))
      | ((with_reducible refine ⟨vx_223 hX _, ?_⟩) <;> conv => whnf)
      | ((with_reducible refine ⟨vpi hb (by decide), ?_⟩) <;> conv => whnf)
      | (simp only [nI_1, m_ui_ap, m_fil_ap, m_cpy_ap, Nat.reduceEqDiff, Nat.reduceLT, Nat.reduceLeDiff, eq_self, ↓reduceIte, false_and, and_false, true_and, and_true, and_self])
      | ((with_reducible refine ⟨vp_in_nI (by omega) (by decide), ?_⟩) <;> conv => whnf)
      | (refine ⟨Or.inl rfl, ?_⟩ <;> conv => whnf)
      | (refine ⟨Or.inr rfl, ?_⟩ <;> conv => whnf)
      | (refine ⟨Or.inl True.intro, ?_⟩ <;> conv => whnf)
      | (refine ⟨Or.inr True.intro, ?_⟩ <;> conv => whnf)
      | (refine ⟨fun c => ?_, fun c => ?_⟩ <;> first | ((have c9 : (1 : Int32) = 0 := by with_reducible exact c); exact absurd c9 (by decide)) | exact absurd (rfl : (0 : Int32) = 0) (by with_reducible exact c) | exact absurd True.intro (by with_reducible exact c) | exact False.elim (by with_reducible exact c) | (conv => whnf))
      | (refine ⟨by unfold vp_in; decide, ?_⟩ <;> conv => whnf)
      | fail
    all_goals exact H _ _ _ (XI_ui hX True.intro) (kp_ui rfl hF) (by rw [m_ui_ap, if_pos rfl, if_pos rfl, he5])
set_option maxRecDepth 100000 in
set_option maxHeartbeats 4000000 in
theorem smf_ed1_lp {d L n : Nat} {f0 : Nat → Nat → Int32} {vn : Nat} {ev : Int32} {fz : Nat → Nat → Int32} {R : Option Value → mH → Prop} (hd : 3 ≤ d) (hm : n ≤ 40) (h0 : f0 181 0 = nI n) (hv0 : f0 181 48 = nI vn) (hk : vn ≤ 60) (k0 : kp [10, 17] fz f0) (hev : f0 181 50 = ev) (H : ∀ v f' g', XI f' → kp [10, 17] fz f' → f' 181 50 = ev + 1 → R (some (.int v)) (shF L, f', g'))  :
    ∀ (k i : Nat) (x : Int32) (b : Int32) (s3 : Option Value) (s4 : Option Value) (s5 : Option Value) (s6 : Option Value) (s7 : Option Value) (f : Nat → Nat → Int32) (g : Nat → Nat → Int64), i + k = n → x = nI i → XI f → fx 223 224 f0 f → (∃ q, q ≤ i ∧ b = nI q) → WPe pg_X11_edition none (Run mtab d) R (m_drop pg_X11_edition 12) [some (.ref 181), some (.int b), some (.int x), s3, s4, s5, s6, s7] [] (shF L, f, g)
  | 0, i, x, b, s3, s4, s5, s6, s7, f, g, he, hx, hX, hF, hb => by
    have e : i = n := by omega
    subst hx
    have hc : f 181 0 = nI n := (hF 181 0 (by omega)).trans h0
    have hvb : f 181 48 = nI vn := (hF 181 48 (by omega)).trans hv0
    obtain ⟨q, hqi, rfl⟩ := hb
    subst e
    refine at_X11_edition ?_
    conv => whnf
    try simp only [hc, hvb]
    refine ⟨fun c => ?_, fun c => absurd (nI_le (Nat.le_refl _) (by omega)) c⟩
    conv => whnf
    repeat' first
      | exact smf_ed2_lp (f0 := fz) (by omega) (by omega) H q 0 _ _ _ _ _ _ _ _ (by omega) rfl hX (kp_trans k0 (kp_fx hF rfl)) (show inr 0 40 0 by unfold inr; decide) ((hF 181 50 (by omega)).trans hev)
      | (simp only [hc, hvb])
      | ((with_reducible refine ⟨vp_in_nI (by omega) (by decide), ?_⟩) <;> conv => whnf)
      | (refine ⟨Or.inl rfl, ?_⟩ <;> conv => whnf)
      | (refine ⟨Or.inr rfl, ?_⟩ <;> conv => whnf)
      | (refine ⟨Or.inl True.intro, ?_⟩ <;> conv => whnf)
      | (refine ⟨Or.inr True.intro, ?_⟩ <;> conv => whnf)
      | (refine ⟨fun c => ?_, fun c => ?_⟩ <;> first | ((have c9 : (1 : Int32) = 0 := by with_reducible exact c); exact absurd c9 (by decide)) | exact absurd (rfl : (0 : Int32) = 0) (by with_reducible exact c) | exact absurd True.intro (by with_reducible exact c) | exact False.elim (by with_reducible exact c) | (conv => whnf))
      | (refine ⟨by unfold vp_in; decide, ?_⟩ <;> conv => whnf)
      | fail
    all_goals fail
  | k + 1, i, x, b, s3, s4, s5, s6, s7, f, g, he, hx, hX, hF, hb => by
    subst hx
    have hc : f 181 0 = nI n := (hF 181 0 (by omega)).trans h0
    have hvb : f 181 48 = nI vn := (hF 181 48 (by omega)).trans hv0
    obtain ⟨q, hqi, rfl⟩ := hb
    refine at_X11_edition ?_
    conv => whnf
    try simp only [hc, hvb]
    refine ⟨fun c => absurd c (nI_ge (b := n) (by omega) (by omega)), fun c => ?_⟩
    conv => whnf
    repeat' first
      | exact smf_ed1_lp hd hm h0 hv0 hk k0 hev H k (i + 1) _ _ _ _ _ _ _ _ _ (by omega) (nI_1 i) (by repeat' first | (with_reducible assumption) | (with_reducible refine XI_ui ?_ ?_) | (with_reducible refine XI_fil ?_ (fun _ => ?_)) | (with_reducible refine XI_cpy ?_ (fun _ _ => ?_)) | exact True.intro | ((show inr _ _ _); first | (with_reducible assumption) | (unfold inr; decide)) | fail) (by repeat' first | (with_reducible exact fx_refl _ _ _) | (with_reducible assumption) | (with_reducible refine fx_ui ?_ ?_ ?_) | (with_reducible refine fx_fil ?_ ?_ ?_) | (with_reducible refine fx_cpy ?_ ?_ ?_) | omega | decide | fail) ⟨q, by omega, rfl⟩
      | exact msr_in (p := i) (q := q) (by omega) (by omega) (by omega) (fun b' x' s3 f' g' hb' hx' hX' hF' => smf_ed1_lp hd hm h0 hv0 hk k0 hev H k (i + 1) x' b' s3 _ _ _ _ f' g' (by omega) hx' hX' hF' ⟨q + 1, by omega, hb'⟩) q _ _ _ (Nat.le_refl q) rfl hX hF
      | (simp only [hc, hvb])
      | ((with_reducible refine ⟨vp_in_nI (by omega) (by decide), ?_⟩) <;> conv => whnf)
      | (refine ⟨Or.inl rfl, ?_⟩ <;> conv => whnf)
      | (refine ⟨Or.inr rfl, ?_⟩ <;> conv => whnf)
      | (refine ⟨Or.inl True.intro, ?_⟩ <;> conv => whnf)
      | (refine ⟨Or.inr True.intro, ?_⟩ <;> conv => whnf)
      | (refine ⟨fun c => ?_, fun c => ?_⟩ <;> first | ((have c9 : (1 : Int32) = 0 := by with_reducible exact c); exact absurd c9 (by decide)) | exact absurd (rfl : (0 : Int32) = 0) (by with_reducible exact c) | exact absurd True.intro (by with_reducible exact c) | exact False.elim (by with_reducible exact c) | (conv => whnf))
      | (refine sm_stateOf (by omega) hX hk (fun v => ?_) <;> conv => whnf)
      | (refine ⟨by unfold vp_in; decide, ?_⟩ <;> conv => whnf)
      | fail
    all_goals fail
noncomputable def cnX (f : Nat → Nat → Int32) (n c : Nat) (x : Int32) : Int32 := if x = 0 then f 6 13 else if x = 1 then f 100 6 else if x = 2 then f 139 13 else if x = 3 then f 129 6 else if x = 4 then f 119 7 else if x = 5 then f 168 7 else if x = 6 then cntl (fun i => (stp f 9999 (nI i) c).1 = 1) n 0 0 else if x = 7 then cntl (fun i => (stp f 9999 (nI i) c).1 = 2) n 0 0 else -1
noncomputable def cnM (f : Nat → Nat → Int32) (n c : Nat) (x : Int32) : Int32 := if x = 0 then f 181 0 else if x = 1 then f 181 14 else if x = 2 then f 181 27 else if x = 3 then f 181 16 else if x = 4 then f 181 48 else if x = 5 then f 181 50 else if x = 6 then cntl (fun i => (smp f 9999 (nI i) c).1 = x - 5) n 0 0 else if x = 7 then cntl (fun i => (smp f 9999 (nI i) c).1 = x - 5) n 0 0 else -1
def SX_count (n c : Nat) (f f1 : Nat → Nat → Int32) (x v : Int32) : Prop := v = cnX f n c x ∧ (f1 = f ∨ stF f f1 9999 c)
def SM_count (n c : Nat) (f : Nat → Nat → Int32) (x v : Int32) : Prop := v = cnM f n c x
set_option maxRecDepth 100000 in
theorem cs_lp {d L n : Nat} {f : Nat → Nat → Int32} {g : Nat → Nat → Int64} {w : Int32} {R : Option Value → mH → Prop} (hb : f 6 13 = nI n) (hm : n ≤ 40) :
    ∀ (k i : Nat) (x a : Int32), i + k = n → x = nI i → R (some (.int (cntl (fun i => f 127 i = w) k i a))) (shF L, f, g) → WPe pg_X10_countStates none (Run mtab d) R (m_drop pg_X10_countStates 7) [some (.ref 5), some (.int w), some (.int a), some (.int x)] [] (shF L, f, g)
  | 0, i, x, a, hi, hx, H => by
    have e : i = n := by omega
    subst hx
    subst e
    refine at_X10_countStates ?_
    conv => whnf
    simp only [hb]
    refine ⟨fun c => ?_, fun c => absurd (nI_le (Nat.le_refl _) (by omega)) c⟩
    conv => whnf
    exact H
  | k + 1, i, x, a, hi, hx, H => by
    subst hx
    have hcl : (nI i).toNatClampNeg = i := nI_clamp (by omega)
    refine at_X10_countStates ?_
    conv => whnf
    simp only [hb]
    refine ⟨fun c => absurd c (nI_ge (b := n) (by omega) (by omega)), fun c => ?_⟩
    conv => whnf
    refine ⟨vp_in_nI (by omega) (by decide), ?_⟩
    conv => whnf
    simp only [hcl]
    refine ⟨fun c1 => ?_, fun c1 => ?_⟩
    · conv => whnf
      exact cs_lp hb hm k (i + 1) _ _ (by omega) (nI_1 i) (by rw [cnt_n (P := (fun i => f 127 i = w)) (k := k) (i := i) (a := a) (c1)] at H; exact H)
    · conv => whnf
      exact cs_lp hb hm k (i + 1) _ _ (by omega) (nI_1 i) (by rw [cnt_y (P := (fun i => f 127 i = w)) (k := k) (i := i) (a := a) (c1)] at H; exact H)
set_option maxRecDepth 100000 in
set_option maxHeartbeats 4000000 in
theorem sf_countStates {d L : Nat} {f : Nat → Nat → Int32} {g : Nat → Nat → Int64} {n c0 : Nat} {w : Int32} {R : Option Value → mH → Prop} (hd : 5 ≤ d) (hX : XI f) (hb : f 6 13 = nI n) (hm : n ≤ 40) (hvb : f 119 7 = nI c0) (hvm : c0 ≤ 60) (H : ∀ f1, stF f f1 9999 c0 → R (some (.int (cntl (fun i => (stp f 9999 (nI i) c0).1 = w) n 0 0))) (shF L, f1, g)) : Run mtab d 146 [.ref 5, .int w] (shF L, f, g) R := by
  obtain ⟨d, rfl⟩ : ∃ e, d = e + 1 := ⟨d - 1, by omega⟩
  refine go_X10_countStates rfl ?_
  conv => whnf
  refine sf_reckonAll (by omega) hX hvb hvm (fun f1 h1 => ?_)
  conv => whnf
  refine cs_lp ((h1.2 6 13 (by omega) (by omega)).trans hb) hm n 0 _ _ (by omega) rfl ?_
  have e : cntl (fun i => f1 127 i = w) n 0 0 = cntl (fun i => (stp f 9999 (nI i) c0).1 = w) n 0 0 := cntl_eq n (fun i hi => by rw [(h1.1 i (by omega)).1]) n 0 0 (by omega)
  rw [e]
  exact H f1 h1
set_option maxRecDepth 100000 in
set_option maxHeartbeats 4000000 in
theorem sf_count {d L : Nat} {f : Nat → Nat → Int32} {g : Nat → Nat → Int64} {n c0 : Nat} {x : Int32} {R : Option Value → mH → Prop} (hd : 6 ≤ d) (hX : XI f) (hb : f 6 13 = nI n) (hm : n ≤ 40) (hvb : f 119 7 = nI c0) (hvm : c0 ≤ 60) (H : ∀ v f1, SX_count n c0 f f1 x v → R (some (.int v)) (shF L, f1, g)) : Run mtab d 129 [.ref 5, .int x] (shF L, f, g) R := by
  obtain ⟨d, rfl⟩ : ∃ e, d = e + 1 := ⟨d - 1, by omega⟩
  refine go_X10_count rfl ?_
  conv => whnf
  refine ⟨fun c => ?_, fun c => ?_, fun c => ?_, fun c => ?_, fun c => ?_, fun c => ?_, fun c => ?_, fun c => ?_, fun c => ?_⟩
  · have e : x = 0 := c.trans (by decide)
    subst e
    conv => whnf
    exact H _ _ ⟨by unfold cnX; rw [if_pos rfl], Or.inl rfl⟩
  · have e : x = 1 := c.trans (by decide)
    subst e
    conv => whnf
    exact H _ _ ⟨by unfold cnX; rw [if_neg (show ¬ (1 : Int32) = 0 by decide), if_pos rfl], Or.inl rfl⟩
  · have e : x = 2 := c.trans (by decide)
    subst e
    conv => whnf
    exact H _ _ ⟨by unfold cnX; rw [if_neg (show ¬ (2 : Int32) = 0 by decide), if_neg (show ¬ (2 : Int32) = 1 by decide), if_pos rfl], Or.inl rfl⟩
  · have e : x = 3 := c.trans (by decide)
    subst e
    conv => whnf
    exact H _ _ ⟨by unfold cnX; rw [if_neg (show ¬ (3 : Int32) = 0 by decide), if_neg (show ¬ (3 : Int32) = 1 by decide), if_neg (show ¬ (3 : Int32) = 2 by decide), if_pos rfl], Or.inl rfl⟩
  · have e : x = 4 := c.trans (by decide)
    subst e
    conv => whnf
    exact H _ _ ⟨by unfold cnX; rw [if_neg (show ¬ (4 : Int32) = 0 by decide), if_neg (show ¬ (4 : Int32) = 1 by decide), if_neg (show ¬ (4 : Int32) = 2 by decide), if_neg (show ¬ (4 : Int32) = 3 by decide), if_pos rfl], Or.inl rfl⟩
  · have e : x = 5 := c.trans (by decide)
    subst e
    conv => whnf
    exact H _ _ ⟨by unfold cnX; rw [if_neg (show ¬ (5 : Int32) = 0 by decide), if_neg (show ¬ (5 : Int32) = 1 by decide), if_neg (show ¬ (5 : Int32) = 2 by decide), if_neg (show ¬ (5 : Int32) = 3 by decide), if_neg (show ¬ (5 : Int32) = 4 by decide), if_pos rfl], Or.inl rfl⟩
  · have e : x = 6 := c.trans (by decide)
    subst e
    conv => whnf
    refine sf_countStates (by omega) hX hb hm hvb hvm (fun f1 h1 => ?_)
    conv => whnf
    exact H _ _ ⟨by unfold cnX; rw [if_neg (show ¬ (6 : Int32) = 0 by decide), if_neg (show ¬ (6 : Int32) = 1 by decide), if_neg (show ¬ (6 : Int32) = 2 by decide), if_neg (show ¬ (6 : Int32) = 3 by decide), if_neg (show ¬ (6 : Int32) = 4 by decide), if_neg (show ¬ (6 : Int32) = 5 by decide), if_pos rfl], Or.inr h1⟩
  · have e : x = 7 := c.trans (by decide)
    subst e
    conv => whnf
    refine sf_countStates (by omega) hX hb hm hvb hvm (fun f1 h1 => ?_)
    conv => whnf
    exact H _ _ ⟨by unfold cnX; rw [if_neg (show ¬ (7 : Int32) = 0 by decide), if_neg (show ¬ (7 : Int32) = 1 by decide), if_neg (show ¬ (7 : Int32) = 2 by decide), if_neg (show ¬ (7 : Int32) = 3 by decide), if_neg (show ¬ (7 : Int32) = 4 by decide), if_neg (show ¬ (7 : Int32) = 5 by decide), if_neg (show ¬ (7 : Int32) = 6 by decide), if_pos rfl], Or.inr h1⟩
  · obtain ⟨⟨⟨⟨⟨⟨⟨h0, h1⟩, h2⟩, h3⟩, h4⟩, h5⟩, h6⟩, h7⟩ := c
    conv => whnf
    have n0 : ¬ x = 0 := fun e => h0 (e.trans (by decide))
    have n1 : ¬ x = 1 := fun e => h1 (e.trans (by decide))
    have n2 : ¬ x = 2 := fun e => h2 (e.trans (by decide))
    have n3 : ¬ x = 3 := fun e => h3 (e.trans (by decide))
    have n4 : ¬ x = 4 := fun e => h4 (e.trans (by decide))
    have n5 : ¬ x = 5 := fun e => h5 (e.trans (by decide))
    have n6 : ¬ x = 6 := fun e => h6 (e.trans (by decide))
    have n7 : ¬ x = 7 := fun e => h7 (e.trans (by decide))
    exact H _ _ ⟨by unfold cnX; rw [if_neg n0, if_neg n1, if_neg n2, if_neg n3, if_neg n4, if_neg n5, if_neg n6, if_neg n7], Or.inl rfl⟩
set_option maxRecDepth 100000 in
theorem cm_lp {d L n c0 : Nat} {f : Nat → Nat → Int32} {g : Nat → Nat → Int64} {w : Int32} {R : Option Value → mH → Prop} (hd : 1 ≤ d) (hb : f 181 0 = nI n) (hm : n ≤ 40) (hvb : f 181 48 = nI c0) (hvm : c0 ≤ 60) :
    ∀ (k i : Nat) (x a : Int32), i + k = n → x = nI i → R (some (.int (cntl (fun i => (smp f 9999 (nI i) c0).1 = w - 5) k i a))) (shF L, f, g) → WPe pg_X11_count none (Run mtab d) R (m_drop pg_X11_count 24) [some (.ref 181), some (.int w), some (.int a), some (.int x)] [] (shF L, f, g)
  | 0, i, x, a, hi, hx, H => by
    have e : i = n := by omega
    subst hx
    subst e
    refine at_X11_count ?_
    conv => whnf
    simp only [hb]
    refine ⟨fun c => ?_, fun c => absurd (nI_le (Nat.le_refl _) (by omega)) c⟩
    conv => whnf
    exact H
  | k + 1, i, x, a, hi, hx, H => by
    subst hx
    refine at_X11_count ?_
    conv => whnf
    simp only [hb]
    refine ⟨fun c => absurd c (nI_ge (b := n) (by omega) (by omega)), fun c => ?_⟩
    conv => whnf
    (try simp only [hvb])
    refine smf_stateOf (by omega) hvm ?_
    conv => whnf
    refine ⟨fun c1 => ?_, fun c1 => ?_⟩
    · conv => whnf
      exact cm_lp hd hb hm hvb hvm k (i + 1) _ (a + 0) (by omega) (nI_1 i) (by rw [cnt_n (P := (fun i => (smp f 9999 (nI i) c0).1 = w - 5)) (k := k) (i := i) (a := a) (c1)] at H; rw [Int32.add_zero]; exact H)
    · conv => whnf
      exact cm_lp hd hb hm hvb hvm k (i + 1) _ _ (by omega) (nI_1 i) (by rw [cnt_y (P := (fun i => (smp f 9999 (nI i) c0).1 = w - 5)) (k := k) (i := i) (a := a) (c1)] at H; exact H)
set_option maxRecDepth 100000 in
set_option maxHeartbeats 4000000 in
theorem smf_count {d L : Nat} {f : Nat → Nat → Int32} {g : Nat → Nat → Int64} {n c0 : Nat} {x : Int32} {R : Option Value → mH → Prop} (hd : 3 ≤ d) (hb : f 181 0 = nI n) (hm : n ≤ 40) (hvb : f 181 48 = nI c0) (hvm : c0 ≤ 60) (H : ∀ v, SM_count n c0 f x v → R (some (.int v)) (shF L, f, g)) : Run mtab d 235 [.ref 181, .int x] (shF L, f, g) R := by
  obtain ⟨d, rfl⟩ : ∃ e, d = e + 1 := ⟨d - 1, by omega⟩
  refine go_X11_count rfl ?_
  conv => whnf
  refine ⟨fun c => ?_, fun c => ?_, fun c => ?_, fun c => ?_, fun c => ?_, fun c => ?_, fun c => ?_, fun c => ?_, fun c => ?_⟩
  · have e : x = 0 := c.trans (by decide)
    subst e
    conv => whnf
    exact H _ (by unfold SM_count cnM; rw [if_pos rfl])
  · have e : x = 1 := c.trans (by decide)
    subst e
    conv => whnf
    exact H _ (by unfold SM_count cnM; rw [if_neg (show ¬ (1 : Int32) = 0 by decide), if_pos rfl])
  · have e : x = 2 := c.trans (by decide)
    subst e
    conv => whnf
    exact H _ (by unfold SM_count cnM; rw [if_neg (show ¬ (2 : Int32) = 0 by decide), if_neg (show ¬ (2 : Int32) = 1 by decide), if_pos rfl])
  · have e : x = 3 := c.trans (by decide)
    subst e
    conv => whnf
    exact H _ (by unfold SM_count cnM; rw [if_neg (show ¬ (3 : Int32) = 0 by decide), if_neg (show ¬ (3 : Int32) = 1 by decide), if_neg (show ¬ (3 : Int32) = 2 by decide), if_pos rfl])
  · have e : x = 4 := c.trans (by decide)
    subst e
    conv => whnf
    exact H _ (by unfold SM_count cnM; rw [if_neg (show ¬ (4 : Int32) = 0 by decide), if_neg (show ¬ (4 : Int32) = 1 by decide), if_neg (show ¬ (4 : Int32) = 2 by decide), if_neg (show ¬ (4 : Int32) = 3 by decide), if_pos rfl])
  · have e : x = 5 := c.trans (by decide)
    subst e
    conv => whnf
    exact H _ (by unfold SM_count cnM; rw [if_neg (show ¬ (5 : Int32) = 0 by decide), if_neg (show ¬ (5 : Int32) = 1 by decide), if_neg (show ¬ (5 : Int32) = 2 by decide), if_neg (show ¬ (5 : Int32) = 3 by decide), if_neg (show ¬ (5 : Int32) = 4 by decide), if_pos rfl])
  · have e : x = 6 := c.trans (by decide)
    subst e
    conv => whnf
    refine cm_lp (by omega) hb hm hvb hvm n 0 _ _ (by omega) rfl ?_
    exact H _ (by unfold SM_count cnM; rw [if_neg (show ¬ (6 : Int32) = 0 by decide), if_neg (show ¬ (6 : Int32) = 1 by decide), if_neg (show ¬ (6 : Int32) = 2 by decide), if_neg (show ¬ (6 : Int32) = 3 by decide), if_neg (show ¬ (6 : Int32) = 4 by decide), if_neg (show ¬ (6 : Int32) = 5 by decide), if_pos rfl])
  · have e : x = 7 := c.trans (by decide)
    subst e
    conv => whnf
    refine cm_lp (by omega) hb hm hvb hvm n 0 _ _ (by omega) rfl ?_
    exact H _ (by unfold SM_count cnM; rw [if_neg (show ¬ (7 : Int32) = 0 by decide), if_neg (show ¬ (7 : Int32) = 1 by decide), if_neg (show ¬ (7 : Int32) = 2 by decide), if_neg (show ¬ (7 : Int32) = 3 by decide), if_neg (show ¬ (7 : Int32) = 4 by decide), if_neg (show ¬ (7 : Int32) = 5 by decide), if_neg (show ¬ (7 : Int32) = 6 by decide), if_pos rfl])
  · obtain ⟨⟨⟨⟨⟨⟨⟨h0, h1⟩, h2⟩, h3⟩, h4⟩, h5⟩, h6⟩, h7⟩ := c
    conv => whnf
    have n0 : ¬ x = 0 := fun e => h0 (e.trans (by decide))
    have n1 : ¬ x = 1 := fun e => h1 (e.trans (by decide))
    have n2 : ¬ x = 2 := fun e => h2 (e.trans (by decide))
    have n3 : ¬ x = 3 := fun e => h3 (e.trans (by decide))
    have n4 : ¬ x = 4 := fun e => h4 (e.trans (by decide))
    have n5 : ¬ x = 5 := fun e => h5 (e.trans (by decide))
    have n6 : ¬ x = 6 := fun e => h6 (e.trans (by decide))
    have n7 : ¬ x = 7 := fun e => h7 (e.trans (by decide))
    exact H _ (by unfold SM_count cnM; rw [if_neg n0, if_neg n1, if_neg n2, if_neg n3, if_neg n4, if_neg n5, if_neg n6, if_neg n7])
theorem kx_count {n c : Nat} {f f1 : Nat → Nat → Int32} {x v : Int32} (s : SX_count n c f f1 x v) : kp [0] f f1 := by
  rcases s.2 with rfl | h
  · exact kp_refl _ _
  · exact stF_kp h
theorem XI_count {n c : Nat} {f f1 : Nat → Nat → Int32} {x v : Int32} (hX : XI f) (s : SX_count n c f f1 x v) : XI f1 := by
  rcases s.2 with rfl | h
  · exact hX
  · exact stF_XI hX h
theorem fin_count {n h m cc c : Nat} {f f1 : Nat → Nat → Int32} {x v1 v2 : Int32} (hR : RW n f) (hO : RO h f) (hM : RM m f) (hC : RC cc f) (hV : RV c f) (hE : f 168 7 = f 181 50) (s1 : SX_count n c f f1 x v1) (s2 : SM_count n c f1 x v2) : v1 = v2 := by
  have k1 := kx_count s1
  have es : ∀ i, (smp f1 9999 (nI i) c).1 = (stp f 9999 (nI i) c).1 := fun i => by
    rw [smp_kp (fun i => k1 218 i rfl)]
    exact (st_eq hV 9999 (nI i) c (Nat.le_refl _)).1.symm
  rw [s1.1, show v2 = cnM f1 n c x from s2]
  unfold cnX cnM
  by_cases e0 : x = 0
  · rw [if_pos e0, if_pos e0]
    exact hR.2.1.trans ((k1 181 0 rfl).trans hR.2.2.1).symm
  rw [if_neg e0, if_neg e0]
  by_cases e1 : x = 1
  · rw [if_pos e1, if_pos e1]
    exact hO.2.1.trans ((k1 181 14 rfl).trans hO.2.2.1).symm
  rw [if_neg e1, if_neg e1]
  by_cases e2 : x = 2
  · rw [if_pos e2, if_pos e2]
    exact hM.2.1.trans ((k1 181 27 rfl).trans hM.2.2.1).symm
  rw [if_neg e2, if_neg e2]
  by_cases e3 : x = 3
  · rw [if_pos e3, if_pos e3]
    exact hC.2.1.trans ((k1 181 16 rfl).trans hC.2.2.1).symm
  rw [if_neg e3, if_neg e3]
  by_cases e4 : x = 4
  · rw [if_pos e4, if_pos e4]
    exact hV.2.1.trans ((k1 181 48 rfl).trans hV.2.2.1).symm
  rw [if_neg e4, if_neg e4]
  by_cases e5 : x = 5
  · rw [if_pos e5, if_pos e5]
    exact hE.trans (k1 181 50 rfl).symm
  rw [if_neg e5, if_neg e5]
  by_cases e6 : x = 6
  · rw [if_pos e6, if_pos e6]
    subst e6
    exact cntl_eq n (fun i _ => by rw [es i, show (6 : Int32) - 5 = 1 by decide]) n 0 0 (by omega)
  rw [if_neg e6, if_neg e6]
  by_cases e7 : x = 7
  · rw [if_pos e7, if_pos e7]
    subst e7
    exact cntl_eq n (fun i _ => by rw [es i, show (7 : Int32) - 5 = 2 by decide]) n 0 0 (by omega)
  rw [if_neg e7, if_neg e7]
/-- what holds between calls, with the editions told -/
def GE (f : Nat → Nat → Int32) : Prop := GL f ∧ f 168 7 = f 181 50
def oke (l : List Nat) : Bool := !hasN l 7 && !hasN l 17
theorem oke_of {l : List Nat} (h : oke l = true) : hasN l 7 = false ∧ hasN l 17 = false := by
  unfold oke at h
  simp only [Bool.and_eq_true, Bool.not_eq_true'] at h
  exact h
theorem RE_kp {l : List Nat} {f f' : Nat → Nat → Int32} (k : kp l f f') (hl : oke l = true) (h : f 168 7 = f 181 50) : f' 168 7 = f' 181 50 := by
  obtain ⟨l7, l17⟩ := oke_of hl
  rw [k 168 7 (by exact l7), k 181 50 (by exact l17)]
  exact h
theorem GE_x {l : List Nat} {f f' : Nat → Nat → Int32} (h : GE f) (x : XI f') (k : kp l f f') (hl : (okg l && oke l) = true) : GE f' := by
  rw [Bool.and_eq_true] at hl
  exact ⟨GL_x h.1 x k hl.1, RE_kp k hl.2 h.2⟩
theorem GE_j {l l' : List Nat} {f f1 f2 : Nat → Nat → Int32} (h : GE f) (k1 : kp l f f1) (k2 : kp l' f1 f2) (j : GK f2) (hl : (okw l && oke l) = true) (hl' : (okw l' && oke l') = true) : GE f2 := by
  rw [Bool.and_eq_true] at hl hl'
  exact ⟨GL_j h.1 k1 k2 j hl.1 hl'.1, RE_kp k2 hl'.2 (RE_kp k1 hl.2 h.2)⟩
theorem GE_v {f f1 f2 : Nat → Nat → Int32} (h : GE f) (k1 : kp [4] f f1) (k2 : kp [10, 14, 22] f1 f2) (x : XI f2) (r : ∃ v, RV v f2) : GE f2 := ⟨GL_v h.1 k1 k2 x r, RE_kp k2 rfl (RE_kp k1 rfl h.2)⟩
theorem GE_ini {f : Nat → Nat → Int32} (hf : ∀ a i, 6 ≤ a → f a i = if a < 227 then inix a i else 0) (h3 : ab3 f) (h2 : ab2 f) : GE f := by
  refine ⟨GL_ini hf h3 h2, ?_⟩
  rw [hf 168 7 (by omega), if_pos (by omega), hf 181 50 (by omega), if_pos (by omega), inix_0 _ (by decide), inix_0 _ (by decide)]
