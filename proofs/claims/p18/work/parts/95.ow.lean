def holdw (n : Nat) (x1 x2 x3 x4 x5 x6 : Int32) : Prop := hasw n x1 ∧ inr 0 19 x2 ∧ inr 1800 1999 x3 ∧ inr 1800 1999 x6 ∧ inr x3 x6 x4 ∧ inr x3 x6 x5
theorem yr_mid {a d b : Int32} (ha : inr 1800 1999 a) (hd : inr 1800 1999 d) (h : inr a d b) : inr 1800 1999 b := by
  have p := Int32.le_iff_toInt_le.mp ha.1
  have q := Int32.le_iff_toInt_le.mp hd.2
  have r := Int32.le_iff_toInt_le.mp h.1
  have s := Int32.le_iff_toInt_le.mp h.2
  exact ⟨Int32.le_iff_toInt_le.mpr (by omega), Int32.le_iff_toInt_le.mpr (by omega)⟩
set_option maxRecDepth 100000 in
set_option maxHeartbeats 4000000 in
theorem sf_isHoldingWell {d L : Nat} {f : Nat → Nat → Int32} {g : Nat → Nat → Int64} {n : Nat} {x1 x2 x3 x4 x5 x6 : Int32} {R : Option Value → mH → Prop} (hd : 4 ≤ d) (hb : f 6 13 = nI n) (hm : n ≤ 40) (H1 : holdw n x1 x2 x3 x4 x5 x6 → R (some (.int 1)) (shF L, f, g)) (H0 : ¬ holdw n x1 x2 x3 x4 x5 x6 → R (some (.int 0)) (shF L, f, g)) : Run mtab d 143 [.ref 5, .int x1, .int x2, .int x3, .int x4, .int x5, .int x6] (shF L, f, g) R := by
  obtain ⟨d, rfl⟩ : ∃ e, d = e + 1 := ⟨d - 1, by omega⟩
  refine go_X10_isHoldingWell rfl ?_
  conv => whnf
  repeat' first
    | ((with_reducible refine ⟨vp_in_nI (by omega) (by decide), ?_⟩) <;> conv => whnf)
    | (refine ⟨Or.inl rfl, ?_⟩ <;> conv => whnf)
    | (refine ⟨Or.inr rfl, ?_⟩ <;> conv => whnf)
    | (refine ⟨Or.inl True.intro, ?_⟩ <;> conv => whnf)
    | (refine ⟨Or.inr True.intro, ?_⟩ <;> conv => whnf)
    | (refine ⟨fun c => ?_, fun c => ?_⟩ <;> first | ((have c9 : (1 : Int32) = 0 := by with_reducible exact c); exact absurd c9 (by decide)) | exact absurd (rfl : (0 : Int32) = 0) (by with_reducible exact c) | exact absurd True.intro (by with_reducible exact c) | exact False.elim (by with_reducible exact c) | (conv => whnf))
    | (refine ct_has (by omega) hb hm (fun j hj e => ?_) (fun q => ?_) <;> (try subst e) <;> conv => whnf)
    | (refine ct_isYear (by omega) (fun p => ?_) (fun p => ?_) <;> conv => whnf)
    | (refine ct_isWithin (by omega) (fun p => ?_) (fun p => ?_) <;> conv => whnf)
    | (refine ⟨by unfold vp_in; decide, ?_⟩ <;> conv => whnf)
    | fail
  all_goals first | exact H1 ⟨⟨_, hj, rfl⟩, by with_reducible assumption, by with_reducible assumption, by with_reducible assumption, by with_reducible assumption, by with_reducible assumption⟩ | exact H0 (fun hh => by first | exact absurd hh.1 (nhasw (by with_reducible assumption)) | exact absurd hh.2.1 (by with_reducible assumption) | exact absurd hh.2.2.1 (by with_reducible assumption) | exact absurd hh.2.2.2.1 (by with_reducible assumption) | exact absurd hh.2.2.2.2.1 (by with_reducible assumption) | exact absurd hh.2.2.2.2.2 (by with_reducible assumption))
set_option maxRecDepth 100000 in
set_option maxHeartbeats 4000000 in
theorem smf_isHolding {d L : Nat} {f : Nat → Nat → Int32} {g : Nat → Nat → Int64} {n : Nat} {x1 x2 x3 x4 x5 x6 : Int32} {R : Option Value → mH → Prop} (hd : 4 ≤ d) (hb : f 181 0 = nI n) (hm : n ≤ 40) (H1 : holdw n x1 x2 x3 x4 x5 x6 → R (some (.int 1)) (shF L, f, g)) (H0 : ¬ holdw n x1 x2 x3 x4 x5 x6 → R (some (.int 0)) (shF L, f, g)) : Run mtab d 166 [.ref 181, .int x1, .int x2, .int x3, .int x4, .int x5, .int x6] (shF L, f, g) R := by
  obtain ⟨d, rfl⟩ : ∃ e, d = e + 1 := ⟨d - 1, by omega⟩
  refine go_X11_isHolding rfl ?_
  conv => whnf
  repeat' first
    | ((with_reducible refine ⟨vp_in_nI (by omega) (by decide), ?_⟩) <;> conv => whnf)
    | (refine ⟨Or.inl rfl, ?_⟩ <;> conv => whnf)
    | (refine ⟨Or.inr rfl, ?_⟩ <;> conv => whnf)
    | (refine ⟨Or.inl True.intro, ?_⟩ <;> conv => whnf)
    | (refine ⟨Or.inr True.intro, ?_⟩ <;> conv => whnf)
    | (refine ⟨fun c => ?_, fun c => ?_⟩ <;> first | ((have c9 : (1 : Int32) = 0 := by with_reducible exact c); exact absurd c9 (by decide)) | exact absurd (rfl : (0 : Int32) = 0) (by with_reducible exact c) | exact absurd True.intro (by with_reducible exact c) | exact False.elim (by with_reducible exact c) | (conv => whnf))
    | (refine ct_mIsWork (by omega) hb hm (fun j hj e => ?_) (fun q => ?_) <;> (try subst e) <;> conv => whnf)
    | (refine ct_mIsYear (by omega) (fun p => ?_) (fun p => ?_) <;> conv => whnf)
    | ((with_reducible refine ct_i_0_19 (by omega) (fun p => ?_) (fun p => ?_)) <;> conv => whnf)
    | (refine ⟨by unfold vp_in; decide, ?_⟩ <;> conv => whnf)
    | fail
  all_goals first | exact H0 (fun hh => by first | exact absurd hh.1 (nhasw (by with_reducible assumption)) | exact absurd hh.2.1 (by with_reducible assumption) | exact absurd hh.2.2.1 (by with_reducible assumption) | exact absurd hh.2.2.2.1 (by with_reducible assumption) | exact absurd hh.2.2.2.2.1 (by with_reducible assumption) | exact absurd hh.2.2.2.2.2 (by with_reducible assumption) | exact absurd (yr_mid hh.2.2.1 hh.2.2.2.1 hh.2.2.2.2.1) (by with_reducible assumption) | exact absurd (yr_mid hh.2.2.1 hh.2.2.2.1 hh.2.2.2.2.2) (by with_reducible assumption) | exact absurd hh.2.2.2.2.1.1 (i32_nle.mpr (by with_reducible assumption)) | exact absurd hh.2.2.2.2.1.2 (i32_nle.mpr (by with_reducible assumption)) | exact absurd hh.2.2.2.2.2.1 (i32_nle.mpr (by with_reducible assumption)) | exact absurd hh.2.2.2.2.2.2 (i32_nle.mpr (by with_reducible assumption))) | exact H1 ⟨⟨_, hj, rfl⟩, by with_reducible assumption, by with_reducible assumption, by with_reducible assumption, ⟨i32_nlt.mp (by with_reducible assumption), i32_nlt.mp (by with_reducible assumption)⟩, ⟨i32_nlt.mp (by with_reducible assumption), i32_nlt.mp (by with_reducible assumption)⟩⟩
def oadd (f : Nat → Nat → Int32) (h : Nat) (x1 x2 x3 x4 x5 x6 : Int32) : Nat → Nat → Int32 := (m_ui (m_ui (m_ui (m_ui (m_ui (m_ui (m_ui f 101 h x1) 102 h x2) 103 h x3) 104 h x4) 105 h x5) 106 h x6) 100 6 (nI h + 1))
def kadd (f : Nat → Nat → Int32) (h : Nat) (x1 x2 x3 x4 x5 x6 : Int32) : Nat → Nat → Int32 := (m_ui (m_ui (m_ui (m_ui (m_ui (m_ui (m_ui (m_ui f 195 (6 * h) x1) 195 (6 * h + 1) x2) 195 (6 * h + 2) x3) 195 (6 * h + 3) x4) 195 (6 * h + 4) x5) 195 (6 * h + 5) x6) 181 14 (nI (h + 1))) 181 29 0)
set_option maxRecDepth 100000 in
set_option maxHeartbeats 4000000 in
theorem sf_Oadd {d L : Nat} {f : Nat → Nat → Int32} {g : Nat → Nat → Int64} {h : Nat} {x1 x2 x3 x4 x5 x6 : Int32} {R : Option Value → mH → Prop} (hd : 1 ≤ d) (hb : f 100 6 = nI h) (hm : h ≤ 60) (HF : h = 60 → R (some (.int (-3))) (shF L, f, g)) (H : h < 60 → R (some (.int (nI h))) (shF L, oadd f h x1 x2 x3 x4 x5 x6, g)) : Run mtab d 43 [.ref 100, .int x1, .int x2, .int x3, .int x4, .int x5, .int x6] (shF L, f, g) R := by
  obtain ⟨d, rfl⟩ : ∃ e, d = e + 1 := ⟨d - 1, by omega⟩
  refine go_X5_add rfl ?_
  conv => whnf
  by_cases hq : h = 60
  · subst hq
    repeat' first
      | (simp only [hb])
      | ((with_reducible refine ⟨vp_in_nI (by omega) (by decide), ?_⟩) <;> conv => whnf)
      | (refine ⟨Or.inl rfl, ?_⟩ <;> conv => whnf)
      | (refine ⟨Or.inr rfl, ?_⟩ <;> conv => whnf)
      | (refine ⟨Or.inl True.intro, ?_⟩ <;> conv => whnf)
      | (refine ⟨Or.inr True.intro, ?_⟩ <;> conv => whnf)
      | (refine ⟨fun c => ?_, fun c => ?_⟩ <;> first | ((have c9 : (1 : Int32) = 0 := by with_reducible exact c); exact absurd c9 (by decide)) | exact absurd (rfl : (0 : Int32) = 0) (by with_reducible exact c) | exact absurd True.intro (by with_reducible exact c) | exact False.elim (by with_reducible exact c) | exact absurd (by decide) c | (conv => whnf))
      | (refine ⟨by unfold vp_in; decide, ?_⟩ <;> conv => whnf)
      | fail
    all_goals exact HF rfl
  · have hlt : h < 60 := by omega
    have hcl : (nI h).toNatClampNeg = h := nI_clamp (by omega)
    repeat' first
      | (simp only [hb, m_ui_ap, m_fil_ap, m_cpy_ap, Nat.reduceEqDiff, Nat.reduceLT, Nat.reduceLeDiff, eq_self, ↓reduceIte, false_and, and_false, true_and, and_true, and_self])
      | ((with_reducible refine ⟨vp_in_nI (by omega) (by decide), ?_⟩) <;> conv => whnf)
      | (refine ⟨Or.inl rfl, ?_⟩ <;> conv => whnf)
      | (refine ⟨Or.inr rfl, ?_⟩ <;> conv => whnf)
      | (refine ⟨Or.inl True.intro, ?_⟩ <;> conv => whnf)
      | (refine ⟨Or.inr True.intro, ?_⟩ <;> conv => whnf)
      | (refine ⟨fun c => ?_, fun c => ?_⟩ <;> first | ((have c9 : (1 : Int32) = 0 := by with_reducible exact c); exact absurd c9 (by decide)) | exact absurd (rfl : (0 : Int32) = 0) (by with_reducible exact c) | exact absurd True.intro (by with_reducible exact c) | exact False.elim (by with_reducible exact c) | exact absurd ((nI_eq (b := 60) (by omega) (by decide)).mp c) hq | (conv => whnf))
      | (refine ⟨by unfold vp_in; decide, ?_⟩ <;> conv => whnf)
      | fail
    all_goals (simp only [hcl]; exact H hlt)
set_option maxRecDepth 100000 in
set_option maxHeartbeats 4000000 in
theorem smf_keep {d L : Nat} {f : Nat → Nat → Int32} {g : Nat → Nat → Int64} {h : Nat} {x1 x2 x3 x4 x5 x6 : Int32} {R : Option Value → mH → Prop} (hd : 1 ≤ d) (hb : f 181 14 = nI h) (hlt : h < 60) (H : R none (shF L, kadd f h x1 x2 x3 x4 x5 x6, g)) : Run mtab d 167 [.ref 181, .int x1, .int x2, .int x3, .int x4, .int x5, .int x6] (shF L, f, g) R := by
  obtain ⟨d, rfl⟩ : ∃ e, d = e + 1 := ⟨d - 1, by omega⟩
  refine go_X11_keepHolding rfl ?_
  conv => whnf
  have hc0 : (nI (6 * h)).toNatClampNeg = 6 * h := nI_clamp (by omega)
  have hc1 : (nI (6 * h + 1)).toNatClampNeg = 6 * h + 1 := nI_clamp (by omega)
  have hc2 : (nI (6 * h + 2)).toNatClampNeg = 6 * h + 2 := nI_clamp (by omega)
  have hc3 : (nI (6 * h + 3)).toNatClampNeg = 6 * h + 3 := nI_clamp (by omega)
  have hc4 : (nI (6 * h + 4)).toNatClampNeg = 6 * h + 4 := nI_clamp (by omega)
  have hc5 : (nI (6 * h + 5)).toNatClampNeg = 6 * h + 5 := nI_clamp (by omega)
  repeat' first
    | (simp only [hb, nI_6m, nI_1, nI_k _ 2 2 rfl, nI_k _ 3 3 rfl, nI_k _ 4 4 rfl, nI_k _ 5 5 rfl, m_ui_ap, m_fil_ap, m_cpy_ap, Nat.reduceEqDiff, Nat.reduceLT, Nat.reduceLeDiff, eq_self, ↓reduceIte, false_and, and_false, true_and, and_true, and_self])
    | ((with_reducible refine ⟨vp_in_nI (by omega) (by decide), ?_⟩) <;> conv => whnf)
    | (refine ⟨Or.inl rfl, ?_⟩ <;> conv => whnf)
    | (refine ⟨Or.inr rfl, ?_⟩ <;> conv => whnf)
    | (refine ⟨Or.inl True.intro, ?_⟩ <;> conv => whnf)
    | (refine ⟨Or.inr True.intro, ?_⟩ <;> conv => whnf)
    | (refine ⟨fun c => ?_, fun c => ?_⟩ <;> first | ((have c9 : (1 : Int32) = 0 := by with_reducible exact c); exact absurd c9 (by decide)) | exact absurd (rfl : (0 : Int32) = 0) (by with_reducible exact c) | exact absurd True.intro (by with_reducible exact c) | exact False.elim (by with_reducible exact c) | (conv => whnf))
    | (refine ⟨by unfold vp_in; decide, ?_⟩ <;> conv => whnf)
    | fail
  all_goals (simp only [hc0, hc1, hc2, hc3, hc4, hc5]; exact H)
def SX_holding (n h : Nat) (f f1 : Nat → Nat → Int32) (x1 x2 x3 x4 x5 x6 v : Int32) : Prop := (¬ holdw n x1 x2 x3 x4 x5 x6 ∧ v = -1 ∧ f1 = f) ∨ (holdw n x1 x2 x3 x4 x5 x6 ∧ ((h = 60 ∧ v = -3 ∧ f1 = f) ∨ (h < 60 ∧ v = nI h ∧ f1 = oadd f h x1 x2 x3 x4 x5 x6)))
def SM_holding (n h : Nat) (f f1 : Nat → Nat → Int32) (x1 x2 x3 x4 x5 x6 v : Int32) : Prop := (¬ holdw n x1 x2 x3 x4 x5 x6 ∧ v = -1 ∧ f1 = f) ∨ (holdw n x1 x2 x3 x4 x5 x6 ∧ ((h = 60 ∧ v = -3 ∧ f1 = f) ∨ (h < 60 ∧ v = nI h ∧ f1 = kadd f h x1 x2 x3 x4 x5 x6)))
def SX_unhold (h : Nat) (f f1 : Nat → Nat → Int32) (v : Int32) : Prop := (h = 0 ∧ v = -2 ∧ f1 = f) ∨ (0 < h ∧ v = nI (h - 1) ∧ f1 = m_ui f 100 6 (nI (h - 1)))
def SM_unhold (h : Nat) (f f1 : Nat → Nat → Int32) (v : Int32) : Prop := (h = 0 ∧ v = -2 ∧ f1 = f) ∨ (0 < h ∧ v = nI (h - 1) ∧ f1 = m_ui (m_ui f 181 14 (nI (h - 1))) 181 29 0)
theorem nI_pr {h : Nat} (h0 : 0 < h) : nI h - 1 = nI (h - 1) := by
  obtain ⟨k, rfl⟩ : ∃ k, h = k + 1 := ⟨h - 1, by omega⟩
  exact nI_pred k
set_option maxRecDepth 100000 in
set_option maxHeartbeats 4000000 in
theorem sf_holding {d L : Nat} {f : Nat → Nat → Int32} {g : Nat → Nat → Int64} {n h : Nat} {x1 x2 x3 x4 x5 x6 : Int32} {R : Option Value → mH → Prop} (hd : 6 ≤ d) (hb : f 6 13 = nI n) (hm : n ≤ 40) (hhb : f 100 6 = nI h) (hhm : h ≤ 60) (H : ∀ v f1, SX_holding n h f f1 x1 x2 x3 x4 x5 x6 v → R (some (.int v)) (shF L, f1, g)) : Run mtab d 98 [.ref 5, .int x1, .int x2, .int x3, .int x4, .int x5, .int x6] (shF L, f, g) R := by
  obtain ⟨d, rfl⟩ : ∃ e, d = e + 1 := ⟨d - 1, by omega⟩
  refine go_X10_holding rfl ?_
  conv => whnf
  refine sf_isHoldingWell (by omega) hb hm (fun p => ?_) (fun p => ?_)
  · conv => whnf
    refine ⟨fun _ => ?_, fun c => absurd c (by decide)⟩
    conv => whnf
    refine sf_Oadd (by omega) hhb hhm (fun q => ?_) (fun q => ?_)
    · conv => whnf
      exact H _ _ (Or.inr ⟨p, Or.inl ⟨q, rfl, rfl⟩⟩)
    · conv => whnf
      exact H _ _ (Or.inr ⟨p, Or.inr ⟨q, rfl, rfl⟩⟩)
  · conv => whnf
    refine ⟨fun c => absurd rfl c, fun _ => ?_⟩
    conv => whnf
    exact H _ _ (Or.inl ⟨p, rfl, rfl⟩)
set_option maxRecDepth 100000 in
set_option maxHeartbeats 4000000 in
theorem sf_unhold {d L : Nat} {f : Nat → Nat → Int32} {g : Nat → Nat → Int64} {h : Nat} {R : Option Value → mH → Prop} (hd : 1 ≤ d) (hhb : f 100 6 = nI h) (hhm : h ≤ 60) (H : ∀ v f1, SX_unhold h f f1 v → R (some (.int v)) (shF L, f1, g)) : Run mtab d 99 [.ref 5] (shF L, f, g) R := by
  obtain ⟨d, rfl⟩ : ∃ e, d = e + 1 := ⟨d - 1, by omega⟩
  refine go_X10_unhold rfl ?_
  conv => whnf
  simp only [hhb]
  by_cases h0 : h = 0
  · subst h0
    refine ⟨fun c => absurd rfl c, fun _ => ?_⟩
    conv => whnf
    exact H _ _ (Or.inl ⟨rfl, rfl, rfl⟩)
  · have hp := nI_pr (h := h) (by omega)
    refine ⟨fun _ => ?_, fun c => absurd ((nI_eq (b := 0) (by omega) (by decide)).mp c) h0⟩
    conv => whnf
    simp only [hhb, hp]
    exact H _ _ (Or.inr ⟨by omega, rfl, rfl⟩)
set_option maxRecDepth 100000 in
set_option maxHeartbeats 4000000 in
theorem smf_holding {d L : Nat} {f : Nat → Nat → Int32} {g : Nat → Nat → Int64} {n h : Nat} {x1 x2 x3 x4 x5 x6 : Int32} {R : Option Value → mH → Prop} (hd : 6 ≤ d) (hb : f 181 0 = nI n) (hm : n ≤ 40) (hhb : f 181 14 = nI h) (hhm : h ≤ 60) (H : ∀ v f1, SM_holding n h f f1 x1 x2 x3 x4 x5 x6 v → R (some (.int v)) (shF L, f1, g)) : Run mtab d 168 [.ref 181, .int x1, .int x2, .int x3, .int x4, .int x5, .int x6] (shF L, f, g) R := by
  obtain ⟨d, rfl⟩ : ∃ e, d = e + 1 := ⟨d - 1, by omega⟩
  refine go_X11_holding rfl ?_
  conv => whnf
  refine smf_isHolding (by omega) hb hm (fun p => ?_) (fun p => ?_)
  · conv => whnf
    refine ⟨fun _ => ?_, fun c => absurd c (by decide)⟩
    conv => whnf
    simp only [hhb]
    by_cases hq : h = 60
    · subst hq
      refine ⟨fun c => absurd (by decide) c, fun _ => ?_⟩
      conv => whnf
      exact H _ _ (Or.inr ⟨p, Or.inl ⟨rfl, rfl, rfl⟩⟩)
    · refine ⟨fun _ => ?_, fun c => absurd ((nI_eq (b := 60) (by omega) (by decide)).mp c) hq⟩
      conv => whnf
      refine smf_keep (by omega) hhb (by omega) ?_
      have e : kadd f h x1 x2 x3 x4 x5 x6 181 14 - 1 = nI h := by
        show nI (h + 1) - 1 = nI h
        exact nI_pred h
      conv => whnf
      have H2 := H _ _ (Or.inr ⟨p, Or.inr ⟨by omega, rfl, rfl⟩⟩)
      rw [← e] at H2
      exact H2
  · conv => whnf
    refine ⟨fun c => absurd rfl c, fun _ => ?_⟩
    conv => whnf
    exact H _ _ (Or.inl ⟨p, rfl, rfl⟩)
set_option maxRecDepth 100000 in
set_option maxHeartbeats 4000000 in
theorem smf_unhold {d L : Nat} {f : Nat → Nat → Int32} {g : Nat → Nat → Int64} {h : Nat} {R : Option Value → mH → Prop} (hd : 1 ≤ d) (hhb : f 181 14 = nI h) (hhm : h ≤ 60) (H : ∀ v f1, SM_unhold h f f1 v → R (some (.int v)) (shF L, f1, g)) : Run mtab d 169 [.ref 181] (shF L, f, g) R := by
  obtain ⟨d, rfl⟩ : ∃ e, d = e + 1 := ⟨d - 1, by omega⟩
  refine go_X11_unhold rfl ?_
  conv => whnf
  simp only [hhb]
  by_cases h0 : h = 0
  · subst h0
    refine ⟨fun c => absurd rfl c, fun _ => ?_⟩
    conv => whnf
    exact H _ _ (Or.inl ⟨rfl, rfl, rfl⟩)
  · have hp := nI_pr (h := h) (by omega)
    refine ⟨fun _ => ?_, fun c => absurd ((nI_eq (b := 0) (by omega) (by decide)).mp c) h0⟩
    conv => whnf
    simp only [hhb, hp]
    refine ⟨by first | exact Or.inl rfl | exact Or.inl True.intro, ?_⟩
    conv => whnf
    exact H _ _ (Or.inr ⟨by omega, rfl, rfl⟩)
