def SX_kin (f f1 : Nat → Nat → Int32) (x1 x2 v : Int32) : Prop := (¬ (inr 0 7 x1 ∧ inr 0 1048575 x2) ∧ v = -1 ∧ f1 = f) ∨ (∃ s, s < 8 ∧ x1 = nI s ∧ inr 0 1048575 x2 ∧ v = f 120 s ∧ f1 = m_ui f 120 s x2)
def SM_kin (f f1 : Nat → Nat → Int32) (x1 x2 v : Int32) : Prop := (¬ (inr 0 7 x1 ∧ inr 0 1048575 x2) ∧ v = -1 ∧ f1 = f) ∨ (∃ s, s < 8 ∧ x1 = nI s ∧ inr 0 1048575 x2 ∧ v = f 212 s ∧ f1 = m_ui f 212 s x2)
def RK (f : Nat → Nat → Int32) : Prop := ∀ s, s < 8 → f 120 s = f 212 s
set_option maxRecDepth 100000 in
set_option maxHeartbeats 4000000 in
theorem sf_kin {d L : Nat} {f : Nat → Nat → Int32} {g : Nat → Nat → Int64} {x1 x2 : Int32} {R : Option Value → mH → Prop} (hd : 3 ≤ d) (H : ∀ v f1, SX_kin f f1 x1 x2 v → R (some (.int v)) (shF L, f1, g)) : Run mtab d 118 [.ref 5, .int x1, .int x2] (shF L, f, g) R := by
  obtain ⟨d, rfl⟩ : ∃ e, d = e + 1 := ⟨d - 1, by omega⟩
  refine go_X10_kin rfl ?_
  conv => whnf
  refine ct_isWithin (by omega) (fun p1 => ?_) (fun p1 => ?_)
  · obtain ⟨s, hs, rfl⟩ := inr_nat (n := 7) rfl p1
    have hcl : (nI s).toNatClampNeg = s := nI_clamp (by omega)
    conv => whnf
    (refine ⟨fun c => ?_, fun c => ?_⟩ <;> first | ((have c9 : (1 : Int32) = 0 := by with_reducible exact c); exact absurd c9 (by decide)) | exact absurd (rfl : (0 : Int32) = 0) (by with_reducible exact c) | exact absurd True.intro (by with_reducible exact c) | exact False.elim (by with_reducible exact c) | (conv => whnf))
    refine ct_isBits20 (by omega) (fun p2 => ?_) (fun p2 => ?_)
    · conv => whnf
      (refine ⟨fun c => ?_, fun c => ?_⟩ <;> first | ((have c9 : (1 : Int32) = 0 := by with_reducible exact c); exact absurd c9 (by decide)) | exact absurd (rfl : (0 : Int32) = 0) (by with_reducible exact c) | exact absurd True.intro (by with_reducible exact c) | exact False.elim (by with_reducible exact c) | (conv => whnf))
      refine ⟨vp_in_nI (by omega) (by decide), ?_⟩
      conv => whnf
      refine ⟨vp_in_nI (by omega) (by decide), ?_⟩
      conv => whnf
      simp only [hcl]
      exact H _ _ (Or.inr ⟨s, by omega, rfl, p2, rfl, rfl⟩)
    · conv => whnf
      (refine ⟨fun c => ?_, fun c => ?_⟩ <;> first | ((have c9 : (1 : Int32) = 0 := by with_reducible exact c); exact absurd c9 (by decide)) | exact absurd (rfl : (0 : Int32) = 0) (by with_reducible exact c) | exact absurd True.intro (by with_reducible exact c) | exact False.elim (by with_reducible exact c) | (conv => whnf))
      exact H _ _ (Or.inl ⟨fun hh => p2 hh.2, rfl, rfl⟩)
  · conv => whnf
    (refine ⟨fun c => ?_, fun c => ?_⟩ <;> first | ((have c9 : (1 : Int32) = 0 := by with_reducible exact c); exact absurd c9 (by decide)) | exact absurd (rfl : (0 : Int32) = 0) (by with_reducible exact c) | exact absurd True.intro (by with_reducible exact c) | exact False.elim (by with_reducible exact c) | (conv => whnf))
    exact H _ _ (Or.inl ⟨fun hh => p1 hh.1, rfl, rfl⟩)
set_option maxRecDepth 100000 in
set_option maxHeartbeats 4000000 in
theorem smf_kin {d L : Nat} {f : Nat → Nat → Int32} {g : Nat → Nat → Int64} {x1 x2 : Int32} {R : Option Value → mH → Prop} (hd : 3 ≤ d) (H : ∀ v f1, SM_kin f f1 x1 x2 v → R (some (.int v)) (shF L, f1, g)) : Run mtab d 214 [.ref 181, .int x1, .int x2] (shF L, f, g) R := by
  obtain ⟨d, rfl⟩ : ∃ e, d = e + 1 := ⟨d - 1, by omega⟩
  refine go_X11_kin rfl ?_
  conv => whnf
  refine ct_i_0_7 (by omega) (fun p1 => ?_) (fun p1 => ?_)
  · obtain ⟨s, hs, rfl⟩ := inr_nat (n := 7) rfl p1
    have hcl : (nI s).toNatClampNeg = s := nI_clamp (by omega)
    conv => whnf
    (refine ⟨fun c => ?_, fun c => ?_⟩ <;> first | ((have c9 : (1 : Int32) = 0 := by with_reducible exact c); exact absurd c9 (by decide)) | exact absurd (rfl : (0 : Int32) = 0) (by with_reducible exact c) | exact absurd True.intro (by with_reducible exact c) | exact False.elim (by with_reducible exact c) | (conv => whnf))
    refine ct_i_0_1048575 (by omega) (fun p2 => ?_) (fun p2 => ?_)
    · conv => whnf
      (refine ⟨fun c => ?_, fun c => ?_⟩ <;> first | ((have c9 : (1 : Int32) = 0 := by with_reducible exact c); exact absurd c9 (by decide)) | exact absurd (rfl : (0 : Int32) = 0) (by with_reducible exact c) | exact absurd True.intro (by with_reducible exact c) | exact False.elim (by with_reducible exact c) | (conv => whnf))
      refine ⟨vp_in_nI (by omega) (by decide), ?_⟩
      conv => whnf
      refine ⟨vp_in_nI (by omega) (by decide), ?_⟩
      conv => whnf
      simp only [hcl]
      exact H _ _ (Or.inr ⟨s, by omega, rfl, p2, rfl, rfl⟩)
    · conv => whnf
      (refine ⟨fun c => ?_, fun c => ?_⟩ <;> first | ((have c9 : (1 : Int32) = 0 := by with_reducible exact c); exact absurd c9 (by decide)) | exact absurd (rfl : (0 : Int32) = 0) (by with_reducible exact c) | exact absurd True.intro (by with_reducible exact c) | exact False.elim (by with_reducible exact c) | (conv => whnf))
      exact H _ _ (Or.inl ⟨fun hh => p2 hh.2, rfl, rfl⟩)
  · conv => whnf
    (refine ⟨fun c => ?_, fun c => ?_⟩ <;> first | ((have c9 : (1 : Int32) = 0 := by with_reducible exact c); exact absurd c9 (by decide)) | exact absurd (rfl : (0 : Int32) = 0) (by with_reducible exact c) | exact absurd True.intro (by with_reducible exact c) | exact False.elim (by with_reducible exact c) | (conv => whnf))
    exact H _ _ (Or.inl ⟨fun hh => p1 hh.1, rfl, rfl⟩)
theorem kx_kin {f f1 : Nat → Nat → Int32} {x1 x2 v : Int32} (s : SX_kin f f1 x1 x2 v) : kp [9] f f1 := by
  rcases s with ⟨_, _, rfl⟩ | ⟨t, _, _, _, _, rfl⟩
  · exact kp_refl _ _
  · exact kp_ui rfl (kp_refl _ _)
theorem km_kin {f f1 : Nat → Nat → Int32} {x1 x2 v : Int32} (s : SM_kin f f1 x1 x2 v) : kp [19] f f1 := by
  rcases s with ⟨_, _, rfl⟩ | ⟨t, _, _, _, _, rfl⟩
  · exact kp_refl _ _
  · exact kp_ui rfl (kp_refl _ _)
theorem fin_kin {f f1 f2 : Nat → Nat → Int32} {x1 x2 v1 v2 : Int32} (hX : XI f) (hK : RK f) (s1 : SX_kin f f1 x1 x2 v1) (s2 : SM_kin f1 f2 x1 x2 v2) : XI f2 ∧ RK f2 ∧ v1 = v2 := by
  rcases s1 with ⟨q1, rfl, rfl⟩ | ⟨s, hs, e1, p2, rfl, rfl⟩
  · rcases s2 with ⟨q2, rfl, rfl⟩ | ⟨t, ht, e2, u2, ev2, rfl⟩
    · exact ⟨hX, hK, rfl⟩
    · exact absurd ⟨by rw [e2]; exact inr_n (m := 7) (by omega) rfl (by decide), u2⟩ q1
  · rcases s2 with ⟨q2, rfl, rfl⟩ | ⟨t, ht, e2, u2, ev2, rfl⟩
    · exact absurd ⟨by rw [e1]; exact inr_n (m := 7) (by omega) rfl (by decide), p2⟩ q2
    · have est : s = t := (nI_eq (by omega) (by omega)).mp (e1.symm.trans e2)
      subst est
      refine ⟨XI_ui (XI_ui hX True.intro) True.intro, fun t ht => ?_, ?_⟩
      · by_cases e : t = s
        · subst e
          rw [m_ui_o (by omega), m_ui_s, m_ui_s]
        · rw [m_ui_o (by omega), m_ui_o (by omega), m_ui_o (by omega), m_ui_o (by omega), hK t ht]
      · rw [ev2, m_ui_o (by omega)]
        exact hK s hs
def cluew (n : Nat) (x1 x2 x3 : Int32) : Prop := hasw n x1 ∧ hasw n x2 ∧ ¬ x1 = x2 ∧ inr (-30) 30 x3
def cadd (f : Nat → Nat → Int32) (h : Nat) (x1 x2 x3 : Int32) : Nat → Nat → Int32 := (m_ui (m_ui (m_ui (m_ui (m_ui f 130 h x1) 131 h x2) 132 h x3) 133 h (vp_nar .boolean 1)) 129 6 (nI h + 1))
def mcadd (f : Nat → Nat → Int32) (h : Nat) (x1 x2 x3 : Int32) : Nat → Nat → Int32 := (m_ui (m_ui (m_ui (m_ui (m_ui (m_ui f 196 h x1) 197 h x2) 198 h x3) 199 h (vp_nar .boolean 1)) 181 16 (nI (h + 1))) 181 29 0)
def SX_clue (n h : Nat) (f f1 : Nat → Nat → Int32) (x1 x2 x3 v : Int32) : Prop := (¬ cluew n x1 x2 x3 ∧ v = -1 ∧ f1 = f) ∨ (cluew n x1 x2 x3 ∧ ((h = 20 ∧ v = -3 ∧ f1 = f) ∨ (h < 20 ∧ v = nI h ∧ f1 = cadd f h x1 x2 x3)))
def SM_clue (n h : Nat) (f f1 : Nat → Nat → Int32) (x1 x2 x3 v : Int32) : Prop := (¬ cluew n x1 x2 x3 ∧ v = -1 ∧ f1 = f) ∨ (cluew n x1 x2 x3 ∧ ((h = 20 ∧ v = -3 ∧ f1 = f) ∨ (h < 20 ∧ v = nI h ∧ f1 = mcadd f h x1 x2 x3)))
def RLk (f : Nat → Nat → Int32) (k : Nat) : Prop := f 130 k = f 196 k ∧ f 131 k = f 197 k ∧ f 132 k = f 198 k ∧ f 133 k = f 199 k ∧ inr (-30) 30 (f 198 k) ∧ ¬ f 196 k = f 197 k
/-- both objects have the same clues; they name works -/
def RC (c : Nat) (f : Nat → Nat → Int32) : Prop := c ≤ 20 ∧ f 129 6 = nI c ∧ f 181 16 = nI c ∧ ∀ k, k < c → RLk f k
set_option maxRecDepth 100000 in
set_option maxHeartbeats 4000000 in
theorem sf_Yadd {d L : Nat} {f : Nat → Nat → Int32} {g : Nat → Nat → Int64} {h : Nat} {x1 x2 x3 : Int32} {R : Option Value → mH → Prop} (hd : 1 ≤ d) (hb : f 129 6 = nI h) (hm : h ≤ 20) (HF : h = 20 → R (some (.int (-3))) (shF L, f, g)) (H : h < 20 → R (some (.int (nI h))) (shF L, cadd f h x1 x2 x3, g)) : Run mtab d 78 [.ref 129, .int x1, .int x2, .int x3] (shF L, f, g) R := by
  obtain ⟨d, rfl⟩ : ∃ e, d = e + 1 := ⟨d - 1, by omega⟩
  refine go_X9_add rfl ?_
  conv => whnf
  by_cases hq : h = 20
  · subst hq
    repeat' first
      | (simp only [hb])
      | ((with_reducible refine ⟨vp_in_nI (by omega) (by decide), ?_⟩) <;> conv => whnf)
      | (refine ⟨Or.inl rfl, ?_⟩ <;> conv => whnf)
      | (refine ⟨Or.inr rfl, ?_⟩ <;> conv => whnf)
      | (refine ⟨Or.inl True.intro, ?_⟩ <;> conv => whnf)
      | (refine ⟨Or.inr True.intro, ?_⟩ <;> conv => whnf)
      | (refine ⟨fun c => ?_, fun c => ?_⟩ <;> first | ((have c9 : (1 : Int32) = 0 := by with_reducible exact c); exact absurd c9 (by decide)) | exact absurd (rfl : (0 : Int32) = 0) (by with_reducible exact c) | exact absurd True.intro (by with_reducible exact c) | exact False.elim (by with_reducible exact c) | exact absurd (by decide) c | (conv => whnf))
      | (refine ⟨by unfold vp_in; decide, ?_⟩ <;> conv => whnf)
      | fail
    all_goals exact HF rfl
  · have hlt : h < 20 := by omega
    have hcl : (nI h).toNatClampNeg = h := nI_clamp (by omega)
    repeat' first
      | (simp only [hb, m_ui_ap, m_fil_ap, m_cpy_ap, Nat.reduceEqDiff, Nat.reduceLT, Nat.reduceLeDiff, eq_self, ↓reduceIte, false_and, and_false, true_and, and_true, and_self])
      | ((with_reducible refine ⟨vp_in_nI (by omega) (by decide), ?_⟩) <;> conv => whnf)
      | (refine ⟨Or.inl rfl, ?_⟩ <;> conv => whnf)
      | (refine ⟨Or.inr rfl, ?_⟩ <;> conv => whnf)
      | (refine ⟨Or.inl True.intro, ?_⟩ <;> conv => whnf)
      | (refine ⟨Or.inr True.intro, ?_⟩ <;> conv => whnf)
      | (refine ⟨fun c => ?_, fun c => ?_⟩ <;> first | ((have c9 : (1 : Int32) = 0 := by with_reducible exact c); exact absurd c9 (by decide)) | exact absurd (rfl : (0 : Int32) = 0) (by with_reducible exact c) | exact absurd True.intro (by with_reducible exact c) | exact False.elim (by with_reducible exact c) | exact absurd ((nI_eq (b := 20) (by omega) (by decide)).mp c) hq | (conv => whnf))
      | (refine ⟨by unfold vp_in; decide, ?_⟩ <;> conv => whnf)
      | fail
    all_goals (simp only [hcl]; exact H hlt)
set_option maxRecDepth 100000 in
set_option maxHeartbeats 4000000 in
theorem sf_clue {d L : Nat} {f : Nat → Nat → Int32} {g : Nat → Nat → Int64} {n h : Nat} {x1 x2 x3 : Int32} {R : Option Value → mH → Prop} (hd : 3 ≤ d) (hb : f 6 13 = nI n) (hm : n ≤ 40) (hhb : f 129 6 = nI h) (hhm : h ≤ 20) (H : ∀ v f1, SX_clue n h f f1 x1 x2 x3 v → R (some (.int v)) (shF L, f1, g)) : Run mtab d 112 [.ref 5, .int x1, .int x2, .int x3] (shF L, f, g) R := by
  obtain ⟨d, rfl⟩ : ∃ e, d = e + 1 := ⟨d - 1, by omega⟩
  refine go_X10_clue rfl ?_
  conv => whnf
  refine ct_has (by omega) hb hm (fun j hj e => ?_) (fun q => ?_)
  · subst e
    conv => whnf
    (refine ⟨fun c => ?_, fun c => ?_⟩ <;> first | ((have c9 : (1 : Int32) = 0 := by with_reducible exact c); exact absurd c9 (by decide)) | exact absurd (rfl : (0 : Int32) = 0) (by with_reducible exact c) | exact absurd True.intro (by with_reducible exact c) | exact False.elim (by with_reducible exact c) | (conv => whnf))
    refine ct_has (by omega) hb hm (fun j2 hj2 e2 => ?_) (fun q => ?_)
    · subst e2
      conv => whnf
      (refine ⟨fun c => ?_, fun c => ?_⟩ <;> first | ((have c9 : (1 : Int32) = 0 := by with_reducible exact c); exact absurd c9 (by decide)) | exact absurd (rfl : (0 : Int32) = 0) (by with_reducible exact c) | exact absurd True.intro (by with_reducible exact c) | exact False.elim (by with_reducible exact c) | (conv => whnf))
      refine ⟨fun c1 => ?_, fun c1 => ?_⟩
      · conv => whnf
        exact H _ _ (Or.inl ⟨fun hh => hh.2.2.1 c1, rfl, rfl⟩)
      · conv => whnf
        refine ct_isWithin (by omega) (fun p => ?_) (fun p => ?_)
        · conv => whnf
          (refine ⟨fun c => ?_, fun c => ?_⟩ <;> first | ((have c9 : (1 : Int32) = 0 := by with_reducible exact c); exact absurd c9 (by decide)) | exact absurd (rfl : (0 : Int32) = 0) (by with_reducible exact c) | exact absurd True.intro (by with_reducible exact c) | exact False.elim (by with_reducible exact c) | (conv => whnf))
          have hw : cluew n (nI j) (nI j2) x3 := ⟨⟨j, hj, rfl⟩, ⟨j2, hj2, rfl⟩, c1, p⟩
          refine sf_Yadd (by omega) hhb hhm (fun q => ?_) (fun q => ?_)
          · conv => whnf
            exact H _ _ (Or.inr ⟨hw, Or.inl ⟨q, rfl, rfl⟩⟩)
          · conv => whnf
            exact H _ _ (Or.inr ⟨hw, Or.inr ⟨q, rfl, rfl⟩⟩)
        · conv => whnf
          (refine ⟨fun c => ?_, fun c => ?_⟩ <;> first | ((have c9 : (1 : Int32) = 0 := by with_reducible exact c); exact absurd c9 (by decide)) | exact absurd (rfl : (0 : Int32) = 0) (by with_reducible exact c) | exact absurd True.intro (by with_reducible exact c) | exact False.elim (by with_reducible exact c) | (conv => whnf))
          exact H _ _ (Or.inl ⟨fun hh => p hh.2.2.2, rfl, rfl⟩)
    · conv => whnf
      (refine ⟨fun c => ?_, fun c => ?_⟩ <;> first | ((have c9 : (1 : Int32) = 0 := by with_reducible exact c); exact absurd c9 (by decide)) | exact absurd (rfl : (0 : Int32) = 0) (by with_reducible exact c) | exact absurd True.intro (by with_reducible exact c) | exact False.elim (by with_reducible exact c) | (conv => whnf))
      exact H _ _ (Or.inl ⟨fun hh => nhasw q hh.2.1, rfl, rfl⟩)
  · conv => whnf
    (refine ⟨fun c => ?_, fun c => ?_⟩ <;> first | ((have c9 : (1 : Int32) = 0 := by with_reducible exact c); exact absurd c9 (by decide)) | exact absurd (rfl : (0 : Int32) = 0) (by with_reducible exact c) | exact absurd True.intro (by with_reducible exact c) | exact False.elim (by with_reducible exact c) | (conv => whnf))
    exact H _ _ (Or.inl ⟨fun hh => nhasw q hh.1, rfl, rfl⟩)
set_option maxRecDepth 100000 in
set_option maxHeartbeats 4000000 in
theorem smf_clue {d L : Nat} {f : Nat → Nat → Int32} {g : Nat → Nat → Int64} {n h : Nat} {x1 x2 x3 : Int32} {R : Option Value → mH → Prop} (hd : 3 ≤ d) (hb : f 181 0 = nI n) (hm : n ≤ 40) (hhb : f 181 16 = nI h) (hhm : h ≤ 20) (H : ∀ v f1, SM_clue n h f f1 x1 x2 x3 v → R (some (.int v)) (shF L, f1, g)) : Run mtab d 176 [.ref 181, .int x1, .int x2, .int x3] (shF L, f, g) R := by
  obtain ⟨d, rfl⟩ : ∃ e, d = e + 1 := ⟨d - 1, by omega⟩
  refine go_X11_clue rfl ?_
  conv => whnf
  refine ct_mIsWork (by omega) hb hm (fun j hj e => ?_) (fun q => ?_)
  · subst e
    conv => whnf
    (refine ⟨fun c => ?_, fun c => ?_⟩ <;> first | ((have c9 : (1 : Int32) = 0 := by with_reducible exact c); exact absurd c9 (by decide)) | exact absurd (rfl : (0 : Int32) = 0) (by with_reducible exact c) | exact absurd True.intro (by with_reducible exact c) | exact False.elim (by with_reducible exact c) | (conv => whnf))
    refine ct_mIsWork (by omega) hb hm (fun j2 hj2 e2 => ?_) (fun q => ?_)
    · subst e2
      conv => whnf
      (refine ⟨fun c => ?_, fun c => ?_⟩ <;> first | ((have c9 : (1 : Int32) = 0 := by with_reducible exact c); exact absurd c9 (by decide)) | exact absurd (rfl : (0 : Int32) = 0) (by with_reducible exact c) | exact absurd True.intro (by with_reducible exact c) | exact False.elim (by with_reducible exact c) | (conv => whnf))
      refine ⟨fun c1 => ?_, fun c1 => ?_⟩
      · conv => whnf
        exact H _ _ (Or.inl ⟨fun hh => hh.2.2.1 c1, rfl, rfl⟩)
      · conv => whnf
        refine ct_i_m30_30 (by omega) (fun p => ?_) (fun p => ?_)
        · conv => whnf
          (refine ⟨fun c => ?_, fun c => ?_⟩ <;> first | ((have c9 : (1 : Int32) = 0 := by with_reducible exact c); exact absurd c9 (by decide)) | exact absurd (rfl : (0 : Int32) = 0) (by with_reducible exact c) | exact absurd True.intro (by with_reducible exact c) | exact False.elim (by with_reducible exact c) | (conv => whnf))
          have hw : cluew n (nI j) (nI j2) x3 := ⟨⟨j, hj, rfl⟩, ⟨j2, hj2, rfl⟩, c1, p⟩
          simp only [hhb]
          by_cases hq : h = 20
          · subst hq
            refine ⟨fun c => absurd (by decide) c, fun _ => ?_⟩
            conv => whnf
            exact H _ _ (Or.inr ⟨hw, Or.inl ⟨rfl, rfl, rfl⟩⟩)
          · refine ⟨fun _ => ?_, fun c => absurd ((nI_eq (b := 20) (by omega) (by decide)).mp c) hq⟩
            have hcl : (nI h).toNatClampNeg = h := nI_clamp (by omega)
            conv => whnf
            (try simp only [hhb, m_ui_ap, m_fil_ap, m_cpy_ap, Nat.reduceEqDiff, Nat.reduceLT, Nat.reduceLeDiff, eq_self, ↓reduceIte, false_and, and_false, true_and, and_true, and_self])
            refine ⟨vp_in_nI (by omega) (by decide), ?_⟩
            conv => whnf
            (try simp only [hhb, m_ui_ap, m_fil_ap, m_cpy_ap, Nat.reduceEqDiff, Nat.reduceLT, Nat.reduceLeDiff, eq_self, ↓reduceIte, false_and, and_false, true_and, and_true, and_self])
            refine ⟨vp_in_nI (by omega) (by decide), ?_⟩
            conv => whnf
            (try simp only [hhb, m_ui_ap, m_fil_ap, m_cpy_ap, Nat.reduceEqDiff, Nat.reduceLT, Nat.reduceLeDiff, eq_self, ↓reduceIte, false_and, and_false, true_and, and_true, and_self])
            refine ⟨vp_in_nI (by omega) (by decide), ?_⟩
            conv => whnf
            (try simp only [hhb, m_ui_ap, m_fil_ap, m_cpy_ap, Nat.reduceEqDiff, Nat.reduceLT, Nat.reduceLeDiff, eq_self, ↓reduceIte, false_and, and_false, true_and, and_true, and_self])
            refine ⟨vp_in_nI (by omega) (by decide), ?_⟩
            conv => whnf
            (try simp only [hhb, nI_1, m_ui_ap, m_fil_ap, m_cpy_ap, Nat.reduceEqDiff, Nat.reduceLT, Nat.reduceLeDiff, eq_self, ↓reduceIte, false_and, and_false, true_and, and_true, and_self])
            (try refine ⟨by first | exact Or.inl rfl | exact Or.inl True.intro, ?_⟩)
            (try (conv => whnf))
            have H2 := H _ _ (Or.inr ⟨hw, Or.inr ⟨by omega, rfl, rfl⟩⟩)
            have e : nI (h + 1) - 1 = nI h := nI_pred h
            rw [← e] at H2
            simp only [hcl, hhb, nI_1, m_ui_ap, m_fil_ap, m_cpy_ap, Nat.reduceEqDiff, Nat.reduceLT, Nat.reduceLeDiff, eq_self, ↓reduceIte, false_and, and_false, true_and, and_true, and_self]
            exact H2
        · conv => whnf
          (refine ⟨fun c => ?_, fun c => ?_⟩ <;> first | ((have c9 : (1 : Int32) = 0 := by with_reducible exact c); exact absurd c9 (by decide)) | exact absurd (rfl : (0 : Int32) = 0) (by with_reducible exact c) | exact absurd True.intro (by with_reducible exact c) | exact False.elim (by with_reducible exact c) | (conv => whnf))
          exact H _ _ (Or.inl ⟨fun hh => p hh.2.2.2, rfl, rfl⟩)
    · conv => whnf
      (refine ⟨fun c => ?_, fun c => ?_⟩ <;> first | ((have c9 : (1 : Int32) = 0 := by with_reducible exact c); exact absurd c9 (by decide)) | exact absurd (rfl : (0 : Int32) = 0) (by with_reducible exact c) | exact absurd True.intro (by with_reducible exact c) | exact False.elim (by with_reducible exact c) | (conv => whnf))
      exact H _ _ (Or.inl ⟨fun hh => nhasw q hh.2.1, rfl, rfl⟩)
  · conv => whnf
    (refine ⟨fun c => ?_, fun c => ?_⟩ <;> first | ((have c9 : (1 : Int32) = 0 := by with_reducible exact c); exact absurd c9 (by decide)) | exact absurd (rfl : (0 : Int32) = 0) (by with_reducible exact c) | exact absurd True.intro (by with_reducible exact c) | exact False.elim (by with_reducible exact c) | (conv => whnf))
    exact H _ _ (Or.inl ⟨fun hh => nhasw q hh.1, rfl, rfl⟩)
def SX_use (h : Nat) (f f1 : Nat → Nat → Int32) (x1 x2 v : Int32) : Prop := (¬ hasw h x1 ∧ v = -1 ∧ f1 = f) ∨ (∃ k, k < h ∧ x1 = nI k ∧ ((¬ f 133 k = 0 ∧ v = 1) ∨ (f 133 k = 0 ∧ v = 0)) ∧ f1 = m_ui f 133 k (vp_nar .boolean x2))
def SM_use (h : Nat) (f f1 : Nat → Nat → Int32) (x1 x2 v : Int32) : Prop := (¬ hasw h x1 ∧ v = -1 ∧ f1 = f) ∨ (∃ k, k < h ∧ x1 = nI k ∧ ((¬ f 199 k = 0 ∧ v = 1) ∨ (f 199 k = 0 ∧ v = 0)) ∧ f1 = m_ui (m_ui f 199 k (vp_nar .boolean x2)) 181 29 0)
theorem cnt_no {c : Nat} {x : Int32} (hc : c < 2 ^ 31) (h : ¬ inr 0 (nI c - 1) x) : ¬ hasw c x := fun ⟨j, hj, e⟩ => h (by rw [e]; exact inr_cntI hc hj)
set_option maxRecDepth 100000 in
set_option maxHeartbeats 4000000 in
theorem sf_use {d L : Nat} {f : Nat → Nat → Int32} {g : Nat → Nat → Int64} {h : Nat} {x1 x2 : Int32} {R : Option Value → mH → Prop} (hd : 2 ≤ d) (hhb : f 129 6 = nI h) (hhm : h ≤ 20) (H : ∀ v f1, SX_use h f f1 x1 x2 v → R (some (.int v)) (shF L, f1, g)) : Run mtab d 113 [.ref 5, .int x1, .int x2] (shF L, f, g) R := by
  obtain ⟨d, rfl⟩ : ∃ e, d = e + 1 := ⟨d - 1, by omega⟩
  refine go_X10_use rfl ?_
  conv => whnf
  simp only [hhb]
  refine ct_isWithin (by omega) (fun p => ?_) (fun p => ?_)
  · obtain ⟨k, hk, rfl⟩ := inr_cnt (by omega) p
    have hcl : (nI k).toNatClampNeg = k := nI_clamp (by omega)
    conv => whnf
    (refine ⟨fun c => ?_, fun c => ?_⟩ <;> first | ((have c9 : (1 : Int32) = 0 := by with_reducible exact c); exact absurd c9 (by decide)) | exact absurd (rfl : (0 : Int32) = 0) (by with_reducible exact c) | exact absurd True.intro (by with_reducible exact c) | exact False.elim (by with_reducible exact c) | (conv => whnf))
    refine ⟨vp_in_nI (by omega) (by decide), ?_⟩
    conv => whnf
    refine ⟨vp_in_nI (by omega) (by decide), ?_⟩
    conv => whnf
    simp only [hcl]
    refine ct_bit (by omega) (fun q => ?_) (fun q => ?_)
    · conv => whnf
      exact H _ _ (Or.inr ⟨k, hk, rfl, Or.inl ⟨q, rfl⟩, rfl⟩)
    · conv => whnf
      exact H _ _ (Or.inr ⟨k, hk, rfl, Or.inr ⟨q, rfl⟩, rfl⟩)
  · conv => whnf
    (refine ⟨fun c => ?_, fun c => ?_⟩ <;> first | ((have c9 : (1 : Int32) = 0 := by with_reducible exact c); exact absurd c9 (by decide)) | exact absurd (rfl : (0 : Int32) = 0) (by with_reducible exact c) | exact absurd True.intro (by with_reducible exact c) | exact False.elim (by with_reducible exact c) | (conv => whnf))
    exact H _ _ (Or.inl ⟨cnt_no (by omega) p, rfl, rfl⟩)
set_option maxRecDepth 100000 in
set_option maxHeartbeats 4000000 in
theorem smf_use {d L : Nat} {f : Nat → Nat → Int32} {g : Nat → Nat → Int64} {h : Nat} {x1 x2 : Int32} {R : Option Value → mH → Prop} (hd : 2 ≤ d) (hhb : f 181 16 = nI h) (hhm : h ≤ 20) (H : ∀ v f1, SM_use h f f1 x1 x2 v → R (some (.int v)) (shF L, f1, g)) : Run mtab d 177 [.ref 181, .int x1, .int x2] (shF L, f, g) R := by
  obtain ⟨d, rfl⟩ : ∃ e, d = e + 1 := ⟨d - 1, by omega⟩
  refine go_X11_use rfl ?_
  conv => whnf
  simp only [hhb]
  refine ct_i_0_v (by omega) (fun p => ?_) (fun p => ?_)
  · obtain ⟨k, hk, rfl⟩ := inr_cnt (by omega) p
    have hcl : (nI k).toNatClampNeg = k := nI_clamp (by omega)
    conv => whnf
    (refine ⟨fun c => ?_, fun c => ?_⟩ <;> first | ((have c9 : (1 : Int32) = 0 := by with_reducible exact c); exact absurd c9 (by decide)) | exact absurd (rfl : (0 : Int32) = 0) (by with_reducible exact c) | exact absurd True.intro (by with_reducible exact c) | exact False.elim (by with_reducible exact c) | (conv => whnf))
    refine ⟨vp_in_nI (by omega) (by decide), ?_⟩
    conv => whnf
    simp only [hcl]
    refine ⟨fun q => ?_, fun q => ?_⟩
    · conv => whnf
      refine ⟨vp_in_nI (by omega) (by decide), ?_⟩
      conv => whnf
      (try refine ⟨by first | exact Or.inl rfl | exact Or.inl True.intro, ?_⟩)
      (try (conv => whnf))
      simp only [hcl]
      exact H _ _ (Or.inr ⟨k, hk, rfl, Or.inr ⟨q, rfl⟩, rfl⟩)
    · conv => whnf
      refine ⟨vp_in_nI (by omega) (by decide), ?_⟩
      conv => whnf
      (try refine ⟨by first | exact Or.inl rfl | exact Or.inl True.intro, ?_⟩)
      (try (conv => whnf))
      simp only [hcl]
      exact H _ _ (Or.inr ⟨k, hk, rfl, Or.inl ⟨q, rfl⟩, rfl⟩)
  · conv => whnf
    (refine ⟨fun c => ?_, fun c => ?_⟩ <;> first | ((have c9 : (1 : Int32) = 0 := by with_reducible exact c); exact absurd c9 (by decide)) | exact absurd (rfl : (0 : Int32) = 0) (by with_reducible exact c) | exact absurd True.intro (by with_reducible exact c) | exact False.elim (by with_reducible exact c) | (conv => whnf))
    exact H _ _ (Or.inl ⟨cnt_no (by omega) p, rfl, rfl⟩)
theorem kx_clue {n h : Nat} {f f1 : Nat → Nat → Int32} {x1 x2 x3 v : Int32} (s : SX_clue n h f f1 x1 x2 x3 v) : kp [5] f f1 := by
  rcases s with ⟨_, _, rfl⟩ | ⟨_, ⟨_, _, rfl⟩ | ⟨_, _, rfl⟩⟩
  · exact kp_refl _ _
  · exact kp_refl _ _
  · unfold cadd
    exact kp_ui rfl (kp_ui rfl (kp_ui rfl (kp_ui rfl (kp_ui rfl (kp_refl _ _)))))
theorem km_clue {n h : Nat} {f f1 : Nat → Nat → Int32} {x1 x2 x3 v : Int32} (s : SM_clue n h f f1 x1 x2 x3 v) : kp [10, 15, 22] f f1 := by
  rcases s with ⟨_, _, rfl⟩ | ⟨_, ⟨_, _, rfl⟩ | ⟨_, _, rfl⟩⟩
  · exact kp_refl _ _
  · exact kp_refl _ _
  · unfold mcadd
    exact kp_ui rfl (kp_ui rfl (kp_ui rfl (kp_ui rfl (kp_ui rfl (kp_ui rfl (kp_refl _ _))))))
theorem kx_use {h : Nat} {f f1 : Nat → Nat → Int32} {x1 x2 v : Int32} (s : SX_use h f f1 x1 x2 v) : kp [5] f f1 := by
  rcases s with ⟨_, _, rfl⟩ | ⟨k, _, _, _, rfl⟩
  · exact kp_refl _ _
  · exact kp_ui rfl (kp_refl _ _)
theorem km_use {h : Nat} {f f1 : Nat → Nat → Int32} {x1 x2 v : Int32} (s : SM_use h f f1 x1 x2 v) : kp [10, 15, 22] f f1 := by
  rcases s with ⟨_, _, rfl⟩ | ⟨k, _, _, _, rfl⟩
  · exact kp_refl _ _
  · exact kp_ui rfl (kp_ui rfl (kp_refl _ _))
theorem ca_130 {f : Nat → Nat → Int32} {h k : Nat} {x1 x2 x3 : Int32} : mcadd (cadd f h x1 x2 x3) h x1 x2 x3 130 k = if k = h then x1 else f 130 k := by
  unfold mcadd cadd
  by_cases e : k = h
  · subst e
    rw [m_ui_o (by omega), m_ui_o (by omega), m_ui_o (by omega), m_ui_o (by omega), m_ui_o (by omega), m_ui_o (by omega), m_ui_o (by omega), m_ui_o (by omega), m_ui_o (by omega), m_ui_o (by omega), m_ui_s, if_pos rfl]
  · rw [m_ui_o (by omega), m_ui_o (by omega), m_ui_o (by omega), m_ui_o (by omega), m_ui_o (by omega), m_ui_o (by omega), m_ui_o (by omega), m_ui_o (by omega), m_ui_o (by omega), m_ui_o (by omega), m_ui_o (by omega), if_neg e]
theorem ca_196 {f : Nat → Nat → Int32} {h k : Nat} {x1 x2 x3 : Int32} : mcadd (cadd f h x1 x2 x3) h x1 x2 x3 196 k = if k = h then x1 else f 196 k := by
  unfold mcadd cadd
  by_cases e : k = h
  · subst e
    rw [m_ui_o (by omega), m_ui_o (by omega), m_ui_o (by omega), m_ui_o (by omega), m_ui_o (by omega), m_ui_s, if_pos rfl]
  · rw [m_ui_o (by omega), m_ui_o (by omega), m_ui_o (by omega), m_ui_o (by omega), m_ui_o (by omega), m_ui_o (by omega), m_ui_o (by omega), m_ui_o (by omega), m_ui_o (by omega), m_ui_o (by omega), m_ui_o (by omega), if_neg e]
theorem ca_131 {f : Nat → Nat → Int32} {h k : Nat} {x1 x2 x3 : Int32} : mcadd (cadd f h x1 x2 x3) h x1 x2 x3 131 k = if k = h then x2 else f 131 k := by
  unfold mcadd cadd
  by_cases e : k = h
  · subst e
    rw [m_ui_o (by omega), m_ui_o (by omega), m_ui_o (by omega), m_ui_o (by omega), m_ui_o (by omega), m_ui_o (by omega), m_ui_o (by omega), m_ui_o (by omega), m_ui_o (by omega), m_ui_s, if_pos rfl]
  · rw [m_ui_o (by omega), m_ui_o (by omega), m_ui_o (by omega), m_ui_o (by omega), m_ui_o (by omega), m_ui_o (by omega), m_ui_o (by omega), m_ui_o (by omega), m_ui_o (by omega), m_ui_o (by omega), m_ui_o (by omega), if_neg e]
theorem ca_197 {f : Nat → Nat → Int32} {h k : Nat} {x1 x2 x3 : Int32} : mcadd (cadd f h x1 x2 x3) h x1 x2 x3 197 k = if k = h then x2 else f 197 k := by
  unfold mcadd cadd
  by_cases e : k = h
  · subst e
    rw [m_ui_o (by omega), m_ui_o (by omega), m_ui_o (by omega), m_ui_o (by omega), m_ui_s, if_pos rfl]
  · rw [m_ui_o (by omega), m_ui_o (by omega), m_ui_o (by omega), m_ui_o (by omega), m_ui_o (by omega), m_ui_o (by omega), m_ui_o (by omega), m_ui_o (by omega), m_ui_o (by omega), m_ui_o (by omega), m_ui_o (by omega), if_neg e]
theorem ca_132 {f : Nat → Nat → Int32} {h k : Nat} {x1 x2 x3 : Int32} : mcadd (cadd f h x1 x2 x3) h x1 x2 x3 132 k = if k = h then x3 else f 132 k := by
  unfold mcadd cadd
  by_cases e : k = h
  · subst e
    rw [m_ui_o (by omega), m_ui_o (by omega), m_ui_o (by omega), m_ui_o (by omega), m_ui_o (by omega), m_ui_o (by omega), m_ui_o (by omega), m_ui_o (by omega), m_ui_s, if_pos rfl]
  · rw [m_ui_o (by omega), m_ui_o (by omega), m_ui_o (by omega), m_ui_o (by omega), m_ui_o (by omega), m_ui_o (by omega), m_ui_o (by omega), m_ui_o (by omega), m_ui_o (by omega), m_ui_o (by omega), m_ui_o (by omega), if_neg e]
theorem ca_198 {f : Nat → Nat → Int32} {h k : Nat} {x1 x2 x3 : Int32} : mcadd (cadd f h x1 x2 x3) h x1 x2 x3 198 k = if k = h then x3 else f 198 k := by
  unfold mcadd cadd
  by_cases e : k = h
  · subst e
    rw [m_ui_o (by omega), m_ui_o (by omega), m_ui_o (by omega), m_ui_s, if_pos rfl]
  · rw [m_ui_o (by omega), m_ui_o (by omega), m_ui_o (by omega), m_ui_o (by omega), m_ui_o (by omega), m_ui_o (by omega), m_ui_o (by omega), m_ui_o (by omega), m_ui_o (by omega), m_ui_o (by omega), m_ui_o (by omega), if_neg e]
theorem ca_133 {f : Nat → Nat → Int32} {h k : Nat} {x1 x2 x3 : Int32} : mcadd (cadd f h x1 x2 x3) h x1 x2 x3 133 k = if k = h then (vp_nar .boolean 1) else f 133 k := by
  unfold mcadd cadd
  by_cases e : k = h
  · subst e
    rw [m_ui_o (by omega), m_ui_o (by omega), m_ui_o (by omega), m_ui_o (by omega), m_ui_o (by omega), m_ui_o (by omega), m_ui_o (by omega), m_ui_s, if_pos rfl]
  · rw [m_ui_o (by omega), m_ui_o (by omega), m_ui_o (by omega), m_ui_o (by omega), m_ui_o (by omega), m_ui_o (by omega), m_ui_o (by omega), m_ui_o (by omega), m_ui_o (by omega), m_ui_o (by omega), m_ui_o (by omega), if_neg e]
theorem ca_199 {f : Nat → Nat → Int32} {h k : Nat} {x1 x2 x3 : Int32} : mcadd (cadd f h x1 x2 x3) h x1 x2 x3 199 k = if k = h then (vp_nar .boolean 1) else f 199 k := by
  unfold mcadd cadd
  by_cases e : k = h
  · subst e
    rw [m_ui_o (by omega), m_ui_o (by omega), m_ui_s, if_pos rfl]
  · rw [m_ui_o (by omega), m_ui_o (by omega), m_ui_o (by omega), m_ui_o (by omega), m_ui_o (by omega), m_ui_o (by omega), m_ui_o (by omega), m_ui_o (by omega), m_ui_o (by omega), m_ui_o (by omega), m_ui_o (by omega), if_neg e]
theorem hasw_39 {n : Nat} {x : Int32} (hn : n ≤ 40) (h : hasw n x) : inr 0 39 x := by
  obtain ⟨j, hj, rfl⟩ := h
  exact inr_n (m := 39) (by omega) rfl (by decide)
theorem XI_ca {f : Nat → Nat → Int32} {n h : Nat} {x1 x2 x3 : Int32} (hX : XI f) (hn : n ≤ 40) (hh : h < 20) (w : cluew n x1 x2 x3) : XI (mcadd (cadd f h x1 x2 x3) h x1 x2 x3) := by
  unfold mcadd cadd
  have a1 := hasw_39 hn w.1
  have a2 := hasw_39 hn w.2.1
  exact XI_ui (XI_ui (XI_ui (XI_ui (XI_ui (XI_ui (XI_ui (XI_ui (XI_ui (XI_ui (XI_ui hX a1) a2) True.intro) True.intro) (show inr 0 20 _ from inr_n1 (m := 20) (by omega) rfl (by decide))) a1) a2) True.intro) True.intro) (show inr 0 20 _ from inr_n (m := 20) (by omega) rfl (by decide))) True.intro
theorem RC_congr {c : Nat} {f f' : Nat → Nat → Int32} (h0 : f' 129 6 = f 129 6) (h1 : ∀ a i, 130 ≤ a → a ≤ 133 → f' a i = f a i) (h2 : ∀ a i, 196 ≤ a → a ≤ 199 → f' a i = f a i) (h3 : f' 181 16 = f 181 16) (r : RC c f) : RC c f' := by
  obtain ⟨a, b, e, d⟩ := r
  refine ⟨a, h0.trans b, h3.trans e, fun k hk => ?_⟩
  unfold RLk
  rw [h1 130 k (by omega) (by omega), h1 131 k (by omega) (by omega), h1 132 k (by omega) (by omega), h1 133 k (by omega) (by omega), h2 196 k (by omega) (by omega), h2 197 k (by omega) (by omega), h2 198 k (by omega) (by omega), h2 199 k (by omega) (by omega)]
  exact d k hk
theorem cmp_5 {i : Nat} : ∀ a, 130 ≤ a → a ≤ 133 → cmp a i = 5 := by
  intro a h h'
  have : a = 130 ∨ a = 131 ∨ a = 132 ∨ a = 133 := by omega
  rcases this with rfl | rfl | rfl | rfl <;> rfl
theorem cmp_15 {i : Nat} : ∀ a, 196 ≤ a → a ≤ 199 → cmp a i = 15 := by
  intro a h h'
  have : a = 196 ∨ a = 197 ∨ a = 198 ∨ a = 199 := by omega
  rcases this with rfl | rfl | rfl | rfl <;> rfl
theorem RC_kp {l : List Nat} {c : Nat} {f f' : Nat → Nat → Int32} (k : kp l f f') (h5 : hasN l 5 = false) (h15 : hasN l 15 = false) (r : RC c f) : RC c f' :=
  RC_congr (k 129 6 (by exact h5)) (fun a i p q => k a i (by rw [cmp_5 a p q]; exact h5)) (fun a i p q => k a i (by rw [cmp_15 a p q]; exact h15)) (k 181 16 (by exact h15)) r
theorem RK_kp {l : List Nat} {f f' : Nat → Nat → Int32} (k : kp l f f') (h9 : hasN l 9 = false) (h19 : hasN l 19 = false) (r : RK f) : RK f' := fun s hs => by
  rw [k 120 s (by exact h9), k 212 s (by exact h19)]
  exact r s hs
theorem fin_clue {n h : Nat} {f f1 f2 : Nat → Nat → Int32} {x1 x2 x3 v1 v2 : Int32} (hX : XI f) (hn : n ≤ 40) (hC : RC h f) (s1 : SX_clue n h f f1 x1 x2 x3 v1) (s2 : SM_clue n h f1 f2 x1 x2 x3 v2) : XI f2 ∧ (∃ h, RC h f2) ∧ v1 = v2 := by
  rcases s1 with ⟨q1, rfl, rfl⟩ | ⟨p1, ⟨e1, rfl, rfl⟩ | ⟨l1, rfl, rfl⟩⟩
  · rcases s2 with ⟨q2, rfl, rfl⟩ | ⟨p2, _⟩
    · exact ⟨hX, ⟨h, hC⟩, rfl⟩
    · exact absurd p2 q1
  · rcases s2 with ⟨q2, _⟩ | ⟨p2, ⟨e2, rfl, rfl⟩ | ⟨l2, _⟩⟩
    · exact absurd p1 q2
    · exact ⟨hX, ⟨h, hC⟩, rfl⟩
    · omega
  · rcases s2 with ⟨q2, _⟩ | ⟨p2, ⟨e2, _⟩ | ⟨l2, rfl, rfl⟩⟩
    · exact absurd p1 q2
    · omega
    · obtain ⟨a, b, e, d⟩ := hC
      refine ⟨XI_ca hX hn l1 p1, ⟨h + 1, by omega, ?_, ?_, fun k hk => ?_⟩, rfl⟩
      · unfold mcadd cadd
        rw [m_ui_o (by omega), m_ui_o (by omega), m_ui_o (by omega), m_ui_o (by omega), m_ui_o (by omega), m_ui_o (by omega), m_ui_s]
        exact nI_1 h
      · unfold mcadd
        rw [m_ui_o (by omega), m_ui_s]
      · unfold RLk
        rw [ca_130, ca_131, ca_132, ca_133, ca_196, ca_197, ca_198, ca_199]
        by_cases q : k = h
        · simp only [if_pos q]
          exact ⟨trivial, trivial, trivial, trivial, p1.2.2.2, p1.2.2.1⟩
        · simp only [if_neg q]
          exact d k (by omega)
theorem fin_use {h : Nat} {f f1 f2 : Nat → Nat → Int32} {x1 x2 v1 v2 : Int32} (hX : XI f) (hC : RC h f) (s1 : SX_use h f f1 x1 x2 v1) (s2 : SM_use h f1 f2 x1 x2 v2) : XI f2 ∧ (∃ h, RC h f2) ∧ v1 = v2 := by
  rcases s1 with ⟨q1, rfl, rfl⟩ | ⟨s, hs, e1, w1, rfl⟩
  · rcases s2 with ⟨q2, rfl, rfl⟩ | ⟨t, ht, e2, _⟩
    · exact ⟨hX, ⟨h, hC⟩, rfl⟩
    · exact absurd ⟨t, ht, e2⟩ q1
  · rcases s2 with ⟨q2, rfl, rfl⟩ | ⟨t, ht, e2, w2, rfl⟩
    · exact absurd ⟨s, hs, e1⟩ q2
    · have hc := hC.1
      have est : s = t := (nI_eq (by omega) (by omega)).mp (e1.symm.trans e2)
      subst est
      rw [m_ui_o (by omega)] at w2
      have r := (hC.2.2.2 s hs).2.2.2.1
      refine ⟨XI_ui (XI_ui (XI_ui hX True.intro) True.intro) True.intro, ⟨h, hC.1, ?_, ?_, fun k hk => ?_⟩, ?_⟩
      · rw [m_ui_o (by omega), m_ui_o (by omega), m_ui_o (by omega)]
        exact hC.2.1
      · rw [m_ui_o (by omega), m_ui_o (by omega), m_ui_o (by omega)]
        exact hC.2.2.1
      · obtain ⟨a1, a2, a3, a4, a5, a6⟩ := hC.2.2.2 k hk
        have en : ∀ a i, ¬ a = 133 → ¬ a = 199 → ¬ a = 181 → m_ui (m_ui (m_ui f 133 s (vp_nar .boolean x2)) 199 s (vp_nar .boolean x2)) 181 29 0 a i = f a i := fun a i z1 z2 z3 => by
          rw [m_ui_o (by omega), m_ui_o (by omega), m_ui_o (by omega)]
        refine ⟨?_, ?_, ?_, ?_, ?_, ?_⟩
        · rw [en _ _ (by decide) (by decide) (by decide), en _ _ (by decide) (by decide) (by decide)]
          exact a1
        · rw [en _ _ (by decide) (by decide) (by decide), en _ _ (by decide) (by decide) (by decide)]
          exact a2
        · rw [en _ _ (by decide) (by decide) (by decide), en _ _ (by decide) (by decide) (by decide)]
          exact a3
        · by_cases q : k = s
          · subst q
            rw [m_ui_o (by omega), m_ui_o (by omega), m_ui_s, m_ui_o (by omega), m_ui_s]
          · rw [m_ui_o (by omega), m_ui_o (by omega), m_ui_o (by omega), m_ui_o (by omega), m_ui_o (by omega), m_ui_o (by omega)]
            exact a4
        · rw [en _ _ (by decide) (by decide) (by decide)]
          exact a5
        · rw [en _ _ (by decide) (by decide) (by decide), en _ _ (by decide) (by decide) (by decide)]
          exact a6
      · rw [r] at w1
        rcases w1 with ⟨u, rfl⟩ | ⟨u, rfl⟩
        · rcases w2 with ⟨_, rfl⟩ | ⟨z, _⟩
          · rfl
          · exact absurd z u
        · rcases w2 with ⟨z, _⟩ | ⟨_, rfl⟩
          · exact absurd u z
          · rfl
