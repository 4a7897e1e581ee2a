set_option maxRecDepth 100000 in
set_option maxHeartbeats 4000000 in
theorem sf_areSidesFit {d L : Nat} {f : Nat → Nat → Int32} {g : Nat → Nat → Int64} {j : Nat} {h w : Int32} {R : Option Value → mH → Prop} (hd : 2 ≤ d) (hj : j < 50) (hU : f 145 j = 0 ∨ f 145 j = 1) (hFr : f 146 j = 0 ∨ f 146 j = 1) (rh : inr 10 5000 h) (rw_ : inr 10 5000 w) (rH : inr 1 6000 (f 143 j)) (rW : inr 1 6000 (f 144 j)) (H1 : FIT (f 145 j) (f 146 j) h w (f 143 j) (f 144 j) → R (some (.int 1)) (shF L, f, g)) (H0 : ¬ FIT (f 145 j) (f 146 j) h w (f 143 j) (f 144 j) → R (some (.int 0)) (shF L, f, g)) : Run mtab d 41 [.ref 139, .int (nI j), .int h, .int w] (shF L, f, g) R := by
  obtain ⟨d, rfl⟩ : ∃ e, d = e + 1 := ⟨d - 1, by omega⟩
  refine go_X4_areSidesFit rfl ?_
  conv => whnf
  have hcl : (nI j).toNatClampNeg = j := nI_clamp (by omega)
  refine ⟨vp_in_nI (by omega) (by decide), ?_⟩
  conv => whnf
  rcases hU with eU | eU
  · simp only [hcl, eU]
    (refine ⟨fun z9 => ?_, fun z9 => ?_⟩ <;> first | ((have c9 : (1 : Int32) = 0 := by with_reducible exact z9); exact absurd c9 (by decide)) | exact absurd (rfl : (0 : Int32) = 0) (by with_reducible exact z9) | exact absurd True.intro (by with_reducible exact z9) | exact False.elim (by with_reducible exact z9) | (conv => whnf))
    refine ⟨vp_in_nI (by omega) (by decide), ?_⟩
    conv => whnf
    simp only [hcl, eU]
    (refine ⟨fun z9 => ?_, fun z9 => ?_⟩ <;> first | ((have c9 : (1 : Int32) = 0 := by with_reducible exact z9); exact absurd c9 (by decide)) | exact absurd (rfl : (0 : Int32) = 0) (by with_reducible exact z9) | exact absurd True.intro (by with_reducible exact z9) | exact False.elim (by with_reducible exact z9) | (conv => whnf))
    refine ⟨vp_in_nI (by omega) (by decide), ?_⟩
    conv => whnf
    refine ⟨vp_in_nI (by omega) (by decide), ?_⟩
    conv => whnf
    refine rp_min (by omega) ?_
    conv => whnf
    refine rp_max (by omega) ?_
    conv => whnf
    refine ⟨vp_in_nI (by omega) (by decide), ?_⟩
    conv => whnf
    simp only [hcl]
    rcases hFr with eF | eF
    · simp only [eF]
      (refine ⟨fun z9 => ?_, fun z9 => ?_⟩ <;> first | ((have c9 : (1 : Int32) = 0 := by with_reducible exact z9); exact absurd c9 (by decide)) | exact absurd (rfl : (0 : Int32) = 0) (by with_reducible exact z9) | exact absurd True.intro (by with_reducible exact z9) | exact False.elim (by with_reducible exact z9) | (conv => whnf))
      have key := fit_u (U := f 145 j) (u := 10) (fa := 50) (Or.inl ⟨eU, rfl, rfl⟩) rh rw_ rH rW
      refine ⟨fun c1 => ?_, fun c1 => ?_⟩
      · conv => whnf
        have G := H0 (fun z => (key.mp (by rw [eF] at z; exact z)).1 c1)
        first | exact ⟨Or.inl rfl, G⟩ | exact G
      · conv => whnf
        refine ⟨fun c2 => ?_, fun c2 => ?_⟩
        · conv => whnf
          have G := H0 (fun z => (key.mp (by rw [eF] at z; exact z)).2 c2)
          first | exact ⟨Or.inl rfl, G⟩ | exact G
        · conv => whnf
          have G := H1 (by rw [eF]; exact key.mpr ⟨c1, c2⟩)
          first | exact ⟨Or.inr rfl, G⟩ | exact G
    · simp only [eF]
      (refine ⟨fun z9 => ?_, fun z9 => ?_⟩ <;> first | ((have c9 : (1 : Int32) = 0 := by with_reducible exact z9); exact absurd c9 (by decide)) | exact absurd (rfl : (0 : Int32) = 0) (by with_reducible exact z9) | exact absurd True.intro (by with_reducible exact z9) | exact False.elim (by with_reducible exact z9) | (conv => whnf))
      have key := fit_f (U := f 145 j) (F := f 146 j) (u := 10) (fa := 50) (by rw [eF]; decide) (Or.inl ⟨eU, rfl, rfl⟩) rh rw_ rH rW
      refine ⟨(by decide), ?_⟩
      conv => whnf
      refine rp_max (by omega) ?_
      conv => whnf
      refine ⟨fun c1 => ?_, fun c1 => ?_⟩
      · conv => whnf
        have G := H0 (fun z => (key.mp z).1 c1)
        first | exact ⟨Or.inl rfl, G⟩ | exact G
      · conv => whnf
        refine ⟨fun c2 => ?_, fun c2 => ?_⟩
        · conv => whnf
          have G := H0 (fun z => (key.mp z).2 c2)
          first | exact ⟨Or.inl rfl, G⟩ | exact G
        · conv => whnf
          have G := H1 (key.mpr ⟨c1, c2⟩)
          first | exact ⟨Or.inr rfl, G⟩ | exact G
  · simp only [hcl, eU]
    (refine ⟨fun z9 => ?_, fun z9 => ?_⟩ <;> first | ((have c9 : (1 : Int32) = 0 := by with_reducible exact z9); exact absurd c9 (by decide)) | exact absurd (rfl : (0 : Int32) = 0) (by with_reducible exact z9) | exact absurd True.intro (by with_reducible exact z9) | exact False.elim (by with_reducible exact z9) | (conv => whnf))
    refine ⟨vp_in_nI (by omega) (by decide), ?_⟩
    conv => whnf
    simp only [hcl, eU]
    (refine ⟨fun z9 => ?_, fun z9 => ?_⟩ <;> first | ((have c9 : (1 : Int32) = 0 := by with_reducible exact z9); exact absurd c9 (by decide)) | exact absurd (rfl : (0 : Int32) = 0) (by with_reducible exact z9) | exact absurd True.intro (by with_reducible exact z9) | exact False.elim (by with_reducible exact z9) | (conv => whnf))
    refine ⟨vp_in_nI (by omega) (by decide), ?_⟩
    conv => whnf
    refine ⟨vp_in_nI (by omega) (by decide), ?_⟩
    conv => whnf
    refine rp_min (by omega) ?_
    conv => whnf
    refine rp_max (by omega) ?_
    conv => whnf
    refine ⟨vp_in_nI (by omega) (by decide), ?_⟩
    conv => whnf
    simp only [hcl]
    rcases hFr with eF | eF
    · simp only [eF]
      (refine ⟨fun z9 => ?_, fun z9 => ?_⟩ <;> first | ((have c9 : (1 : Int32) = 0 := by with_reducible exact z9); exact absurd c9 (by decide)) | exact absurd (rfl : (0 : Int32) = 0) (by with_reducible exact z9) | exact absurd True.intro (by with_reducible exact z9) | exact False.elim (by with_reducible exact z9) | (conv => whnf))
      have key := fit_u (U := f 145 j) (u := 254) (fa := 127) (Or.inr ⟨eU, rfl, rfl⟩) rh rw_ rH rW
      refine ⟨fun c1 => ?_, fun c1 => ?_⟩
      · conv => whnf
        have G := H0 (fun z => (key.mp (by rw [eF] at z; exact z)).1 c1)
        first | exact ⟨Or.inl rfl, G⟩ | exact G
      · conv => whnf
        refine ⟨fun c2 => ?_, fun c2 => ?_⟩
        · conv => whnf
          have G := H0 (fun z => (key.mp (by rw [eF] at z; exact z)).2 c2)
          first | exact ⟨Or.inl rfl, G⟩ | exact G
        · conv => whnf
          have G := H1 (by rw [eF]; exact key.mpr ⟨c1, c2⟩)
          first | exact ⟨Or.inr rfl, G⟩ | exact G
    · simp only [eF]
      (refine ⟨fun z9 => ?_, fun z9 => ?_⟩ <;> first | ((have c9 : (1 : Int32) = 0 := by with_reducible exact z9); exact absurd c9 (by decide)) | exact absurd (rfl : (0 : Int32) = 0) (by with_reducible exact z9) | exact absurd True.intro (by with_reducible exact z9) | exact False.elim (by with_reducible exact z9) | (conv => whnf))
      have key := fit_f (U := f 145 j) (F := f 146 j) (u := 254) (fa := 127) (by rw [eF]; decide) (Or.inr ⟨eU, rfl, rfl⟩) rh rw_ rH rW
      refine ⟨(by decide), ?_⟩
      conv => whnf
      refine rp_max (by omega) ?_
      conv => whnf
      refine ⟨fun c1 => ?_, fun c1 => ?_⟩
      · conv => whnf
        have G := H0 (fun z => (key.mp z).1 c1)
        first | exact ⟨Or.inl rfl, G⟩ | exact G
      · conv => whnf
        refine ⟨fun c2 => ?_, fun c2 => ?_⟩
        · conv => whnf
          have G := H0 (fun z => (key.mp z).2 c2)
          first | exact ⟨Or.inl rfl, G⟩ | exact G
        · conv => whnf
          have G := H1 (key.mpr ⟨c1, c2⟩)
          first | exact ⟨Or.inr rfl, G⟩ | exact G
def hC (f : Nat → Nat → Int32) (w : Nat) (y : Int32) : Int32 := if y < f 97 w then f 9 w else f 98 w
def wC (f : Nat → Nat → Int32) (w : Nat) (y : Int32) : Int32 := if y < f 97 w then f 10 w else f 99 w
def SFC (f : Nat → Nat → Int32) (j w : Nat) : Prop := f 143 j = 0 ∨ FIT (f 145 j) (f 146 j) (hC f w (f 142 j)) (wC f w (f 142 j)) (f 143 j) (f 144 j) ∨ (f 140 j = 2 ∧ FIT (f 145 j) (f 146 j) (wC f w (f 142 j)) (hC f w (f 142 j)) (f 143 j) (f 144 j))
/-- the sizes that a work has in a year are such -/
def SZ1 (f : Nat → Nat → Int32) (w : Nat) (y : Int32) : Prop := inr 10 5000 (hC f w y) ∧ inr 10 5000 (wC f w y)
noncomputable def scC (f : Nat → Nat → Int32) (h j w : Nat) : Int32 := scv (f 142 j < f 134 w ∨ f 127 w = 2 ∨ ¬ SFC f j w) (¬ f 143 j = 0) (bcE (f 147 j &&& titC f w (f 96 w).toNatClampNeg (f 142 j))) (ownl (fun a => ¬ a = -4) (PO f 104 105 (nI w) (f 142 j)) (fun i => f 102 i) h 0 (-4)) (f 148 j)
theorem c01 {x : Int32} (h : inr 0 1 x) : x = 0 ∨ x = 1 := by
  obtain ⟨k, hk, rfl⟩ := inr_nat (n := 1) rfl h
  have e : k = 0 ∨ k = 1 := by omega
  rcases e with rfl | rfl
  · exact Or.inl rfl
  · exact Or.inr rfl
set_option maxRecDepth 100000 in
set_option maxHeartbeats 4000000 in
theorem sf_isSizeFit {d L : Nat} {f : Nat → Nat → Int32} {g : Nat → Nat → Int64} {j w : Nat} {R : Option Value → mH → Prop} (hd : 3 ≤ d) (hj : j < 50) (hw : w < 40) (hN : RN f j) (hS : SZ1 f w (f 142 j)) (H1 : SFC f j w → R (some (.int 1)) (shF L, f, g)) (H0 : ¬ SFC f j w → R (some (.int 0)) (shF L, f, g)) : Run mtab d 40 [.ref 139, .int (nI j), .int (nI w)] (shF L, f, g) R := by
  obtain ⟨d, rfl⟩ : ∃ e, d = e + 1 := ⟨d - 1, by omega⟩
  refine go_X4_isSizeFit rfl ?_
  conv => whnf
  have hcl : (nI j).toNatClampNeg = j := nI_clamp (by omega)
  have hme := hN.2.2.2.2.2.2.2.2.2.1
  refine ⟨vp_in_nI (by omega) (by decide), ?_⟩
  conv => whnf
  simp only [hcl]
  refine ⟨fun c0 => ?_, fun c0 => ?_⟩
  · have rHW : inr 1 6000 (f 143 j) ∧ inr 1 6000 (f 144 j) := by
      rcases hme.2.1 with z | z
      · exact absurd z.1 c0
      · exact z
    conv => whnf
    refine ⟨vp_in_nI (by omega) (by decide), ?_⟩
    conv => whnf
    simp only [hcl]
    refine sf_heightIn (by omega) hw ?_
    conv => whnf
    refine ⟨vp_in_nI (by omega) (by decide), ?_⟩
    conv => whnf
    simp only [hcl]
    refine sf_widthIn (by omega) hw ?_
    conv => whnf
    refine sf_areSidesFit (by omega) hj (c01 hme.2.2.1) hN.2.2.2.2.2.2.2.2.2.2 hS.1 hS.2 rHW.1 rHW.2 (fun y => ?_) (fun n1 => ?_)
    · conv => whnf
      (refine ⟨fun z9 => ?_, fun z9 => ?_⟩ <;> first | ((have c9 : (1 : Int32) = 0 := by with_reducible exact z9); exact absurd c9 (by decide)) | exact absurd (rfl : (0 : Int32) = 0) (by with_reducible exact z9) | exact absurd True.intro (by with_reducible exact z9) | exact False.elim (by with_reducible exact z9) | (conv => whnf))
      conv => whnf
      have G := H1 (Or.inr (Or.inl y))
      first | exact ⟨Or.inr rfl, G⟩ | exact G
    · conv => whnf
      (refine ⟨fun z9 => ?_, fun z9 => ?_⟩ <;> first | ((have c9 : (1 : Int32) = 0 := by with_reducible exact z9); exact absurd c9 (by decide)) | exact absurd (rfl : (0 : Int32) = 0) (by with_reducible exact z9) | exact absurd True.intro (by with_reducible exact z9) | exact False.elim (by with_reducible exact z9) | (conv => whnf))
      refine ⟨vp_in_nI (by omega) (by decide), ?_⟩
      conv => whnf
      simp only [hcl]
      refine ⟨fun c2 => ?_, fun c2 => ?_⟩
      · conv => whnf
        have G := H0 (fun z => z.elim c0 (fun z2 => z2.elim n1 (fun z3 => c2 z3.1)))
        first | exact ⟨Or.inl rfl, G⟩ | exact G
      · conv => whnf
        refine sf_areSidesFit (by omega) hj (c01 hme.2.2.1) hN.2.2.2.2.2.2.2.2.2.2 hS.2 hS.1 rHW.1 rHW.2 (fun y => ?_) (fun n2 => ?_)
        · conv => whnf
          (refine ⟨fun z9 => ?_, fun z9 => ?_⟩ <;> first | ((have c9 : (1 : Int32) = 0 := by with_reducible exact z9); exact absurd c9 (by decide)) | exact absurd (rfl : (0 : Int32) = 0) (by with_reducible exact z9) | exact absurd True.intro (by with_reducible exact z9) | exact False.elim (by with_reducible exact z9) | (conv => whnf))
          conv => whnf
          have G := H1 (Or.inr (Or.inr ⟨c2, y⟩))
          first | exact ⟨Or.inr rfl, G⟩ | exact G
        · conv => whnf
          (refine ⟨fun z9 => ?_, fun z9 => ?_⟩ <;> first | ((have c9 : (1 : Int32) = 0 := by with_reducible exact z9); exact absurd c9 (by decide)) | exact absurd (rfl : (0 : Int32) = 0) (by with_reducible exact z9) | exact absurd True.intro (by with_reducible exact z9) | exact False.elim (by with_reducible exact z9) | (conv => whnf))
          conv => whnf
          have G := H0 (fun z => z.elim c0 (fun z2 => z2.elim n1 (fun z3 => n2 z3.2)))
          first | exact ⟨Or.inl rfl, G⟩ | exact G
  · conv => whnf
    have G := H1 (Or.inl c0)
    first | exact ⟨Or.inr rfl, G⟩ | exact G
set_option maxRecDepth 100000 in
set_option maxHeartbeats 4000000 in
theorem sf_scoreFor {d L : Nat} {f : Nat → Nat → Int32} {g : Nat → Nat → Int64} {h j w q : Nat} {R : Option Value → mH → Prop} (hd : 4 ≤ d) (hj : j < 50) (hw : w < 40) (hN : RN f j) (hS : SZ1 f w (f 142 j)) (hq : f 96 w = nI q) (hq1 : 1 ≤ q) (hq4 : q ≤ 4) (hb : f 100 6 = nI h) (hm : h ≤ 60) (H : ∀ v, v = scC f h j w → R (some (.int v)) (shF L, f, g)) : Run mtab d 37 [.ref 139, .int (nI j), .int (nI w)] (shF L, f, g) R := by
  obtain ⟨d, rfl⟩ : ∃ e, d = e + 1 := ⟨d - 1, by omega⟩
  refine go_X4_scoreFor rfl ?_
  conv => whnf
  have hcl : (nI j).toNatClampNeg = j := nI_clamp (by omega)
  have hcw : (nI w).toNatClampNeg = w := nI_clamp (by omega)
  have hqc : (f 96 w).toNatClampNeg = q := by rw [hq]; exact nI_clamp (by omega)
  refine ⟨vp_in_nI (by omega) (by decide), ?_⟩
  conv => whnf
  refine ⟨vp_in_nI (by omega) (by decide), ?_⟩
  conv => whnf
  simp only [hcl, hcw]
  refine ⟨fun c1 => ?_, fun c1 => ?_⟩
  · conv => whnf
    exact H _ (ci_t (Or.inl c1)).symm
  · conv => whnf
    refine ⟨vp_in_nI (by omega) (by decide), ?_⟩
    conv => whnf
    simp only [hcw]
    refine ⟨fun c2 => ?_, fun c2 => ?_⟩
    · conv => whnf
      exact H _ (ci_t (Or.inr (Or.inl c2))).symm
    · conv => whnf
      refine sf_isSizeFit (by omega) hj hw hN hS (fun y => ?_) (fun n1 => ?_)
      · conv => whnf
        (refine ⟨fun z9 => ?_, fun z9 => ?_⟩ <;> first | ((have c9 : (1 : Int32) = 0 := by with_reducible exact z9); exact absurd c9 (by decide)) | exact absurd (rfl : (0 : Int32) = 0) (by with_reducible exact z9) | exact absurd True.intro (by with_reducible exact z9) | exact False.elim (by with_reducible exact z9) | (conv => whnf))
        have nb : ¬ (f 142 j < f 134 w ∨ f 127 w = 2 ∨ ¬ SFC f j w) := fun z => z.elim c1 (fun z2 => z2.elim c2 (fun z3 => z3 y))
        refine ⟨vp_in_nI (by omega) (by decide), ?_⟩
        conv => whnf
        simp only [hcl]
        refine sf_titleIn (by omega) hw hq hq1 hq4 ?_
        conv => whnf
        refine sf_bitCount (by omega) ?_
        conv => whnf
        refine ⟨vp_in_nI (by omega) (by decide), ?_⟩
        conv => whnf
        simp only [hcl]
        refine ⟨fun c3 => ?_, fun c3 => ?_⟩
        · conv => whnf
          refine ⟨vp_in_nI (by omega) (by decide), ?_⟩
          conv => whnf
          simp only [hcl]
          refine ⟨fun c4 => ?_, fun c4 => ?_⟩
          · conv => whnf
            have es : scC f h j w = sc4 (4 * bcE (f 147 j &&& titC f w q (f 142 j))) := by
              unfold scC scv
              rw [hqc, ci_f nb, ci_f (fun z => z.1 c4), ci_f (fun z => z.1 c4), ci_f (fun z => z c3)]
            refine ⟨fun c7 => ?_, fun c7 => ?_⟩
            · conv => whnf
              exact H _ (by rw [es]; unfold sc4; rw [if_neg (i32_nlt.mpr c7)])
            · conv => whnf
              exact H _ (by rw [es]; unfold sc4; rw [if_pos (i32_nle.mp c7)])
          · conv => whnf
            refine sf_theOwner (by omega) hb hm ?_
            conv => whnf
            refine ⟨vp_in_nI (by omega) (by decide), ?_⟩
            conv => whnf
            simp only [hcl]
            refine ⟨fun c5 => ?_, fun c5 => ?_⟩
            · conv => whnf
              refine ⟨fun c6 => ?_, fun c6 => ?_⟩
              · conv => whnf
                have es : scC f h j w = sc4 (4 * bcE (f 147 j &&& titC f w q (f 142 j))) := by
                  unfold scC scv
                  rw [hqc, ci_f nb, ci_f (fun z => z.2.2 c6), ci_f (fun z => c5 z.2), ci_f (fun z => z c3)]
                refine ⟨fun c7 => ?_, fun c7 => ?_⟩
                · conv => whnf
                  exact H _ (by rw [es]; unfold sc4; rw [if_neg (i32_nlt.mpr c7)])
                · conv => whnf
                  exact H _ (by rw [es]; unfold sc4; rw [if_pos (i32_nle.mp c7)])
              · conv => whnf
                exact H _ ((ci_f nb).trans (ci_t ⟨c4, c5, c6⟩)).symm
            · conv => whnf
              have es : scC f h j w = sc4 (4 * bcE (f 147 j &&& titC f w q (f 142 j)) + 5) := by
                unfold scC scv
                rw [hqc, ci_f nb, ci_f (fun z => z.2.1 c5), ci_t ⟨c4, c5⟩, ci_f (fun z => z c3)]
              refine ⟨fun c7 => ?_, fun c7 => ?_⟩
              · conv => whnf
                exact H _ (by rw [es]; unfold sc4; rw [if_neg (i32_nlt.mpr c7)])
              · conv => whnf
                exact H _ (by rw [es]; unfold sc4; rw [if_pos (i32_nle.mp c7)])
        · conv => whnf
          refine ⟨vp_in_nI (by omega) (by decide), ?_⟩
          conv => whnf
          simp only [hcl]
          refine ⟨fun c4 => ?_, fun c4 => ?_⟩
          · conv => whnf
            have es : scC f h j w = sc4 (4 * bcE (f 147 j &&& titC f w q (f 142 j)) + 3) := by
              unfold scC scv
              rw [hqc, ci_f nb, ci_f (fun z => z.1 c4), ci_f (fun z => z.1 c4), ci_t c3]
            refine ⟨fun c7 => ?_, fun c7 => ?_⟩
            · conv => whnf
              exact H _ (by rw [es]; unfold sc4; rw [if_neg (i32_nlt.mpr c7)])
            · conv => whnf
              exact H _ (by rw [es]; unfold sc4; rw [if_pos (i32_nle.mp c7)])
          · conv => whnf
            refine sf_theOwner (by omega) hb hm ?_
            conv => whnf
            refine ⟨vp_in_nI (by omega) (by decide), ?_⟩
            conv => whnf
            simp only [hcl]
            refine ⟨fun c5 => ?_, fun c5 => ?_⟩
            · conv => whnf
              refine ⟨fun c6 => ?_, fun c6 => ?_⟩
              · conv => whnf
                have es : scC f h j w = sc4 (4 * bcE (f 147 j &&& titC f w q (f 142 j)) + 3) := by
                  unfold scC scv
                  rw [hqc, ci_f nb, ci_f (fun z => z.2.2 c6), ci_f (fun z => c5 z.2), ci_t c3]
                refine ⟨fun c7 => ?_, fun c7 => ?_⟩
                · conv => whnf
                  exact H _ (by rw [es]; unfold sc4; rw [if_neg (i32_nlt.mpr c7)])
                · conv => whnf
                  exact H _ (by rw [es]; unfold sc4; rw [if_pos (i32_nle.mp c7)])
              · conv => whnf
                exact H _ ((ci_f nb).trans (ci_t ⟨c4, c5, c6⟩)).symm
            · conv => whnf
              have es : scC f h j w = sc4 (4 * bcE (f 147 j &&& titC f w q (f 142 j)) + 3 + 5) := by
                unfold scC scv
                rw [hqc, ci_f nb, ci_f (fun z => z.2.1 c5), ci_t ⟨c4, c5⟩, ci_t c3]
              refine ⟨fun c7 => ?_, fun c7 => ?_⟩
              · conv => whnf
                exact H _ (by rw [es]; unfold sc4; rw [if_neg (i32_nlt.mpr c7)])
              · conv => whnf
                exact H _ (by rw [es]; unfold sc4; rw [if_pos (i32_nle.mp c7)])
      · conv => whnf
        (refine ⟨fun z9 => ?_, fun z9 => ?_⟩ <;> first | ((have c9 : (1 : Int32) = 0 := by with_reducible exact z9); exact absurd c9 (by decide)) | exact absurd (rfl : (0 : Int32) = 0) (by with_reducible exact z9) | exact absurd True.intro (by with_reducible exact z9) | exact False.elim (by with_reducible exact z9) | (conv => whnf))
        exact H _ (ci_t (Or.inr (Or.inr n1))).symm
set_option maxRecDepth 100000 in
theorem cf_lp {d L n h j : Nat} {f : Nat → Nat → Int32} {g : Nat → Nat → Int64} {R : Option Value → mH → Prop} (hd : 4 ≤ d) (hj : j < 50) (hN : RN f j) (hS : ∀ w, w < n → SZ1 f w (f 142 j)) (hT : ∀ w, w < n → ∃ q, 1 ≤ q ∧ q ≤ 4 ∧ f 96 w = nI q) (hnb : f 6 13 = nI n) (hn : n ≤ 40) (hb : f 100 6 = nI h) (hm : h ≤ 60) :
    ∀ (k i : Nat) (x a : Int32), i + k = n → x = nI i → R (some (.int (cntl (fun i => 0 < scC f h j i) k i a))) (shF L, f, g) → WPe pg_X4_countFits none (Run mtab d) R (m_drop pg_X4_countFits 4) [some (.ref 139), some (.int (nI j)), some (.int a), some (.int x)] [] (shF L, f, g)
  | 0, i, x, a, hi, hx, H => by
    have e : i = n := by omega
    subst hx
    subst e
    refine at_X4_countFits ?_
    conv => whnf
    simp only [hnb]
    refine ⟨fun c => ?_, fun c => absurd (nI_le (Nat.le_refl _) (by omega)) c⟩
    conv => whnf
    exact H
  | k + 1, i, x, a, hi, hx, H => by
    subst hx
    obtain ⟨q, hq1, hq4, hq⟩ := hT i (by omega)
    refine at_X4_countFits ?_
    conv => whnf
    simp only [hnb]
    refine ⟨fun c => absurd c (nI_ge (b := n) (by omega) (by omega)), fun c => ?_⟩
    conv => whnf
    refine sf_scoreFor (h := h) (by omega) hj (by omega) hN (hS i (by omega)) hq hq1 hq4 hb hm (fun v ev => ?_)
    subst ev
    conv => whnf
    refine ⟨fun c1 => ?_, fun c1 => ?_⟩
    · conv => whnf
      exact cf_lp hd hj hN hS hT hnb hn hb hm k (i + 1) _ _ (by omega) (nI_1 i) (by rw [cnt_n (P := (fun i => 0 < scC f h j i)) (k := k) (i := i) (a := a) (i32_nlt.mpr c1)] at H; exact H)
    · conv => whnf
      exact cf_lp hd hj hN hS hT hnb hn hb hm k (i + 1) _ _ (by omega) (nI_1 i) (by rw [cnt_y (P := (fun i => 0 < scC f h j i)) (k := k) (i := i) (a := a) (i32_nle.mp c1)] at H; exact H)
set_option maxRecDepth 100000 in
set_option maxHeartbeats 4000000 in
theorem sf_countFits {d L : Nat} {f : Nat → Nat → Int32} {g : Nat → Nat → Int64} {n h j : Nat} {R : Option Value → mH → Prop} (hd : 5 ≤ d) (hj : j < 50) (hN : RN f j) (hS : ∀ w, w < n → SZ1 f w (f 142 j)) (hT : ∀ w, w < n → ∃ q, 1 ≤ q ∧ q ≤ 4 ∧ f 96 w = nI q) (hnb : f 6 13 = nI n) (hn : n ≤ 40) (hb : f 100 6 = nI h) (hm : h ≤ 60) (H : R (some (.int (cntl (fun i => 0 < scC f h j i) n 0 0))) (shF L, f, g)) : Run mtab d 38 [.ref 139, .int (nI j)] (shF L, f, g) R := by
  obtain ⟨d, rfl⟩ : ∃ e, d = e + 1 := ⟨d - 1, by omega⟩
  refine go_X4_countFits rfl ?_
  conv => whnf
  exact cf_lp (by omega) hj hN hS hT hnb hn hb hm n 0 _ _ (by omega) rfl H
