/-- what the class's years lean on -/
def YK (f : Nat → Nat → Int32) (n c v : Nat) : Prop := n ≤ 40 ∧ f 6 13 = nI n ∧ f 119 7 = nI v ∧ v ≤ 60 ∧ CE f n c ∧ (∀ j, j < n → inr 1800 1999 (f 11 j) ∧ inr 1800 1999 (f 12 j) ∧ f 11 j ≤ f 12 j) ∧ ∀ k, f 137 k = 0
/-- clues name works, told years are years, no clue is aside, what is kept of the years is right -/
def RY (n c v : Nat) (f : Nat → Nat → Int32) : Prop := CM f n c ∧ (∀ k, f 137 k = 0) ∧ (¬ f 181 29 = 0 → YC f n c v)
def ans3 (q a b x2 : Int32) : Int32 := if q = 0 then (if x2 = 0 then a else b) else -2
def SX_made (n c v : Nat) (f f1 : Nat → Nat → Int32) (x1 x2 r : Int32) : Prop := (¬ (hasw n x1 ∧ inr 0 1 x2) ∧ r = -1 ∧ f1 = f) ∨ (∃ w, w < n ∧ x1 = nI w ∧ inr 0 1 x2 ∧ rkY f f1 n c v ∧ r = ans3 (f1 129 9) (f1 134 w) (f1 135 w) x2)
def SM_made (n c v : Nat) (f f1 : Nat → Nat → Int32) (x1 x2 r : Int32) : Prop := (¬ (hasw n x1 ∧ inr 0 1 x2) ∧ r = -1 ∧ f1 = f) ∨ (∃ w, w < n ∧ x1 = nI w ∧ inr 0 1 x2 ∧ o6 f f1 ∧ ¬ f1 181 29 = 0 ∧ YC f1 n c v ∧ r = ans3 (f1 181 24) (f1 200 w) (f1 201 w) x2)
def SX_quarrel (n c v : Nat) (f f1 : Nat → Nat → Int32) (r : Int32) : Prop := rkY f f1 n c v ∧ r = if f1 129 9 = 0 then 0 else 1
def SM_quarrel (n c v : Nat) (f f1 : Nat → Nat → Int32) (r : Int32) : Prop := o6 f f1 ∧ ¬ f1 181 29 = 0 ∧ YC f1 n c v ∧ r = if f1 181 24 = 0 then 0 else 1
set_option maxRecDepth 100000 in
set_option maxHeartbeats 4000000 in
theorem sf_made {d L : Nat} {f : Nat → Nat → Int32} {g : Nat → Nat → Int64} {n c v : Nat} {x1 x2 : Int32} {R : Option Value → mH → Prop} (hd : 6 ≤ d) (hX : XI f) (hK : YK f n c v) (H : ∀ r f1, SX_made n c v f f1 x1 x2 r → R (some (.int r)) (shF L, f1, g)) : Run mtab d 114 [.ref 5, .int x1, .int x2] (shF L, f, g) R := by
  obtain ⟨d, rfl⟩ : ∃ e, d = e + 1 := ⟨d - 1, by omega⟩
  refine go_X10_made rfl ?_
  conv => whnf
  obtain ⟨hn, hnb, hvb, hv, hE, cy, hA0⟩ := hK
  refine ct_has (by omega) hnb hn (fun j hj e => ?_) (fun q => ?_)
  · subst e
    have hcl : (nI j).toNatClampNeg = j := nI_clamp (by omega)
    conv => whnf
    (refine ⟨fun z9 => ?_, fun z9 => ?_⟩ <;> first | ((have c9 : (1 : Int32) = 0 := by with_reducible exact z9); exact absurd c9 (by decide)) | exact absurd (rfl : (0 : Int32) = 0) (by with_reducible exact z9) | exact absurd True.intro (by with_reducible exact z9) | exact False.elim (by with_reducible exact z9) | (conv => whnf))
    refine ct_isWithin (by omega) (fun p => ?_) (fun p => ?_)
    · conv => whnf
      (refine ⟨fun z9 => ?_, fun z9 => ?_⟩ <;> first | ((have c9 : (1 : Int32) = 0 := by with_reducible exact z9); exact absurd c9 (by decide)) | exact absurd (rfl : (0 : Int32) = 0) (by with_reducible exact z9) | exact absurd True.intro (by with_reducible exact z9) | exact False.elim (by with_reducible exact z9) | (conv => whnf))
      refine sf_reckon (n := n) (c := c) (v := v) (by omega) hX hn hnb hvb hv hE cy hA0 (fun f1 r1 => ?_)
      conv => whnf
      refine ⟨fun z => ?_, fun z => ?_⟩
      · conv => whnf
        refine ⟨fun y => ?_, fun y => ?_⟩
        · conv => whnf
          refine ⟨vp_in_nI (by omega) (by decide), ?_⟩
          conv => whnf
          (try simp only [hcl])
          exact H _ _ (Or.inr ⟨j, hj, rfl, p, r1, by unfold ans3; rw [if_pos z, if_neg y]⟩)
        · conv => whnf
          refine ⟨vp_in_nI (by omega) (by decide), ?_⟩
          conv => whnf
          (try simp only [hcl])
          exact H _ _ (Or.inr ⟨j, hj, rfl, p, r1, by unfold ans3; rw [if_pos z, if_pos y]⟩)
      · conv => whnf
        exact H _ _ (Or.inr ⟨j, hj, rfl, p, r1, by unfold ans3; rw [if_neg z]⟩)
    · conv => whnf
      (refine ⟨fun z9 => ?_, fun z9 => ?_⟩ <;> first | ((have c9 : (1 : Int32) = 0 := by with_reducible exact z9); exact absurd c9 (by decide)) | exact absurd (rfl : (0 : Int32) = 0) (by with_reducible exact z9) | exact absurd True.intro (by with_reducible exact z9) | exact False.elim (by with_reducible exact z9) | (conv => whnf))
      exact H _ _ (Or.inl ⟨fun hh => p hh.2, rfl, rfl⟩)
  · conv => whnf
    (refine ⟨fun z9 => ?_, fun z9 => ?_⟩ <;> first | ((have c9 : (1 : Int32) = 0 := by with_reducible exact z9); exact absurd c9 (by decide)) | exact absurd (rfl : (0 : Int32) = 0) (by with_reducible exact z9) | exact absurd True.intro (by with_reducible exact z9) | exact False.elim (by with_reducible exact z9) | (conv => whnf))
    exact H _ _ (Or.inl ⟨fun hh => nhasw q hh.1, rfl, rfl⟩)
set_option maxRecDepth 100000 in
set_option maxHeartbeats 4000000 in
theorem smf_made {d L : Nat} {f : Nat → Nat → Int32} {g : Nat → Nat → Int64} {n c v : Nat} {x1 x2 : Int32} {R : Option Value → mH → Prop} (hd : 6 ≤ d) (hM : CM f n c) (hvb : f 181 48 = nI v) (hv : v ≤ 60) (hY : ¬ f 181 29 = 0 → YC f n c v) (H : ∀ r f1, SM_made n c v f f1 x1 x2 r → R (some (.int r)) (shF L, f1, g)) : Run mtab d 182 [.ref 181, .int x1, .int x2] (shF L, f, g) R := by
  obtain ⟨d, rfl⟩ : ∃ e, d = e + 1 := ⟨d - 1, by omega⟩
  refine go_X11_made rfl ?_
  conv => whnf
  have hn := hM.1
  refine ct_mIsWork (by omega) hM.2.2.1 hn (fun j hj e => ?_) (fun q => ?_)
  · subst e
    have hcl : (nI j).toNatClampNeg = j := nI_clamp (by omega)
    conv => whnf
    (refine ⟨fun z9 => ?_, fun z9 => ?_⟩ <;> first | ((have c9 : (1 : Int32) = 0 := by with_reducible exact z9); exact absurd c9 (by decide)) | exact absurd (rfl : (0 : Int32) = 0) (by with_reducible exact z9) | exact absurd True.intro (by with_reducible exact z9) | exact False.elim (by with_reducible exact z9) | (conv => whnf))
    refine ct_i_0_1 (by omega) (fun p => ?_) (fun p => ?_)
    · conv => whnf
      (refine ⟨fun z9 => ?_, fun z9 => ?_⟩ <;> first | ((have c9 : (1 : Int32) = 0 := by with_reducible exact z9); exact absurd c9 (by decide)) | exact absurd (rfl : (0 : Int32) = 0) (by with_reducible exact z9) | exact absurd True.intro (by with_reducible exact z9) | exact False.elim (by with_reducible exact z9) | (conv => whnf))
      refine smf_refresh (n := n) (c := c) (v := v) (by omega) hM hvb hv hY (fun f1 r1 r2 r3 => ?_)
      conv => whnf
      refine ⟨fun z => ?_, fun z => ?_⟩
      · conv => whnf
        refine ⟨fun y => ?_, fun y => ?_⟩
        · conv => whnf
          refine ⟨vp_in_nI (by omega) (by decide), ?_⟩
          conv => whnf
          (try simp only [hcl])
          exact H _ _ (Or.inr ⟨j, hj, rfl, p, r1, r2, r3, by unfold ans3; rw [if_pos z, if_neg y]⟩)
        · conv => whnf
          refine ⟨vp_in_nI (by omega) (by decide), ?_⟩
          conv => whnf
          (try simp only [hcl])
          exact H _ _ (Or.inr ⟨j, hj, rfl, p, r1, r2, r3, by unfold ans3; rw [if_pos z, if_pos y]⟩)
      · conv => whnf
        exact H _ _ (Or.inr ⟨j, hj, rfl, p, r1, r2, r3, by unfold ans3; rw [if_neg z]⟩)
    · conv => whnf
      (refine ⟨fun z9 => ?_, fun z9 => ?_⟩ <;> first | ((have c9 : (1 : Int32) = 0 := by with_reducible exact z9); exact absurd c9 (by decide)) | exact absurd (rfl : (0 : Int32) = 0) (by with_reducible exact z9) | exact absurd True.intro (by with_reducible exact z9) | exact False.elim (by with_reducible exact z9) | (conv => whnf))
      exact H _ _ (Or.inl ⟨fun hh => p hh.2, rfl, rfl⟩)
  · conv => whnf
    (refine ⟨fun z9 => ?_, fun z9 => ?_⟩ <;> first | ((have c9 : (1 : Int32) = 0 := by with_reducible exact z9); exact absurd c9 (by decide)) | exact absurd (rfl : (0 : Int32) = 0) (by with_reducible exact z9) | exact absurd True.intro (by with_reducible exact z9) | exact False.elim (by with_reducible exact z9) | (conv => whnf))
    exact H _ _ (Or.inl ⟨fun hh => nhasw q hh.1, rfl, rfl⟩)
set_option maxRecDepth 100000 in
set_option maxHeartbeats 4000000 in
theorem sf_quarrel {d L : Nat} {f : Nat → Nat → Int32} {g : Nat → Nat → Int64} {n c v : Nat} {R : Option Value → mH → Prop} (hd : 6 ≤ d) (hX : XI f) (hK : YK f n c v) (H : ∀ r f1, SX_quarrel n c v f f1 r → R (some (.int r)) (shF L, f1, g)) : Run mtab d 115 [.ref 5] (shF L, f, g) R := by
  obtain ⟨d, rfl⟩ : ∃ e, d = e + 1 := ⟨d - 1, by omega⟩
  refine go_X10_quarrel rfl ?_
  conv => whnf
  obtain ⟨hn, hnb, hvb, hv, hE, cy, hA0⟩ := hK
  refine sf_reckon (n := n) (c := c) (v := v) (by omega) hX hn hnb hvb hv hE cy hA0 (fun f1 r1 => ?_)
  conv => whnf
  refine ct_bit (by omega) (fun z => ?_) (fun z => ?_)
  · conv => whnf
    exact H _ _ ⟨r1, by rw [if_neg z]⟩
  · conv => whnf
    exact H _ _ ⟨r1, by rw [if_pos z]⟩
set_option maxRecDepth 100000 in
set_option maxHeartbeats 4000000 in
theorem smf_quarrel {d L : Nat} {f : Nat → Nat → Int32} {g : Nat → Nat → Int64} {n c v : Nat} {R : Option Value → mH → Prop} (hd : 6 ≤ d) (hM : CM f n c) (hvb : f 181 48 = nI v) (hv : v ≤ 60) (hY : ¬ f 181 29 = 0 → YC f n c v) (H : ∀ r f1, SM_quarrel n c v f f1 r → R (some (.int r)) (shF L, f1, g)) : Run mtab d 183 [.ref 181] (shF L, f, g) R := by
  obtain ⟨d, rfl⟩ : ∃ e, d = e + 1 := ⟨d - 1, by omega⟩
  refine go_X11_quarrel rfl ?_
  conv => whnf
  have hn := hM.1
  refine smf_refresh (n := n) (c := c) (v := v) (by omega) hM hvb hv hY (fun f1 r1 r2 r3 => ?_)
  conv => whnf
  refine ⟨fun z => ?_, fun z => ?_⟩
  · conv => whnf
    exact H _ _ ⟨r1, r2, r3, by rw [if_pos z]⟩
  · conv => whnf
    exact H _ _ ⟨r1, r2, r3, by rw [if_neg z]⟩
theorem CM_f {f f' : Nat → Nat → Int32} {n c : Nat} (h : ∀ a i, 181 ≤ a → f' a i = f a i) (hC : CM f n c) : CM f' n c := CM_q (fun a i z => h a i (by omega)) (h 181 0 (by omega)) (h 181 16 (by omega)) hC
theorem YC_f {f f2 : Nat → Nat → Int32} {n c v : Nat} (h : ∀ a i, 181 ≤ a → f2 a i = f a i) (y : YC f n c v) : YC f2 n c v := YC_k (fun a i z => h a i (by omega)) (h 181 21 (by omega)) (h 181 24 (by omega)) y
theorem kp_rkY {f f1 : Nat → Nat → Int32} {n c v : Nat} (r : rkY f f1 n c v) : kp [0] f f1 := fun a i h => r.2.1 a i (fun e => by subst e; exact absurd (show true = false from h) (by decide)) (fun e => by subst e; exact absurd (show true = false from h) (by decide)) (fun e => by obtain ⟨e1, e2⟩ := e; subst e1; subst e2; exact absurd h (by decide)) (fun e => by obtain ⟨e1, e2⟩ := e; subst e1; subst e2; exact absurd h (by decide)) (fun e => by subst e; exact absurd (show true = false from h) (by decide)) (fun e => by subst e; exact absurd (show true = false from h) (by decide)) (fun e => by subst e; exact absurd (show true = false from h) (by decide))
theorem XI_rkY {f f1 : Nat → Nat → Int32} {n c v : Nat} (hX : XI f) (r : rkY f f1 n c v) : XI f1 := fun a i => by
  obtain ⟨_, fr, ⟨m, _, hm, e11, h136, _⟩, q⟩ := r
  have h9 : inr 0 20 (f1 129 9) := by
    rcases q with ⟨e, _⟩ | ⟨e, _⟩
    · rw [e]
      exact ⟨by decide, by decide⟩
    · rw [e]
      exact ⟨by decide, by decide⟩
  by_cases z1 : a = 127
  · subst z1
    exact True.intro
  · by_cases z2 : a = 128
    · subst z2
      exact True.intro
    · by_cases z3 : a = 129 ∧ i = 9
      · obtain ⟨y1, y2⟩ := z3
        subst y1
        subst y2
        exact h9
      · by_cases z4 : a = 129 ∧ i = 11
        · obtain ⟨y1, y2⟩ := z4
          subst y1
          subst y2
          show inr 0 20 _
          rw [e11]
          exact inr_n (m := 20) (by omega) rfl (by decide)
        · by_cases z5 : a = 134
          · subst z5
            exact True.intro
          · by_cases z6 : a = 135
            · subst z6
              exact True.intro
            · by_cases z7 : a = 136
              · subst z7
                exact h136 i
              · rw [fr a i z1 z2 z3 z4 z5 z6 z7]
                exact hX a i
theorem Pc_PM {f f2 : Nat → Nat → Int32} {c v k : Nat} (hC : RC c f) (hV : RV v f) (h : ∀ a i, 196 ≤ a → a ≤ 199 → f2 a i = f a i) (h2 : ∀ i, f2 218 i = f 218 i) (hk : k < c) : Pc f v k ↔ PMc f2 v k := by
  obtain ⟨a1, a2, a3, a4, _⟩ := hC.2.2.2 k hk
  unfold Pc PMc
  rw [smp_kp h2, smp_kp h2, h 199 k (by omega) (by omega), h 196 k (by omega) (by omega), h 197 k (by omega) (by omega), a1, a2, a4, (st_eq hV 9999 (f 196 k) v (Nat.le_refl _)).1, (st_eq hV 9999 (f 197 k) v (Nat.le_refl _)).1]
theorem SC_SM {f f2 : Nat → Nat → Int32} {c v : Nat} (hC : RC c f) (hV : RV v f) (h : ∀ a i, 196 ≤ a → a ≤ 199 → f2 a i = f a i) (h2 : ∀ i, f2 218 i = f 218 i) : SC f v c = SMc f2 v c := by
  funext X
  refine propext ⟨fun z k hk hp => ?_, fun z k hk hp => ?_⟩
  · obtain ⟨a1, a2, a3, a4, _⟩ := hC.2.2.2 k hk
    have := z k hk ((Pc_PM hC hV h h2 hk).mpr hp)
    rw [h 196 k (by omega) (by omega), h 197 k (by omega) (by omega), h 198 k (by omega) (by omega), ← a1, ← a2, ← a3]
    exact this
  · obtain ⟨a1, a2, a3, a4, _⟩ := hC.2.2.2 k hk
    have := z k hk ((Pc_PM hC hV h h2 hk).mp hp)
    rw [h 196 k (by omega) (by omega), h 197 k (by omega) (by omega), h 198 k (by omega) (by omega), ← a1, ← a2, ← a3] at this
    exact this
theorem NC_NM {f f2 : Nat → Nat → Int32} {c v : Nat} (hC : RC c f) (hV : RV v f) (h : ∀ a i, 196 ≤ a → a ≤ 199 → f2 a i = f a i) (h2 : ∀ i, f2 218 i = f 218 i) : NC f v c = NMc f2 v c := by
  funext X
  refine propext ⟨fun z k hk hp => ?_, fun z k hk hp => ?_⟩
  · obtain ⟨a1, a2, a3, a4, _⟩ := hC.2.2.2 k hk
    have := z k hk ((Pc_PM hC hV h h2 hk).mpr hp)
    rw [h 196 k (by omega) (by omega), h 197 k (by omega) (by omega), h 198 k (by omega) (by omega), ← a1, ← a2, ← a3]
    exact this
  · obtain ⟨a1, a2, a3, a4, _⟩ := hC.2.2.2 k hk
    have := z k hk ((Pc_PM hC hV h h2 hk).mp hp)
    rw [h 196 k (by omega) (by omega), h 197 k (by omega) (by omega), h 198 k (by omega) (by omega), ← a1, ← a2, ← a3] at this
    exact this
/-- both sides' years are the same -/
theorem years_eq {f f1 f2 : Nat → Nat → Int32} {n c v : Nat} (hW : RW n f) (hC : RC c f) (hV : RV v f) (r1 : rkY f f1 n c v) (o : o6 f1 f2) (y : YC f2 n c v) : f1 129 9 = f2 181 24 ∧ ∀ w, w < n → f1 134 w = f2 200 w ∧ f1 135 w = f2 201 w := by
  have fr : ∀ a i, 182 ≤ a → ¬ a = 200 → ¬ a = 201 → f2 a i = f a i := fun a i h1 h2 h3 => (o a i h2 h3 (by omega) (by omega) (by omega) (by omega)).trans (r1.2.1 a i (by omega) (by omega) (by omega) (by omega) (by omega) (by omega) (by omega))
  have eS := SC_SM (f2 := f2) hC hV (fun a i h1 h2 => fr a i (by omega) (by omega) (by omega)) (fun i => fr 218 i (by omega) (by omega) (by omega))
  have eN := NC_NM (f2 := f2) hC hV (fun a i h1 h2 => fr a i (by omega) (by omega) (by omega)) (fun i => fr 218 i (by omega) (by omega) (by omega))
  have t11 : ∀ w, w < n → f 11 w = f2 187 w := fun w hw => ((hW.2.2.2.1 w hw).2.2.2.2.1).trans (fr 187 w (by omega) (by omega) (by omega)).symm
  have t12 : ∀ w, w < n → f 12 w = f2 188 w := fun w hw => ((hW.2.2.2.1 w hw).2.2.2.2.2.1).trans (fr 188 w (by omega) (by omega) (by omega)).symm
  have y1 : Yh f 11 n = Yh f2 187 n := Yh_eq t11
  have y2 : Yh f 12 n = Yh f2 188 n := Yh_eq t12
  have y3 : Nh f 12 n = Nh f2 188 n := Nh_eq t12
  have fe : FEa (SC f v c) f 11 12 n ↔ FEa (SMc f2 v c) f2 187 188 n := by
    unfold FEa
    rw [eS, y1, y2]
  obtain ⟨_, _, _, q1⟩ := r1
  obtain ⟨_, q2⟩ := y
  rcases q1 with ⟨a1, a2, a3⟩ | ⟨a1, a2, a3, a4, a5⟩
  · rcases q2 with ⟨b1, b2, b3⟩ | ⟨b1, b2, b3, b4, b5⟩
    · refine ⟨a1.trans b1.symm, fun w hw => ?_⟩
      rw [(a3 w hw).1, (a3 w hw).2, (b3 w hw).1, (b3 w hw).2]
      exact ⟨t11 w hw, t12 w hw⟩
    · exact absurd (fe.mpr b2) a2
  · rcases q2 with ⟨b1, b2, b3⟩ | ⟨b1, b2, b3, b4, b5⟩
    · exact absurd (fe.mp a2) b2
    · refine ⟨a1.trans b1.symm, fun w hw => ⟨?_, ?_⟩⟩
      · rw [eS, y1] at a3
        have e := LS_u (fun Z => Iff.rfl) a3 b3 w
        rw [Yh_t hw, Yh_t hw] at e
        exact Int32.toInt_inj.mp e
      · rw [eN, y3] at a4
        have e := LS_u (fun Z => Iff.rfl) a4 b4 w
        rw [Nh_t hw, Nh_t hw] at e
        exact Int32.toInt_inj.mp (by omega)
theorem YK_of {f : Nat → Nat → Int32} {n c v : Nat} (hW : RW n f) (hC : RC c f) (hV : RV v f) (hR : RY n c v f) : YK f n c v := by
  obtain ⟨⟨m1, m2, m3, m4, m5, m6⟩, h137, _⟩ := hR
  refine ⟨hW.1, hW.2.1, hV.2.1, hV.1, ⟨m2, hC.2.1, fun k hk => ?_⟩, fun j hj => ?_, h137⟩
  · obtain ⟨a1, a2, a3, _⟩ := hC.2.2.2 k hk
    rw [a1, a2, a3]
    exact m5 k hk
  · rw [(hW.2.2.2.1 j hj).2.2.2.2.1, (hW.2.2.2.1 j hj).2.2.2.2.2.1]
    exact m6 j hj
theorem RY_r {f f1 : Nat → Nat → Int32} {n c v : Nat} (r : rkY f f1 n c v) (hR : RY n c v f) : RY n c v f1 := by
  have fr : ∀ a i, 137 ≤ a → f1 a i = f a i := fun a i h => r.2.1 a i (by omega) (by omega) (by omega) (by omega) (by omega) (by omega) (by omega)
  obtain ⟨a, b, e⟩ := hR
  exact ⟨CM_f (fun a i h => fr a i (by omega)) a, fun k => (fr 137 k (by omega)).trans (b k), fun h => by
    rw [fr 181 29 (by omega)] at h
    exact YC_f (fun a i h => fr a i (by omega)) (e h)⟩
theorem RY_m {f f1 : Nat → Nat → Int32} {n c v : Nat} (o : o6 f f1) (y : YC f1 n c v) (hR : RY n c v f) : RY n c v f1 := ⟨CM_o o hR.1, fun k => (o 137 k (by omega) (by omega) (by omega) (by omega) (by omega) (by omega)).trans (hR.2.1 k), fun _ => y⟩
theorem fin_made {f f1 f2 : Nat → Nat → Int32} {n c v : Nat} {x1 x2 v1 v2 : Int32} (hX : XI f) (hW : RW n f) (hC : RC c f) (hV : RV v f) (hR : RY n c v f) (s1 : SX_made n c v f f1 x1 x2 v1) (s2 : SM_made n c v f1 f2 x1 x2 v2) : XI f2 ∧ RY n c v f2 ∧ v1 = v2 := by
  rcases s1 with ⟨q1, rfl, rfl⟩ | ⟨w, hw, e1, p1, r1, rfl⟩
  · rcases s2 with ⟨q2, rfl, rfl⟩ | ⟨w, hw, e2, p2, _⟩
    · exact ⟨hX, hR, rfl⟩
    · exact absurd ⟨⟨w, hw, e2⟩, p2⟩ q1
  · rcases s2 with ⟨q2, _⟩ | ⟨u, hu, e2, p2, o, _, y, rfl⟩
    · exact absurd ⟨⟨w, hw, e1⟩, p1⟩ q2
    · have hn := hW.1
      have est : w = u := (nI_eq (by omega) (by omega)).mp (e1.symm.trans e2)
      subst est
      obtain ⟨a, b⟩ := years_eq hW hC hV r1 o y
      refine ⟨XI_o6 (XI_rkY hX r1) o, RY_m o y (RY_r r1 hR), ?_⟩
      rw [a, (b w hw).1, (b w hw).2]
theorem fin_quarrel {f f1 f2 : Nat → Nat → Int32} {n c v : Nat} {v1 v2 : Int32} (hX : XI f) (hW : RW n f) (hC : RC c f) (hV : RV v f) (hR : RY n c v f) (s1 : SX_quarrel n c v f f1 v1) (s2 : SM_quarrel n c v f1 f2 v2) : XI f2 ∧ RY n c v f2 ∧ v1 = v2 := by
  obtain ⟨r1, rfl⟩ := s1
  obtain ⟨o, _, y, rfl⟩ := s2
  obtain ⟨a, b⟩ := years_eq hW hC hV r1 o y
  refine ⟨XI_o6 (XI_rkY hX r1) o, RY_m o y (RY_r r1 hR), ?_⟩
  rw [a]
theorem kx_made {f f1 : Nat → Nat → Int32} {n c v : Nat} {x1 x2 r : Int32} (s : SX_made n c v f f1 x1 x2 r) : kp [0] f f1 := by
  rcases s with ⟨_, _, rfl⟩ | ⟨w, _, _, _, y, _⟩
  · exact kp_refl _ _
  · exact kp_rkY y
theorem XI_made {f f1 : Nat → Nat → Int32} {n c v : Nat} {x1 x2 r : Int32} (hX : XI f) (s : SX_made n c v f f1 x1 x2 r) : XI f1 := by
  rcases s with ⟨_, _, rfl⟩ | ⟨w, _, _, _, y, _⟩
  · exact hX
  · exact XI_rkY hX y
theorem km_made {f f1 : Nat → Nat → Int32} {n c v : Nat} {x1 x2 r : Int32} (s : SM_made n c v f f1 x1 x2 r) : kp [10, 22, 23] f f1 := by
  rcases s with ⟨_, _, rfl⟩ | ⟨w, _, _, _, o, _⟩
  · exact kp_refl _ _
  · exact kp_o6 o
theorem km2_made {f f1 : Nat → Nat → Int32} {n c v : Nat} {x1 x2 r : Int32} (m : MY n c v f) (s : SM_made n c v f f1 x1 x2 r) : MY n c v f1 := by
  rcases s with ⟨_, _, rfl⟩ | ⟨w, _, _, _, o, _, y, _⟩
  · exact m
  · exact MY_o6 o m y
theorem kx_quarrel {f f1 : Nat → Nat → Int32} {n c v : Nat} {r : Int32} (s : SX_quarrel n c v f f1 r) : kp [0] f f1 := kp_rkY s.1
theorem XI_quarrel {f f1 : Nat → Nat → Int32} {n c v : Nat} {r : Int32} (hX : XI f) (s : SX_quarrel n c v f f1 r) : XI f1 := XI_rkY hX s.1
theorem km_quarrel {f f1 : Nat → Nat → Int32} {n c v : Nat} {r : Int32} (s : SM_quarrel n c v f f1 r) : kp [10, 22, 23] f f1 := kp_o6 s.1
theorem km2_quarrel {f f1 : Nat → Nat → Int32} {n c v : Nat} {r : Int32} (m : MY n c v f) (s : SM_quarrel n c v f f1 r) : MY n c v f1 := MY_o6 s.1 m s.2.2.1
