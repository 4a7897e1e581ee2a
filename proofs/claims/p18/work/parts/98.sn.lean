/-- a work's state by the first votes, and the day of the one that made it: the class -/
def cyes (f : Nat → Nat → Int32) (day w last : Int32) (i : Nat) : Prop := f 121 i = w ∧ ¬ f 123 i = 0 ∧ ¬ day < f 122 i ∧ ¬ f 122 i < last
def myes (f : Nat → Nat → Int32) (day w last : Int32) (i : Nat) : Prop := f 218 (6 * i) = w ∧ f 218 (6 * i + 2) = 1 ∧ ¬ day < f 218 (6 * i + 1) ∧ ¬ f 218 (6 * i + 1) < last
noncomputable def cip (p : Prop) (a b : Int32 × Int32) : Int32 × Int32 := @ite _ p (Classical.propDecidable p) a b
theorem cip_t {p : Prop} {a b : Int32 × Int32} (h : p) : cip p a b = a := @if_pos p (Classical.propDecidable p) h _ a b
theorem cip_f {p : Prop} {a b : Int32 × Int32} (h : ¬ p) : cip p a b = b := @if_neg p (Classical.propDecidable p) h _ a b
noncomputable def stp (f : Nat → Nat → Int32) (day w : Int32) : Nat → Int32 × Int32
  | 0 => (0, 0)
  | i + 1 => cip (cyes f day w (stp f day w i).2 i) (if f 124 i = 0 then 1 else 2, f 122 i) (stp f day w i)
noncomputable def smp (f : Nat → Nat → Int32) (day w : Int32) : Nat → Int32 × Int32
  | 0 => (0, -1)
  | i + 1 => cip (myes f day w (smp f day w i).2 i) (if f 218 (6 * i + 5) = 1 then 2 else 1, f 218 (6 * i + 1)) (smp f day w i)
theorem st_eq {f : Nat → Nat → Int32} {c : Nat} (hV : RV c f) (day w : Int32) : ∀ n, n ≤ c → (stp f day w n).1 = (smp f day w n).1 ∧ ((stp f day w n).2 = (smp f day w n).2 ∨ ((stp f day w n).2 = 0 ∧ (smp f day w n).2 = -1))
  | 0, _ => ⟨rfl, Or.inr ⟨rfl, rfl⟩⟩
  | i + 1, hn => by
    obtain ⟨ih1, ih2⟩ := st_eq hV day w i (by omega)
    obtain ⟨a0, a1, a2, _, _, a5, hd, b2, b5⟩ := hV.2.2.2 i (by omega)
    have hl : (¬ f 122 i < (stp f day w i).2) ↔ (¬ f 122 i < (smp f day w i).2) := by
      rcases ih2 with e | ⟨e1, e2⟩
      · rw [e]
      · rw [e1, e2]
        exact ⟨fun _ => i32_nlt.mpr (Int32.le_trans (by decide) hd.1), fun _ => i32_nlt.mpr hd.1⟩
    have hc : cyes f day w (stp f day w i).2 i ↔ myes f day w (smp f day w i).2 i := by
      unfold cyes myes
      rw [hl, ← a0, ← a1, ← a2]
      refine and_congr Iff.rfl (and_congr ?_ Iff.rfl)
      rcases b2 with e | e
      · rw [e]
        exact ⟨fun z => absurd rfl z, fun z => absurd z (by decide)⟩
      · rw [e]
        exact ⟨fun _ => rfl, fun _ => by decide⟩
    show (cip (cyes f day w (stp f day w i).2 i) _ _).1 = (cip (myes f day w (smp f day w i).2 i) _ _).1 ∧ ((cip (cyes f day w (stp f day w i).2 i) _ _).2 = (cip (myes f day w (smp f day w i).2 i) _ _).2 ∨ ((cip (cyes f day w (stp f day w i).2 i) _ _).2 = 0 ∧ (cip (myes f day w (smp f day w i).2 i) _ _).2 = -1))
    by_cases q : cyes f day w (stp f day w i).2 i
    · rw [cip_t q, cip_t (hc.mp q)]
      refine ⟨?_, Or.inl a1⟩
      show (if f 124 i = 0 then (1 : Int32) else 2) = (if f 218 (6 * i + 5) = 1 then 2 else 1)
      rw [← a5]
      rcases b5 with e | e
      · rw [e]; rfl
      · rw [e]; rfl
    · rw [cip_f q, cip_f (fun z => q (hc.mpr z))]
      exact ⟨ih1, ih2⟩
/-- behind the class's reckoning -/
def stF (f f' : Nat → Nat → Int32) (day : Int32) (n : Nat) : Prop := (∀ w, w < 40 → f' 127 w = (stp f day (nI w) n).1 ∧ f' 128 w = (stp f day (nI w) n).2) ∧ ∀ a i, ¬ a = 127 → ¬ a = 128 → f' a i = f a i
theorem stF_no {f f' : Nat → Nat → Int32} {day : Int32} {i w0 : Nat} (h : stF f f' day i) (hw : w0 < 40) (e : f 121 i = nI w0) (hn : ¬ cyes f day (nI w0) (stp f day (nI w0) i).2 i) : stF f f' day (i + 1) := by
  refine ⟨fun w hw' => ?_, h.2⟩
  have hc : ¬ cyes f day (nI w) (stp f day (nI w) i).2 i := by
    by_cases q : w = w0
    · subst q
      exact hn
    · exact fun z => q ((nI_eq (by omega) (by omega)).mp (z.1.symm.trans e))
  have es : stp f day (nI w) (i + 1) = stp f day (nI w) i := cip_f hc
  rw [es]
  exact h.1 w hw'
theorem stF_yes {f f' : Nat → Nat → Int32} {day v : Int32} {i w0 : Nat} (h : stF f f' day i) (hw : w0 < 40) (hy : cyes f day (nI w0) (stp f day (nI w0) i).2 i) (hv : v = if f 124 i = 0 then 1 else 2) : stF f (m_ui (m_ui f' 127 w0 v) 128 w0 (f 122 i)) day (i + 1) := by
  refine ⟨fun w hw' => ?_, fun a b h1 h2 => ?_⟩
  · by_cases q : w = w0
    · subst q
      have es : stp f day (nI w) (i + 1) = (if f 124 i = 0 then 1 else 2, f 122 i) := cip_t hy
      rw [es, m_ui_s, m_ui_o (by omega), m_ui_s]
      exact ⟨hv, rfl⟩
    · have hc : ¬ cyes f day (nI w) (stp f day (nI w) i).2 i := fun z => q ((nI_eq (by omega) (by omega)).mp (z.1.symm.trans hy.1))
      have es : stp f day (nI w) (i + 1) = stp f day (nI w) i := cip_f hc
      rw [es, m_ui_o (by omega), m_ui_o (by omega), m_ui_o (by omega), m_ui_o (by omega)]
      exact h.1 w hw'
  · rw [m_ui_o (by omega), m_ui_o (by omega)]
    exact h.2 a b h1 h2
set_option maxRecDepth 100000 in
set_option maxHeartbeats 4000000 in
theorem rk_lp {d L n : Nat} {f : Nat → Nat → Int32} {g : Nat → Nat → Int64} {day : Int32} {R : Option Value → mH → Prop} (hX : XI f) (hm : n ≤ 60) (H : ∀ f', stF f f' day n → R none (shF L, f', g)) :
    ∀ (k i : Nat) (x : Int32) (s4 : Option Value) (f' : Nat → Nat → Int32), i + k = n → x = nI i → stF f f' day i → WPe pg_X0_reckon none (Run mtab d) R (m_drop pg_X0_reckon 10) [some (.ref 119), some (.int day), some (.int (nI n)), some (.int x), s4] [] (shF L, f', g)
  | 0, i, x, s4, f', hi, hx, hS => by
    have e : i = n := by omega
    subst hx
    subst e
    refine at_X0_reckon ?_
    conv => whnf
    refine ⟨fun c => ?_, fun c => absurd (nI_le (Nat.le_refl _) (by omega)) c⟩
    conv => whnf
    exact H f' hS
  | k + 1, i, x, s4, f', hi, hx, hS => by
    subst hx
    have hcl : (nI i).toNatClampNeg = i := nI_clamp (by omega)
    have e121 : f' 121 i = f 121 i := hS.2 121 i (by omega) (by omega)
    have e122 : f' 122 i = f 122 i := hS.2 122 i (by omega) (by omega)
    have e123 : f' 123 i = f 123 i := hS.2 123 i (by omega) (by omega)
    have e124 : f' 124 i = f 124 i := hS.2 124 i (by omega) (by omega)
    obtain ⟨w0, hw9, e0⟩ := inr_nat (n := 39) rfl (xi_121 hX i)
    have hw0 : w0 < 40 := by omega
    have hcw : (nI w0).toNatClampNeg = w0 := nI_clamp (by omega)
    have e128 : f' 128 w0 = (stp f day (nI w0) i).2 := (hS.1 w0 hw0).2
    refine at_X0_reckon ?_
    conv => whnf
    refine ⟨fun c => absurd c (nI_ge (b := n) (by omega) (by omega)), fun c => ?_⟩
    conv => whnf
    refine ⟨vp_in_nI (by omega) (by decide), ?_⟩
    conv => whnf
    refine ⟨vp_in_nI (by omega) (by decide), ?_⟩
    conv => whnf
    simp only [hcl, e121, e123, e0]
    refine ⟨fun c1 => ?_, fun c1 => ?_⟩
    · conv => whnf
      exact rk_lp hX hm H k (i + 1) _ _ _ (by omega) (nI_1 i) (stF_no hS hw0 e0 (fun z => z.2.1 c1))
    · conv => whnf
      refine ⟨vp_in_nI (by omega) (by decide), ?_⟩
      conv => whnf
      simp only [hcl, e122]
      refine ⟨fun c2 => ?_, fun c2 => ?_⟩
      · conv => whnf
        exact rk_lp hX hm H k (i + 1) _ _ _ (by omega) (nI_1 i) (stF_no hS hw0 e0 (fun z => z.2.2.1 c2))
      · conv => whnf
        refine ⟨vp_in_nI (by omega) (by decide), ?_⟩
        conv => whnf
        refine ⟨vp_in_nI (by omega) (by decide), ?_⟩
        conv => whnf
        simp only [hcl, hcw, e122, e128]
        refine ⟨fun c3 => ?_, fun c3 => ?_⟩
        · conv => whnf
          exact rk_lp hX hm H k (i + 1) _ _ _ (by omega) (nI_1 i) (stF_no hS hw0 e0 (fun z => z.2.2.2 c3))
        · conv => whnf
          refine ⟨vp_in_nI (by omega) (by decide), ?_⟩
          conv => whnf
          simp only [hcl, e124]
          refine ⟨fun c4 => ?_, fun c4 => ?_⟩
          · conv => whnf
            simp only [hcw]
            refine ⟨vp_in_nI (by omega) (by decide), ?_⟩
            conv => whnf
            (try simp only [m_ui_ap, m_fil_ap, m_cpy_ap, Nat.reduceEqDiff, Nat.reduceLT, Nat.reduceLeDiff, eq_self, ↓reduceIte, false_and, and_false, true_and, and_true, and_self])
            refine ⟨vp_in_nI (by omega) (by decide), ?_⟩
            conv => whnf
            refine ⟨vp_in_nI (by omega) (by decide), ?_⟩
            conv => whnf
            have y := stF_yes (v := 1) hS hw0 ⟨e0, c1, c2, c3⟩ (by rw [if_pos c4])
            simp only [hcl, hcw, e122, m_ui_ap, m_fil_ap, m_cpy_ap, Nat.reduceEqDiff, Nat.reduceLT, Nat.reduceLeDiff, eq_self, ↓reduceIte, false_and, and_false, true_and, and_true, and_self]
            exact rk_lp hX hm H k (i + 1) _ _ _ (by omega) (nI_1 i) y
          · conv => whnf
            simp only [hcw]
            refine ⟨vp_in_nI (by omega) (by decide), ?_⟩
            conv => whnf
            (try simp only [m_ui_ap, m_fil_ap, m_cpy_ap, Nat.reduceEqDiff, Nat.reduceLT, Nat.reduceLeDiff, eq_self, ↓reduceIte, false_and, and_false, true_and, and_true, and_self])
            refine ⟨vp_in_nI (by omega) (by decide), ?_⟩
            conv => whnf
            refine ⟨vp_in_nI (by omega) (by decide), ?_⟩
            conv => whnf
            have y := stF_yes (v := 2) hS hw0 ⟨e0, c1, c2, c3⟩ (by rw [if_neg c4])
            simp only [hcl, hcw, e122, m_ui_ap, m_fil_ap, m_cpy_ap, Nat.reduceEqDiff, Nat.reduceLT, Nat.reduceLeDiff, eq_self, ↓reduceIte, false_and, and_false, true_and, and_true, and_self]
            exact rk_lp hX hm H k (i + 1) _ _ _ (by omega) (nI_1 i) y
set_option maxRecDepth 100000 in
set_option maxHeartbeats 4000000 in
theorem sf_reckonV {d L : Nat} {f : Nat → Nat → Int32} {g : Nat → Nat → Int64} {n : Nat} {day : Int32} {R : Option Value → mH → Prop} (hd : 2 ≤ d) (hX : XI f) (hm : n ≤ 60) (H : ∀ f', stF f f' day n → R none (shF L, f', g)) : Run mtab d 11 [.ref 119, .int day, .int (nI n)] (shF L, f, g) R := by
  obtain ⟨d, rfl⟩ : ∃ e, d = e + 1 := ⟨d - 1, by omega⟩
  refine go_X0_reckon rfl ?_
  conv => whnf
  refine ct_fill (n := 40) (by omega) rfl (by decide) ?_
  conv => whnf
  refine ct_fill (n := 40) (by omega) rfl (by decide) ?_
  conv => whnf
  refine rk_lp hX hm H n 0 _ _ _ (by omega) rfl ⟨fun w hw => ⟨?_, ?_⟩, fun a i h1 h2 => ?_⟩
  · rw [m_fil_o (by omega), m_fil_ap, if_pos ⟨rfl, hw⟩]
    rfl
  · rw [m_fil_ap, if_pos ⟨rfl, hw⟩]
    rfl
  · rw [m_fil_o (by omega), m_fil_o (by omega)]
set_option maxRecDepth 100000 in
set_option maxHeartbeats 4000000 in
theorem sf_reckonAll {d L : Nat} {f : Nat → Nat → Int32} {g : Nat → Nat → Int64} {n : Nat} {R : Option Value → mH → Prop} (hd : 3 ≤ d) (hX : XI f) (hb : f 119 7 = nI n) (hm : n ≤ 60) (H : ∀ f', stF f f' 9999 n → R none (shF L, f', g)) : Run mtab d 10 [.ref 119] (shF L, f, g) R := by
  obtain ⟨d, rfl⟩ : ∃ e, d = e + 1 := ⟨d - 1, by omega⟩
  refine go_X0_reckonAll rfl ?_
  conv => whnf
  simp only [hb]
  refine sf_reckonV (by omega) hX hm (fun f1 h1 => ?_)
  conv => whnf
  exact H f1 h1
set_option maxRecDepth 100000 in
set_option maxHeartbeats 4000000 in
theorem sm_lp {d L n : Nat} {f : Nat → Nat → Int32} {g : Nat → Nat → Int64} {w day : Int32} {R : Option Value → mH → Prop} (hm : n ≤ 60) (H : R (some (.int (smp f day w n).1)) (shF L, f, g)) :
    ∀ (k i : Nat) (x st last : Int32) (s7 : Option Value), i + k = n → x = nI i → st = (smp f day w i).1 → last = (smp f day w i).2 → WPe pg_X11_stateOf none (Run mtab d) R (m_drop pg_X11_stateOf 6) [some (.ref 181), some (.int w), some (.int day), some (.int (nI n)), some (.int st), some (.int last), some (.int x), s7] [] (shF L, f, g)
  | 0, i, x, st, last, s7, hi, hx, h1, h2 => by
    have e : i = n := by omega
    subst hx
    subst e
    subst h1
    refine at_X11_stateOf ?_
    conv => whnf
    refine ⟨fun c => ?_, fun c => absurd (nI_le (Nat.le_refl _) (by omega)) c⟩
    conv => whnf
    exact H
  | k + 1, i, x, st, last, s7, hi, hx, h1, h2 => by
    subst hx
    subst h1
    subst h2
    have hc0 : (nI (6 * i)).toNatClampNeg = 6 * i := nI_clamp (by omega)
    have hc1 : (nI (6 * i + 1)).toNatClampNeg = 6 * i + 1 := nI_clamp (by omega)
    have hc2 : (nI (6 * i + 2)).toNatClampNeg = 6 * i + 2 := nI_clamp (by omega)
    have hc5 : (nI (6 * i + 5)).toNatClampNeg = 6 * i + 5 := nI_clamp (by omega)
    refine at_X11_stateOf ?_
    conv => whnf
    refine ⟨fun c => absurd c (nI_ge (b := n) (by omega) (by omega)), fun c => ?_⟩
    conv => whnf
    (try simp only [nI_6m, nI_1, nI_k _ 2 2 rfl, nI_k _ 5 5 rfl])
    refine ⟨vp_in_nI (by omega) (by decide), ?_⟩
    conv => whnf
    simp only [hc0, hc1, hc2, hc5]
    refine ⟨fun c1 => ?_, fun c1 => ?_⟩
    · conv => whnf
      have es : smp f day w (i + 1) = smp f day w i := cip_f (fun z => c1 z.1)
      exact sm_lp hm H k (i + 1) _ _ _ _ (by omega) (nI_1 i) (by rw [es]) (by rw [es])
    · conv => whnf
      (try simp only [nI_6m, nI_1, nI_k _ 2 2 rfl, nI_k _ 5 5 rfl])
      refine ⟨vp_in_nI (by omega) (by decide), ?_⟩
      conv => whnf
      simp only [hc0, hc1, hc2, hc5]
      refine ⟨fun c2 => ?_, fun c2 => ?_⟩
      · conv => whnf
        have es : smp f day w (i + 1) = smp f day w i := cip_f (fun z => c2 z.2.1)
        exact sm_lp hm H k (i + 1) _ _ _ _ (by omega) (nI_1 i) (by rw [es]) (by rw [es])
      · conv => whnf
        (try simp only [nI_6m, nI_1, nI_k _ 2 2 rfl, nI_k _ 5 5 rfl])
        refine ⟨vp_in_nI (by omega) (by decide), ?_⟩
        conv => whnf
        simp only [hc0, hc1, hc2, hc5]
        refine ⟨fun c3 => ?_, fun c3 => ?_⟩
        · conv => whnf
          have es : smp f day w (i + 1) = smp f day w i := cip_f (fun z => z.2.2.1 c3)
          exact sm_lp hm H k (i + 1) _ _ _ _ (by omega) (nI_1 i) (by rw [es]) (by rw [es])
        · conv => whnf
          (try simp only [nI_6m, nI_1, nI_k _ 2 2 rfl, nI_k _ 5 5 rfl])
          refine ⟨vp_in_nI (by omega) (by decide), ?_⟩
          conv => whnf
          simp only [hc0, hc1, hc2, hc5]
          refine ⟨fun c4 => ?_, fun c4 => ?_⟩
          · conv => whnf
            have es : smp f day w (i + 1) = smp f day w i := cip_f (fun z => z.2.2.2 c4)
            exact sm_lp hm H k (i + 1) _ _ _ _ (by omega) (nI_1 i) (by rw [es]) (by rw [es])
          · conv => whnf
            (try simp only [nI_6m, nI_1, nI_k _ 2 2 rfl, nI_k _ 5 5 rfl])
            refine ⟨vp_in_nI (by omega) (by decide), ?_⟩
            conv => whnf
            (try simp only [nI_6m, nI_1, nI_k _ 2 2 rfl, nI_k _ 5 5 rfl])
            refine ⟨vp_in_nI (by omega) (by decide), ?_⟩
            conv => whnf
            simp only [hc0, hc1, hc2, hc5]
            have es : smp f day w (i + 1) = (if f 218 (6 * i + 5) = 1 then 2 else 1, f 218 (6 * i + 1)) := cip_t ⟨c1, c2, c3, c4⟩
            refine ⟨fun c5 => ?_, fun c5 => ?_⟩
            · conv => whnf
              rw [if_neg c5] at es
              exact sm_lp hm H k (i + 1) _ _ _ _ (by omega) (nI_1 i) (by rw [es]) (by rw [es])
            · conv => whnf
              rw [if_pos c5] at es
              exact sm_lp hm H k (i + 1) _ _ _ _ (by omega) (nI_1 i) (by rw [es]) (by rw [es])
set_option maxRecDepth 100000 in
set_option maxHeartbeats 4000000 in
theorem smf_stateOf {d L : Nat} {f : Nat → Nat → Int32} {g : Nat → Nat → Int64} {n : Nat} {w day : Int32} {R : Option Value → mH → Prop} (hd : 1 ≤ d) (hm : n ≤ 60) (H : R (some (.int (smp f day w n).1)) (shF L, f, g)) : Run mtab d 227 [.ref 181, .int w, .int day, .int (nI n)] (shF L, f, g) R := by
  obtain ⟨d, rfl⟩ : ∃ e, d = e + 1 := ⟨d - 1, by omega⟩
  refine go_X11_stateOf rfl ?_
  conv => whnf
  exact sm_lp hm H n 0 _ _ _ _ (by omega) rfl rfl rfl
def asofw (c : Nat) (x y : Int32) : Prop := inr 0 9999 x ∧ inr 0 (nI c) y
def SX_state (n c : Nat) (f f1 : Nat → Nat → Int32) (x1 x2 x3 v : Int32) : Prop := (¬ (hasw n x1 ∧ asofw c x2 x3) ∧ v = -1 ∧ f1 = f) ∨ (∃ j m, j < n ∧ m ≤ c ∧ x1 = nI j ∧ x3 = nI m ∧ asofw c x2 x3 ∧ v = (stp f x2 x1 m).1 ∧ stF f f1 x2 m)
def SM_state (n c : Nat) (f : Nat → Nat → Int32) (x1 x2 x3 v : Int32) : Prop := (¬ (hasw n x1 ∧ asofw c x2 x3) ∧ v = -1) ∨ (∃ j m, j < n ∧ m ≤ c ∧ x1 = nI j ∧ x3 = nI m ∧ asofw c x2 x3 ∧ v = (smp f x2 x1 m).1)
theorem as_n {c : Nat} {x y : Int32} (hc : c ≤ 60) (h : asofw c x y) : ∃ m, m ≤ c ∧ y = nI m := inr_nat (n := c) (nI_toInt (by omega)) h.2
set_option maxRecDepth 100000 in
set_option maxHeartbeats 4000000 in
theorem sf_isAsOf {d L : Nat} {f : Nat → Nat → Int32} {g : Nat → Nat → Int64} {c0 : Nat} {x y : Int32} {R : Option Value → mH → Prop} (hd : 2 ≤ d) (hb : f 119 7 = nI c0) (H1 : asofw c0 x y → R (some (.int 1)) (shF L, f, g)) (H0 : ¬ asofw c0 x y → R (some (.int 0)) (shF L, f, g)) : Run mtab d 144 [.ref 5, .int x, .int y] (shF L, f, g) R := by
  obtain ⟨d, rfl⟩ : ∃ e, d = e + 1 := ⟨d - 1, by omega⟩
  refine go_X10_isAsOf rfl ?_
  conv => whnf
  skip
  refine ct_isWithin (by omega) (fun p1 => ?_) (fun p1 => ?_)
  · conv => whnf
    (refine ⟨fun c => ?_, fun c => ?_⟩ <;> first | ((have c9 : (1 : Int32) = 0 := by with_reducible exact c); exact absurd c9 (by decide)) | exact absurd (rfl : (0 : Int32) = 0) (by with_reducible exact c) | exact absurd True.intro (by with_reducible exact c) | exact False.elim (by with_reducible exact c) | (conv => whnf))
    (try simp only [hb])
    refine ct_isWithin (by omega) (fun p2 => ?_) (fun p2 => ?_)
    · conv => whnf
      (refine ⟨fun c => ?_, fun c => ?_⟩ <;> first | ((have c9 : (1 : Int32) = 0 := by with_reducible exact c); exact absurd c9 (by decide)) | exact absurd (rfl : (0 : Int32) = 0) (by with_reducible exact c) | exact absurd True.intro (by with_reducible exact c) | exact False.elim (by with_reducible exact c) | (conv => whnf))
      exact ⟨Or.inr rfl, H1 ⟨p1, p2⟩⟩
    · conv => whnf
      (refine ⟨fun c => ?_, fun c => ?_⟩ <;> first | ((have c9 : (1 : Int32) = 0 := by with_reducible exact c); exact absurd c9 (by decide)) | exact absurd (rfl : (0 : Int32) = 0) (by with_reducible exact c) | exact absurd True.intro (by with_reducible exact c) | exact False.elim (by with_reducible exact c) | (conv => whnf))
      exact ⟨Or.inl rfl, H0 (fun z => p2 z.2)⟩
  · conv => whnf
    (refine ⟨fun c => ?_, fun c => ?_⟩ <;> first | ((have c9 : (1 : Int32) = 0 := by with_reducible exact c); exact absurd c9 (by decide)) | exact absurd (rfl : (0 : Int32) = 0) (by with_reducible exact c) | exact absurd True.intro (by with_reducible exact c) | exact False.elim (by with_reducible exact c) | (conv => whnf))
    exact ⟨Or.inl rfl, H0 (fun z => p1 z.1)⟩
set_option maxRecDepth 100000 in
set_option maxHeartbeats 4000000 in
theorem smf_isAsOf {d L : Nat} {f : Nat → Nat → Int32} {g : Nat → Nat → Int64} {c0 : Nat} {x y : Int32} {R : Option Value → mH → Prop} (hd : 2 ≤ d) (hb : f 181 48 = nI c0) (H1 : asofw c0 x y → R (some (.int 1)) (shF L, f, g)) (H0 : ¬ asofw c0 x y → R (some (.int 0)) (shF L, f, g)) : Run mtab d 228 [.ref 181, .int x, .int y] (shF L, f, g) R := by
  obtain ⟨d, rfl⟩ : ∃ e, d = e + 1 := ⟨d - 1, by omega⟩
  refine go_X11_isAsOf rfl ?_
  conv => whnf
  skip
  refine ct_i_0_9999 (by omega) (fun p1 => ?_) (fun p1 => ?_)
  · conv => whnf
    (refine ⟨fun c => ?_, fun c => ?_⟩ <;> first | ((have c9 : (1 : Int32) = 0 := by with_reducible exact c); exact absurd c9 (by decide)) | exact absurd (rfl : (0 : Int32) = 0) (by with_reducible exact c) | exact absurd True.intro (by with_reducible exact c) | exact False.elim (by with_reducible exact c) | (conv => whnf))
    (try simp only [hb])
    refine ct_i_0_v (by omega) (fun p2 => ?_) (fun p2 => ?_)
    · conv => whnf
      (refine ⟨fun c => ?_, fun c => ?_⟩ <;> first | ((have c9 : (1 : Int32) = 0 := by with_reducible exact c); exact absurd c9 (by decide)) | exact absurd (rfl : (0 : Int32) = 0) (by with_reducible exact c) | exact absurd True.intro (by with_reducible exact c) | exact False.elim (by with_reducible exact c) | (conv => whnf))
      exact ⟨Or.inr rfl, H1 ⟨p1, p2⟩⟩
    · conv => whnf
      (refine ⟨fun c => ?_, fun c => ?_⟩ <;> first | ((have c9 : (1 : Int32) = 0 := by with_reducible exact c); exact absurd c9 (by decide)) | exact absurd (rfl : (0 : Int32) = 0) (by with_reducible exact c) | exact absurd True.intro (by with_reducible exact c) | exact False.elim (by with_reducible exact c) | (conv => whnf))
      exact ⟨Or.inl rfl, H0 (fun z => p2 z.2)⟩
  · conv => whnf
    (refine ⟨fun c => ?_, fun c => ?_⟩ <;> first | ((have c9 : (1 : Int32) = 0 := by with_reducible exact c); exact absurd c9 (by decide)) | exact absurd (rfl : (0 : Int32) = 0) (by with_reducible exact c) | exact absurd True.intro (by with_reducible exact c) | exact False.elim (by with_reducible exact c) | (conv => whnf))
    exact ⟨Or.inl rfl, H0 (fun z => p1 z.1)⟩
set_option maxRecDepth 100000 in
set_option maxHeartbeats 4000000 in
theorem sf_state {d L : Nat} {f : Nat → Nat → Int32} {g : Nat → Nat → Int64} {n c0 : Nat} {x1 x2 x3 : Int32} {R : Option Value → mH → Prop} (hd : 4 ≤ d) (hX : XI f) (hb : f 6 13 = nI n) (hm : n ≤ 40) (hvb : f 119 7 = nI c0) (hvm : c0 ≤ 60) (H : ∀ v f1, SX_state n c0 f f1 x1 x2 x3 v → R (some (.int v)) (shF L, f1, g)) : Run mtab d 124 [.ref 5, .int x1, .int x2, .int x3] (shF L, f, g) R := by
  obtain ⟨d, rfl⟩ : ∃ e, d = e + 1 := ⟨d - 1, by omega⟩
  refine go_X10_state rfl ?_
  conv => whnf
  refine ct_has (by omega) hb hm (fun j hj e => ?_) (fun q => ?_)
  · subst e
    have hcl : (nI j).toNatClampNeg = j := nI_clamp (by omega)
    conv => whnf
    (refine ⟨fun c => ?_, fun c => ?_⟩ <;> first | ((have c9 : (1 : Int32) = 0 := by with_reducible exact c); exact absurd c9 (by decide)) | exact absurd (rfl : (0 : Int32) = 0) (by with_reducible exact c) | exact absurd True.intro (by with_reducible exact c) | exact False.elim (by with_reducible exact c) | (conv => whnf))
    refine sf_isAsOf (by omega) hvb (fun p => ?_) (fun p => ?_)
    · obtain ⟨m, hm9, e⟩ := as_n hvm p
      subst e
      conv => whnf
      (refine ⟨fun c => ?_, fun c => ?_⟩ <;> first | ((have c9 : (1 : Int32) = 0 := by with_reducible exact c); exact absurd c9 (by decide)) | exact absurd (rfl : (0 : Int32) = 0) (by with_reducible exact c) | exact absurd True.intro (by with_reducible exact c) | exact False.elim (by with_reducible exact c) | (conv => whnf))
      refine sf_reckonV (by omega) hX (by omega) (fun f1 h1 => ?_)
      conv => whnf
      refine ⟨vp_in_nI (by omega) (by decide), ?_⟩
      conv => whnf
      simp only [hcl, (h1.1 j (by omega)).1]
      exact H _ _ (Or.inr ⟨j, m, hj, hm9, rfl, rfl, p, rfl, h1⟩)
    · conv => whnf
      (refine ⟨fun c => ?_, fun c => ?_⟩ <;> first | ((have c9 : (1 : Int32) = 0 := by with_reducible exact c); exact absurd c9 (by decide)) | exact absurd (rfl : (0 : Int32) = 0) (by with_reducible exact c) | exact absurd True.intro (by with_reducible exact c) | exact False.elim (by with_reducible exact c) | (conv => whnf))
      exact H _ _ (Or.inl ⟨fun hh => p hh.2, rfl, rfl⟩)
  · conv => whnf
    (refine ⟨fun c => ?_, fun c => ?_⟩ <;> first | ((have c9 : (1 : Int32) = 0 := by with_reducible exact c); exact absurd c9 (by decide)) | exact absurd (rfl : (0 : Int32) = 0) (by with_reducible exact c) | exact absurd True.intro (by with_reducible exact c) | exact False.elim (by with_reducible exact c) | (conv => whnf))
    exact H _ _ (Or.inl ⟨fun hh => nhasw q hh.1, rfl, rfl⟩)
set_option maxRecDepth 100000 in
set_option maxHeartbeats 4000000 in
theorem smf_state {d L : Nat} {f : Nat → Nat → Int32} {g : Nat → Nat → Int64} {n c0 : Nat} {x1 x2 x3 : Int32} {R : Option Value → mH → Prop} (hd : 3 ≤ d) (hb : f 181 0 = nI n) (hm : n ≤ 40) (hvb : f 181 48 = nI c0) (hvm : c0 ≤ 60) (H : ∀ v, SM_state n c0 f x1 x2 x3 v → R (some (.int v)) (shF L, f, g)) : Run mtab d 229 [.ref 181, .int x1, .int x2, .int x3] (shF L, f, g) R := by
  obtain ⟨d, rfl⟩ : ∃ e, d = e + 1 := ⟨d - 1, by omega⟩
  refine go_X11_state rfl ?_
  conv => whnf
  refine ct_mIsWork (by omega) hb hm (fun j hj e => ?_) (fun q => ?_)
  · subst e
    conv => whnf
    (refine ⟨fun c => ?_, fun c => ?_⟩ <;> first | ((have c9 : (1 : Int32) = 0 := by with_reducible exact c); exact absurd c9 (by decide)) | exact absurd (rfl : (0 : Int32) = 0) (by with_reducible exact c) | exact absurd True.intro (by with_reducible exact c) | exact False.elim (by with_reducible exact c) | (conv => whnf))
    refine smf_isAsOf (by omega) hvb (fun p => ?_) (fun p => ?_)
    · obtain ⟨m, hm9, e⟩ := as_n hvm p
      subst e
      conv => whnf
      (refine ⟨fun c => ?_, fun c => ?_⟩ <;> first | ((have c9 : (1 : Int32) = 0 := by with_reducible exact c); exact absurd c9 (by decide)) | exact absurd (rfl : (0 : Int32) = 0) (by with_reducible exact c) | exact absurd True.intro (by with_reducible exact c) | exact False.elim (by with_reducible exact c) | (conv => whnf))
      refine smf_stateOf (by omega) (by omega) ?_
      conv => whnf
      exact H _ (Or.inr ⟨j, m, hj, hm9, rfl, rfl, p, rfl⟩)
    · conv => whnf
      (refine ⟨fun c => ?_, fun c => ?_⟩ <;> first | ((have c9 : (1 : Int32) = 0 := by with_reducible exact c); exact absurd c9 (by decide)) | exact absurd (rfl : (0 : Int32) = 0) (by with_reducible exact c) | exact absurd True.intro (by with_reducible exact c) | exact False.elim (by with_reducible exact c) | (conv => whnf))
      exact H _ (Or.inl ⟨fun hh => p hh.2, rfl⟩)
  · conv => whnf
    (refine ⟨fun c => ?_, fun c => ?_⟩ <;> first | ((have c9 : (1 : Int32) = 0 := by with_reducible exact c); exact absurd c9 (by decide)) | exact absurd (rfl : (0 : Int32) = 0) (by with_reducible exact c) | exact absurd True.intro (by with_reducible exact c) | exact False.elim (by with_reducible exact c) | (conv => whnf))
    exact H _ (Or.inl ⟨fun hh => nhasw q hh.1, rfl⟩)
theorem stF_kp {f f1 : Nat → Nat → Int32} {day : Int32} {n : Nat} (h : stF f f1 day n) : kp [0] f f1 := fun a i z => by
  refine h.2 a i (fun e => ?_) (fun e => ?_)
  · rw [e] at z
    exact absurd (show true = false from z) (by decide)
  · rw [e] at z
    exact absurd (show true = false from z) (by decide)
theorem stF_XI {f f1 : Nat → Nat → Int32} {day : Int32} {n : Nat} (hX : XI f) (h : stF f f1 day n) : XI f1 := fun a i => by
  by_cases e : a = 127
  · rw [e]
    exact True.intro
  · by_cases e2 : a = 128
    · rw [e2]
      exact True.intro
    · rw [h.2 a i e e2]
      exact hX a i
theorem kx_state {n c : Nat} {f f1 : Nat → Nat → Int32} {x1 x2 x3 v : Int32} (s : SX_state n c f f1 x1 x2 x3 v) : kp [0] f f1 := by
  rcases s with ⟨_, _, rfl⟩ | ⟨j, m, _, _, _, _, _, _, h⟩
  · exact kp_refl _ _
  · exact stF_kp h
theorem XI_state {n c : Nat} {f f1 : Nat → Nat → Int32} {x1 x2 x3 v : Int32} (hX : XI f) (s : SX_state n c f f1 x1 x2 x3 v) : XI f1 := by
  rcases s with ⟨_, _, rfl⟩ | ⟨j, m, _, _, _, _, _, _, h⟩
  · exact hX
  · exact stF_XI hX h
theorem smp_kp {f f1 : Nat → Nat → Int32} (h : ∀ i, f1 218 i = f 218 i) (day w : Int32) : ∀ n, smp f1 day w n = smp f day w n
  | 0 => rfl
  | i + 1 => by
    show cip (myes f1 day w (smp f1 day w i).2 i) (if f1 218 (6 * i + 5) = 1 then 2 else 1, f1 218 (6 * i + 1)) (smp f1 day w i) = cip (myes f day w (smp f day w i).2 i) (if f 218 (6 * i + 5) = 1 then 2 else 1, f 218 (6 * i + 1)) (smp f day w i)
    rw [smp_kp h day w i]
    unfold myes
    rw [h, h, h, h]
theorem fin_state {n c : Nat} {f f1 : Nat → Nat → Int32} {x1 x2 x3 v1 v2 : Int32} (hn : n ≤ 40) (hV : RV c f) (s1 : SX_state n c f f1 x1 x2 x3 v1) (s2 : SM_state n c f1 x1 x2 x3 v2) : v1 = v2 := by
  have k1 := kx_state s1
  have hc := hV.1
  rcases s1 with ⟨q1, rfl, rfl⟩ | ⟨j, m, hj, hm, e1, e3, p, rfl, h⟩
  · rcases s2 with ⟨q2, rfl⟩ | ⟨j, m, hj, hm, e1, e3, p, rfl⟩
    · rfl
    · exact absurd ⟨⟨j, hj, e1⟩, p⟩ q1
  · rcases s2 with ⟨q2, rfl⟩ | ⟨j', m', hj', hm', e1', e3', p', rfl⟩
    · exact absurd ⟨⟨j, hj, e1⟩, p⟩ q2
    · have em : m = m' := (nI_eq (by omega) (by omega)).mp (e3.symm.trans e3')
      subst em
      rw [smp_kp (fun i => k1 218 i rfl)]
      exact (st_eq hV x2 x1 m hm).1
