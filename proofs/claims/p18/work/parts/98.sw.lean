def SMc (f : Nat → Nat → Int32) (v c : Nat) (X : Nat → Int) : Prop := ∀ k, k < c → PMc f v k → X (f 196 k).toNatClampNeg + (f 198 k).toInt ≤ X (f 197 k).toNatClampNeg
def NMc (f : Nat → Nat → Int32) (v c : Nat) (X : Nat → Int) : Prop := ∀ k, k < c → PMc f v k → X (f 197 k).toNatClampNeg + (f 198 k).toInt ≤ X (f 196 k).toNatClampNeg
/-- the model's years are found -/
def YC (f : Nat → Nat → Int32) (n c v : Nat) : Prop := f 181 21 = mayl (PMc f v) (fun m => nI m) c 0 0 ∧ ((f 181 24 = 1 ∧ ¬ FEa (SMc f v c) f 187 188 n ∧ ∀ w, w < n → f 200 w = f 187 w ∧ f 201 w = f 188 w) ∨ (f 181 24 = 0 ∧ FEa (SMc f v c) f 187 188 n ∧ LSs (SMc f v c) (Yh f 187 n) (Yh f 200 n) ∧ LSs (NMc f v c) (Nh f 188 n) (Nh f 201 n) ∧ ∀ w, w < n → inr 1800 1999 (f 200 w) ∧ inr 1800 1999 (f 201 w)))
def o6 (f f' : Nat → Nat → Int32) : Prop := ∀ a i, ¬ a = 200 → ¬ a = 201 → ¬ (a = 181 ∧ i = 21) → ¬ (a = 181 ∧ i = 24) → ¬ (a = 181 ∧ i = 29) → ¬ (a = 181 ∧ i = 39) → f' a i = f a i
theorem PMc_eq {f f' : Nat → Nat → Int32} (h : o6 f f') (v k : Nat) : PMc f' v k ↔ PMc f v k := by
  unfold PMc
  rw [smp_kp (fun i => h 218 i (by omega) (by omega) (by omega) (by omega) (by omega) (by omega)), smp_kp (fun i => h 218 i (by omega) (by omega) (by omega) (by omega) (by omega) (by omega)), h 199 k (by omega) (by omega) (by omega) (by omega) (by omega) (by omega), h 196 k (by omega) (by omega) (by omega) (by omega) (by omega) (by omega), h 197 k (by omega) (by omega) (by omega) (by omega) (by omega) (by omega)]
theorem SMc_eq {f f' : Nat → Nat → Int32} (h : o6 f f') (v c : Nat) (X : Nat → Int) : SMc f' v c X ↔ SMc f v c X := by
  unfold SMc
  constructor
  · intro z k hk hp
    have := z k hk ((PMc_eq h v k).mpr hp)
    rw [h 196 k (by omega) (by omega) (by omega) (by omega) (by omega) (by omega), h 197 k (by omega) (by omega) (by omega) (by omega) (by omega) (by omega), h 198 k (by omega) (by omega) (by omega) (by omega) (by omega) (by omega)] at this
    exact this
  · intro z k hk hp
    have := z k hk ((PMc_eq h v k).mp hp)
    rw [h 196 k (by omega) (by omega) (by omega) (by omega) (by omega) (by omega), h 197 k (by omega) (by omega) (by omega) (by omega) (by omega) (by omega), h 198 k (by omega) (by omega) (by omega) (by omega) (by omega) (by omega)]
    exact this
theorem NMc_eq {f f' : Nat → Nat → Int32} (h : o6 f f') (v c : Nat) (X : Nat → Int) : NMc f' v c X ↔ NMc f v c X := by
  unfold NMc
  constructor
  · intro z k hk hp
    have := z k hk ((PMc_eq h v k).mpr hp)
    rw [h 196 k (by omega) (by omega) (by omega) (by omega) (by omega) (by omega), h 197 k (by omega) (by omega) (by omega) (by omega) (by omega) (by omega), h 198 k (by omega) (by omega) (by omega) (by omega) (by omega) (by omega)] at this
    exact this
  · intro z k hk hp
    have := z k hk ((PMc_eq h v k).mp hp)
    rw [h 196 k (by omega) (by omega) (by omega) (by omega) (by omega) (by omega), h 197 k (by omega) (by omega) (by omega) (by omega) (by omega) (by omega), h 198 k (by omega) (by omega) (by omega) (by omega) (by omega) (by omega)]
    exact this
theorem LSs_c {S S' : (Nat → Int) → Prop} {lo X : Nat → Int} (e : ∀ Z, S Z ↔ S' Z) (h : LSs S lo X) : LSs S' lo X := ⟨(e X).mp h.1, h.2.1, fun Y y1 y2 => h.2.2 Y ((e Y).mpr y1) y2⟩
theorem sol_SM {f f0 : Nat → Nat → Int32} {v c : Nat} (hc : c ≤ 20) (h : o6 f f0) (X : Nat → Int) : Sol c (mA_ (mayl (PMc f v) (fun m => nI m) c 0 0)) (mU_ f0) (mV_ f0) (mD_ f0) X ↔ SMc f v c X := by
  constructor
  · intro z k hk hp
    have := z k hk ((bits_P hc hk).mpr hp)
    unfold mU_ mV_ mD_ at this
    rw [h 196 k (by omega) (by omega) (by omega) (by omega) (by omega) (by omega), h 197 k (by omega) (by omega) (by omega) (by omega) (by omega) (by omega), h 198 k (by omega) (by omega) (by omega) (by omega) (by omega) (by omega)] at this
    exact this
  · intro z k hk hA
    have := z k hk ((bits_P hc hk).mp hA)
    unfold mU_ mV_ mD_
    rw [h 196 k (by omega) (by omega) (by omega) (by omega) (by omega) (by omega), h 197 k (by omega) (by omega) (by omega) (by omega) (by omega) (by omega), h 198 k (by omega) (by omega) (by omega) (by omega) (by omega) (by omega)]
    exact this
theorem sol_NM {f f0 : Nat → Nat → Int32} {v c : Nat} (hc : c ≤ 20) (h : o6 f f0) (X : Nat → Int) : Sol c (mA_ (mayl (PMc f v) (fun m => nI m) c 0 0)) (mV_ f0) (mU_ f0) (mD_ f0) X ↔ NMc f v c X := by
  constructor
  · intro z k hk hp
    have := z k hk ((bits_P hc hk).mpr hp)
    unfold mU_ mV_ mD_ at this
    rw [h 196 k (by omega) (by omega) (by omega) (by omega) (by omega) (by omega), h 197 k (by omega) (by omega) (by omega) (by omega) (by omega) (by omega), h 198 k (by omega) (by omega) (by omega) (by omega) (by omega) (by omega)] at this
    exact this
  · intro z k hk hA
    have := z k hk ((bits_P hc hk).mp hA)
    unfold mU_ mV_ mD_
    rw [h 196 k (by omega) (by omega) (by omega) (by omega) (by omega) (by omega), h 197 k (by omega) (by omega) (by omega) (by omega) (by omega) (by omega), h 198 k (by omega) (by omega) (by omega) (by omega) (by omega) (by omega)]
    exact this
theorem CM_o {f f' : Nat → Nat → Int32} {n c : Nat} (h : o6 f f') (hC : CM f n c) : CM f' n c := by
  obtain ⟨a, b, c1, d, e, g⟩ := hC
  refine ⟨a, b, (h 181 0 (by omega) (by omega) (by omega) (by omega) (by omega) (by omega)).trans c1, (h 181 16 (by omega) (by omega) (by omega) (by omega) (by omega) (by omega)).trans d, fun k hk => ?_, fun j hj => ?_⟩
  · rw [h 196 k (by omega) (by omega) (by omega) (by omega) (by omega) (by omega), h 197 k (by omega) (by omega) (by omega) (by omega) (by omega) (by omega), h 198 k (by omega) (by omega) (by omega) (by omega) (by omega) (by omega)]
    exact e k hk
  · rw [h 187 j (by omega) (by omega) (by omega) (by omega) (by omega) (by omega), h 188 j (by omega) (by omega) (by omega) (by omega) (by omega) (by omega)]
    exact g j hj
set_option maxRecDepth 100000 in
set_option maxHeartbeats 4000000 in
theorem fy_lp {d L n : Nat} {f0 : Nat → Nat → Int32} {g : Nat → Nat → Int64} {R : Option Value → mH → Prop} (hn : n ≤ 40) (h0 : f0 181 0 = nI n) (H : ∀ f : Nat → Nat → Int32, (∀ a i, ¬ a = 200 → ¬ a = 201 → f a i = f0 a i) → (∀ w, w < n → f 200 w = f0 187 w ∧ f 201 w = f0 188 w) → R none (shF L, f, g)) :
    ∀ (k i : Nat) (x : Int32) (f : Nat → Nat → Int32), i + k = n → x = nI i → (∀ a i, ¬ a = 200 → ¬ a = 201 → f a i = f0 a i) → (∀ w, w < i → f 200 w = f0 187 w ∧ f 201 w = f0 188 w) → WPe pg_X11_findYears none (Run mtab d) R (m_drop pg_X11_findYears 24) [some (.ref 181), some (.int x)] [] (shF L, f, g)
  | 0, i, x, f, hi, hx, hF, hw => by
    have e : i = n := by omega
    subst e
    subst hx
    have g0 : f 181 0 = nI i := (hF 181 0 (by omega) (by omega)).trans h0
    refine at_X11_findYears ?_
    conv => whnf
    simp only [g0]
    refine ⟨fun q => ?_, fun q => absurd (nI_le (Nat.le_refl _) (by omega)) q⟩
    conv => whnf
    exact H f hF hw
  | k + 1, i, x, f, hi, hx, hF, hw => by
    subst hx
    have hcl : (nI i).toNatClampNeg = i := nI_clamp (by omega)
    have g0 : f 181 0 = nI n := (hF 181 0 (by omega) (by omega)).trans h0
    have g187 : f 187 i = f0 187 i := hF 187 i (by omega) (by omega)
    have g188 : ∀ v, m_ui f 200 i v 188 i = f0 188 i := fun v => (m_ui_o (by omega)).trans (hF 188 i (by omega) (by omega))
    refine at_X11_findYears ?_
    conv => whnf
    simp only [g0]
    refine ⟨fun q => absurd q (nI_ge (b := n) (by omega) (by omega)), fun q => ?_⟩
    conv => whnf
    refine ⟨vp_in_nI (by omega) (by decide), ?_⟩
    conv => whnf
    refine ⟨vp_in_nI (by omega) (by decide), ?_⟩
    conv => whnf
    refine ⟨vp_in_nI (by omega) (by decide), ?_⟩
    conv => whnf
    refine ⟨vp_in_nI (by omega) (by decide), ?_⟩
    conv => whnf
    simp only [hcl, g187, g188]
    refine fy_lp hn h0 H k (i + 1) _ _ (by omega) (nI_1 i) (fun a b h1 h2 => ?_) (fun w hw2 => ?_)
    · rw [m_ui_o (by omega), m_ui_o (by omega)]
      exact hF a b h1 h2
    · by_cases e : w = i
      · subst e
        exact ⟨(m_ui_o (by omega)).trans m_ui_s, m_ui_s⟩
      · rw [m_ui_o (by omega), m_ui_o (by omega), m_ui_o (by omega), m_ui_o (by omega)]
        exact hw w (by omega)
theorem YC_no {f f2 : Nat → Nat → Int32} {n c v : Nat} (o : o6 f f2) (h21 : f2 181 21 = (mayl (PMc f v) (fun m => nI m) c 0 0)) (h24 : f2 181 24 = 1) (fe : ¬ FEa (SMc f v c) f 187 188 n) (hw : ∀ w, w < n → f2 200 w = f 187 w ∧ f2 201 w = f 188 w) : YC f2 n c v := by
  have eP : PMc f2 v = PMc f v := funext (fun k => propext (PMc_eq o v k))
  have eS : SMc f2 v c = SMc f v c := funext (fun X => propext (SMc_eq o v c X))
  have y1 : Yh f2 187 n = Yh f 187 n := Yh_eq (fun w hw => o 187 w (by omega) (by omega) (by omega) (by omega) (by omega) (by omega))
  have y2 : Yh f2 188 n = Yh f 188 n := Yh_eq (fun w hw => o 188 w (by omega) (by omega) (by omega) (by omega) (by omega) (by omega))
  refine ⟨by rw [eP]; exact h21, Or.inl ⟨h24, ?_, fun w hw' => ?_⟩⟩
  · rw [eS]
    intro ⟨X, x1, x2, x3⟩
    exact fe ⟨X, x1, by rw [← y1]; exact x2, by rw [← y2]; exact x3⟩
  · rw [o 187 w (by omega) (by omega) (by omega) (by omega) (by omega) (by omega), o 188 w (by omega) (by omega) (by omega) (by omega) (by omega) (by omega)]
    exact hw w hw'
theorem YC_yes {f f2 : Nat → Nat → Int32} {n c v : Nat} (o : o6 f f2) (h21 : f2 181 21 = (mayl (PMc f v) (fun m => nI m) c 0 0)) (h24 : f2 181 24 = 0) (fe : FEa (SMc f v c) f 187 188 n) (l1 : LSs (SMc f v c) (Yh f 187 n) (Yh f2 200 n)) (l2 : LSs (NMc f v c) (Nh f 188 n) (Nh f2 201 n)) (hw : ∀ w, w < n → inr 1800 1999 (f2 200 w) ∧ inr 1800 1999 (f2 201 w)) : YC f2 n c v := by
  have eP : PMc f2 v = PMc f v := funext (fun k => propext (PMc_eq o v k))
  have eS : SMc f2 v c = SMc f v c := funext (fun X => propext (SMc_eq o v c X))
  have eN : NMc f2 v c = NMc f v c := funext (fun X => propext (NMc_eq o v c X))
  have y1 : Yh f2 187 n = Yh f 187 n := Yh_eq (fun w hw => o 187 w (by omega) (by omega) (by omega) (by omega) (by omega) (by omega))
  have y2 : Yh f2 188 n = Yh f 188 n := Yh_eq (fun w hw => o 188 w (by omega) (by omega) (by omega) (by omega) (by omega) (by omega))
  have y3 : Nh f2 188 n = Nh f 188 n := Nh_eq (fun w hw => o 188 w (by omega) (by omega) (by omega) (by omega) (by omega) (by omega))
  refine ⟨by rw [eP]; exact h21, Or.inr ⟨h24, ?_, ?_, ?_, hw⟩⟩
  · obtain ⟨X, x1, x2, x3⟩ := fe
    rw [eS]
    exact ⟨X, x1, by rw [y1]; exact x2, by rw [y2]; exact x3⟩
  · rw [eS, y1]
    exact l1
  · rw [eN, y3]
    exact l2
set_option maxRecDepth 100000 in
set_option maxHeartbeats 8000000 in
theorem smf_findYears {d L n c v : Nat} {f : Nat → Nat → Int32} {g : Nat → Nat → Int64} {R : Option Value → mH → Prop} (hd : 3 ≤ d) (hC : CM f n c) (hvb : f 181 48 = nI v) (hv : v ≤ 60) (H : ∀ f', o6 f f' → f' 181 29 = f 181 29 → YC f' n c v → R none (shF L, f', g)) : Run mtab d 181 [.ref 181] (shF L, f, g) R := by
  obtain ⟨d, rfl⟩ : ∃ e, d = e + 1 := ⟨d - 1, by omega⟩
  refine go_X11_findYears rfl ?_
  conv => whnf
  have hn := hC.1
  have hc := hC.2.1
  refine smf_findCounting (c := c) (v := v) (by omega) hC.2.2.2.1 hc hvb hv ?_
  conv => whnf
  have e21 : m_ui f 181 21 (mayl (PMc f v) (fun m => nI m) c 0 0) 181 21 = (mayl (PMc f v) (fun m => nI m) c 0 0) := m_ui_s
  (try simp only [e21])
  have oa : o6 f (m_ui f 181 21 (mayl (PMc f v) (fun m => nI m) c 0 0)) := fun a i h1 h2 h3 h4 h5 h6 => m_ui_o h3
  have hCa := CM_o oa hC
  have sS : ∀ X, Sol c (mA_ (mayl (PMc f v) (fun m => nI m) c 0 0)) (mU_ (m_ui f 181 21 (mayl (PMc f v) (fun m => nI m) c 0 0))) (mV_ (m_ui f 181 21 (mayl (PMc f v) (fun m => nI m) c 0 0))) (mD_ (m_ui f 181 21 (mayl (PMc f v) (fun m => nI m) c 0 0))) X ↔ SMc f v c X := fun X => sol_SM hc oa X
  have y187 : Yh (m_ui f 181 21 (mayl (PMc f v) (fun m => nI m) c 0 0)) 187 n = Yh f 187 n := Yh_eq (fun w hw => oa 187 w (by omega) (by omega) (by omega) (by omega) (by omega) (by omega))
  have y188 : Yh (m_ui f 181 21 (mayl (PMc f v) (fun m => nI m) c 0 0)) 188 n = Yh f 188 n := Yh_eq (fun w hw => oa 188 w (by omega) (by omega) (by omega) (by omega) (by omega) (by omega))
  refine smf_findLeast (n := n) (c := c) (bits := (mayl (PMc f v) (fun m => nI m) c 0 0)) (by omega) hCa (fun nf f1 h1 => ?_) (fun f1 h1 r1 L1 => ?_)
  · have fe : ¬ FEa (SMc f v c) f 187 188 n := fun ⟨X, x1, x2, x3⟩ => nf ⟨X, (sS X).mpr x1, by rw [y187]; exact x2, by rw [y188]; exact x3⟩
    have g1 : ∀ a i, ¬ a = 200 → ¬ (a = 181 ∧ i = 21) → ¬ (a = 181 ∧ i = 24) → m_ui f1 181 24 1 a i = f a i := fun a i h2 h3 h4 => ((m_ui_o h4).trans (h1 a i h2)).trans (m_ui_o h3)
    have e24 : m_ui f1 181 24 1 181 24 = 1 := m_ui_s
    conv => whnf
    (refine ⟨fun z9 => ?_, fun z9 => ?_⟩ <;> first | ((have c9 : (1 : Int32) = 0 := by with_reducible exact z9); exact absurd c9 (by decide)) | exact absurd (rfl : (0 : Int32) = 0) (by with_reducible exact z9) | exact absurd True.intro (by with_reducible exact z9) | exact False.elim (by with_reducible exact z9) | (conv => whnf))
    refine ⟨by first | exact Or.inr rfl | exact Or.inr True.intro, ?_⟩
    conv => whnf
    (try simp only [e24])
    (refine ⟨fun z9 => ?_, fun z9 => ?_⟩ <;> first | ((have c9 : (1 : Int32) = 0 := by with_reducible exact z9); exact absurd c9 (by decide)) | exact absurd (rfl : (0 : Int32) = 0) (by with_reducible exact z9) | exact absurd True.intro (by with_reducible exact z9) | exact False.elim (by with_reducible exact z9) | (conv => whnf))
    refine fy_lp (f0 := m_ui f1 181 24 1) hn ((g1 181 0 (by omega) (by omega) (by omega)).trans hC.2.2.1) (fun f2 h2 w2 => ?_) n 0 _ _ (by omega) rfl (fun a i _ _ => rfl) (fun w hw => absurd hw (by omega))
    refine H f2 (fun a i p1 p2 p3 p4 p5 p6 => (h2 a i p1 p2).trans (g1 a i p1 p3 p4)) ((h2 181 29 (by omega) (by omega)).trans (g1 181 29 (by omega) (by omega) (by omega))) (YC_no (f := f) (fun a i p1 p2 p3 p4 p5 p6 => (h2 a i p1 p2).trans (g1 a i p1 p3 p4)) ?_ ?_ fe (fun w hw => ?_))
    · rw [h2 181 21 (by omega) (by omega), m_ui_o (by omega), h1 181 21 (by omega)]
      exact e21
    · rw [h2 181 24 (by omega) (by omega)]
      exact e24
    · obtain ⟨a1, a2⟩ := w2 w hw
      exact ⟨a1.trans (g1 187 w (by omega) (by omega) (by omega)), a2.trans (g1 188 w (by omega) (by omega) (by omega))⟩
  · have LS1 : LSs (SMc f v c) (Yh f 187 n) (Yh f1 200 n) := by
      have := LS_of sS L1
      rw [y187] at this
      exact this
    have g1 : ∀ a i, ¬ a = 200 → ¬ (a = 181 ∧ i = 21) → ¬ (a = 181 ∧ i = 24) → m_ui f1 181 24 0 a i = f a i := fun a i h2 h3 h4 => ((m_ui_o h4).trans (h1 a i h2)).trans (m_ui_o h3)
    have ob : o6 f (m_ui f1 181 24 0) := fun a i p1 p2 p3 p4 p5 p6 => g1 a i p1 p3 p4
    have hC1 := CM_o ob hC
    have e24 : m_ui f1 181 24 0 181 24 = 0 := m_ui_s
    have e21b : m_ui f1 181 24 0 181 21 = (mayl (PMc f v) (fun m => nI m) c 0 0) := by
      rw [m_ui_o (by omega), h1 181 21 (by omega)]
      exact e21
    have nY : ∀ w, Nh f1 200 n w = -(Yh f1 200 n w) := fun w => by
      unfold Nh Yh
      by_cases h : w < n
      · rw [if_pos h, if_pos h]
      · rw [if_neg h, if_neg h]
        rfl
    have hNs : NMc f v c (Nh f1 200 n) := fun k hk hp => by
      have := LS1.1 k hk hp
      rw [nY, nY]
      omega
    have sN : ∀ X, Sol c (mA_ (mayl (PMc f v) (fun m => nI m) c 0 0)) (mV_ (m_ui f1 181 24 0)) (mU_ (m_ui f1 181 24 0)) (mD_ (m_ui f1 181 24 0)) X ↔ NMc f v c X := fun X => sol_NM hc ob X
    have hX1 := (sN (Nh f1 200 n)).mpr hNs
    have n188 : Nh (m_ui f1 181 24 0) 188 n = Nh f 188 n := Nh_eq (fun w hw => g1 188 w (by omega) (by omega) (by omega))
    have r2 : ∀ w, w < n → f1 200 w ≤ f 188 w := fun w hw => by
      have := (r1 w hw).2
      rw [oa 188 w (by omega) (by omega) (by omega) (by omega) (by omega) (by omega)] at this
      exact this
    have hi1 : ∀ w, Nh (m_ui f1 181 24 0) 188 n w ≤ Nh f1 200 n w := fun w => by
      rw [n188]
      unfold Nh
      by_cases h : w < n
      · rw [if_pos h, if_pos h]
        have := Int32.le_iff_toInt_le.mp (r2 w h)
        omega
      · rw [if_neg h, if_neg h]
        exact Int.le_refl _
    conv => whnf
    (refine ⟨fun z9 => ?_, fun z9 => ?_⟩ <;> first | ((have c9 : (1 : Int32) = 0 := by with_reducible exact z9); exact absurd c9 (by decide)) | exact absurd (rfl : (0 : Int32) = 0) (by with_reducible exact z9) | exact absurd True.intro (by with_reducible exact z9) | exact False.elim (by with_reducible exact z9) | (conv => whnf))
    refine ⟨by first | exact Or.inl rfl | exact Or.inl True.intro, ?_⟩
    conv => whnf
    (try simp only [e24])
    (refine ⟨fun z9 => ?_, fun z9 => ?_⟩ <;> first | ((have c9 : (1 : Int32) = 0 := by with_reducible exact z9); exact absurd c9 (by decide)) | exact absurd (rfl : (0 : Int32) = 0) (by with_reducible exact z9) | exact absurd True.intro (by with_reducible exact z9) | exact False.elim (by with_reducible exact z9) | (conv => whnf))
    (try simp only [e21b])
    refine smf_findMost (n := n) (c := c) (bits := (mayl (PMc f v) (fun m => nI m) c 0 0)) (X0 := Nh f1 200 n) (by omega) hC1 hX1 (fun w hw => ?_) hi1 (fun f2 h2 q2 L2 => ?_)
    · rw [nY, Yh_t hw]
      have := i1800 (r1 w hw).1
      omega
    · conv => whnf
      have LN : LSs (NMc f v c) (Nh f 188 n) (Nh f2 201 n) := by
        have := LS_of sN L2
        rw [n188] at this
        exact this
      have eY : Yh f2 200 n = Yh f1 200 n := Yh_eq (fun w hw => (h2 200 w (by omega)).trans (m_ui_o (by omega)))
      refine H f2 (fun a i p1 p2 p3 p4 p5 p6 => (h2 a i p2).trans (g1 a i p1 p3 p4)) ((h2 181 29 (by omega)).trans (g1 181 29 (by omega) (by omega) (by omega))) (YC_yes (f := f) (fun a i p1 p2 p3 p4 p5 p6 => (h2 a i p2).trans (g1 a i p1 p3 p4)) ?_ ?_ ⟨Yh f1 200 n, LS1.1, LS1.2.1, fun w hw => ?_⟩ ?_ LN (fun w hw => ⟨?_, q2 w hw⟩))
      · rw [h2 181 21 (by omega)]
        exact e21b
      · rw [h2 181 24 (by omega)]
        exact e24
      · rw [Yh_t hw, Yh_t hw]
        exact Int32.le_iff_toInt_le.mp (r2 w hw)
      · rw [eY]
        exact LS1
      · rw [h2 200 w (by omega), m_ui_o (by omega)]
        exact (r1 w hw).1
theorem YC_o {f f2 : Nat → Nat → Int32} {n c v : Nat} (o : ∀ a i, ¬ (a = 181 ∧ i = 29) → ¬ (a = 181 ∧ i = 39) → f2 a i = f a i) (h : YC f n c v) : YC f2 n c v := by
  obtain ⟨h1, h2⟩ := h
  have o' : o6 f f2 := fun a i _ _ _ _ p5 p6 => o a i p5 p6
  rcases h2 with ⟨a1, a2, a3⟩ | ⟨a1, a2, a3, a4, a5⟩
  · exact YC_no o' ((o 181 21 (by omega) (by omega)).trans h1) ((o 181 24 (by omega) (by omega)).trans a1) a2 (fun w hw => by rw [o 200 w (by omega) (by omega), o 201 w (by omega) (by omega)]; exact a3 w hw)
  · have y1 : Yh f2 200 n = Yh f 200 n := Yh_eq (fun w hw => o 200 w (by omega) (by omega))
    have y2 : Nh f2 201 n = Nh f 201 n := Nh_eq (fun w hw => o 201 w (by omega) (by omega))
    exact YC_yes o' ((o 181 21 (by omega) (by omega)).trans h1) ((o 181 24 (by omega) (by omega)).trans a1) a2 (by rw [y1]; exact a3) (by rw [y2]; exact a4) (fun w hw => by rw [o 200 w (by omega) (by omega), o 201 w (by omega) (by omega)]; exact a5 w hw)
set_option maxRecDepth 100000 in
set_option maxHeartbeats 4000000 in
theorem smf_refresh {d L n c v : Nat} {f : Nat → Nat → Int32} {g : Nat → Nat → Int64} {R : Option Value → mH → Prop} (hd : 4 ≤ d) (hC : CM f n c) (hvb : f 181 48 = nI v) (hv : v ≤ 60) (hY : ¬ f 181 29 = 0 → YC f n c v) (H : ∀ f', o6 f f' → ¬ f' 181 29 = 0 → YC f' n c v → R none (shF L, f', g)) : Run mtab d 206 [.ref 181] (shF L, f, g) R := by
  obtain ⟨d, rfl⟩ : ∃ e, d = e + 1 := ⟨d - 1, by omega⟩
  refine go_X11_refresh rfl ?_
  conv => whnf
  refine ⟨fun z => ?_, fun z => ?_⟩
  · conv => whnf
    exact H f (fun a i _ _ _ _ _ _ => rfl) z (hY z)
  · conv => whnf
    refine ⟨Or.inr rfl, ?_⟩
    conv => whnf
    refine ⟨Or.inl rfl, ?_⟩
    conv => whnf
    have o1 : ∀ a i, ¬ (a = 181 ∧ i = 29) → ¬ (a = 181 ∧ i = 39) → m_ui (m_ui f 181 29 1) 181 39 0 a i = f a i := fun a i p q => (m_ui_o q).trans (m_ui_o p)
    refine smf_findYears (f := m_ui (m_ui f 181 29 1) 181 39 0) (n := n) (c := c) (v := v) (by omega) (CM_o (fun a i _ _ _ _ p5 p6 => o1 a i p5 p6) hC) ((o1 181 48 (by omega) (by omega)).trans hvb) hv (fun f2 p2 e2 y2 => ?_)
    conv => whnf
    refine H f2 (fun a i p1 p2' p3 p4 p5 p6 => (p2 a i p1 p2' p3 p4 p5 p6).trans (o1 a i p5 p6)) ?_ y2
    rw [e2, m_ui_o (by omega), m_ui_s]
    decide
