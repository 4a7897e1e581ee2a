/-- a clue counts, by the class's tables -/
def Pc (f : Nat → Nat → Int32) (v k : Nat) : Prop := ¬ f 133 k = 0 ∧ ¬ (stp f 9999 (f 130 k) v).1 = 2 ∧ ¬ (stp f 9999 (f 131 k) v).1 = 2
/-- years that keep to the clues that count -/
def SC (f : Nat → Nat → Int32) (v c : Nat) (X : Nat → Int) : Prop := ∀ k, k < c → Pc f v k → X (f 130 k).toNatClampNeg + (f 132 k).toInt ≤ X (f 131 k).toNatClampNeg
def NC (f : Nat → Nat → Int32) (v c : Nat) (X : Nat → Int) : Prop := ∀ k, k < c → Pc f v k → X (f 131 k).toNatClampNeg + (f 132 k).toInt ≤ X (f 130 k).toNatClampNeg
def LSs (S : (Nat → Int) → Prop) (lo X : Nat → Int) : Prop := S X ∧ (∀ w, lo w ≤ X w) ∧ ∀ Y, S Y → (∀ w, lo w ≤ Y w) → ∀ w, X w ≤ Y w
theorem LS_u {S S' : (Nat → Int) → Prop} {lo X Y : Nat → Int} (e : ∀ Z, S Z ↔ S' Z) (h1 : LSs S lo X) (h2 : LSs S' lo Y) (w : Nat) : X w = Y w := by
  have a1 := h1.2.2 Y ((e Y).mpr h2.1) h2.2.1 w
  have a2 := h2.2.2 X ((e X).mp h1.1) h1.2.1 w
  omega
def FEa (S : (Nat → Int) → Prop) (f : Nat → Nat → Int32) (p q n : Nat) : Prop := ∃ X, S X ∧ (∀ w, Yh f p n w ≤ X w) ∧ ∀ w, w < n → X w ≤ Yh f q n w
/-- the list of the clues that count -/
def rkL (f f' : Nat → Nat → Int32) (c v : Nat) : Prop := ∃ (m : Nat) (q : Nat → Nat), m ≤ 20 ∧ f' 129 11 = nI m ∧ (∀ j, inr 0 19 (f' 136 j)) ∧ (∀ j, j < m → f' 136 j = nI (q j) ∧ q j < c ∧ Pc f v (q j)) ∧ (∀ k, k < c → Pc f v k → ∃ j, j < m ∧ q j = k) ∧ ∀ j j', j < j' → j' < m → q j < q j'
/-- what the class's reckoning leaves -/
def rkY (f f' : Nat → Nat → Int32) (n c v : Nat) : Prop :=
  (∀ w, w < 40 → f' 127 w = (stp f 9999 (nI w) v).1) ∧ (∀ a i, ¬ a = 127 → ¬ a = 128 → ¬ (a = 129 ∧ i = 9) → ¬ (a = 129 ∧ i = 11) → ¬ a = 134 → ¬ a = 135 → ¬ a = 136 → f' a i = f a i) ∧ rkL f f' c v ∧
  ((f' 129 9 = 1 ∧ ¬ FEa (SC f v c) f 11 12 n ∧ ∀ w, w < n → f' 134 w = f 11 w ∧ f' 135 w = f 12 w) ∨ (f' 129 9 = 0 ∧ FEa (SC f v c) f 11 12 n ∧ LSs (SC f v c) (Yh f 11 n) (Yh f' 134 n) ∧ LSs (NC f v c) (Nh f 12 n) (Nh f' 135 n) ∧ ∀ w, w < n → inr 1800 1999 (f' 134 w) ∧ inr 1800 1999 (f' 135 w)))
theorem Yh_eq {f f' : Nat → Nat → Int32} {p p' n : Nat} (h : ∀ w, w < n → f p w = f' p' w) : Yh f p n = Yh f' p' n := by
  funext w
  unfold Yh
  by_cases q : w < n
  · rw [if_pos q, if_pos q, h w q]
  · rw [if_neg q, if_neg q]
theorem Nh_eq {f f' : Nat → Nat → Int32} {p p' n : Nat} (h : ∀ w, w < n → f p w = f' p' w) : Nh f p n = Nh f' p' n := by
  funext w
  unfold Nh
  by_cases q : w < n
  · rw [if_pos q, if_pos q, h w q]
  · rw [if_neg q, if_neg q]
theorem LS_of {m : Nat} {A : Nat → Bool} {u v : Nat → Nat} {a : Nat → Int} {S : (Nat → Int) → Prop} {lo X : Nat → Int} (e : ∀ Z, Sol m A u v a Z ↔ S Z) (h : Lst m A u v a lo X) : LSs S lo X := ⟨(e X).mp h.1, h.2.1, fun Y y1 y2 => h.2.2 Y ((e Y).mpr y1) y2⟩
/-- the list has the clues that count -/
theorem sol_SC {f f0 f3 : Nat → Nat → Int32} {n c v m : Nat} {q : Nat → Nat} (hP : ∀ k, k < c → (PCc f0 k ↔ Pc f v k)) (hl : ∀ j, j < m → q j < c ∧ PCc f0 (q j)) (ha : ∀ k, k < c → PCc f0 k → ∃ j, j < m ∧ q j = k) (h130 : ∀ k, f3 130 k = f 130 k) (h131 : ∀ k, f3 131 k = f 131 k) (h132 : ∀ k, f3 132 k = f 132 k) (h137 : ∀ k, f3 137 k = 0) (X : Nat → Int) : Sol m (eA f3 q) (eU f3 q) (eV f3 q) (eD f3 q) X ↔ SC f v c X := by
  constructor
  · intro h k hk hp
    obtain ⟨j, hj, e⟩ := ha k hk ((hP k hk).mpr hp)
    have := h j hj (decide_eq_true (h137 (q j)))
    unfold eU eV eD at this
    rw [h130, h131, h132, e] at this
    exact this
  · intro h j hj _
    obtain ⟨a, b⟩ := hl j hj
    have := h (q j) a ((hP _ a).mp b)
    unfold eU eV eD
    rw [h130, h131, h132]
    exact this
theorem sol_NC {f f0 f3 : Nat → Nat → Int32} {n c v m : Nat} {q : Nat → Nat} (hP : ∀ k, k < c → (PCc f0 k ↔ Pc f v k)) (hl : ∀ j, j < m → q j < c ∧ PCc f0 (q j)) (ha : ∀ k, k < c → PCc f0 k → ∃ j, j < m ∧ q j = k) (h130 : ∀ k, f3 130 k = f 130 k) (h131 : ∀ k, f3 131 k = f 131 k) (h132 : ∀ k, f3 132 k = f 132 k) (X : Nat → Int) : Sol m aT (eV f3 q) (eU f3 q) (eD f3 q) X ↔ NC f v c X := by
  constructor
  · intro h k hk hp
    obtain ⟨j, hj, e⟩ := ha k hk ((hP k hk).mpr hp)
    have := h j hj rfl
    unfold eU eV eD at this
    rw [h130, h131, h132, e] at this
    exact this
  · intro h j hj _
    obtain ⟨a, b⟩ := hl j hj
    have := h (q j) a ((hP _ a).mp b)
    unfold eU eV eD
    rw [h130, h131, h132]
    exact this
theorem PCc_Pc {f f1 f0 : Nat → Nat → Int32} {n c v : Nat} (hn : n ≤ 40) (hE : CE f n c) (h1 : stF f f1 9999 v) (h0 : ∀ a i, ¬ a = 129 → f0 a i = f1 a i) : ∀ k, k < c → (PCc f0 k ↔ Pc f v k) := fun k hk => by
  obtain ⟨⟨x, hx, e130⟩, ⟨y, hy, e131⟩, _⟩ := hE.2.2 k hk
  have hcx : (nI x).toNatClampNeg = x := nI_clamp (by omega)
  have hcy : (nI y).toNatClampNeg = y := nI_clamp (by omega)
  unfold PCc Pc
  rw [h0 133 k (by omega), h0 130 k (by omega), h0 131 k (by omega), h1.2 133 k (by omega) (by omega), h1.2 130 k (by omega) (by omega), h1.2 131 k (by omega) (by omega), e130, e131, hcx, hcy, h0 127 x (by omega), h0 127 y (by omega), (h1.1 x (by omega)).1, (h1.1 y (by omega)).1]
theorem m_cpy_o {f : Nat → Nat → Int32} {x y s d n a i : Nat} (h : ¬ a = y) : m_cpy f x y s d n a i = f a i := by
  rw [m_cpy_ap, if_neg h]
theorem m_cpy_in {f : Nat → Nat → Int32} {x y n i : Nat} (h : i < n) : m_cpy f x y 0 0 n y i = f x i := by
  rw [m_cpy_ap, if_pos rfl, if_pos (by omega), show 0 + (i - 0) = i by omega]
set_option maxRecDepth 100000 in
set_option maxHeartbeats 8000000 in
theorem sf_reckon {d L n c v : Nat} {f : Nat → Nat → Int32} {g : Nat → Nat → Int64} {R : Option Value → mH → Prop} (hd : 5 ≤ d) (hX : XI f) (hn : n ≤ 40) (hnb : f 6 13 = nI n) (hvb : f 119 7 = nI v) (hv : v ≤ 60) (hE : CE f n c) (cy : ∀ j, j < n → inr 1800 1999 (f 11 j) ∧ inr 1800 1999 (f 12 j) ∧ f 11 j ≤ f 12 j) (hA0 : ∀ k, f 137 k = 0) (H : ∀ f', rkY f f' n c v → R none (shF L, f', g)) : Run mtab d 79 [.ref 129] (shF L, f, g) R := by
  obtain ⟨d, rfl⟩ : ∃ e, d = e + 1 := ⟨d - 1, by omega⟩
  refine go_X9_reckon rfl ?_
  conv => whnf
  refine sf_reckonAll (by omega) hX hvb hv (fun f1 h1 => ?_)
  conv => whnf
  have hc := hE.1
  have fr0 : ∀ a i, ¬ a = 129 → m_ui f1 129 11 0 a i = f1 a i := fun a i h => m_ui_o (fun z => h z.1)
  have fr1 : ∀ a i, ¬ (a = 129 ∧ i = 11) → ¬ a = 127 → ¬ a = 128 → m_ui f1 129 11 0 a i = f a i := fun a i h2 h3 h4 => (m_ui_o h2).trans (h1.2 a i h3 h4)
  have hE0 : CE (m_ui f1 129 11 0) n c := by
    refine ⟨hc, (fr1 129 6 (by omega) (by omega) (by omega)).trans hE.2.1, fun k hk => ?_⟩
    rw [fr1 130 k (by omega) (by omega) (by omega), fr1 131 k (by omega) (by omega) (by omega), fr1 132 k (by omega) (by omega) (by omega)]
    exact hE.2.2 k hk
  have hP := PCc_Pc (f0 := m_ui f1 129 11 0) hn hE h1 fr0
  refine cl_lp (f0 := m_ui f1 129 11 0) (by omega) hn hE0 (fun f2 m q x hx hl => ?_) c 0 _ 0 (fun _ => 0) _ (by omega) rfl ⟨by omega, m_ui_s, fun j hj => absurd hj (by omega), fun k hk => absurd hk (by omega), fun j j' h2 h3 => absurd h3 (by omega), fun a b _ _ => rfl, fun j => by rw [fr1 136 j (by omega) (by omega) (by omega)]; exact xi_136 hX j⟩
  subst hx
  obtain ⟨l1, l2, l3, l4, l5, l6, l7⟩ := id hl
  have fr2 : ∀ a i, ¬ (a = 129 ∧ i = 11) → ¬ a = 127 → ¬ a = 128 → ¬ a = 136 → f2 a i = f a i := fun a i h2 h3 h4 h5 => (l6 a i h2 h5).trans (fr1 a i h2 h3 h4)
  have k6 : f2 129 6 = nI c := (fr2 129 6 (by omega) (by omega) (by omega) (by omega)).trans hE.2.1
  have kn : f2 6 13 = nI n := (fr2 6 13 (by omega) (by omega) (by omega) (by omega)).trans hnb
  have hcn := cp_n hn
  refine at_X9_reckon ?_
  conv => whnf
  simp only [k6]
  refine ⟨fun z => ?_, fun z => absurd (nI_le (Nat.le_refl _) (by omega)) z⟩
  conv => whnf
  simp only [kn]
  refine rp_cpy (a := 12) (b := 135) (by omega) rfl rfl rfl (cp_ok hn) ?_
  conv => whnf
  simp only [hcn]
  have e0 : (0 : Int32).toNatClampNeg = 0 := rfl
  simp only [e0]
  have fr3 : ∀ a i, ¬ a = 135 → m_cpy f2 12 135 0 0 n a i = f2 a i := fun a i h => m_cpy_o h
  have fr4 : ∀ a i, ¬ (a = 129 ∧ i = 11) → ¬ a = 127 → ¬ a = 128 → ¬ a = 136 → ¬ a = 135 → m_cpy f2 12 135 0 0 n a i = f a i := fun a i h2 h3 h4 h5 h6 => (fr3 a i h6).trans (fr2 a i h2 h3 h4 h5)
  have hC : CT (m_cpy f2 12 135 0 0 n) n m q := by
    refine ⟨hn, by omega, (fr3 6 13 (by omega)).trans kn, (fr3 129 11 (by omega)).trans l2, fun i hi => ?_, fun j hj => ?_⟩
    · obtain ⟨a1, a2, a3⟩ := l3 i hi
      rw [fr3 136 i (by omega), fr4 130 _ (by omega) (by omega) (by omega) (by omega) (by omega), fr4 131 _ (by omega) (by omega) (by omega) (by omega) (by omega), fr4 132 _ (by omega) (by omega) (by omega) (by omega) (by omega)]
      obtain ⟨b1, b2, b3⟩ := hE.2.2 (q i) a2
      exact ⟨by omega, a1, b1, b2, b3⟩
    · rw [fr4 11 _ (by omega) (by omega) (by omega) (by omega) (by omega), fr4 12 _ (by omega) (by omega) (by omega) (by omega) (by omega)]
      exact cy j hj
  have hsol : ∀ f3 : Nat → Nat → Int32, (∀ a i, ¬ (a = 129 ∧ i = 11) → ¬ (a = 129 ∧ i = 9) → ¬ a = 127 → ¬ a = 128 → ¬ a = 136 → ¬ a = 135 → ¬ a = 134 → f3 a i = f a i) → (∀ X, Sol m (eA f3 q) (eU f3 q) (eV f3 q) (eD f3 q) X ↔ SC f v c X) ∧ (∀ X, Sol m aT (eV f3 q) (eU f3 q) (eD f3 q) X ↔ NC f v c X) := fun f3 h3 => by
    have a1 : ∀ k, f3 130 k = f 130 k := fun k => h3 130 k (by omega) (by omega) (by omega) (by omega) (by omega) (by omega) (by omega)
    have a2 : ∀ k, f3 131 k = f 131 k := fun k => h3 131 k (by omega) (by omega) (by omega) (by omega) (by omega) (by omega) (by omega)
    have a3 : ∀ k, f3 132 k = f 132 k := fun k => h3 132 k (by omega) (by omega) (by omega) (by omega) (by omega) (by omega) (by omega)
    have a4 : ∀ k, f3 137 k = 0 := fun k => (h3 137 k (by omega) (by omega) (by omega) (by omega) (by omega) (by omega) (by omega)).trans (hA0 k)
    exact ⟨fun X => sol_SC (n := n) hP (fun j hj => ⟨(l3 j hj).2.1, (l3 j hj).2.2⟩) l4 a1 a2 a3 a4 X, fun X => sol_NC (n := n) hP (fun j hj => ⟨(l3 j hj).2.1, (l3 j hj).2.2⟩) l4 a1 a2 a3 X⟩
  have eY11 : Yh (m_cpy f2 12 135 0 0 n) 11 n = Yh f 11 n := Yh_eq (fun w hw => fr4 11 w (by omega) (by omega) (by omega) (by omega) (by omega))
  have eY12 : Yh (m_cpy f2 12 135 0 0 n) 12 n = Yh f 12 n := Yh_eq (fun w hw => fr4 12 w (by omega) (by omega) (by omega) (by omega) (by omega))
  have hS3 := hsol (m_cpy f2 12 135 0 0 n) (fun a i h2 h3 h4 h5 h6 h7 h8 => fr4 a i h2 h4 h5 h6 h7)
  have st : ∀ f' : Nat → Nat → Int32, (∀ w, f' 127 w = f2 127 w) → ∀ w, w < 40 → f' 127 w = (stp f 9999 (nI w) v).1 := fun f' h w hw => by
    rw [h w, l6 127 w (by omega) (by omega), fr0 127 w (by omega)]
    exact (h1.1 w hw).1
  refine sf_raiseLows (n := n) (m := m) (q := q) (by omega) hC (fun nf f4 o4 => ?_) (fun f4 o4 r4 L4 => ?_)
  · have fe : ¬ FEa (SC f v c) f 11 12 n := fun ⟨X, x1, x2, x3⟩ => nf ⟨X, (hS3.1 X).mpr x1, by rw [eY11]; exact x2, by rw [eY12]; exact x3⟩
    have g4 : ∀ a i, ¬ a = 134 → ¬ a = 135 → f4 a i = f2 a i := fun a i h2 h3 => (o4 a i h2).trans (fr3 a i h3)
    have kn4 : m_ui f4 129 9 1 6 13 = nI n := ((m_ui_o (by omega)).trans (g4 6 13 (by omega) (by omega))).trans kn
    have k4 : f4 6 13 = nI n := (g4 6 13 (by omega) (by omega)).trans kn
    conv => whnf
    (refine ⟨fun z9 => ?_, fun z9 => ?_⟩ <;> first | ((have c9 : (1 : Int32) = 0 := by with_reducible exact z9); exact absurd c9 (by decide)) | exact absurd (rfl : (0 : Int32) = 0) (by with_reducible exact z9) | exact absurd True.intro (by with_reducible exact z9) | exact False.elim (by with_reducible exact z9) | (conv => whnf))
    refine ⟨by first | exact Or.inr rfl | exact Or.inr True.intro, ?_⟩
    conv => whnf
    (try simp only [show m_ui f4 129 9 1 129 9 = 1 from m_ui_s])
    (refine ⟨fun z9 => ?_, fun z9 => ?_⟩ <;> first | ((have c9 : (1 : Int32) = 0 := by with_reducible exact z9); exact absurd c9 (by decide)) | exact absurd (rfl : (0 : Int32) = 0) (by with_reducible exact z9) | exact absurd True.intro (by with_reducible exact z9) | exact False.elim (by with_reducible exact z9) | (conv => whnf))
    simp only [kn4, k4]
    refine rp_cpy (a := 11) (b := 134) (by omega) rfl rfl rfl (cp_ok hn) ?_
    conv => whnf
    simp only [hcn, e0]
    have q6 : ∀ a i, ¬ a = 134 → m_cpy (m_ui f4 129 9 1) 11 134 0 0 n a i = m_ui f4 129 9 1 a i := fun a i h => m_cpy_o h
    refine H _ ⟨st _ (fun w => ?_), fun a i h2 h3 h4 h5 h6 h7 h8 => ?_, ⟨m, q, by omega, ?_, fun j => ?_, fun j hj => ⟨?_, (l3 j hj).2.1, (hP _ (l3 j hj).2.1).mp (l3 j hj).2.2⟩, fun k hk hp => l4 k hk ((hP k hk).mpr hp), l5⟩, Or.inl ⟨?_, fe, fun w hw => ⟨?_, ?_⟩⟩⟩
    · rw [q6 127 w (by omega), m_ui_o (by omega)]
      exact g4 127 w (by omega) (by omega)
    · rw [q6 a i h6, m_ui_o h4, g4 a i h6 h7]
      exact fr2 a i h5 h2 h3 h8
    · rw [q6 129 11 (by omega), m_ui_o (by omega), g4 129 11 (by omega) (by omega)]
      exact l2
    · rw [q6 136 j (by omega), m_ui_o (by omega), g4 136 j (by omega) (by omega)]
      exact l7 j
    · rw [q6 136 j (by omega), m_ui_o (by omega), g4 136 j (by omega) (by omega)]
      exact (l3 j hj).1
    · rw [q6 129 9 (by omega), m_ui_s]
    · rw [m_cpy_in hw, m_ui_o (by omega), g4 11 w (by omega) (by omega)]
      exact fr2 11 w (by omega) (by omega) (by omega) (by omega)
    · rw [q6 135 w (by omega), m_ui_o (by omega), o4 135 w (by omega), m_cpy_in hw]
      exact fr2 12 w (by omega) (by omega) (by omega) (by omega)
  · have g4 : ∀ a i, ¬ a = 134 → ¬ a = 135 → f4 a i = f2 a i := fun a i h2 h3 => (o4 a i h2).trans (fr3 a i h3)
    have g5 : ∀ a i, ¬ a = 134 → ¬ a = 135 → ¬ (a = 129 ∧ i = 9) → m_ui f4 129 9 0 a i = f2 a i := fun a i h2 h3 h4 => (m_ui_o h4).trans (g4 a i h2 h3)
    have g6 : ∀ a i, ¬ a = 134 → ¬ a = 135 → ¬ (a = 129 ∧ i = 9) → ¬ (a = 129 ∧ i = 11) → ¬ a = 127 → ¬ a = 128 → ¬ a = 136 → m_ui f4 129 9 0 a i = f a i := fun a i h2 h3 h4 h5 h6 h7 h8 => (g5 a i h2 h3 h4).trans (fr2 a i h5 h6 h7 h8)
    have hC5 : CT (m_ui f4 129 9 0) n m q := by
      refine ⟨hn, by omega, (g5 6 13 (by omega) (by omega) (by omega)).trans kn, (g5 129 11 (by omega) (by omega) (by omega)).trans l2, fun i hi => ?_, fun j hj => ?_⟩
      · obtain ⟨a1, a2, a3⟩ := l3 i hi
        rw [g5 136 i (by omega) (by omega) (by omega), g6 130 _ (by omega) (by omega) (by omega) (by omega) (by omega) (by omega) (by omega), g6 131 _ (by omega) (by omega) (by omega) (by omega) (by omega) (by omega) (by omega), g6 132 _ (by omega) (by omega) (by omega) (by omega) (by omega) (by omega) (by omega)]
        obtain ⟨b1, b2, b3⟩ := hE.2.2 (q i) a2
        exact ⟨by omega, a1, b1, b2, b3⟩
      · rw [g6 11 _ (by omega) (by omega) (by omega) (by omega) (by omega) (by omega) (by omega), g6 12 _ (by omega) (by omega) (by omega) (by omega) (by omega) (by omega) (by omega)]
        exact cy j hj
    have hS5 := hsol (m_ui f4 129 9 0) (fun a i h2 h3 h4 h5 h6 h7 h8 => g6 a i h8 h7 h3 h2 h4 h5 h6)
    have LS4 : LSs (SC f v c) (Yh f 11 n) (Yh f4 134 n) := by
      have := LS_of hS3.1 L4
      rw [eY11] at this
      exact this
    have nY : ∀ w, Nh f4 134 n w = -(Yh f4 134 n w) := fun w => by
      unfold Nh Yh
      by_cases h : w < n
      · rw [if_pos h, if_pos h]
      · rw [if_neg h, if_neg h]
        rfl
    have hNs : NC f v c (Nh f4 134 n) := fun k hk hp => by
      have := LS4.1 k hk hp
      rw [nY, nY]
      omega
    have hX5 := (hS5.2 (Nh f4 134 n)).mpr hNs
    have n12 : Nh (m_ui f4 129 9 0) 12 n = Nh f 12 n := Nh_eq (fun w hw => g6 12 w (by omega) (by omega) (by omega) (by omega) (by omega) (by omega) (by omega))
    have hi5 : ∀ w, Nh (m_ui f4 129 9 0) 12 n w ≤ Nh f4 134 n w := fun w => by
      rw [n12]
      unfold Nh
      by_cases h : w < n
      · rw [if_pos h, if_pos h]
        have h2 := (r4 w h).2
        rw [fr4 12 w (by omega) (by omega) (by omega) (by omega) (by omega)] at h2
        have := Int32.le_iff_toInt_le.mp h2
        omega
      · rw [if_neg h, if_neg h]
        exact Int.le_refl _
    conv => whnf
    (refine ⟨fun z9 => ?_, fun z9 => ?_⟩ <;> first | ((have c9 : (1 : Int32) = 0 := by with_reducible exact z9); exact absurd c9 (by decide)) | exact absurd (rfl : (0 : Int32) = 0) (by with_reducible exact z9) | exact absurd True.intro (by with_reducible exact z9) | exact False.elim (by with_reducible exact z9) | (conv => whnf))
    refine ⟨by first | exact Or.inl rfl | exact Or.inl True.intro, ?_⟩
    conv => whnf
    (try simp only [show m_ui f4 129 9 0 129 9 = 0 from m_ui_s])
    (refine ⟨fun z9 => ?_, fun z9 => ?_⟩ <;> first | ((have c9 : (1 : Int32) = 0 := by with_reducible exact z9); exact absurd c9 (by decide)) | exact absurd (rfl : (0 : Int32) = 0) (by with_reducible exact z9) | exact absurd True.intro (by with_reducible exact z9) | exact False.elim (by with_reducible exact z9) | (conv => whnf))
    refine sf_lowerHighs (by omega) hC5 hX5 (fun w hw => ?_) hi5 (fun w hw => ?_) (fun f6 o6 r6 e6 => ?_)
    · rw [nY, Yh_t hw]
      have := i1800 (r4 w hw).1
      omega
    · rw [m_ui_o (by omega), o4 135 w (by omega), m_cpy_in hw, m_ui_o (by omega), g4 12 w (by omega) (by omega)]
    · conv => whnf
      obtain ⟨Z, hZ⟩ := Lst_ex hX5 hi5
      have eZ : Nh f6 135 n = Z := by
        rw [e6]
        funext w
        exact rnds_m hZ (Nat.le_refl m) w
      have LN : LSs (NC f v c) (Nh f 12 n) (Nh f6 135 n) := by
        rw [← eZ] at hZ
        have := LS_of hS5.2 hZ
        rw [n12] at this
        exact this
      have eY4 : Yh f6 134 n = Yh f4 134 n := Yh_eq (fun w hw => (o6 134 w (by omega)).trans (m_ui_o (by omega)))
      refine H _ ⟨st _ (fun w => ?_), fun a i h2 h3 h4 h5 h6 h7 h8 => ?_, ⟨m, q, by omega, ?_, fun j => ?_, fun j hj => ⟨?_, (l3 j hj).2.1, (hP _ (l3 j hj).2.1).mp (l3 j hj).2.2⟩, fun k hk hp => l4 k hk ((hP k hk).mpr hp), l5⟩, Or.inr ⟨?_, ⟨Yh f4 134 n, LS4.1, LS4.2.1, fun w hw => ?_⟩, ?_, LN, fun w hw => ⟨?_, r6 w hw⟩⟩⟩
      · rw [o6 127 w (by omega)]
        exact g5 127 w (by omega) (by omega) (by omega)
      · rw [o6 a i h7]
        exact g6 a i h6 h7 h4 h5 h2 h3 h8
      · rw [o6 129 11 (by omega)]
        exact (g5 129 11 (by omega) (by omega) (by omega)).trans l2
      · rw [o6 136 j (by omega), g5 136 j (by omega) (by omega) (by omega)]
        exact l7 j
      · rw [o6 136 j (by omega), g5 136 j (by omega) (by omega) (by omega)]
        exact (l3 j hj).1
      · rw [o6 129 9 (by omega), m_ui_s]
      · have h2 := (r4 w hw).2
        rw [fr4 12 w (by omega) (by omega) (by omega) (by omega) (by omega)] at h2
        rw [Yh_t hw, Yh_t hw]
        exact Int32.le_iff_toInt_le.mp h2
      · rw [eY4]
        exact LS4
      · rw [o6 134 w (by omega), m_ui_o (by omega)]
        exact (r4 w hw).1
