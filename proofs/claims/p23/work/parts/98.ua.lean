/-! rows 1 .. i in columns 1 .. C at costs a; p j: the row in column j (0: none); u, v: prices -/
def inC (C j : Nat) : Prop := 1 ≤ j ∧ j ≤ C
/-- the prices of the first i rows are fair -/
def Dual (i C : Nat) (a : Nat → Nat → Int) (u v : Nat → Int) : Prop := ∀ k j, 1 ≤ k → k ≤ i → inC C j → u k + v j ≤ a k j
def Tight (C : Nat) (a : Nat → Nat → Int) (u v : Nat → Int) (p : Nat → Nat) : Prop := ∀ j, inC C j → ¬ p j = 0 → u (p j) + v j = a (p j) j
def VNeg (C : Nat) (v : Nat → Int) (p : Nat → Nat) : Prop := ∀ j, inC C j → v j ≤ 0 ∧ (p j = 0 → v j = 0)
/-- the first i rows sit, each in one column -/
def Mat (i C : Nat) (p : Nat → Nat) : Prop := (∀ j, inC C j → p j ≤ i) ∧ (∀ j j', inC C j → inC C j' → ¬ j = j' → ¬ p j = 0 → ¬ p j = p j') ∧ ∀ k, 1 ≤ k → k ≤ i → ∃ j, inC C j ∧ p j = k
def HU (i C : Nat) (a : Nat → Nat → Int) (u v : Nat → Int) (p : Nat → Nat) : Prop := Dual i C a u v ∧ Tight C a u v p ∧ VNeg C v p ∧ Mat i C p
/-- on the way of row i + 1: U: the columns reached (0 among them), wy: from where, m: what is wanting -/
def PHs (i C : Nat) (a : Nat → Nat → Int) (u v : Nat → Int) (p : Nat → Nat) (U : Nat → Prop) (wy : Nat → Nat) (m : Nat → Int) : Prop :=
  Dual (i + 1) C a u v ∧ Tight C a u v p ∧ VNeg C v p ∧ Mat i C p ∧ p 0 = i + 1 ∧ U 0 ∧
  (∀ j, j ≤ C → U j → ¬ p j = 0) ∧
  (∀ j, inC C j → ¬ U j → 0 ≤ m j ∧ (wy j ≤ C ∧ U (wy j)) ∧ m j = a (p (wy j)) j - u (p (wy j)) - v j ∧ ∀ j', j' ≤ C → U j' → m j ≤ a (p j') j - u (p j') - v j) ∧
  (∀ j, inC C j → U j → (wy j ≤ C ∧ U (wy j)) ∧ u (p (wy j)) + v j = a (p (wy j)) j)
/-- the prices once a row is reached: U' the rows' columns, by: how much -/
noncomputable def shu (p : Nat → Nat) (U : Nat → Prop) (u : Nat → Int) (by_ : Int) (C : Nat) : Nat → Int := fun k => @ite _ (∃ j, j ≤ C ∧ U j ∧ p j = k) (Classical.propDecidable _) (u k + by_) (u k)
noncomputable def shv (U : Nat → Prop) (v : Nat → Int) (by_ : Int) : Nat → Int := fun j => @ite _ (U j) (Classical.propDecidable _) (v j - by_) (v j)
noncomputable def shm (U : Nat → Prop) (m : Nat → Int) (by_ : Int) : Nat → Int := fun j => @ite _ (U j) (Classical.propDecidable _) (m j) (m j - by_)
theorem shu_y {p : Nat → Nat} {U : Nat → Prop} {u : Nat → Int} {b : Int} {C j : Nat} (h : U j) (hj : j ≤ C) : shu p U u b C (p j) = u (p j) + b := @if_pos _ (Classical.propDecidable _) ⟨j, hj, h, rfl⟩ _ _ _
theorem shu_n {p : Nat → Nat} {U : Nat → Prop} {u : Nat → Int} {b : Int} {C k : Nat} (h : ¬ ∃ j, j ≤ C ∧ U j ∧ p j = k) : shu p U u b C k = u k := @if_neg _ (Classical.propDecidable _) h _ _ _
theorem shv_y {U : Nat → Prop} {v : Nat → Int} {b : Int} {j : Nat} (h : U j) : shv U v b j = v j - b := @if_pos _ (Classical.propDecidable _) h _ _ _
theorem shv_n {U : Nat → Prop} {v : Nat → Int} {b : Int} {j : Nat} (h : ¬ U j) : shv U v b j = v j := @if_neg _ (Classical.propDecidable _) h _ _ _
theorem shm_n {U : Nat → Prop} {m : Nat → Int} {b : Int} {j : Nat} (h : ¬ U j) : shm U m b j = m j - b := @if_neg _ (Classical.propDecidable _) h _ _ _
theorem shm_y {U : Nat → Prop} {m : Nat → Int} {b : Int} {j : Nat} (h : U j) : shm U m b j = m j := @if_pos _ (Classical.propDecidable _) h _ _ _
/-- what is wanting at each column that is not reached, once the row of column z is looked at too -/
noncomputable def nwm (W : Nat → Prop) (a : Nat → Nat → Int) (u v : Nat → Int) (p : Nat → Nat) (z : Nat) (m : Nat → Int) : Nat → Int := fun j => @ite _ (W j) (Classical.propDecidable _) (m j) (if a (p z) j - u (p z) - v j < m j then a (p z) j - u (p z) - v j else m j)
noncomputable def nwy (W : Nat → Prop) (a : Nat → Nat → Int) (u v : Nat → Int) (p : Nat → Nat) (z : Nat) (m : Nat → Int) (wy : Nat → Nat) : Nat → Nat := fun j => @ite _ (W j) (Classical.propDecidable _) (wy j) (if a (p z) j - u (p z) - v j < m j then z else wy j)
theorem nwm_n {W : Nat → Prop} {a : Nat → Nat → Int} {u v : Nat → Int} {p : Nat → Nat} {z j : Nat} {m : Nat → Int} (h : ¬ W j) : nwm W a u v p z m j = if a (p z) j - u (p z) - v j < m j then a (p z) j - u (p z) - v j else m j := @if_neg _ (Classical.propDecidable _) h _ _ _
theorem nwm_y {W : Nat → Prop} {a : Nat → Nat → Int} {u v : Nat → Int} {p : Nat → Nat} {z j : Nat} {m : Nat → Int} (h : W j) : nwm W a u v p z m j = m j := @if_pos _ (Classical.propDecidable _) h _ _ _
theorem nwy_n {W : Nat → Prop} {a : Nat → Nat → Int} {u v : Nat → Int} {p : Nat → Nat} {z j : Nat} {m : Nat → Int} {wy : Nat → Nat} (h : ¬ W j) : nwy W a u v p z m wy j = if a (p z) j - u (p z) - v j < m j then z else wy j := @if_neg _ (Classical.propDecidable _) h _ _ _
theorem nwy_y {W : Nat → Prop} {a : Nat → Nat → Int} {u v : Nat → Int} {p : Nat → Nat} {z j : Nat} {m : Nat → Int} {wy : Nat → Nat} (h : W j) : nwy W a u v p z m wy j = wy j := @if_pos _ (Classical.propDecidable _) h _ _ _
theorem Mat_0 {i C : Nat} {p : Nat → Nat} (hM : Mat i C p) (h0 : p 0 = i + 1) {j j' : Nat} (hj : j ≤ C) (hj' : j' ≤ C) (hn : ¬ p j = 0) (e : p j = p j') : j = j' := by
  apply Classical.byContradiction
  intro ne
  by_cases z : j = 0
  · subst z
    have := hM.1 j' ⟨by omega, hj'⟩
    omega
  · by_cases z' : j' = 0
    · subst z'
      have := hM.1 j ⟨by omega, hj⟩
      omega
    · exact hM.2.1 j j' ⟨by omega, hj⟩ ⟨by omega, hj'⟩ ne hn e
/-- the next step on the way: column z is reached (nothing is wanting there), its row looked at, prices shifted by the least that is wanting; W: what is reached then -/
theorem PH_step {i C z nx : Nat} {a : Nat → Nat → Int} {u v : Nat → Int} {p : Nat → Nat} {U W : Nat → Prop} {wy : Nat → Nat} {m : Nat → Int} (h : PHs i C a u v p U wy m) (hz : inC C z) (hzU : ¬ U z) (hm0 : m z = 0) (hpz : ¬ p z = 0) (hW : ∀ j, W j ↔ (U j ∨ j = z))
    {b : Int} (hnx : inC C nx) (hnU : ¬ W nx) (hb : nwm W a u v p z m nx = b) (hmin : ∀ j, inC C j → ¬ W j → b ≤ nwm W a u v p z m j) :
    PHs i C a (shu p W u b C) (shv W v b) p W (nwy W a u v p z m wy) (shm W (nwm W a u v p z m) b) ∧ 0 ≤ b ∧ shm W (nwm W a u v p z m) b nx = 0 := by
  obtain ⟨hD, hT, hV, hM, h0, hU0, hUp, hS, hE⟩ := h
  have wz := hS z hz hzU
  have nU : ∀ {j}, ¬ W j → ¬ U j := fun h y => h ((hW _).mpr (Or.inl y))
  have rowle : p z ≤ i := hM.1 z hz
  have b0 : 0 ≤ b := by
    rw [← hb, nwm_n hnU]
    have d := hD (p z) nx (by omega) (by omega) hnx
    have s := (hS nx hnx (nU hnU)).1
    by_cases q : a (p z) nx - u (p z) - v nx < m nx
    · rw [if_pos q]
      omega
    · rw [if_neg q]
      exact s
  have tz : u (p (wy z)) + v z = a (p (wy z)) z := by
    have := wz.2.2.1
    omega
  have inj : ∀ j j', j ≤ C → j' ≤ C → ¬ p j = 0 → p j = p j' → j = j' := fun j j' h1 h2 h3 h4 => Mat_0 hM h0 h1 h2 h3 h4
  have UC : ∀ j, j ≤ C → W j → ¬ p j = 0 := fun j hjC hj => by
    rcases (hW j).mp hj with q | q
    · exact hUp j hjC q
    · rw [q]
      exact hpz
  have rowno : ∀ j, inC C j → ¬ W j → ¬ p j = 0 → ¬ ∃ j', j' ≤ C ∧ W j' ∧ p j' = p j := fun j hj hjU hp ⟨j', h1, h2, h3⟩ => by
    have e := inj j j' hj.2 h1 hp h3.symm
    subst e
    exact hjU h2
  have key : ∀ j j', inC C j → ¬ W j → j' ≤ C → W j' → nwm W a u v p z m j ≤ a (p j') j - u (p j') - v j := fun j j' hj hjU hjC hj' => by
    rw [nwm_n hjU]
    have sj := hS j hj (nU hjU)
    by_cases q : a (p z) j - u (p z) - v j < m j
    · rw [if_pos q]
      rcases (hW j').mp hj' with r | r
      · have := sj.2.2.2 j' hjC r
        omega
      · rw [r]
        exact Int.le_refl _
    · rw [if_neg q]
      rcases (hW j').mp hj' with r | r
      · exact sj.2.2.2 j' hjC r
      · rw [r]
        omega
  refine ⟨⟨?_, ?_, ?_, hM, h0, (hW 0).mpr (Or.inl hU0), UC, ?_, ?_⟩, b0, ?_⟩
  · intro k j hk1 hk2 hj
    by_cases q : W j
    · rw [shv_y q]
      by_cases r : ∃ j', j' ≤ C ∧ W j' ∧ p j' = k
      · obtain ⟨j', h1, h2, h3⟩ := r
        rw [← h3, shu_y h2 h1, h3]
        have := hD k j hk1 hk2 hj
        omega
      · rw [shu_n r]
        have := hD k j hk1 hk2 hj
        omega
    · rw [shv_n q]
      by_cases r : ∃ j', j' ≤ C ∧ W j' ∧ p j' = k
      · obtain ⟨j', h1, h2, h3⟩ := r
        rw [← h3, shu_y h2 h1]
        have e1 := hmin j hj q
        have e2 := key j j' hj q h1 h2
        omega
      · rw [shu_n r]
        exact hD k j hk1 hk2 hj
  · intro j hj hp
    have t := hT j hj hp
    by_cases q : W j
    · rw [shv_y q, shu_y q hj.2]
      omega
    · rw [shv_n q, shu_n (rowno j hj q hp)]
      exact t
  · intro j hj
    obtain ⟨e1, e2⟩ := hV j hj
    by_cases q : W j
    · rw [shv_y q]
      exact ⟨by omega, fun y => absurd y (UC j hj.2 q)⟩
    · rw [shv_n q]
      exact ⟨e1, e2⟩
  · intro j hj hjU
    have e1 := hmin j hj hjU
    have wU : (nwy W a u v p z m wy j ≤ C ∧ W (nwy W a u v p z m wy j)) ∧ nwm W a u v p z m j = a (p (nwy W a u v p z m wy j)) j - u (p (nwy W a u v p z m wy j)) - v j := by
      rw [nwy_n hjU, nwm_n hjU]
      by_cases q : a (p z) j - u (p z) - v j < m j
      · rw [if_pos q, if_pos q]
        exact ⟨⟨hz.2, (hW z).mpr (Or.inr rfl)⟩, rfl⟩
      · rw [if_neg q, if_neg q]
        obtain ⟨_, s2, s3, _⟩ := hS j hj (nU hjU)
        exact ⟨⟨s2.1, (hW _).mpr (Or.inl s2.2)⟩, s3⟩
    obtain ⟨w1, w2⟩ := wU
    rw [shm_n hjU]
    refine ⟨by omega, w1, ?_, fun j' hjC hj' => ?_⟩
    · rw [shu_y w1.2 w1.1, shv_n hjU]
      omega
    · rw [shu_y hj' hjC, shv_n hjU]
      have := key j j' hj hjU hjC hj'
      omega
  · intro j hj hjW
    rw [nwy_y hjW]
    rcases (hW j).mp hjW with q | q
    · obtain ⟨e1, e3⟩ := hE j hj q
      have e1' : W (wy j) := (hW _).mpr (Or.inl e1.2)
      refine ⟨⟨e1.1, e1'⟩, ?_⟩
      rw [shv_y hjW, shu_y e1' e1.1]
      omega
    · subst q
      have e1' : W (wy j) := (hW _).mpr (Or.inl wz.2.1.2)
      refine ⟨⟨wz.2.1.1, e1'⟩, ?_⟩
      rw [shv_y hjW, shu_y e1' wz.2.1.1]
      omega
  · rw [shm_n hnU, hb]
    omega
/-- the first step: row i + 1 alone is looked at, from column 0 -/
theorem PH_first {i C nx : Nat} {a : Nat → Nat → Int} {u v : Nat → Int} {p : Nat → Nat} {W : Nat → Prop} (h : HU i C a u v p) (h0 : p 0 = i + 1) (hu : u (i + 1) = 0) (hW : ∀ j, j ≤ C → (W j ↔ j = 0)) {b : Int} (hnx : inC C nx) (hb : a (i + 1) nx - v nx = b) (hmin : ∀ j, inC C j → b ≤ a (i + 1) j - v j) :
    PHs i C a (shu p W u b C) (shv W v b) p W (fun _ => 0) (fun j => a (i + 1) j - v j - b) := by
  obtain ⟨hD, hT, hV, hM⟩ := h
  have nr : ∀ k, k ≤ i → ¬ ∃ j, j ≤ C ∧ W j ∧ p j = k := fun k hk ⟨j, h1, h2, h3⟩ => by
    have h2' : j = 0 := (hW j h1).mp h2
    subst h2'
    omega
  have w0 : W 0 := (hW 0 (by omega)).mpr rfl
  have ur : shu p W u b C (i + 1) = b := by
    have := shu_y (p := p) (U := W) (u := u) (b := b) (C := C) (j := 0) w0 (by omega)
    rw [h0, hu] at this
    omega
  have sv : ∀ j, inC C j → shv W v b j = v j := fun j hj => shv_n (fun z => by
    have z' : j = 0 := (hW j hj.2).mp z
    have := hj.1
    omega)
  refine ⟨fun k j hk1 hk2 hj => ?_, fun j hj hp => ?_, fun j hj => ?_, hM, h0, w0, fun j hjC hj => ?_, fun j hj _ => ?_, fun j hj hjW => ?_⟩
  · rw [sv j hj]
    by_cases e : k = i + 1
    · subst e
      rw [ur]
      have := hmin j hj
      omega
    · rw [shu_n (nr k (by omega))]
      exact hD k j hk1 (by omega) hj
  · rw [sv j hj, shu_n (nr (p j) (hM.1 j hj))]
    exact hT j hj hp
  · rw [sv j hj]
    exact hV j hj
  · have e : j = 0 := (hW j hjC).mp hj
    subst e
    omega
  · refine ⟨by show 0 ≤ a (i + 1) j - v j - b; have := hmin j hj; omega, ⟨Nat.zero_le _, w0⟩, ?_, fun j' hjC hj' => ?_⟩
    · show a (i + 1) j - v j - b = a (p 0) j - shu p W u b C (p 0) - shv W v b j
      rw [h0, ur, sv j hj]
      omega
    · have e : j' = 0 := (hW j' hjC).mp hj'
      subst e
      show a (i + 1) j - v j - b ≤ a (p 0) j - shu p W u b C (p 0) - shv W v b j
      rw [h0, ur, sv j hj]
      omega
  · have e : j = 0 := (hW j hj.2).mp hjW
    have := hj.1
    omega
/-- along the way back: column h is to be filled, all rows up to i + 1 sit in the others (column 0 counted) -/
def Hole (i C : Nat) (p : Nat → Nat) (h : Nat) : Prop := (∀ j, j ≤ C → p j ≤ i + 1) ∧ (∀ j j', j ≤ C → j' ≤ C → ¬ j = h → ¬ j' = h → ¬ j = j' → ¬ p j = 0 → ¬ p j = p j') ∧ ∀ k, 1 ≤ k → k ≤ i + 1 → ∃ j, j ≤ C ∧ ¬ j = h ∧ p j = k
theorem Hole_0 {i C z : Nat} {p : Nat → Nat} (hM : Mat i C p) (h0 : p 0 = i + 1) (hz : inC C z) (hp : p z = 0) : Hole i C p z := by
  refine ⟨fun j hj => ?_, fun j j' hj hj' _ _ ne hn e => ne (Mat_0 hM h0 hj hj' hn e), fun k hk1 hk2 => ?_⟩
  · by_cases e : j = 0
    · subst e
      omega
    · have := hM.1 j ⟨by omega, hj⟩
      omega
  · by_cases e : k = i + 1
    · exact ⟨0, by omega, by have := hz.1; omega, by omega⟩
    · obtain ⟨j, hj, ej⟩ := hM.2.2 k hk1 (by omega)
      exact ⟨j, hj.2, fun y => by subst y; omega, ej⟩
theorem Hole_s {i C h w : Nat} {p : Nat → Nat} (hH : Hole i C p h) (hh : h ≤ C) (hw : w ≤ C) (ne : ¬ w = h) : Hole i C (fun j => if j = h then p w else p j) w := by
  obtain ⟨h1, h2, h3⟩ := hH
  refine ⟨fun j hj => ?_, fun j j' hj hj' n1 n2 n3 hn => ?_, fun k hk1 hk2 => ?_⟩
  · show (if j = h then p w else p j) ≤ i + 1
    by_cases e : j = h
    · rw [if_pos e]
      exact h1 w hw
    · rw [if_neg e]
      exact h1 j hj
  · have hn' : ¬ (if j = h then p w else p j) = 0 := hn
    show ¬ (if j = h then p w else p j) = (if j' = h then p w else p j')
    by_cases e : j = h
    · rw [if_pos e] at hn' ⊢
      rw [if_neg (by omega)]
      exact h2 w j' hw hj' ne (by omega) (by omega) hn'
    · rw [if_neg e] at hn' ⊢
      by_cases e' : j' = h
      · rw [if_pos e']
        exact h2 j w hj hw e ne (by omega) hn'
      · rw [if_neg e']
        exact h2 j j' hj hj' e e' n3 hn'
  · obtain ⟨j, a1, a2, a3⟩ := h3 k hk1 hk2
    by_cases e : j = w
    · exact ⟨h, hh, fun y => ne y.symm, by show (if h = h then p w else p h) = k; rw [if_pos rfl, ← e]; exact a3⟩
    · exact ⟨j, a1, e, by show (if j = h then p w else p j) = k; rw [if_neg a2]; exact a3⟩
theorem Hole_e {i C : Nat} {p : Nat → Nat} (hH : Hole i C p 0) : Mat (i + 1) C p := by
  obtain ⟨h1, h2, h3⟩ := hH
  refine ⟨fun j hj => h1 j hj.2, fun j j' hj hj' ne hn => h2 j j' hj.2 hj'.2 (by have := hj.1; omega) (by have := hj'.1; omega) ne hn, fun k hk1 hk2 => ?_⟩
  obtain ⟨j, a1, a2, a3⟩ := h3 k hk1 hk2
  exact ⟨j, ⟨by omega, a1⟩, a3⟩
/-- when a column was reached: rk; s columns have been -/
def RKs (C : Nat) (U : Nat → Prop) (wy : Nat → Nat) (rk : Nat → Nat) (s : Nat) : Prop := rk 0 = 0 ∧ (∀ j, j ≤ C → U j → rk j < s ∧ (rk j = 0 → j = 0)) ∧ ∀ j, inC C j → U j → rk (wy j) < rk j
theorem RK_first {C : Nat} {W : Nat → Prop} (hW : ∀ j, j ≤ C → (W j ↔ j = 0)) : RKs C W (fun _ => 0) (fun _ => 0) 1 := ⟨rfl, fun j hjC hj => ⟨Nat.zero_lt_one, fun _ => (hW j hjC).mp hj⟩, fun j hj h => absurd ((hW j hj.2).mp h) (by have := hj.1; omega)⟩
theorem RK_step {C : Nat} {U W : Nat → Prop} {wy wy' rk : Nat → Nat} {s z : Nat} (h : RKs C U wy rk s) (hs : 1 ≤ s) (hz : ¬ U z) (hzC : z ≤ C) (hw : wy z ≤ C ∧ U (wy z)) (hU0 : U 0) (hUw : ∀ j, inC C j → U j → wy j ≤ C ∧ U (wy j)) (hW : ∀ j, W j ↔ (U j ∨ j = z)) (he : ∀ j, W j → wy' j = wy j) : RKs C W wy' (fun j => if j = z then s else rk j) (s + 1) := by
  obtain ⟨h1, h2, h3⟩ := h
  have z0 : ¬ (0 : Nat) = z := fun e => hz (by rw [← e]; exact hU0)
  refine ⟨?_, fun j hjC hj => ?_, fun j hjC hj => ?_⟩
  · show (if 0 = z then s else rk 0) = 0
    rw [if_neg z0]
    exact h1
  · show (if j = z then s else rk j) < s + 1 ∧ ((if j = z then s else rk j) = 0 → j = 0)
    by_cases e : j = z
    · rw [if_pos e]
      exact ⟨by omega, fun y => by omega⟩
    · rw [if_neg e]
      obtain ⟨a, b⟩ := h2 j hjC (((hW j).mp hj).resolve_right e)
      exact ⟨by omega, b⟩
  · show (if wy' j = z then s else rk (wy' j)) < (if j = z then s else rk j)
    rw [he j hj]
    by_cases e : j = z
    · rw [if_pos e, e, if_neg (fun y => hz (by rw [← y]; exact hw.2))]
      exact (h2 (wy z) hw.1 hw.2).1
    · have hjU := ((hW j).mp hj).resolve_right e
      have q := hUw j hjC hjU
      rw [if_neg e, if_neg (fun y => hz (by rw [← y]; exact q.2))]
      exact h3 j hjC hjU
noncomputable def cntU (U : Nat → Prop) : Nat → Nat
  | 0 => @ite _ (U 0) (Classical.propDecidable _) 1 0
  | C + 1 => cntU U C + @ite _ (U (C + 1)) (Classical.propDecidable _) 1 0
theorem i1_le {q : Prop} : @ite Nat q (Classical.propDecidable _) 1 0 ≤ 1 := by
  by_cases h : q
  · rw [@if_pos _ (Classical.propDecidable _) h]
    omega
  · rw [@if_neg _ (Classical.propDecidable _) h]
    omega
theorem cntU_le {U : Nat → Prop} : ∀ C, cntU U C ≤ C + 1
  | 0 => i1_le
  | C + 1 => by
    have a := cntU_le (U := U) C
    have b := i1_le (q := U (C + 1))
    show cntU U C + @ite _ (U (C + 1)) (Classical.propDecidable _) 1 0 ≤ C + 1 + 1
    omega
theorem cntU_lt {U : Nat → Prop} {j : Nat} (h : ¬ U j) : ∀ C, j ≤ C → cntU U C ≤ C
  | 0, hj => by
    have e : j = 0 := by omega
    subst e
    show @ite _ (U 0) (Classical.propDecidable _) 1 0 ≤ 0
    rw [@if_neg _ (Classical.propDecidable _) h]
    omega
  | C + 1, hj => by
    show cntU U C + @ite _ (U (C + 1)) (Classical.propDecidable _) 1 0 ≤ C + 1
    by_cases e : j = C + 1
    · subst e
      rw [@if_neg _ (Classical.propDecidable _) h]
      have := cntU_le (U := U) C
      omega
    · have a := cntU_lt h C (by omega)
      have b := i1_le (q := U (C + 1))
      omega
theorem cntU_eq {U U' : Nat → Prop} : ∀ C, (∀ j, j ≤ C → (U j ↔ U' j)) → cntU U C = cntU U' C
  | 0, h => by
    show @ite _ (U 0) (Classical.propDecidable _) 1 0 = @ite _ (U' 0) (Classical.propDecidable _) 1 0
    rw [propext (h 0 (by omega))]
  | C + 1, h => by
    show cntU U C + @ite _ (U (C + 1)) (Classical.propDecidable _) 1 0 = cntU U' C + @ite _ (U' (C + 1)) (Classical.propDecidable _) 1 0
    rw [cntU_eq C (fun j hj => h j (by omega)), propext (h (C + 1) (Nat.le_refl _))]
theorem cntU_add {U : Nat → Prop} {z : Nat} (h : ¬ U z) : ∀ C, z ≤ C → cntU (fun j => U j ∨ j = z) C = cntU U C + 1
  | 0, hz => by
    have e : z = 0 := by omega
    subst e
    show @ite _ (U 0 ∨ 0 = 0) (Classical.propDecidable _) 1 0 = @ite _ (U 0) (Classical.propDecidable _) 1 0 + 1
    rw [@if_pos _ (Classical.propDecidable _) (Or.inr rfl), @if_neg _ (Classical.propDecidable _) h]
  | C + 1, hz => by
    show cntU (fun j => U j ∨ j = z) C + @ite _ (U (C + 1) ∨ C + 1 = z) (Classical.propDecidable _) 1 0 = cntU U C + @ite _ (U (C + 1)) (Classical.propDecidable _) 1 0 + 1
    by_cases e : z = C + 1
    · subst e
      rw [@if_pos _ (Classical.propDecidable _) (Or.inr rfl), @if_neg _ (Classical.propDecidable _) h, cntU_eq C (U' := U) (fun j hj => ⟨fun y => y.resolve_right (by omega), fun y => Or.inl y⟩)]
    · have ih := cntU_add h C (by omega)
      have e2 : (U (C + 1) ∨ C + 1 = z) = U (C + 1) := propext ⟨fun y => y.resolve_right (fun y2 => e y2.symm), fun y => Or.inl y⟩
      rw [ih, e2]
      omega
/-! nothing costs less than what fair prices tell -/
def sumR (F : Nat → Int) : Nat → Int
  | 0 => 0
  | k + 1 => sumR F k + F (k + 1)
def sumC (F : Nat → Int) : Nat → Int
  | 0 => 0
  | k + 1 => sumC F k + F (k + 1)
/-- c k: the column of row k -/
def Asg (r C : Nat) (c : Nat → Nat) : Prop := (∀ k, 1 ≤ k → k ≤ r → inC C (c k)) ∧ ∀ k k', 1 ≤ k → k < k' → k' ≤ r → ¬ c k = c k'
/-- the rows but k0 -/
def skp (k0 k : Nat) : Nat := if k < k0 then k else k + 1
theorem skp_l {k0 k : Nat} (h : k < k0) : skp k0 k = k := if_pos h
theorem skp_g {k0 k : Nat} (h : ¬ k < k0) : skp k0 k = k + 1 := if_neg h
theorem sumR_eq {F G : Nat → Int} : ∀ r, (∀ k, 1 ≤ k → k ≤ r → F k = G k) → sumR F r = sumR G r
  | 0, _ => rfl
  | r + 1, h => by
    show sumR F r + F (r + 1) = sumR G r + G (r + 1)
    rw [sumR_eq r (fun k h1 h2 => h k h1 (by omega)), h (r + 1) (by omega) (Nat.le_refl _)]
theorem sumR_drop {F : Nat → Int} {k0 : Nat} (h1 : 1 ≤ k0) : ∀ r, k0 ≤ r → sumR F r = sumR (fun k => F (skp k0 k)) (r - 1) + F k0
  | 0, h => absurd h (by omega)
  | r + 1, h => by
    by_cases e : k0 = r + 1
    · subst e
      show sumR F r + F (r + 1) = sumR (fun k => F (skp (r + 1) k)) r + F (r + 1)
      rw [sumR_eq r (fun k _ h2 => by show F k = F (skp (r + 1) k); rw [skp_l (by omega)])]
    · have ih := sumR_drop (F := F) h1 r (by omega)
      obtain ⟨s, rfl⟩ : ∃ s, r = s + 1 := ⟨r - 1, by omega⟩
      have e2 : s + 1 - 1 = s := by omega
      rw [e2] at ih
      show sumR F (s + 1) + F (s + 1 + 1) = (sumR (fun k => F (skp k0 k)) s + F (skp k0 (s + 1))) + F k0
      rw [ih, skp_g (by omega)]
      omega
theorem Asg_drop {r C k0 : Nat} {c : Nat → Nat} (hc : Asg r (C + 1) c) (h1 : 1 ≤ k0) (h2 : k0 ≤ r) (h3 : c k0 = C + 1) : Asg (r - 1) C (fun k => c (skp k0 k)) := by
  have key : ∀ k, 1 ≤ k → k ≤ r - 1 → 1 ≤ skp k0 k ∧ skp k0 k ≤ r ∧ ¬ skp k0 k = k0 := fun k a1 a2 => by
    by_cases q : k < k0
    · rw [skp_l q]
      omega
    · rw [skp_g q]
      omega
  refine ⟨fun k a1 a2 => ?_, fun k k' a1 a2 a3 => ?_⟩
  · obtain ⟨b1, b2, b3⟩ := key k a1 a2
    have b := hc.1 (skp k0 k) b1 b2
    refine ⟨b.1, ?_⟩
    have ne : ¬ c (skp k0 k) = C + 1 := fun z => by
      rcases Nat.lt_trichotomy (skp k0 k) k0 with q | q | q
      · exact hc.2 (skp k0 k) k0 b1 q h2 (z.trans h3.symm)
      · exact b3 q
      · exact hc.2 k0 (skp k0 k) h1 q b2 (h3.trans z.symm)
    have := b.2
    show c (skp k0 k) ≤ C
    omega
  · obtain ⟨b1, b2, _⟩ := key k a1 (by omega)
    obtain ⟨d1, d2, _⟩ := key k' (by omega) a3
    refine hc.2 (skp k0 k) (skp k0 k') b1 ?_ d2
    by_cases q : k' < k0
    · rw [skp_l q, skp_l (by omega)]
      exact a2
    · rw [skp_g q]
      by_cases q2 : k < k0
      · rw [skp_l q2]
        omega
      · rw [skp_g q2]
        omega
theorem Asg_no {r C : Nat} {c : Nat → Nat} (hc : Asg r (C + 1) c) (h : ¬ ∃ k, 1 ≤ k ∧ k ≤ r ∧ c k = C + 1) : Asg r C c := ⟨fun k a1 a2 => by
  have b := hc.1 k a1 a2
  have : ¬ c k = C + 1 := fun z => h ⟨k, a1, a2, z⟩
  have := b.2
  exact ⟨b.1, by omega⟩, hc.2⟩
theorem Asg_0 {r : Nat} {c : Nat → Nat} (hc : Asg r 0 c) : r = 0 := by
  cases r with
  | zero => rfl
  | succ r =>
    have := hc.1 (r + 1) (by omega) (Nat.le_refl _)
    have a := this.1
    have b := this.2
    omega
theorem sumC_le {v : Nat → Int} : ∀ (C r : Nat) (c : Nat → Nat), (∀ j, inC C j → v j ≤ 0) → Asg r C c → sumC v C ≤ sumR (fun k => v (c k)) r
  | 0, r, c, _, hc => by
    have e := Asg_0 hc
    subst e
    exact Int.le_refl _
  | C + 1, r, c, hv, hc => by
    have hvl := hv (C + 1) ⟨by omega, Nat.le_refl _⟩
    have hv' : ∀ j, inC C j → v j ≤ 0 := fun j hj => hv j ⟨hj.1, by have := hj.2; omega⟩
    show sumC v C + v (C + 1) ≤ _
    by_cases h : ∃ k, 1 ≤ k ∧ k ≤ r ∧ c k = C + 1
    · obtain ⟨k0, k1, k2, k3⟩ := h
      have ih := sumC_le C (r - 1) _ hv' (Asg_drop hc k1 k2 k3)
      have d := sumR_drop (F := fun k => v (c k)) k1 r k2
      have e : v (c k0) = v (C + 1) := by rw [k3]
      rw [d]
      show _ ≤ sumR (fun k => v (c (skp k0 k))) (r - 1) + v (c k0)
      omega
    · have ih := sumC_le C r c hv' (Asg_no hc h)
      omega
theorem sumC_eq {v : Nat → Int} : ∀ (C r : Nat) (c : Nat → Nat), (∀ j, inC C j → (¬ ∃ k, 1 ≤ k ∧ k ≤ r ∧ c k = j) → v j = 0) → Asg r C c → sumC v C = sumR (fun k => v (c k)) r
  | 0, r, c, _, hc => by
    have e := Asg_0 hc
    subst e
    rfl
  | C + 1, r, c, hv, hc => by
    show sumC v C + v (C + 1) = _
    by_cases h : ∃ k, 1 ≤ k ∧ k ≤ r ∧ c k = C + 1
    · obtain ⟨k0, k1, k2, k3⟩ := h
      have hv' : ∀ j, inC C j → (¬ ∃ k, 1 ≤ k ∧ k ≤ r - 1 ∧ c (skp k0 k) = j) → v j = 0 := fun j hj hn => hv j ⟨hj.1, by have := hj.2; omega⟩ (fun ⟨k, a1, a2, a3⟩ => by
        have ne : ¬ k = k0 := fun z => by
          have := hj.2
          rw [z, k3] at a3
          omega
        by_cases q : k < k0
        · exact hn ⟨k, a1, by omega, by rw [skp_l q]; exact a3⟩
        · exact hn ⟨k - 1, by omega, by omega, by rw [skp_g (by omega), show k - 1 + 1 = k by omega]; exact a3⟩)
      have ih := sumC_eq C (r - 1) _ hv' (Asg_drop hc k1 k2 k3)
      have d := sumR_drop (F := fun k => v (c k)) k1 r k2
      have e : v (c k0) = v (C + 1) := by rw [k3]
      rw [d]
      show _ = sumR (fun k => v (c (skp k0 k))) (r - 1) + v (c k0)
      omega
    · have hv' : ∀ j, inC C j → (¬ ∃ k, 1 ≤ k ∧ k ≤ r ∧ c k = j) → v j = 0 := fun j hj hn => hv j ⟨hj.1, by have := hj.2; omega⟩ hn
      have ih := sumC_eq C r c hv' (Asg_no hc h)
      have z := hv (C + 1) ⟨by omega, Nat.le_refl _⟩ h
      omega
theorem sumR_le {F G : Nat → Int} : ∀ r, (∀ k, 1 ≤ k → k ≤ r → F k ≤ G k) → sumR F r ≤ sumR G r
  | 0, _ => Int.le_refl _
  | r + 1, h => by
    have a := sumR_le r (fun k h1 h2 => h k h1 (by omega))
    have b := h (r + 1) (by omega) (Nat.le_refl _)
    show sumR F r + F (r + 1) ≤ sumR G r + G (r + 1)
    omega
theorem sumR_add {F G : Nat → Int} : ∀ r, sumR (fun k => F k + G k) r = sumR F r + sumR G r
  | 0 => rfl
  | r + 1 => by
    show sumR (fun k => F k + G k) r + (F (r + 1) + G (r + 1)) = sumR F r + F (r + 1) + (sumR G r + G (r + 1))
    rw [sumR_add r]
    omega
/-- any way to set the rows costs at least the prices together -/
theorem asg_ge {r C : Nat} {a : Nat → Nat → Int} {u v : Nat → Int} {p : Nat → Nat} (h : HU r C a u v p) {c : Nat → Nat} (hc : Asg r C c) : sumR u r + sumC v C ≤ sumR (fun k => a k (c k)) r := by
  have e1 : sumR (fun k => u k + v (c k)) r ≤ sumR (fun k => a k (c k)) r := sumR_le r (fun k h1 h2 => h.1 k (c k) h1 h2 (hc.1 k h1 h2))
  rw [sumR_add] at e1
  have e2 := sumC_le C r c (fun j hj => (h.2.2.1 j hj).1) hc
  omega
/-- the rows as they sit cost just that -/
theorem asg_eq {r C : Nat} {a : Nat → Nat → Int} {u v : Nat → Int} {p : Nat → Nat} (h : HU r C a u v p) {c : Nat → Nat} (hc : ∀ k, 1 ≤ k → k ≤ r → inC C (c k) ∧ p (c k) = k) : Asg r C c ∧ sumR (fun k => a k (c k)) r = sumR u r + sumC v C := by
  obtain ⟨hD, hT, hV, hM⟩ := h
  have hA : Asg r C c := ⟨fun k h1 h2 => (hc k h1 h2).1, fun k k' h1 h2 h3 e => by
    have a1 := (hc k h1 (by omega)).2
    have a2 := (hc k' (by omega) h3).2
    rw [e] at a1
    omega⟩
  refine ⟨hA, ?_⟩
  have e1 : sumR (fun k => a k (c k)) r = sumR (fun k => u k + v (c k)) r := sumR_eq r (fun k h1 h2 => by
    obtain ⟨b1, b2⟩ := hc k h1 h2
    have := hT (c k) b1 (by omega)
    rw [b2] at this
    exact this.symm)
  rw [e1, sumR_add, ← sumC_eq C r c (fun j hj hn => (hV j hj).2 (by
    apply Classical.byContradiction
    intro ne
    have le := hM.1 j hj
    obtain ⟨b1, b2⟩ := hc (p j) (by omega) le
    have e : c (p j) = j := by
      apply Classical.byContradiction
      intro ne2
      exact hM.2.1 j (c (p j)) hj b1 (fun z => ne2 z.symm) ne b2.symm
    exact hn ⟨p j, by omega, le, e⟩)) hA]
/-! longs as whole numbers -/
theorem l_add {x y : Int64} (h1 : -9223372036854775808 ≤ x.toInt + y.toInt) (h2 : x.toInt + y.toInt ≤ 9223372036854775807) : (x + y).toInt = x.toInt + y.toInt := by
  rw [Int64.toInt_add]
  exact Int.bmod_eq_of_le (by omega) (by omega)
theorem l_sub {x y : Int64} (h1 : -9223372036854775808 ≤ x.toInt - y.toInt) (h2 : x.toInt - y.toInt ≤ 9223372036854775807) : (x - y).toInt = x.toInt - y.toInt := by
  rw [Int64.toInt_sub]
  exact Int.bmod_eq_of_le (by omega) (by omega)
theorem l_neg {x : Int64} (h1 : -9223372036854775807 ≤ x.toInt) : (-x).toInt = -x.toInt := by
  rw [Int64.toInt_neg]
  have h2 : x.toInt ≤ 9223372036854775807 := Int64.toInt_le x
  exact Int.bmod_eq_of_le (by omega) (by omega)
theorem m_ul_s {g : Nat → Nat → Int64} {k j : Nat} {v : Int64} : m_ul g k j v k j = v := by
  show (if k = k then (if j = j then v else g k j) else g k j) = v
  rw [if_pos rfl, if_pos rfl]
theorem m_ul_o {g : Nat → Nat → Int64} {k j a i : Nat} {v : Int64} (h : ¬ (a = k ∧ i = j)) : m_ul g k j v a i = g a i := by
  show (if a = k then (if i = j then v else g a i) else g a i) = g a i
  by_cases e : a = k
  · rw [if_pos e, if_neg (fun z => h ⟨e, z⟩)]
  · rw [if_neg e]
def RPr (g : Nat → Nat → Int64) (u : Nat → Int) : Prop := ∀ k, k ≤ 8 → (g 160 k).toInt = u k
def CPr (g : Nat → Nat → Int64) (C : Nat) (v : Nat → Int) : Prop := ∀ j, j ≤ C → (g 161 j).toInt = v j
def SLr (g : Nat → Nat → Int64) (C : Nat) (m : Nat → Int) : Prop := ∀ j, inC C j → (g 162 j).toInt = m j
def WOr (g : Nat → Nat → Int64) (r C : Nat) (a : Nat → Nat → Int) : Prop := ∀ k j, 1 ≤ k → k ≤ r → inC C j → (g (151 + k) (j - 1)).toInt = - a k j
/-- the row in a column, as told -/
def pr (f : Nat → Nat → Int32) : Nat → Nat := fun j => (f 163 j).toNatClampNeg
theorem pr_e {f : Nat → Nat → Int32} (hX : XI f) (j : Nat) : f 163 j = nI (pr f j) ∧ pr f j ≤ 8 := by
  obtain ⟨k, hk, e⟩ := inr_nat (n := 8) rfl (xi_163 hX j)
  have e2 : pr f j = k := by
    unfold pr
    rw [e]
    exact nI_clamp (by omega)
  rw [e2]
  exact ⟨e, hk⟩
def Ur (f : Nat → Nat → Int32) : Nat → Prop := fun j => ¬ f 165 j = 0
/-- the columns below i have had their turn -/
def Ui (f : Nat → Nat → Int32) (i : Nat) : Nat → Prop := fun j => Ur f j ∧ j < i
noncomputable def mi_ (f : Nat → Nat → Int32) (m : Nat → Int) (b : Int) (i : Nat) : Nat → Int := fun j => @ite _ (¬ Ur f j ∧ j < i) (Classical.propDecidable _) (m j - b) (m j)
theorem mi_y {f : Nat → Nat → Int32} {m : Nat → Int} {b : Int} {i j : Nat} (h : ¬ Ur f j ∧ j < i) : mi_ f m b i j = m j - b := @if_pos _ (Classical.propDecidable _) h _ _ _
theorem mi_n {f : Nat → Nat → Int32} {m : Nat → Int} {b : Int} {i j : Nat} (h : ¬ (¬ Ur f j ∧ j < i)) : mi_ f m b i j = m j := @if_neg _ (Classical.propDecidable _) h _ _ _
theorem shu_st {f : Nat → Nat → Int32} {u : Nat → Int} {b : Int} {C i : Nat} (hU : Ur f i) (hi : i ≤ C) (inj : ∀ j j', j ≤ C → j' ≤ C → Ur f j → Ur f j' → pr f j = pr f j' → j = j') (k : Nat) : shu (pr f) (Ui f (i + 1)) u b C k = if k = pr f i then u k + b else shu (pr f) (Ui f i) u b C k := by
  by_cases e : k = pr f i
  · rw [if_pos e, e]
    exact shu_y ⟨hU, by omega⟩ hi
  · rw [if_neg e]
    by_cases h : ∃ j, j ≤ C ∧ Ui f i j ∧ pr f j = k
    · obtain ⟨j, h1, h2, h3⟩ := h
      rw [← h3, shu_y (U := Ui f i) h2 h1, shu_y (U := Ui f (i + 1)) ⟨h2.1, by have := h2.2; omega⟩ h1]
    · rw [shu_n h, shu_n (fun ⟨j, h1, h2, h3⟩ => h ⟨j, h1, ⟨h2.1, by
        have : ¬ j = i := fun z => e (by rw [← h3, z])
        have := h2.2
        omega⟩, h3⟩)]
theorem shu_i {f : Nat → Nat → Int32} {u : Nat → Int} {b : Int} {C i : Nat} (hU : Ur f i) (hi : i ≤ C) (inj : ∀ j j', j ≤ C → j' ≤ C → Ur f j → Ur f j' → pr f j = pr f j' → j = j') : shu (pr f) (Ui f i) u b C (pr f i) = u (pr f i) := shu_n (fun ⟨j, h1, h2, h3⟩ => by
  have := inj j i h1 hi h2.1 hU h3
  have := h2.2
  omega)
theorem shu_no {f : Nat → Nat → Int32} {u : Nat → Int} {b : Int} {C i : Nat} (hU : ¬ Ur f i) (k : Nat) : shu (pr f) (Ui f (i + 1)) u b C k = shu (pr f) (Ui f i) u b C k := by
  by_cases h : ∃ j, j ≤ C ∧ Ui f i j ∧ pr f j = k
  · obtain ⟨j, h1, h2, h3⟩ := h
    rw [← h3, shu_y (U := Ui f i) h2 h1, shu_y (U := Ui f (i + 1)) ⟨h2.1, by have := h2.2; omega⟩ h1]
  · rw [shu_n h, shu_n (fun ⟨j, h1, h2, h3⟩ => h ⟨j, h1, ⟨h2.1, by
      have : ¬ j = i := fun z => hU (by rw [← z]; exact h2.1)
      have := h2.2
      omega⟩, h3⟩)]
theorem shv_st {f : Nat → Nat → Int32} {v : Nat → Int} {b : Int} {i j : Nat} : (¬ j = i → shv (Ui f (i + 1)) v b j = shv (Ui f i) v b j) ∧ (Ur f i → shv (Ui f (i + 1)) v b i = v i - b) ∧ shv (Ui f i) v b i = v i ∧ (¬ Ur f i → shv (Ui f (i + 1)) v b i = v i) := by
  refine ⟨fun e => ?_, fun h => shv_y ⟨h, by omega⟩, shv_n (fun z => by have := z.2; omega), fun h => shv_n (fun z => h z.1)⟩
  by_cases h : Ui f i j
  · rw [shv_y h, shv_y (U := Ui f (i + 1)) ⟨h.1, by have := h.2; omega⟩]
  · rw [shv_n h, shv_n (U := Ui f (i + 1)) (fun z => h ⟨z.1, by have := z.2; omega⟩)]
theorem mi_st {f : Nat → Nat → Int32} {m : Nat → Int} {b : Int} {i j : Nat} : (¬ j = i → mi_ f m b (i + 1) j = mi_ f m b i j) ∧ (¬ Ur f i → mi_ f m b (i + 1) i = m i - b) ∧ mi_ f m b i i = m i ∧ (Ur f i → mi_ f m b (i + 1) i = m i) := by
  refine ⟨fun e => ?_, fun h => mi_y ⟨h, by omega⟩, mi_n (fun z => by have := z.2; omega), fun h => mi_n (fun z => z.1 h)⟩
  by_cases h : ¬ Ur f j ∧ j < i
  · rw [mi_y h, mi_y (i := i + 1) ⟨h.1, by have := h.2; omega⟩]
  · rw [mi_n h, mi_n (i := i + 1) (fun z => h ⟨z.1, by have := z.2; omega⟩)]
/-- bounds -/
def bd (x : Int) : Prop := -2305843009213693952 ≤ x ∧ x ≤ 2305843009213693952
set_option maxRecDepth 100000 in
set_option maxHeartbeats 8000000 in
theorem sfs_lp {d L C : Nat} {f : Nat → Nat → Int32} {g0 : Nat → Nat → Int64} {u v m : Nat → Int} {b : Int64} {R : Option Value → mH → Prop} (hX : XI f) (hC : C ≤ 48) (hcb : f 150 8 = nI C) (inj : ∀ j j', j ≤ C → j' ≤ C → Ur f j → Ur f j' → pr f j = pr f j' → j = j') (bu : ∀ k, k ≤ 8 → bd (u k)) (bv : ∀ j, j ≤ C → bd (v j)) (bm : ∀ j, inC C j → bd (m j)) (hbb : bd b.toInt)
    (H : ∀ g, RPr g (shu (pr f) (Ui f (C + 1)) u b.toInt C) → CPr g C (shv (Ui f (C + 1)) v b.toInt) → SLr g C (mi_ f m b.toInt (C + 1)) → (∀ a i, ¬ a = 160 → ¬ a = 161 → ¬ a = 162 → g a i = g0 a i) → R none (shF L, f, g)) :
    ∀ (k i : Nat) (x : Int32) (g : Nat → Nat → Int64), i + k = C + 1 → x = nI i → RPr g (shu (pr f) (Ui f i) u b.toInt C) → CPr g C (shv (Ui f i) v b.toInt) → SLr g C (mi_ f m b.toInt i) → (∀ a i, ¬ a = 160 → ¬ a = 161 → ¬ a = 162 → g a i = g0 a i) → WPe pg_X3_shiftPrices none (Run mtab d) R (m_drop pg_X3_shiftPrices 2) [some (.ref 150), some (.long b), none, some (.int x)] [] (shF L, f, g)
  | 0, i, x, g, hi, hx, hU1, hV1, hM1, hO => by
    have e : i = C + 1 := by omega
    subst hx
    subst e
    refine at_X3_shiftPrices ?_
    conv => whnf
    simp only [hcb]
    refine ⟨fun q9 => ?_, fun q9 => absurd (nI_lt (by omega) (by omega)) q9⟩
    conv => whnf
    exact H g hU1 hV1 hM1 hO
  | k + 1, i, x, g, hi, hx, hU1, hV1, hM1, hO => by
    subst hx
    have hcl : (nI i).toNatClampNeg = i := nI_clamp (by omega)
    have bb := hbb
    unfold bd at bb
    refine at_X3_shiftPrices ?_
    conv => whnf
    simp only [hcb]
    refine ⟨fun q9 => absurd q9 (nI_nlt (by omega) (by omega)), fun q9 => ?_⟩
    conv => whnf
    refine ⟨vp_in_nI (by omega) (by decide), ?_⟩
    conv => whnf
    simp only [hcl]
    refine ⟨fun c1 => ?_, fun c1 => ?_⟩
    · conv => whnf
      have hU : ¬ Ur f i := fun z => z c1
      refine ⟨vp_in_nI (by omega) (by decide), ?_⟩
      conv => whnf
      refine ⟨vp_in_nI (by omega) (by decide), ?_⟩
      conv => whnf
      simp only [hcl]
      by_cases hi1 : i = 0
      · subst hi1
        refine sfs_lp hX hC hcb inj bu bv bm hbb H k 1 _ _ (by omega) (nI_1 0) (fun q hq => ?_) (fun j hj => ?_) (fun j hj => ?_) (fun x y h1 h2 h3 => (m_ul_o (fun z => h3 z.1)).trans (hO x y h1 h2 h3))
        · rw [m_ul_o (by omega), shu_no hU]
          exact hU1 q hq
        · rw [m_ul_o (by omega)]
          by_cases e : j = 0
          · subst e
            rw [(shv_st (j := 0)).2.2.2 hU, ← (shv_st (f := f) (v := v) (b := b.toInt) (i := 0) (j := 0)).2.2.1]
            exact hV1 0 hj
          · rw [shv_st.1 e]
            exact hV1 j hj
        · have := hj.1
          rw [m_ul_o (by omega), mi_st.1 (by omega)]
          exact hM1 j hj
      · have em : (g 162 i).toInt = m i := (hM1 i ⟨by omega, by omega⟩).trans (mi_st (j := 0)).2.2.1
        have b3 := bm i ⟨by omega, by omega⟩
        unfold bd at b3
        have es : (g 162 i - b).toInt = m i - b.toInt := by rw [l_sub (by rw [em]; omega) (by rw [em]; omega), em]
        refine sfs_lp hX hC hcb inj bu bv bm hbb H k (i + 1) _ _ (by omega) (nI_1 i) (fun q hq => ?_) (fun j hj => ?_) (fun j hj => ?_) (fun x y h1 h2 h3 => (m_ul_o (fun z => h3 z.1)).trans (hO x y h1 h2 h3))
        · rw [m_ul_o (by omega), shu_no hU]
          exact hU1 q hq
        · rw [m_ul_o (by omega)]
          by_cases e : j = i
          · subst e
            rw [(shv_st (j := 0)).2.2.2 hU, ← (shv_st (f := f) (v := v) (b := b.toInt) (i := j) (j := 0)).2.2.1]
            exact hV1 j hj
          · rw [shv_st.1 e]
            exact hV1 j hj
        · by_cases e : j = i
          · subst e
            rw [m_ul_s, (mi_st (j := 0)).2.1 hU]
            exact es
          · rw [m_ul_o (by omega), mi_st.1 e]
            exact hM1 j hj
    · conv => whnf
      have hU : Ur f i := c1
      obtain ⟨ep, hp8⟩ := pr_e hX i
      have hcp : (nI (pr f i)).toNatClampNeg = pr f i := nI_clamp (by omega)
      refine ⟨vp_in_nI (by omega) (by decide), ?_⟩
      conv => whnf
      simp only [hcl, ep]
      refine ⟨vp_in_nI (by omega) (by decide), ?_⟩
      conv => whnf
      refine ⟨vp_in_nI (by omega) (by decide), ?_⟩
      conv => whnf
      refine ⟨vp_in_nI (by omega) (by decide), ?_⟩
      conv => whnf
      refine ⟨vp_in_nI (by omega) (by decide), ?_⟩
      conv => whnf
      simp only [hcl, hcp]
      have eu : (g 160 (pr f i)).toInt = u (pr f i) := (hU1 (pr f i) hp8).trans (shu_i hU (by omega) inj)
      have ev : (g 161 i).toInt = v i := (hV1 i (by omega)).trans (shv_st (j := 0)).2.2.1
      have b1 := bu (pr f i) hp8
      have b2 := bv i (by omega)
      unfold bd at b1 b2
      have ea : (g 160 (pr f i) + b).toInt = u (pr f i) + b.toInt := by rw [l_add (by rw [eu]; omega) (by rw [eu]; omega), eu]
      have es : (g 161 i - b).toInt = v i - b.toInt := by rw [l_sub (by rw [ev]; omega) (by rw [ev]; omega), ev]
      have e161 : m_ul g 160 (pr f i) (g 160 (pr f i) + b) 161 i = g 161 i := m_ul_o (by omega)
      (try simp only [e161])
      refine sfs_lp hX hC hcb inj bu bv bm hbb H k (i + 1) _ _ (by omega) (nI_1 i) (fun q hq => ?_) (fun j hj => ?_) (fun j hj => ?_) (fun x y h1 h2 h3 => (m_ul_o (fun z => h2 z.1)).trans ((m_ul_o (fun z => h1 z.1)).trans (hO x y h1 h2 h3)))
      · rw [shu_st hU (by omega) inj, m_ul_o (by omega)]
        by_cases e : q = pr f i
        · rw [if_pos e, e, m_ul_s]
          exact ea
        · rw [if_neg e, m_ul_o (by omega)]
          exact hU1 q hq
      · by_cases e : j = i
        · subst e
          rw [m_ul_s, (shv_st (j := 0)).2.1 hU]
          exact es
        · rw [m_ul_o (by omega), m_ul_o (by omega), shv_st.1 e]
          exact hV1 j hj
      · rw [m_ul_o (by omega), m_ul_o (by omega)]
        by_cases e : j = i
        · subst e
          rw [(mi_st (j := 0)).2.2.2 hU, ← (mi_st (f := f) (m := m) (b := b.toInt) (i := j) (j := 0)).2.2.1]
          exact hM1 j hj
        · rw [mi_st.1 e]
          exact hM1 j hj
set_option maxRecDepth 100000 in
set_option maxHeartbeats 4000000 in
theorem sf_shift {d L : Nat} {f : Nat → Nat → Int32} {g : Nat → Nat → Int64} {C : Nat} {u v m : Nat → Int} {b : Int64} {R : Option Value → mH → Prop} (hd : 2 ≤ d) (hX : XI f) (hC : C ≤ 48) (hcb : f 150 8 = nI C) (inj : ∀ j j', j ≤ C → j' ≤ C → Ur f j → Ur f j' → pr f j = pr f j' → j = j') (bu : ∀ k, k ≤ 8 → bd (u k)) (bv : ∀ j, j ≤ C → bd (v j)) (bm : ∀ j, inC C j → bd (m j)) (bb : bd b.toInt) (r1 : RPr g u) (r2 : CPr g C v) (r3 : SLr g C m) (H : ∀ g', RPr g' (shu (pr f) (Ur f) u b.toInt C) → CPr g' C (shv (Ur f) v b.toInt) → SLr g' C (shm (Ur f) m b.toInt) → (∀ a i, ¬ a = 160 → ¬ a = 161 → ¬ a = 162 → g' a i = g a i) → R none (shF L, f, g')) : Run mtab d 32 [.ref 150, .long b] (shF L, f, g) R := by
  obtain ⟨d, rfl⟩ : ∃ e, d = e + 1 := ⟨d - 1, by omega⟩
  refine go_X3_shiftPrices rfl ?_
  conv => whnf
  refine sfs_lp (g0 := g) hX hC hcb inj bu bv bm bb (fun g' h1 h2 h3 h4 => H g' (fun k hk => (h1 k hk).trans ?_) (fun j hj => (h2 j hj).trans ?_) (fun j hj => (h3 j hj).trans ?_) h4) (C + 1) 0 _ g (by omega) rfl (fun k hk => (r1 k hk).trans (shu_n (fun ⟨j, _, z, _⟩ => absurd z.2 (by omega))).symm) (fun j hj => (r2 j hj).trans (shv_n (fun z => absurd z.2 (by omega))).symm) (fun j hj => (r3 j hj).trans (mi_n (fun z => absurd z.2 (by omega))).symm) (fun _ _ _ _ _ => rfl)
  · by_cases h : ∃ j, j ≤ C ∧ Ur f j ∧ pr f j = k
    · obtain ⟨j, a1, a2, a3⟩ := h
      rw [← a3, shu_y (U := Ur f) a2 a1, shu_y (U := Ui f (C + 1)) ⟨a2, by omega⟩ a1]
    · rw [shu_n h, shu_n (fun ⟨j, a1, a2, a3⟩ => h ⟨j, a1, a2.1, a3⟩)]
  · by_cases h : Ur f j
    · rw [shv_y h, shv_y (U := Ui f (C + 1)) ⟨h, by omega⟩]
    · rw [shv_n h, shv_n (U := Ui f (C + 1)) (fun z => h z.1)]
  · have := hj.2
    by_cases h : Ur f j
    · rw [shm_y h, mi_n (fun z => z.1 h)]
    · rw [shm_n h, mi_y ⟨h, by omega⟩]
theorem nwm_le {W : Nat → Prop} {a : Nat → Nat → Int} {u v : Nat → Int} {p : Nat → Nat} {z j : Nat} {m : Nat → Int} : nwm W a u v p z m j ≤ m j := by
  by_cases h : W j
  · rw [nwm_y h]
    exact Int.le_refl _
  · rw [nwm_n h]
    by_cases q : a (p z) j - u (p z) - v j < m j
    · rw [if_pos q]
      omega
    · rw [if_neg q]
      exact Int.le_refl _
theorem lg_ge {x y : Int64} : (0 ≤ lg_cmp x y) ↔ ¬ x.toInt < y.toInt := by
  rw [← i32_nlt, lg_cmp_lt, Int64.lt_iff_toInt_lt]
theorem ite_nat {i j : Nat} {x y : Nat → Nat} (h : j = i → x i = y i) : (if j < i + 1 then x j else y j) = (if j < i then x j else y j) := by
  by_cases q : j < i
  · rw [if_pos q, if_pos (by omega)]
  · rw [if_neg q]
    by_cases e : j = i
    · subst e
      rw [if_pos (by omega), h rfl]
    · rw [if_neg (by omega)]
theorem ite_int {i j : Nat} {x y : Nat → Int} (h : j = i → x i = y i) : (if j < i + 1 then x j else y j) = (if j < i then x j else y j) := by
  by_cases q : j < i
  · rw [if_pos q, if_pos (by omega)]
  · rw [if_neg q]
    by_cases e : j = i
    · subst e
      rw [if_pos (by omega), h rfl]
    · rw [if_neg (by omega)]
theorem LE_keep {C i z : Nat} {W : Nat → Prop} {a : Nat → Nat → Int} {u v m : Nat → Int} {p : Nat → Nat} {lw : Int64} {bn : Int32} (h : ((lw = 1152921504606846976 ∧ bn = nI z ∧ ∀ j, 1 ≤ j → j < i → W j) ∨ (∃ nx, inC C nx ∧ nx < i ∧ ¬ W nx ∧ lw.toInt = nwm W a u v p z m nx ∧ bn = nI nx ∧ ∀ j, 1 ≤ j → j < i → ¬ W j → nwm W a u v p z m nx ≤ nwm W a u v p z m j))) (w1 : ¬ W i) (iC : inC C i) (bf : nwm W a u v p z m i < 1152921504606846976) (c : ¬ nwm W a u v p z m i < lw.toInt) : ((lw = 1152921504606846976 ∧ bn = nI z ∧ ∀ j, 1 ≤ j → j < (i + 1) → W j) ∨ (∃ nx, inC C nx ∧ nx < (i + 1) ∧ ¬ W nx ∧ lw.toInt = nwm W a u v p z m nx ∧ bn = nI nx ∧ ∀ j, 1 ≤ j → j < (i + 1) → ¬ W j → nwm W a u v p z m nx ≤ nwm W a u v p z m j)) := by
  rcases h with ⟨z1, _, _⟩ | ⟨nx, n1, n2, n3, n4, n5, n6⟩
  · have e : lw.toInt = 1152921504606846976 := by
      rw [z1]
      rfl
    omega
  · refine Or.inr ⟨nx, n1, by omega, n3, n4, n5, fun j h1 h2 h3 => ?_⟩
    by_cases e : j = i
    · subst e
      omega
    · exact n6 j h1 (by omega) h3
theorem LE_new {C i z : Nat} {W : Nat → Prop} {a : Nat → Nat → Int} {u v m : Nat → Int} {p : Nat → Nat} {lw nl : Int64} {bn nb : Int32} (h : ((lw = 1152921504606846976 ∧ bn = nI z ∧ ∀ j, 1 ≤ j → j < i → W j) ∨ (∃ nx, inC C nx ∧ nx < i ∧ ¬ W nx ∧ lw.toInt = nwm W a u v p z m nx ∧ bn = nI nx ∧ ∀ j, 1 ≤ j → j < i → ¬ W j → nwm W a u v p z m nx ≤ nwm W a u v p z m j))) (w1 : ¬ W i) (iC : inC C i) (e : nl.toInt = nwm W a u v p z m i) (c : nwm W a u v p z m i < lw.toInt) (eb : nb = nI i) : ((nl = 1152921504606846976 ∧ nb = nI z ∧ ∀ j, 1 ≤ j → j < (i + 1) → W j) ∨ (∃ nx, inC C nx ∧ nx < (i + 1) ∧ ¬ W nx ∧ nl.toInt = nwm W a u v p z m nx ∧ nb = nI nx ∧ ∀ j, 1 ≤ j → j < (i + 1) → ¬ W j → nwm W a u v p z m nx ≤ nwm W a u v p z m j)) := by
  refine Or.inr ⟨i, iC, by omega, w1, e, eb, fun j h1 h2 h3 => ?_⟩
  by_cases q : j = i
  · subst q
    exact Int.le_refl _
  · rcases h with ⟨_, _, z3⟩ | ⟨nx, n1, n2, n3, n4, n5, n6⟩
    · exact absurd (z3 j h1 (by omega)) h3
    · have := n6 j h1 (by omega) h3
      omega
theorem LE_reached {C i z : Nat} {W : Nat → Prop} {a : Nat → Nat → Int} {u v m : Nat → Int} {p : Nat → Nat} {lw : Int64} {bn : Int32} (h : ((lw = 1152921504606846976 ∧ bn = nI z ∧ ∀ j, 1 ≤ j → j < i → W j) ∨ (∃ nx, inC C nx ∧ nx < i ∧ ¬ W nx ∧ lw.toInt = nwm W a u v p z m nx ∧ bn = nI nx ∧ ∀ j, 1 ≤ j → j < i → ¬ W j → nwm W a u v p z m nx ≤ nwm W a u v p z m j))) (w1 : W i) : ((lw = 1152921504606846976 ∧ bn = nI z ∧ ∀ j, 1 ≤ j → j < (i + 1) → W j) ∨ (∃ nx, inC C nx ∧ nx < (i + 1) ∧ ¬ W nx ∧ lw.toInt = nwm W a u v p z m nx ∧ bn = nI nx ∧ ∀ j, 1 ≤ j → j < (i + 1) → ¬ W j → nwm W a u v p z m nx ≤ nwm W a u v p z m j)) := by
  rcases h with ⟨z1, z2, z3⟩ | ⟨nx, n1, n2, n3, n4, n5, n6⟩
  · refine Or.inl ⟨z1, z2, fun j h1 h2 => ?_⟩
    by_cases e : j = i
    · subst e
      exact w1
    · exact z3 j h1 (by omega)
  · refine Or.inr ⟨nx, n1, by omega, n3, n4, n5, fun j h1 h2 h3 => ?_⟩
    by_cases e : j = i
    · subst e
      exact absurd w1 h3
    · exact n6 j h1 (by omega) h3
set_option maxRecDepth 100000 in
set_option maxHeartbeats 16000000 in
theorem srn_lp {d L C r z : Nat} {f1 : Nat → Nat → Int32} {g0 : Nat → Nat → Int64} {W : Nat → Prop} {a : Nat → Nat → Int} {u v m : Nat → Int} {p wy : Nat → Nat} {R : Option Value → mH → Prop} (hd : 2 ≤ d) (hC : C ≤ 48) (hcb : f1 150 8 = nI C) (hr : r < 8) (hz : z ≤ C) (hpz : p z = r + 1) (hW : ∀ j, W j ↔ ¬ f1 165 j = 0) (rU : RPr g0 u) (rV : CPr g0 C v) (rW : ∀ j, inC C j → (g0 (152 + r) (j - 1)).toInt = - a (r + 1) j) (bu : ∀ k, k ≤ 8 → bd (u k)) (bv : ∀ j, j ≤ C → bd (v j)) (ba : ∀ j, inC C j → bd (a (r + 1) j)) (bf : ∀ j, inC C j → ¬ W j → nwm W a u v p z m j < 1152921504606846976) (hex : ∃ j, inC C j ∧ ¬ W j) (H : ∀ f g nx, XI f → (∀ x y, ¬ x = 164 → f x y = f1 x y) → (∀ x y, ¬ x = 162 → g x y = g0 x y) → (∀ j, inC C j → f 164 j = nI (nwy W a u v p z m wy j)) → SLr g C (nwm W a u v p z m) → inC C nx → ¬ W nx → (∀ j, inC C j → ¬ W j → nwm W a u v p z m nx ≤ nwm W a u v p z m j) → ∀ lw : Int64, lw.toInt = nwm W a u v p z m nx → ∀ s7 s8, WPe pg_X3_reachNext none (Run mtab d) R (m_drop pg_X3_reachNext 16) [some (.ref 150), some (.int (nI z)), some (.int (nI (r + 1))), some (.int (nI nx)), some (.long lw), none, some (.int (nI (C + 1))), s7, s8] [] (shF L, f, g)) :
    ∀ (k i : Nat) (x bn : Int32) (lw : Int64) (s7 s8 : Option Value) (f : Nat → Nat → Int32) (g : Nat → Nat → Int64), i + k = C + 1 → 1 ≤ i ∧ x = nI i → XI f → (∀ x y, ¬ x = 164 → f x y = f1 x y) → (∀ x y, ¬ x = 162 → g x y = g0 x y) → (∀ j, inC C j → f 164 j = nI (if j < i then nwy W a u v p z m wy j else wy j)) → (∀ j, inC C j → (g 162 j).toInt = if j < i then nwm W a u v p z m j else m j) → ((lw = 1152921504606846976 ∧ bn = nI z ∧ ∀ j, 1 ≤ j → j < i → W j) ∨ (∃ nx, inC C nx ∧ nx < i ∧ ¬ W nx ∧ lw.toInt = nwm W a u v p z m nx ∧ bn = nI nx ∧ ∀ j, 1 ≤ j → j < i → ¬ W j → nwm W a u v p z m nx ≤ nwm W a u v p z m j)) → WPe pg_X3_reachNext none (Run mtab d) R (m_drop pg_X3_reachNext 16) [some (.ref 150), some (.int (nI z)), some (.int (nI (r + 1))), some (.int bn), some (.long lw), none, some (.int x), s7, s8] [] (shF L, f, g)
  | 0, i, x, bn, lw, s7, s8, f, g, hi, ⟨h1i, hx⟩, hX, hF, hG, h164, h162, hLE => by
    have e : i = C + 1 := by omega
    subst hx
    subst e
    rcases hLE with ⟨_, _, z3⟩ | ⟨nx, n1, n2, n3, n4, n5, n6⟩
    · obtain ⟨j, hj, hn⟩ := hex
      exact absurd (z3 j hj.1 (by have := hj.2; omega)) hn
    · subst n5
      exact H f g nx hX hF hG (fun j hj => by rw [h164 j hj, if_pos (by have := hj.2; omega)]) (fun j hj => by rw [h162 j hj, if_pos (by have := hj.2; omega)]) n1 n3 (fun j hj hn => n6 j hj.1 (by have := hj.2; omega) hn) lw n4 s7 s8
  | k + 1, i, x, bn, lw, s7, s8, f, g, hi, ⟨h1i, hx⟩, hX, hF, hG, h164, h162, hLE => by
    subst hx
    have hcl : (nI i).toNatClampNeg = i := nI_clamp (by omega)
    have hcb2 : f 150 8 = nI C := (hF 150 8 (by omega)).trans hcb
    have g165 : f 165 i = f1 165 i := hF 165 i (by omega)
    have iC : inC C i := ⟨h1i, by omega⟩
    have hp1 : nI i - 1 = nI (i - 1) := by
      obtain ⟨j, rfl⟩ : ∃ j, i = j + 1 := ⟨i - 1, by omega⟩
      exact nI_pred j
    have hp2 : nI (r + 1) - 1 = nI r := nI_pred r
    have hcr : (nI r).toNatClampNeg = r := nI_clamp (by omega)
    have hcr1 : (nI (r + 1)).toNatClampNeg = r + 1 := nI_clamp (by omega)
    have hci1 : (nI (i - 1)).toNatClampNeg = i - 1 := nI_clamp (by omega)
    have hrow := row_151 r hr
    have hshp := shp_151 L r hr
    refine at_X3_reachNext ?_
    conv => whnf
    simp only [hcb2]
    refine ⟨fun q9 => absurd q9 (nI_nlt (by omega) (by omega)), fun q9 => ?_⟩
    conv => whnf
    refine ⟨vp_in_nI (by omega) (by decide), ?_⟩
    conv => whnf
    simp only [hcl, g165]
    refine ⟨fun c1 => ?_, fun c1 => ?_⟩
    · have w1 : ¬ W i := fun y => (hW i).mp y c1
      have i162 : (g 162 i).toInt = m i := by rw [h162 i iC, if_neg (by omega)]
      have eu : (g 160 (r + 1)).toInt = u (r + 1) := by rw [hG 160 (r + 1) (by omega)]; exact rU (r + 1) (by omega)
      have ev : (g 161 i).toInt = v i := by rw [hG 161 i (by omega)]; exact rV i (by omega)
      have ew : (g (152 + r) (i - 1)).toInt = - a (r + 1) i := by rw [hG (152 + r) (i - 1) (by omega)]; exact rW i iC
      have b1 := bu (r + 1) (by omega)
      have b2 := bv i (by omega)
      have b3 := ba i iC
      unfold bd at b1 b2 b3
      have t1 : (-(g (152 + r) (i - 1))).toInt = a (r + 1) i := by rw [l_neg (by rw [ew]; omega), ew]; omega
      have t2 : (-(g (152 + r) (i - 1)) - g 160 (r + 1)).toInt = a (r + 1) i - u (r + 1) := by rw [l_sub (by rw [t1, eu]; omega) (by rw [t1, eu]; omega), t1, eu]
      have t3 : (-(g (152 + r) (i - 1)) - g 160 (r + 1) - g 161 i).toInt = a (r + 1) i - u (r + 1) - v i := by rw [l_sub (by rw [t2, ev]; omega) (by rw [t2, ev]; omega), t2, ev]
      have nmi : nwm W a u v p z m i = if a (r + 1) i - u (r + 1) - v i < m i then a (r + 1) i - u (r + 1) - v i else m i := by rw [nwm_n w1, hpz]
      have nyi : nwy W a u v p z m wy i = if a (r + 1) i - u (r + 1) - v i < m i then z else wy i := by rw [nwy_n w1, hpz]
      have bfi := bf i iC w1
      conv => whnf
      simp only [hp2]
      refine ⟨⟨vp_in_nI (by omega) (by decide), by rw [hcr]; exact hr, by rw [hcr, hrow]; rfl⟩, ?_⟩
      simp only [hcr, hrow, Option.getD_some]
      conv => whnf
      simp only [m_act_eq, mi, mj, m_act0, m_arr, hshp]
      conv => whnf
      (try simp only [hp1])
      refine ⟨vp_in_nI (by omega) (by decide), ?_⟩
      conv => whnf
      refine ⟨vp_in_nI (by omega) (by decide), ?_⟩
      conv => whnf
      refine ⟨vp_in_nI (by omega) (by decide), ?_⟩
      conv => whnf
      refine ⟨vp_in_nI (by omega) (by decide), ?_⟩
      conv => whnf
      simp only [hci1, hcr1, hcl]
      refine ⟨fun c2 => ?_, fun c2 => ?_⟩
      · have c2' := lg_ge.mp c2
        rw [t3, i162] at c2'
        have nm2 : nwm W a u v p z m i = m i := by rw [nmi, if_neg c2']
        have ny2 : nwy W a u v p z m wy i = wy i := by rw [nyi, if_neg c2']
        have w164 : ∀ j, inC C j → f 164 j = nI (if j < i + 1 then nwy W a u v p z m wy j else wy j) := fun j hj => by rw [h164 j hj, ite_nat (fun _ => ny2)]
        have w162 : ∀ j, inC C j → (g 162 j).toInt = if j < i + 1 then nwm W a u v p z m j else m j := fun j hj => by rw [h162 j hj, ite_int (fun _ => nm2)]
        conv => whnf
        refine ⟨vp_in_nI (by omega) (by decide), ?_⟩
        conv => whnf
        simp only [hcl]
        refine ⟨fun c3 => ?_, fun c3 => ?_⟩
        · have c3' := lg_ge.mp c3
          rw [i162, ← nm2] at c3'
          conv => whnf
          exact srn_lp hd hC hcb hr hz hpz hW rU rV rW bu bv ba bf hex H k (i + 1) _ bn lw _ _ f g (by omega) ⟨by omega, nI_1 i⟩ hX hF hG w164 w162 (LE_keep hLE w1 iC bfi c3')
        · have c3' : ¬ ¬ (g 162 i).toInt < lw.toInt := fun y => c3 (lg_ge.mpr y)
          rw [i162, ← nm2] at c3'
          conv => whnf
          refine ⟨vp_in_nI (by omega) (by decide), ?_⟩
          conv => whnf
          simp only [hcl]
          exact srn_lp hd hC hcb hr hz hpz hW rU rV rW bu bv ba bf hex H k (i + 1) _ _ _ _ _ f g (by omega) ⟨by omega, nI_1 i⟩ hX hF hG w164 w162 (LE_new hLE w1 iC (i162.trans nm2.symm) (Classical.not_not.mp c3') rfl)
      · have c2' : ¬ ¬ (-(g (152 + r) (i - 1)) - g 160 (r + 1) - g 161 i).toInt < (g 162 i).toInt := fun y => c2 (lg_ge.mpr y)
        have c2b := Classical.not_not.mp c2'
        rw [t3, i162] at c2b
        have nm2 : nwm W a u v p z m i = a (r + 1) i - u (r + 1) - v i := by rw [nmi, if_pos c2b]
        have ny2 : nwy W a u v p z m wy i = z := by rw [nyi, if_pos c2b]
        have w164 : ∀ j, inC C j → m_ui f 164 i (nI z) 164 j = nI (if j < i + 1 then nwy W a u v p z m wy j else wy j) := fun j hj => by
          by_cases e : j = i
          · subst e
            rw [m_ui_s, if_pos (by omega), ny2]
          · rw [m_ui_o (by omega), h164 j hj, ite_nat (fun y => absurd y e)]
        have w162 : ∀ j, inC C j → (m_ul g 162 i (-(g (152 + r) (i - 1)) - g 160 (r + 1) - g 161 i) 162 j).toInt = if j < i + 1 then nwm W a u v p z m j else m j := fun j hj => by
          by_cases e : j = i
          · subst e
            rw [m_ul_s, if_pos (by omega), nm2, t3]
          · rw [m_ul_o (by omega), h162 j hj, ite_int (fun y => absurd y e)]
        have hX2 : XI (m_ui f 164 i (nI z)) := XI_ui hX (show inr 0 48 _ from inr_n (m := 48) (by omega) rfl (by decide))
        have hF2 : ∀ x y, ¬ x = 164 → m_ui f 164 i (nI z) x y = f1 x y := fun x y h => (m_ui_o (fun e => h e.1)).trans (hF x y h)
        have hG2 : ∀ x y, ¬ x = 162 → m_ul g 162 i (-(g (152 + r) (i - 1)) - g 160 (r + 1) - g 161 i) x y = g0 x y := fun x y h => (m_ul_o (fun e => h e.1)).trans (hG x y h)
        have r162 : m_ul g 162 i (-(g (152 + r) (i - 1)) - g 160 (r + 1) - g 161 i) 162 i = -(g (152 + r) (i - 1)) - g 160 (r + 1) - g 161 i := m_ul_s
        conv => whnf
        refine ⟨vp_in_nI (by omega) (by decide), ?_⟩
        conv => whnf
        refine ⟨vp_in_nI (by omega) (by decide), ?_⟩
        conv => whnf
        refine ⟨vp_in_nI (by omega) (by decide), ?_⟩
        conv => whnf
        simp only [hcl]
        (try simp only [r162])
        refine ⟨fun c3 => ?_, fun c3 => ?_⟩
        · have c3' := lg_ge.mp c3
          rw [t3, ← nm2] at c3'
          conv => whnf
          exact srn_lp hd hC hcb hr hz hpz hW rU rV rW bu bv ba bf hex H k (i + 1) _ bn lw _ _ _ _ (by omega) ⟨by omega, nI_1 i⟩ hX2 hF2 hG2 w164 w162 (LE_keep hLE w1 iC bfi c3')
        · have c3' : ¬ ¬ (-(g (152 + r) (i - 1)) - g 160 (r + 1) - g 161 i).toInt < lw.toInt := fun y => c3 (lg_ge.mpr y)
          have c3b := Classical.not_not.mp c3'
          rw [t3, ← nm2] at c3b
          conv => whnf
          refine ⟨vp_in_nI (by omega) (by decide), ?_⟩
          conv => whnf
          simp only [hcl]
          (try simp only [r162])
          exact srn_lp hd hC hcb hr hz hpz hW rU rV rW bu bv ba bf hex H k (i + 1) _ _ _ _ _ _ _ (by omega) ⟨by omega, nI_1 i⟩ hX2 hF2 hG2 w164 w162 (LE_new hLE w1 iC (t3.trans nm2.symm) c3b rfl)
    · have w1 : W i := (hW i).mpr c1
      conv => whnf
      exact srn_lp hd hC hcb hr hz hpz hW rU rV rW bu bv ba bf hex H k (i + 1) _ bn lw _ _ f g (by omega) ⟨by omega, nI_1 i⟩ hX hF hG (fun j hj => by rw [h164 j hj, ite_nat (fun _ => nwy_y w1)]) (fun j hj => by rw [h162 j hj, ite_int (fun _ => nwm_y w1)]) (LE_reached hLE w1)
set_option maxRecDepth 100000 in
set_option maxHeartbeats 4000000 in
theorem sf_reachNext {d L : Nat} {f : Nat → Nat → Int32} {g : Nat → Nat → Int64} {C r z : Nat} {a : Nat → Nat → Int} {u v m : Nat → Int} {wy : Nat → Nat} {R : Option Value → mH → Prop} (hd : 4 ≤ d) (hX : XI f) (hC : C ≤ 48) (hcb : f 150 8 = nI C) (hr : r < 8) (hz : z ≤ C) (hpz : pr f z = r + 1) (rU : RPr g u) (rV : CPr g C v) (rM : SLr g C m) (rW : ∀ j, inC C j → (g (152 + r) (j - 1)).toInt = - a (r + 1) j) (h164 : ∀ j, inC C j → f 164 j = nI (wy j)) (bu : ∀ k, k ≤ 8 → bd (u k)) (bv : ∀ j, j ≤ C → bd (v j)) (ba : ∀ j, inC C j → bd (a (r + 1) j)) (bf : ∀ j, inC C j → ¬ (fun j => Ur f j ∨ j = z) j → (nwm (fun j => Ur f j ∨ j = z) a u v (pr f) z m) j < 1152921504606846976) (bN : ∀ j, inC C j → bd ((nwm (fun j => Ur f j ∨ j = z) a u v (pr f) z m) j)) (hex : ∃ j, inC C j ∧ ¬ (fun j => Ur f j ∨ j = z) j) (inj : ∀ j j', j ≤ C → j' ≤ C → (fun j => Ur f j ∨ j = z) j → (fun j => Ur f j ∨ j = z) j' → pr f j = pr f j' → j = j') (H : ∀ f' g' nx, XI f' → (∀ x y, ¬ x = 164 → ¬ x = 165 → f' x y = f x y) → (∀ j, Ur f' j ↔ (fun j => Ur f j ∨ j = z) j) → (∀ j, inC C j → f' 164 j = nI ((nwy (fun j => Ur f j ∨ j = z) a u v (pr f) z m wy) j)) → inC C nx → ¬ (fun j => Ur f j ∨ j = z) nx → (∀ j, inC C j → ¬ (fun j => Ur f j ∨ j = z) j → (nwm (fun j => Ur f j ∨ j = z) a u v (pr f) z m) nx ≤ (nwm (fun j => Ur f j ∨ j = z) a u v (pr f) z m) j) → RPr g' (shu (pr f) (fun j => Ur f j ∨ j = z) u ((nwm (fun j => Ur f j ∨ j = z) a u v (pr f) z m) nx) C) → CPr g' C (shv (fun j => Ur f j ∨ j = z) v ((nwm (fun j => Ur f j ∨ j = z) a u v (pr f) z m) nx)) → SLr g' C (shm (fun j => Ur f j ∨ j = z) (nwm (fun j => Ur f j ∨ j = z) a u v (pr f) z m) ((nwm (fun j => Ur f j ∨ j = z) a u v (pr f) z m) nx)) → (∀ x y, ¬ x = 160 → ¬ x = 161 → ¬ x = 162 → g' x y = g x y) → R (some (.int (nI nx))) (shF L, f', g')) : Run mtab d 31 [.ref 150, .int (nI z)] (shF L, f, g) R := by
  obtain ⟨d, rfl⟩ : ∃ e, d = e + 1 := ⟨d - 1, by omega⟩
  refine go_X3_reachNext rfl ?_
  conv => whnf
  have hcz : (nI z).toNatClampNeg = z := nI_clamp (by omega)
  obtain ⟨ep, _⟩ := pr_e hX z
  have e163 : f 163 z = nI (r + 1) := by rw [ep, hpz]
  have hX1 : XI (m_ui f 165 z 1) := XI_ui hX True.intro
  have hW1 : ∀ j, (fun j => Ur f j ∨ j = z) j ↔ ¬ m_ui f 165 z 1 165 j = 0 := fun j => by
    by_cases e : j = z
    · subst e
      rw [m_ui_s]
      exact ⟨fun _ => by decide, fun _ => Or.inr rfl⟩
    · rw [m_ui_o (by omega)]
      exact ⟨fun y => y.resolve_right e, fun y => Or.inl y⟩
  refine ⟨vp_in_nI (by omega) (by decide), ?_⟩
  conv => whnf
  refine ⟨vp_in_nI (by omega) (by decide), ?_⟩
  conv => whnf
  simp only [hcz, show vp_nar .boolean 1 = 1 from rfl, show m_ui f 165 z 1 163 z = nI (r + 1) from (m_ui_o (by omega)).trans e163]
  refine srn_lp (C := C) (r := r) (z := z) (f1 := m_ui f 165 z 1) (g0 := g) (W := (fun j => Ur f j ∨ j = z)) (a := a) (u := u) (v := v) (m := m) (p := pr f) (wy := wy) (by omega) hC ((m_ui_o (by omega)).trans hcb) hr hz hpz hW1 rU rV rW bu bv ba bf hex (fun f2 g2 nx x2 k2 q2 y2 s2 n1 n2 n3 lw elw s7 s8 => ?_) C 1 _ _ _ _ _ _ g (by omega) ⟨by omega, rfl⟩ hX1 (fun _ _ _ => rfl) (fun _ _ _ => rfl) (fun j hj => ?_) (fun j hj => ?_) (Or.inl ⟨rfl, rfl, fun j h1 h2 => absurd h2 (by omega)⟩)
  · have hcb2 : f2 150 8 = nI C := (k2 150 8 (by omega)).trans ((m_ui_o (by omega)).trans hcb)
    have eU : ∀ j, Ur f2 j ↔ (fun j => Ur f j ∨ j = z) j := fun j => by
      unfold Ur
      rw [k2 165 j (by omega)]
      exact (hW1 j).symm
    have eUf : Ur f2 = (fun j => Ur f j ∨ j = z) := funext (fun j => propext (eU j))
    have ep2 : pr f2 = pr f := funext (fun j => by
      unfold pr
      rw [k2 163 j (by omega), m_ui_o (by omega)])
    refine at_X3_reachNext ?_
    conv => whnf
    simp only [hcb2]
    refine ⟨fun q9 => ?_, fun q9 => absurd (nI_lt (by omega) (by omega)) q9⟩
    conv => whnf
    refine sf_shift (C := C) (u := u) (v := v) (m := (nwm (fun j => Ur f j ∨ j = z) a u v (pr f) z m)) (b := lw) (by omega) x2 hC hcb2 (by rw [eUf, ep2]; exact inj) bu bv bN (by rw [elw]; exact bN nx n1) (fun k hk => by rw [q2 160 k (by omega)]; exact rU k hk) (fun j hj => by rw [q2 161 j (by omega)]; exact rV j hj) s2 (fun g3 t1 t2 t3 t4 => ?_)
    rw [elw, eUf, ep2] at t1
    rw [elw, eUf] at t2 t3
    conv => whnf
    exact H f2 g3 nx x2 (fun x y h1 h2 => (k2 x y h1).trans (m_ui_o (fun e => h2 e.1))) eU y2 n1 n2 n3 t1 t2 t3 (fun x y h1 h2 h3 => (t4 x y h1 h2 h3).trans (q2 x y h3))
  · rw [m_ui_o (by omega), if_neg (by have := hj.1; omega)]
    exact h164 j hj
  · rw [if_neg (by have := hj.1; omega)]
    exact rM j hj
/-! longs filled -/
def m_fll (g : Nat → Nat → Int64) (k n : Nat) (v : Int64) : Nat → Nat → Int64 := fun a i => if a = k ∧ i < n then v else g a i
theorem fillF_loop {d : Nat} {l : List mS} {f : Nat → Nat → Int32} {g0 : Nat → Nat → Int64} {k n : Nat} {r : List (Option Nat)} {v : Int64} {Q : Option Value → mH → Prop} (hk : m_nth l k = some (102, n, r)) (hn : n < 2 ^ 31) (hQ : Q none (l, f, m_fll g0 k n v)) :
    ∀ (j i : Nat) (g : Nat → Nat → Int64), i + j = n → g = m_fll g0 k i v → WPe pg_J7_fill_d0a16 none (Run mtab d) Q (m_drop pg_J7_fill_d0a16 5) [some (.ref k), some (.long v), none, some (.int (nI i)), some (.int (nI n))] [] (l, f, g)
  | 0, i, g, hi, hg => by
    have e : i = n := by omega
    subst e
    subst hg
    refine at_J7_fill_d0a16 ?_
    conv => whnf
    refine ⟨fun c1 => ?_, fun c1 => ?_⟩
    · exact hQ
    · exact absurd (nI_le (Nat.le_refl i) hn) c1
  | j + 1, i, g, hi, hg => by
    have hin : vp_in (nI i) n := nI_in (by omega) hn
    have hcl : (nI i).toNatClampNeg = i := nI_clamp (by omega)
    refine at_J7_fill_d0a16 ?_
    conv => whnf
    refine ⟨fun c1 => ?_, fun c1 => ?_⟩
    · exact absurd c1 (nI_ge (by omega) hn)
    · conv => whnf
      simp only [m_act_eq, mi, mj, m_act0, m_alen, m_arr, hk]
      conv => whnf
      refine ⟨hin, ?_⟩
      have := fillF_loop (d := d) (f := f) (v := v) hk hn hQ j (i + 1) (m_ul g k (nI i).toNatClampNeg v) (by omega) (by
        rw [hcl, hg]
        funext a b
        show (if a = k then (if b = i then v else m_fll g0 k i v a b) else m_fll g0 k i v a b) = m_fll g0 k (i + 1) v a b
        unfold m_fll
        by_cases e : a = k
        · by_cases e2 : b = i
          · rw [if_pos e, if_pos e2, if_pos ⟨e, by omega⟩]
          · rw [if_pos e, if_neg e2]
            by_cases e3 : b < i
            · rw [if_pos ⟨e, e3⟩, if_pos ⟨e, by omega⟩]
            · rw [if_neg (fun z => e3 z.2), if_neg (fun z => e3 (by omega))]
        · rw [if_neg e, if_neg (fun z => e z.1), if_neg (fun z => e z.1)])
      rw [nI_succ] at this
      exact this
theorem ct_fillF {d : Nat} {l : List mS} {f : Nat → Nat → Int32} {g : Nat → Nat → Int64} {k n : Nat} {r : List (Option Nat)} {v : Int64} {R : Option Value → mH → Prop} (hd : 1 ≤ d) (hk : m_nth l k = some (102, n, r)) (hn : n < 2 ^ 31) (hR : R none (l, f, m_fll g k n v)) : Run mtab d 243 [.ref k, .long v] (l, f, g) R := by
  obtain ⟨d, rfl⟩ : ∃ e, d = e + 1 := ⟨d - 1, by omega⟩
  refine go_J7_fill_d0a16 rfl ?_
  conv => whnf
  simp only [m_act_eq, mi, mj, m_act0, m_alen, m_arr, hk]
  conv => whnf
  exact fillF_loop (d := d) (f := f) (v := v) hk hn hR n 0 g (by omega) (by
    funext a b
    show g a b = (if a = k ∧ b < 0 then v else g a b)
    rw [if_neg (by omega)])
theorem m_fll_y {g : Nat → Nat → Int64} {k n i : Nat} {v : Int64} (h : i < n) : m_fll g k n v k i = v := if_pos ⟨rfl, h⟩
theorem m_fll_n {g : Nat → Nat → Int64} {k n a i : Nat} {v : Int64} (h : ¬ a = k) : m_fll g k n v a i = g a i := if_neg (fun z => h z.1)
/-- fewer rows than columns: one is free -/
theorem Mat_free {i C : Nat} {p : Nat → Nat} (hM : Mat i C p) (h : i < C) : ∃ j, inC C j ∧ p j = 0 := by
  apply Classical.byContradiction
  intro no
  have np : ∀ j, inC C j → ¬ p j = 0 := fun j hj z => no ⟨j, hj, z⟩
  have ch : ∃ c : Nat → Nat, ∀ k, 1 ≤ k → k ≤ i → inC C (c k) ∧ p (c k) = k := by
    refine ⟨fun k => @dite _ (1 ≤ k ∧ k ≤ i) (Classical.propDecidable _) (fun q => Classical.choose (hM.2.2 k q.1 q.2)) (fun _ => 0), fun k h1 h2 => ?_⟩
    have e : (@dite _ (1 ≤ k ∧ k ≤ i) (Classical.propDecidable _) (fun q => Classical.choose (hM.2.2 k q.1 q.2)) (fun _ => 0) : Nat) = Classical.choose (hM.2.2 k h1 h2) := @dif_pos _ (Classical.propDecidable _) ⟨h1, h2⟩ _ _ _
    show inC C (@dite _ (1 ≤ k ∧ k ≤ i) (Classical.propDecidable _) (fun q => Classical.choose (hM.2.2 k q.1 q.2)) (fun _ => 0)) ∧ p (@dite _ (1 ≤ k ∧ k ≤ i) (Classical.propDecidable _) (fun q => Classical.choose (hM.2.2 k q.1 q.2)) (fun _ => 0)) = k
    rw [e]
    exact Classical.choose_spec (hM.2.2 k h1 h2)
  obtain ⟨c, hc⟩ := ch
  have hA : Asg i C c := ⟨fun k h1 h2 => (hc k h1 h2).1, fun k k' h1 h2 h3 e => by
    have a1 := (hc k h1 (by omega)).2
    have a2 := (hc k' (by omega) h3).2
    rw [e] at a1
    omega⟩
  have eq := sumC_eq (v := fun _ => (1 : Int)) C i c (fun j hj hn => absurd ⟨p j, by have := np j hj; omega, hM.1 j hj, by
    obtain ⟨b1, b2⟩ := hc (p j) (by have := np j hj; omega) (hM.1 j hj)
    apply Classical.byContradiction
    intro ne
    exact hM.2.1 j (c (p j)) hj b1 (fun z => ne z.symm) (np j hj) b2.symm⟩ hn) hA
  have s1 : ∀ n, sumC (fun _ => (1 : Int)) n = n := by
    intro n
    induction n with
    | zero => rfl
    | succ n ih =>
      show sumC (fun _ => (1 : Int)) n + 1 = _
      rw [ih]
      omega
  have s2 : ∀ n, sumR (fun _ => (1 : Int)) n = n := by
    intro n
    induction n with
    | zero => rfl
    | succ n ih =>
      show sumR (fun _ => (1 : Int)) n + 1 = _
      rw [ih]
      omega
  rw [s1, s2] at eq
  omega
/-- bounds on the way -/
theorem PH_bd {i C : Nat} {a : Nat → Nat → Int} {u v : Nat → Int} {p : Nat → Nat} {U : Nat → Prop} {wy : Nat → Nat} {m : Nat → Int} (h : PHs i C a u v p U wy m) (hi : i < C) (ba : ∀ k j, 1 ≤ k → k ≤ i + 1 → inC C j → -1125899906842624 ≤ a k j ∧ a k j ≤ 0) (lb : ∀ k, 1 ≤ k → k ≤ i + 1 → -1125899906842624 ≤ u k) : (∀ k, 1 ≤ k → k ≤ i + 1 → u k ≤ 0) ∧ (∀ j, inC C j → -1125899906842624 ≤ v j ∧ v j ≤ 0) ∧ ∀ j, inC C j → ¬ U j → m j ≤ 2 * 1125899906842624 := by
  obtain ⟨hD, hT, hV, hM, h0, hU0, hUp, hS, hE⟩ := h
  obtain ⟨jf, hf, ef⟩ := Mat_free hM hi
  have u0 : ∀ k, 1 ≤ k → k ≤ i + 1 → u k ≤ 0 := fun k h1 h2 => by
    have a1 := hD k jf h1 h2 hf
    have a2 := (hV jf hf).2 ef
    have a3 := (ba k jf h1 h2 hf).2
    omega
  have v0 : ∀ j, inC C j → -1125899906842624 ≤ v j ∧ v j ≤ 0 := fun j hj => by
    refine ⟨?_, (hV j hj).1⟩
    by_cases e : p j = 0
    · have := (hV j hj).2 e
      omega
    · have t := hT j hj e
      have r := hM.1 j hj
      have b1 := u0 (p j) (by omega) (by omega)
      have b2 := (ba (p j) j (by omega) (by omega) hj).1
      omega
  refine ⟨u0, v0, fun j hj hU => ?_⟩
  have s := hS j hj hU
  have s4 := s.2.2.2 0 (by omega) hU0
  rw [h0] at s4
  have b1 := lb (i + 1) (by omega) (Nat.le_refl _)
  have b2 := (v0 j hj).1
  have b3 := (ba (i + 1) j (by omega) (Nat.le_refl _) hj).2
  omega
theorem pr_ui {f : Nat → Nat → Int32} {h q : Nat} (hq : q ≤ 8) : pr (m_ui f 163 h (nI q)) = fun j => if j = h then q else pr f j := by
  funext j
  unfold pr
  by_cases e : j = h
  · subst e
    rw [m_ui_s, if_pos rfl]
    exact nI_clamp (by omega)
  · rw [m_ui_o (by omega), if_neg e]
/-- the edges of the way -/
def EFs (C z s : Nat) (a : Nat → Nat → Int) (u v : Nat → Int) (p0 : Nat → Nat) (U : Nat → Prop) (wy rk : Nat → Nat) : Prop := ∀ h, (h = z ∨ (inC C h ∧ U h)) → (wy h ≤ C ∧ U (wy h)) ∧ u (p0 (wy h)) + v h = a (p0 (wy h)) h ∧ rk (wy h) < (if h = z then s else rk h)
set_option maxRecDepth 100000 in
set_option maxHeartbeats 8000000 in
theorem sag_lp {d L C i z s : Nat} {a : Nat → Nat → Int} {u v : Nat → Int} {p0 wy rk : Nat → Nat} {U : Nat → Prop} {f0 : Nat → Nat → Int32} {g : Nat → Nat → Int64} {R : Option Value → mH → Prop} (hC : C ≤ 48) (hcb : f0 150 8 = nI C) (hi : i < 8) (hz : inC C z) (hzU : ¬ U z) (hsC : s ≤ C) (hD : Dual (i + 1) C a u v) (hV : VNeg C v p0) (hU0 : rk 0 = 0) (hUp : ∀ j, j ≤ C → U j → ¬ p0 j = 0 ∧ (rk j = 0 → j = 0)) (h164 : ∀ j, inC C j → f0 164 j = nI (wy j)) (hEF : EFs C z s a u v p0 U wy rk)
    (H : ∀ f, XI f → (∀ x y, ¬ x = 163 → f x y = f0 x y) → HU (i + 1) C a u v (pr f) → R none (shF L, f, g)) :
    ∀ (k t h : Nat) (x : Int32) (s4 : Option Value) (f : Nat → Nat → Int32), t + k = C + 1 → x = nI t → (if h = z then s else rk h) + t ≤ C → XI f → (∀ x y, ¬ x = 163 → f x y = f0 x y) → h ≤ C → (h = z ∨ U h) → Hole i C (pr f) h → (∀ j, j ≤ C → U j → rk j < (if h = z then s else rk h) → pr f j = p0 j) → (∀ j, inC C j → ¬ j = h → ¬ pr f j = 0 → u (pr f j) + v j = a (pr f j) j) → (∀ j, inC C j → pr f j = 0 → p0 j = 0) → WPe pg_X3_seat none (Run mtab d) R (m_drop pg_X3_seat 43) [some (.ref 150), some (.int (nI (i + 1))), some (.int (nI h)), some (.int x), s4] [] (shF L, f, g)
  | 0, t, h, x, s4, f, ht, hx, hrk, hX, hF, hh, hU, hH, hP, hT, hZ => absurd hrk (by omega)
  | k + 1, t, h, x, s4, f, ht, hx, hrk, hX, hF, hh, hU, hH, hP, hT, hZ => by
    subst hx
    have hcb2 : f 150 8 = nI C := (hF 150 8 (by omega)).trans hcb
    have hch : (nI h).toNatClampNeg = h := nI_clamp (by omega)
    refine at_X3_seat ?_
    conv => whnf
    simp only [hcb2]
    refine ⟨fun q9 => absurd q9 (nI_nlt (by omega) (by omega)), fun q9 => ?_⟩
    conv => whnf
    by_cases e0 : h = 0
    · subst e0
      refine ⟨fun _ => ?_, fun y => absurd (by first | rfl | exact True.intro) y⟩
      conv => whnf
      exact H f hX hF ⟨hD, fun j hj hp => hT j hj (by have := hj.1; omega) hp, fun j hj => ⟨(hV j hj).1, fun y => (hV j hj).2 (hZ j hj y)⟩, Hole_e hH⟩
    · refine ⟨fun y => absurd ((nI_eq (b := 0) (by omega) (by decide)).mp y) e0, fun _ => ?_⟩
      have hhC : inC C h := ⟨by omega, hh⟩
      obtain ⟨⟨w1, w2⟩, w3, w4⟩ := hEF h (hU.imp id (fun y => ⟨hhC, y⟩))
      have nz : ¬ wy h = z := fun y => hzU (by rw [← y]; exact w2)
      have ne : ¬ wy h = h := fun y => by
        rw [y] at w4
        by_cases q : h = z
        · exact nz (y.trans q)
        · rw [if_neg q] at w4
          omega
      have e164 : f 164 h = nI (wy h) := (hF 164 h (by omega)).trans (h164 h hhC)
      have hcw : (nI (wy h)).toNatClampNeg = wy h := nI_clamp (by omega)
      obtain ⟨ep, hp8⟩ := pr_e hX (wy h)
      have epw : pr f (wy h) = p0 (wy h) := hP (wy h) w1 w2 w4
      conv => whnf
      refine ⟨vp_in_nI (by omega) (by decide), ?_⟩
      conv => whnf
      simp only [hch, e164]
      refine ⟨vp_in_nI (by omega) (by decide), ?_⟩
      conv => whnf
      refine ⟨vp_in_nI (by omega) (by decide), ?_⟩
      conv => whnf
      simp only [hch, hcw, ep]
      have eP := pr_ui (f := f) (h := h) hp8
      have rw1 : (if wy h = z then s else rk (wy h)) = rk (wy h) := if_neg nz
      refine sag_lp hC hcb hi hz hzU hsC hD hV hU0 hUp h164 hEF H k (t + 1) (wy h) _ _ (m_ui f 163 h (nI (pr f (wy h)))) (by omega) (nI_1 t) (by rw [rw1]; omega) (XI_ui hX (show inr 0 8 _ from inr_n (m := 8) (by omega) rfl (by decide))) (fun x y h1 => (m_ui_o (fun e => h1 e.1)).trans (hF x y h1)) w1 (Or.inr w2) (by rw [eP]; exact Hole_s hH hh w1 ne) (fun j hj hjU hr => ?_) (fun j hj hn hp => ?_) (fun j hj hp => ?_)
      · rw [rw1] at hr
        rw [eP]
        show (if j = h then pr f (wy h) else pr f j) = p0 j
        rw [if_neg (fun y => by
          rw [y] at hr
          by_cases q : h = z
          · exact hzU (by rw [← q, ← y]; exact hjU)
          · rw [if_neg q] at w4
            omega)]
        exact hP j hj hjU (by omega)
      · rw [eP] at hp ⊢
        have hp' : ¬ (if j = h then pr f (wy h) else pr f j) = 0 := hp
        show u (if j = h then pr f (wy h) else pr f j) + v j = a (if j = h then pr f (wy h) else pr f j) j
        by_cases e : j = h
        · rw [if_pos e, epw, e]
          exact w3
        · rw [if_neg e] at hp' ⊢
          exact hT j hj e hp'
      · rw [eP] at hp
        have hp' : (if j = h then pr f (wy h) else pr f j) = 0 := hp
        by_cases e : j = h
        · rw [if_pos e, epw] at hp'
          exact absurd hp' (hUp (wy h) w1 w2).1
        · rw [if_neg e] at hp'
          exact hZ j hj hp'
theorem shu_ge {p : Nat → Nat} {U : Nat → Prop} {u : Nat → Int} {b : Int} {C k : Nat} (hb : 0 ≤ b) : u k ≤ shu p U u b C k := by
  by_cases h : ∃ j, j ≤ C ∧ U j ∧ p j = k
  · obtain ⟨j, h1, h2, h3⟩ := h
    rw [← h3, shu_y h2 h1]
    omega
  · rw [shu_n h]
    exact Int.le_refl _
set_option maxRecDepth 100000 in
set_option maxHeartbeats 8000000 in
theorem sst_lp {d L C i r : Nat} {a : Nat → Nat → Int} {c0 : Int} {f0 : Nat → Nat → Int32} {g0 : Nat → Nat → Int64} {R : Option Value → mH → Prop} (hd : 4 ≤ d) (hC : C ≤ 48) (hcb : f0 150 8 = nI C) (hi : i < 8) (hiC : i < C) (hr : i + 1 ≤ r) (hr8 : r ≤ 8) (ba : ∀ k j, 1 ≤ k → k ≤ r → inC C j → -1125899906842624 ≤ a k j ∧ a k j ≤ 0) (rW : WOr g0 r C a) (bc : -18014398509481984 ≤ c0 ∧ c0 ≤ 18014398509481984) (H : ∀ f g u v, XI f → (∀ x y, ¬ x = 163 → ¬ x = 164 → ¬ x = 165 → f x y = f0 x y) → (∀ x y, ¬ x = 160 → ¬ x = 161 → ¬ x = 162 → g x y = g0 x y) → HU (i + 1) C a u v (pr f) → RPr g u → CPr g C v → (∀ k, 1 ≤ k → k ≤ i + 1 → -1125899906842624 ≤ u k) → (∀ k, k ≤ 8 → (k = 0 ∨ i + 1 < k) → u k = 0) → v 0 + u (i + 1) = c0 → R none (shF L, f, g)) :
    ∀ (k s z : Nat) (x : Int32) (s4 : Option Value) (f : Nat → Nat → Int32) (g : Nat → Nat → Int64) (u v m : Nat → Int) (wy rk : Nat → Nat), s + k = C + 1 → 1 ≤ s ∧ x = nI s → XI f → (∀ x y, ¬ x = 164 → ¬ x = 165 → f x y = f0 x y) → (∀ x y, ¬ x = 160 → ¬ x = 161 → ¬ x = 162 → g x y = g0 x y) → PHs i C a u v (pr f) (Ur f) wy m → RKs C (Ur f) wy rk s → cntU (Ur f) C = s → inC C z → ¬ Ur f z → m z = 0 → RPr g u → CPr g C v → SLr g C m → (∀ j, inC C j → f 164 j = nI (wy j)) → (∀ k, 1 ≤ k → k ≤ i + 1 → -1125899906842624 ≤ u k) → (∀ j, inC C j → bd (m j)) → (∀ k, k ≤ 8 → (k = 0 ∨ i + 1 < k) → u k = 0) → v 0 + u (i + 1) = c0 → WPe pg_X3_seat none (Run mtab d) R (m_drop pg_X3_seat 26) [some (.ref 150), some (.int (nI (i + 1))), some (.int (nI z)), some (.int x), s4] [] (shF L, f, g)
  | 0, s, z, x, s4, f, g, u, v, m, wy, rk, hk, ⟨hs1, hx⟩, hX, hF, hG, hPH, hRK, hcn, hz, hzU, hm0, rU, rV, rM, h164, lb, bM, hu0, hv0 => by
    have := cntU_lt hzU C hz.2
    omega
  | k + 1, s, z, x, s4, f, g, u, v, m, wy, rk, hk, ⟨hs1, hx⟩, hX, hF, hG, hPH, hRK, hcn, hz, hzU, hm0, rU, rV, rM, h164, lb, bM, hu0, hv0 => by
    subst hx
    have hsC := cntU_lt hzU C hz.2
    rw [hcn] at hsC
    obtain ⟨zz1, zz2⟩ := id hz
    have ba' : ∀ k j, 1 ≤ k → k ≤ i + 1 → inC C j → -1125899906842624 ≤ a k j ∧ a k j ≤ 0 := fun k j h1 h2 hj => ba k j h1 (by omega) hj
    obtain ⟨ub, vb, mb⟩ := PH_bd hPH hiC ba' lb
    obtain ⟨hD, hT, hV, hM, h0, hU0, hUp, hS, hE⟩ := id hPH
    have hcb2 : f 150 8 = nI C := (hF 150 8 (by omega) (by omega)).trans hcb
    have hcz : (nI z).toNatClampNeg = z := nI_clamp (by omega)
    obtain ⟨ep, hp8⟩ := pr_e hX z
    refine at_X3_seat ?_
    conv => whnf
    simp only [hcb2]
    refine ⟨fun q9 => absurd q9 (nI_nlt (by omega) (by omega)), fun q9 => ?_⟩
    conv => whnf
    refine ⟨vp_in_nI (by omega) (by decide), ?_⟩
    conv => whnf
    simp only [hcz, ep]
    by_cases e0 : pr f z = 0
    · rw [e0]
      refine ⟨fun _ => ?_, fun y => absurd (show nI 0 = 0 from rfl) y⟩
      conv => whnf
      refine sag_lp (p0 := pr f) (U := Ur f) (rk := rk) (s := s) (z := z) (u := u) (v := v) (f0 := f) hC hcb2 hi hz hzU hsC hD hV hRK.1 (fun j hj hjU => ⟨hUp j hj hjU, (hRK.2.1 j hj hjU).2⟩) h164 (fun h hh => ?_) (fun f2 x2 k2 hu2 => H f2 g u v x2 (fun x y h1 h2 h3 => (k2 x y h1).trans (hF x y h2 h3)) hG hu2 rU rV lb hu0 hv0) (C + 1) 0 z _ _ f (by omega) rfl (by rw [if_pos rfl]; omega) hX (fun _ _ _ => rfl) hz.2 (Or.inl rfl) (Hole_0 hM h0 hz e0) (fun j hj hjU _ => rfl) (fun j hj _ hp => hT j hj hp) (fun j hj hp => hp)
      rcases hh with q | ⟨q1, q2⟩
      · subst q
        obtain ⟨s1, s2, s3, _⟩ := hS h hz hzU
        refine ⟨s2, by omega, ?_⟩
        rw [if_pos rfl]
        exact (hRK.2.1 (wy h) s2.1 s2.2).1
      · obtain ⟨t1, t2⟩ := hE h q1 q2
        refine ⟨t1, t2, ?_⟩
        rw [if_neg (fun y => hzU (by rw [← y]; exact q2))]
        exact hRK.2.2 h q1 q2
    · obtain ⟨q, hq⟩ : ∃ q, pr f z = q + 1 := ⟨pr f z - 1, by omega⟩
      have hqi : q + 1 ≤ i := by
        have := hM.1 z hz
        omega
      refine ⟨fun y => absurd ((nI_eq (b := 0) (by omega) (by decide)).mp y) e0, fun _ => ?_⟩
      conv => whnf
      have WU : ∀ j, j ≤ C → (fun j => Ur f j ∨ j = z) j → ¬ pr f j = 0 := fun j hj y => by
        rcases y with y | y
        · exact hUp j hj y
        · rw [y]
          exact e0
      have cur0 : ∀ j, inC C j → 0 ≤ a (pr f z) j - u (pr f z) - v j ∧ a (pr f z) j - u (pr f z) - v j ≤ 2 * 1125899906842624 := fun j hj => by
        have a1 := hD (pr f z) j (by omega) (by omega) hj
        have a2 := lb (pr f z) (by omega) (by omega)
        have a3 := (vb j hj).1
        have a4 := (ba (pr f z) j (by omega) (by omega) hj).2
        omega
      have nb : ∀ j, inC C j → ¬ (fun j => Ur f j ∨ j = z) j → 0 ≤ (nwm (fun j => Ur f j ∨ j = z) a u v (pr f) z m) j ∧ (nwm (fun j => Ur f j ∨ j = z) a u v (pr f) z m) j ≤ 2 * 1125899906842624 := fun j hj hn => by
        rw [nwm_n hn]
        have a1 := cur0 j hj
        have a2 := mb j hj (fun y => hn (Or.inl y))
        have a3 := (hS j hj (fun y => hn (Or.inl y))).1
        by_cases y : a (pr f z) j - u (pr f z) - v j < m j
        · rw [if_pos y]
          exact a1
        · rw [if_neg y]
          exact ⟨a3, a2⟩
      obtain ⟨jf, hf, ef⟩ := Mat_free hM hiC
      have fW : ¬ (fun j => Ur f j ∨ j = z) jf := fun y => WU jf hf.2 y ef
      refine sf_reachNext (C := C) (r := q) (z := z) (a := a) (u := u) (v := v) (m := m) (wy := wy) (by omega) hX hC hcb2 (by omega) hz.2 hq rU rV rM (fun j hj => by
          have := rW (q + 1) j (by omega) (by omega) hj
          rw [show 151 + (q + 1) = 152 + q by omega] at this
          rw [hG (152 + q) (j - 1) (by omega) (by omega) (by omega)]
          exact this) h164 (fun k hk => by
          unfold bd
          by_cases y : k = 0 ∨ i + 1 < k
          · rw [hu0 k hk y]
            omega
          · have a1 := lb k (by omega) (by omega)
            have a2 := ub k (by omega) (by omega)
            omega) (fun j hj => by
          unfold bd
          by_cases y : j = 0
          · subst y
            have a1 := lb (i + 1) (by omega) (Nat.le_refl _)
            have a2 := ub (i + 1) (by omega) (Nat.le_refl _)
            omega
          · have a1 := vb j ⟨by omega, hj⟩
            omega) (fun j hj => by
          unfold bd
          have := ba (q + 1) j (by omega) (by omega) hj
          omega) (fun j hj hn => by have := nb j hj hn; omega) (fun j hj => by
          by_cases y : (fun j => Ur f j ∨ j = z) j
          · rw [nwm_y y]
            exact bM j hj
          · have := nb j hj y
            unfold bd
            omega) ⟨jf, hf, fW⟩ (fun j j' h1 h2 h3 h4 h5 => Mat_0 hM h0 h1 h2 (WU j h1 h3) h5) (fun f2 g2 nx x2 k2 eU y2 n1 n2 n3 t1 t2 t3 t4 => ?_)
      conv => whnf
      have eUf : Ur f2 = (fun j => Ur f j ∨ j = z) := funext (fun j => propext (eU j))
      have ep2 : pr f2 = pr f := funext (fun j => by
        unfold pr
        rw [k2 163 j (by omega) (by omega)])
      obtain ⟨P1, P2, P3⟩ := PH_step (W := (fun j => Ur f j ∨ j = z)) hPH hz hzU hm0 e0 (fun j => Iff.rfl) n1 n2 rfl n3
      have lb2 : ∀ k, 1 ≤ k → k ≤ i + 1 → -1125899906842624 ≤ shu (pr f) (fun j => Ur f j ∨ j = z) u ((nwm (fun j => Ur f j ∨ j = z) a u v (pr f) z m) nx) C k := fun k h1 h2 => Int.le_trans (lb k h1 h2) (shu_ge P2)
      obtain ⟨_, _, mb2⟩ := PH_bd P1 hiC ba' lb2
      refine sst_lp hd hC hcb hi hiC hr hr8 ba rW bc H k (s + 1) nx _ _ f2 g2 (shu (pr f) (fun j => Ur f j ∨ j = z) u ((nwm (fun j => Ur f j ∨ j = z) a u v (pr f) z m) nx) C) (shv (fun j => Ur f j ∨ j = z) v ((nwm (fun j => Ur f j ∨ j = z) a u v (pr f) z m) nx)) (shm (fun j => Ur f j ∨ j = z) (nwm (fun j => Ur f j ∨ j = z) a u v (pr f) z m) ((nwm (fun j => Ur f j ∨ j = z) a u v (pr f) z m) nx)) (nwy (fun j => Ur f j ∨ j = z) a u v (pr f) z m wy) (fun j => if j = z then s else rk j) (by omega) ⟨by omega, nI_1 s⟩ x2 (fun x y h1 h2 => (k2 x y h1 h2).trans (hF x y h1 h2)) (fun x y h1 h2 h3 => (t4 x y h1 h2 h3).trans (hG x y h1 h2 h3)) (by rw [eUf, ep2]; exact P1) (by rw [eUf]; exact RK_step hRK hs1 hzU hz.2 (hS z hz hzU).2.1 hU0 (fun j hj hjU => (hE j hj hjU).1) (fun j => Iff.rfl) (fun j hj => nwy_y hj)) (by rw [eUf, cntU_add hzU C hz.2, hcn]) n1 (by rw [eUf]; exact n2) P3 t1 t2 t3 y2 lb2 (fun j hj => ?_) (fun k hk y => ?_) ?_
      · by_cases y : (fun j => Ur f j ∨ j = z) j
        · rw [shm_y y, nwm_y y]
          exact bM j hj
        · have a1 := mb2 j hj y
          have a2 := (P1.2.2.2.2.2.2.2.1 j hj y).1
          unfold bd
          omega
      · rw [shu_n (fun ⟨j, h1, h2, h3⟩ => by
          have a1 := WU j h1 h2
          rcases y with y | y
          · omega
          · by_cases e : j = 0
            · subst e
              omega
            · have := hM.1 j ⟨by omega, h1⟩
              omega)]
        exact hu0 k hk y
      · have e1 : shu (pr f) (fun j => Ur f j ∨ j = z) u ((nwm (fun j => Ur f j ∨ j = z) a u v (pr f) z m) nx) C (i + 1) = u (i + 1) + (nwm (fun j => Ur f j ∨ j = z) a u v (pr f) z m) nx := by
          have := shu_y (p := pr f) (U := (fun j => Ur f j ∨ j = z)) (u := u) (b := (nwm (fun j => Ur f j ∨ j = z) a u v (pr f) z m) nx) (C := C) (j := 0) (Or.inl hU0) (by omega)
          rw [h0] at this
          exact this
        rw [e1, shv_y (Or.inl hU0)]
        omega
theorem HU_congr {i C : Nat} {a : Nat → Nat → Int} {u v : Nat → Int} {p p' : Nat → Nat} (e : ∀ j, inC C j → p' j = p j) (h : HU i C a u v p) : HU i C a u v p' := by
  obtain ⟨hD, hT, hV, h1, h2, h3⟩ := h
  refine ⟨hD, fun j hj hp => ?_, fun j hj => ?_, fun j hj => ?_, fun j j' hj hj' ne hn => ?_, fun k k1 k2 => ?_⟩
  · rw [e j hj] at hp ⊢
    exact hT j hj hp
  · rw [e j hj]
    exact hV j hj
  · rw [e j hj]
    exact h1 j hj
  · rw [e j hj] at hn ⊢
    rw [e j' hj']
    exact h2 j j' hj hj' ne hn
  · obtain ⟨j, hj, ej⟩ := h3 k k1 k2
    exact ⟨j, hj, by rw [e j hj]; exact ej⟩
theorem HU_bd {i C : Nat} {a : Nat → Nat → Int} {u v : Nat → Int} {p : Nat → Nat} (h : HU i C a u v p) (hi : i < C) (ba : ∀ k j, 1 ≤ k → k ≤ i → inC C j → -1125899906842624 ≤ a k j ∧ a k j ≤ 0) : (∀ k, 1 ≤ k → k ≤ i → u k ≤ 0) ∧ ∀ j, inC C j → -1125899906842624 ≤ v j ∧ v j ≤ 0 := by
  obtain ⟨hD, hT, hV, hM⟩ := h
  obtain ⟨jf, hf, ef⟩ := Mat_free hM hi
  have u0 : ∀ k, 1 ≤ k → k ≤ i → u k ≤ 0 := fun k h1 h2 => by
    have a1 := hD k jf h1 h2 hf
    have a2 := (hV jf hf).2 ef
    have a3 := (ba k jf h1 h2 hf).2
    omega
  refine ⟨u0, fun j hj => ⟨?_, (hV j hj).1⟩⟩
  by_cases e : p j = 0
  · have := (hV j hj).2 e
    omega
  · have t := hT j hj e
    have r := hM.1 j hj
    have b1 := u0 (p j) (by omega) (by omega)
    have b2 := (ba (p j) j (by omega) (by omega) hj).1
    omega
theorem cntU_one {W : Nat → Prop} : ∀ C, (∀ j, j ≤ C → (W j ↔ j = 0)) → cntU W C = 1
  | 0, h => @if_pos _ (Classical.propDecidable _) ((h 0 (by omega)).mpr rfl) _ _ _
  | C + 1, h => by
    show cntU W C + @ite _ (W (C + 1)) (Classical.propDecidable _) 1 0 = 1
    rw [cntU_one C (fun j hj => h j (by omega)), @if_neg _ (Classical.propDecidable _) (fun y => absurd ((h (C + 1) (Nat.le_refl _)).mp y) (by omega))]
set_option maxRecDepth 100000 in
theorem scl_lp {d L C i : Nat} {f0 : Nat → Nat → Int32} {g : Nat → Nat → Int64} {R : Option Value → mH → Prop} (hC : C ≤ 48) (hcb : f0 150 8 = nI C) (hi : i < 8) (H : ∀ (f : Nat → Nat → Int32) (s4 : Option Value), XI f → (∀ a b, ¬ a = 165 → ¬ (a = 163 ∧ b = 0) → f a b = f0 a b) → (∀ j, j ≤ C → f 165 j = 0) → f 163 0 = nI (i + 1) → WPe pg_X3_seat none (Run mtab d) R (m_drop pg_X3_seat 26) [some (.ref 150), some (.int (nI (i + 1))), some (.int 0), some (.int 0), s4] [] (shF L, f, g)) :
    ∀ (k t : Nat) (x : Int32) (s3 s4 : Option Value) (f : Nat → Nat → Int32), t + k = C + 1 → x = nI t → XI f → (∀ a b, ¬ a = 165 → f a b = f0 a b) → (∀ j, j < t → f 165 j = 0) → WPe pg_X3_seat none (Run mtab d) R (m_drop pg_X3_seat 6) [some (.ref 150), some (.int (nI (i + 1))), some (.int x), s3, s4] [] (shF L, f, g)
  | 0, t, x, s3, s4, f, ht, hx, hX, hF, hZ => by
    have e : t = C + 1 := by omega
    subst hx
    subst e
    have hcb2 : f 150 8 = nI C := (hF 150 8 (by omega)).trans hcb
    refine at_X3_seat ?_
    conv => whnf
    simp only [hcb2]
    refine ⟨fun q9 => ?_, fun q9 => absurd (nI_lt (by omega) (by omega)) q9⟩
    conv => whnf
    refine ⟨by unfold vp_in; decide, ?_⟩
    conv => whnf
    exact H _ _ (XI_ui hX (show inr 0 8 _ from inr_n (m := 8) (by omega) rfl (by decide))) (fun a b h1 h2 => (m_ui_o h2).trans (hF a b h1)) (fun j hj => (m_ui_o (by omega)).trans (hZ j (by omega))) m_ui_s
  | k + 1, t, x, s3, s4, f, ht, hx, hX, hF, hZ => by
    subst hx
    have hcb2 : f 150 8 = nI C := (hF 150 8 (by omega)).trans hcb
    have hcl : (nI t).toNatClampNeg = t := nI_clamp (by omega)
    refine at_X3_seat ?_
    conv => whnf
    simp only [hcb2]
    refine ⟨fun q9 => absurd q9 (nI_nlt (by omega) (by omega)), fun q9 => ?_⟩
    conv => whnf
    refine ⟨vp_in_nI (by omega) (by decide), ?_⟩
    conv => whnf
    simp only [hcl]
    refine scl_lp hC hcb hi H k (t + 1) _ _ _ _ (by omega) (nI_1 t) (XI_ui hX True.intro) (fun a b h => (m_ui_o (fun e => h e.1)).trans (hF a b h)) (fun j hj => ?_)
    by_cases e : j = t
    · subst e
      rw [m_ui_s]
      rfl
    · rw [m_ui_o (by omega)]
      exact hZ j (by omega)
set_option maxRecDepth 100000 in
set_option maxHeartbeats 4000000 in
theorem sf_seat {d L : Nat} {f : Nat → Nat → Int32} {g : Nat → Nat → Int64} {C i r : Nat} {a : Nat → Nat → Int} {u v : Nat → Int} {R : Option Value → mH → Prop} (hd : 5 ≤ d) (hX : XI f) (hC : C ≤ 48) (hcb : f 150 8 = nI C) (hi : i < 8) (hiC : i < C) (hr : i + 1 ≤ r) (hr8 : r ≤ 8) (ba : ∀ k j, 1 ≤ k → k ≤ r → inC C j → -1125899906842624 ≤ a k j ∧ a k j ≤ 0) (rW : WOr g r C a) (hH : HU i C a u v (pr f)) (lb : ∀ k, 1 ≤ k → k ≤ i → -1125899906842624 ≤ u k) (hu0 : ∀ k, k ≤ 8 → (k = 0 ∨ i < k) → u k = 0) (bc : -18014398509481984 ≤ v 0 ∧ v 0 ≤ 18014398509481984) (rU : RPr g u) (rV : CPr g C v) (H : ∀ f' g' u' v', XI f' → (∀ x y, ¬ x = 163 → ¬ x = 164 → ¬ x = 165 → f' x y = f x y) → (∀ x y, ¬ x = 160 → ¬ x = 161 → ¬ x = 162 → g' x y = g x y) → HU (i + 1) C a u' v' (pr f') → RPr g' u' → CPr g' C v' → (∀ k, 1 ≤ k → k ≤ i + 1 → -1125899906842624 ≤ u' k) → (∀ k, k ≤ 8 → (k = 0 ∨ i + 1 < k) → u' k = 0) → v' 0 + u' (i + 1) = v 0 → R none (shF L, f', g')) : Run mtab d 30 [.ref 150, .int (nI (i + 1))] (shF L, f, g) R := by
  obtain ⟨d, rfl⟩ : ∃ e, d = e + 1 := ⟨d - 1, by omega⟩
  refine go_X3_seat rfl ?_
  conv => whnf
  refine ct_fillF (n := 49) (by omega) rfl (by decide) ?_
  conv => whnf
  refine scl_lp (f0 := f) hC hcb hi (fun f1 s4 x1 k1 z1 p1 => ?_) (C + 1) 0 _ _ _ f (by omega) rfl hX (fun _ _ _ => rfl) (fun j hj => absurd hj (by omega))
  have hcb1 : f1 150 8 = nI C := (k1 150 8 (by omega) (by omega)).trans hcb
  have epr : ∀ j, inC C j → pr f1 j = pr f j := fun j hj => by
    unfold pr
    rw [k1 163 j (by omega) (by have := hj.1; omega)]
  have e0 : pr f1 0 = i + 1 := by
    unfold pr
    rw [p1]
    exact nI_clamp (by omega)
  have hH1 := HU_congr epr hH
  have ba' : ∀ k j, 1 ≤ k → k ≤ i → inC C j → -1125899906842624 ≤ a k j ∧ a k j ≤ 0 := fun k j h1 h2 hj => ba k j h1 (by omega) hj
  obtain ⟨ub, vb⟩ := HU_bd hH hiC ba'
  have wj : ∀ j, j ≤ C → ((fun j => Ur f1 j ∨ j = 0) j ↔ j = 0) := fun j hj => ⟨fun y => y.resolve_left (fun y2 => y2 (z1 j hj)), fun y => Or.inr y⟩
  have nW : ∀ j, inC C j → ¬ (fun j => Ur f1 j ∨ j = 0) j := fun j hj y => by
    have := (wj j hj.2).mp y
    have := hj.1
    omega
  have uI : u (i + 1) = 0 := hu0 (i + 1) (by omega) (Or.inr (by omega))
  have cb : ∀ j, inC C j → -1125899906842624 ≤ a (i + 1) j - v j ∧ a (i + 1) j - v j ≤ 1125899906842624 := fun j hj => by
    have a1 := ba (i + 1) j (by omega) hr hj
    have a2 := vb j hj
    omega
  have nm : ∀ j, inC C j → (nwm (fun j => Ur f1 j ∨ j = 0) a u v (pr f1) 0 (fun _ => 1152921504606846976)) j = a (i + 1) j - v j := fun j hj => by
    have c1 := cb j hj
    rw [nwm_n (nW j hj), e0, uI, if_pos (by omega)]
    omega
  have g0u : RPr (m_fll g 162 49 1152921504606846976) u := fun k hk => by rw [m_fll_n (by omega)]; exact rU k hk
  have g0v : CPr (m_fll g 162 49 1152921504606846976) C v := fun j hj => by rw [m_fll_n (by omega)]; exact rV j hj
  refine at_X3_seat ?_
  conv => whnf
  simp only [hcb1]
  refine ⟨fun q9 => absurd (show nI C < nI 0 from q9) (nI_nlt (by omega) (by omega)), fun q9 => ?_⟩
  conv => whnf
  refine ⟨by unfold vp_in; decide, ?_⟩
  conv => whnf
  simp only [show (0 : Int32).toNatClampNeg = 0 from rfl, p1]
  refine ⟨fun y => absurd ((nI_eq (b := 0) (by omega) (by decide)).mp y) (by omega), fun _ => ?_⟩
  conv => whnf
  have j1 : inC C 1 := ⟨by omega, by omega⟩
  refine sf_reachNext (C := C) (r := i) (z := 0) (a := a) (u := u) (v := v) (m := fun _ => 1152921504606846976) (wy := fun j => (f1 164 j).toNatClampNeg) (by omega) x1 hC hcb1 hi (by omega) e0 g0u g0v (fun j hj => by have := hj.2; rw [m_fll_y (by omega)]; rfl) (fun j hj => by
      have := rW (i + 1) j (by omega) hr hj
      rw [show 151 + (i + 1) = 152 + i by omega] at this
      rw [m_fll_n (by omega)]
      exact this) (fun j hj => by
      obtain ⟨k, hk, e⟩ := inr_nat (n := 48) rfl (xi_164 x1 j)
      rw [e, nI_clamp (by omega)]) (fun k hk => by
      unfold bd
      by_cases y : k = 0 ∨ i < k
      · rw [hu0 k hk y]
        omega
      · have a1 := lb k (by omega) (by omega)
        have a2 := ub k (by omega) (by omega)
        omega) (fun j hj => by
      unfold bd
      by_cases y : j = 0
      · subst y
        omega
      · have := vb j ⟨by omega, hj⟩
        omega) (fun j hj => by
      unfold bd
      have := ba (i + 1) j (by omega) hr hj
      omega) (fun j hj hn => by rw [nm j hj]; have := cb j hj; omega) (fun j hj => by
      rw [nm j hj]
      have := cb j hj
      unfold bd
      omega) ⟨1, j1, nW 1 j1⟩ (fun j j' h1 h2 h3 h4 _ => by
      have a1 := (wj j h1).mp h3
      have a2 := (wj j' h2).mp h4
      omega) (fun f2 g2 nx x2 k2 eU y2 n1 n2 n3 t1 t2 t3 t4 => ?_)
  conv => whnf
  have eUf : Ur f2 = (fun j => Ur f1 j ∨ j = 0) := funext (fun j => propext (eU j))
  have ep2 : pr f2 = pr f1 := funext (fun j => by
    unfold pr
    rw [k2 163 j (by omega) (by omega)])
  have P1 := PH_first (W := (fun j => Ur f1 j ∨ j = 0)) hH1 e0 uI wj n1 (b := (nwm (fun j => Ur f1 j ∨ j = 0) a u v (pr f1) 0 (fun _ => 1152921504606846976)) nx) (nm nx n1).symm (fun j hj => by rw [← nm j hj]; exact n3 j hj (nW j hj))
  have sU : shu (pr f1) (fun j => Ur f1 j ∨ j = 0) u ((nwm (fun j => Ur f1 j ∨ j = 0) a u v (pr f1) 0 (fun _ => 1152921504606846976)) nx) C (i + 1) = (nwm (fun j => Ur f1 j ∨ j = 0) a u v (pr f1) 0 (fun _ => 1152921504606846976)) nx := by
    have := shu_y (p := pr f1) (U := (fun j => Ur f1 j ∨ j = 0)) (u := u) (b := (nwm (fun j => Ur f1 j ∨ j = 0) a u v (pr f1) 0 (fun _ => 1152921504606846976)) nx) (C := C) (j := 0) (Or.inr rfl) (by omega)
    rw [e0, uI] at this
    omega
  have sN : ∀ k, ¬ k = i + 1 → shu (pr f1) (fun j => Ur f1 j ∨ j = 0) u ((nwm (fun j => Ur f1 j ∨ j = 0) a u v (pr f1) 0 (fun _ => 1152921504606846976)) nx) C k = u k := fun k hk => shu_n (fun ⟨j, h1, h2, h3⟩ => by
    have := (wj j h1).mp h2
    subst this
    omega)
  have hny : ∀ j, inC C j → f2 164 j = nI ((fun _ => 0 : Nat → Nat) j) := fun j hj => by
    rw [y2 j hj, nwy_n (nW j hj), e0, uI, if_pos (by have := cb j hj; omega)]
  refine sst_lp (c0 := v 0) (f0 := f2) (g0 := g2) (by omega) hC ((k2 150 8 (by omega) (by omega)).trans hcb1) hi hiC hr hr8 ba (fun k j h1 h2 hj => by
      rw [t4 (151 + k) (j - 1) (by omega) (by omega) (by omega), m_fll_n (by omega)]
      exact rW k j h1 h2 hj) bc (fun f3 g3 u3 v3 x3 k3 q3 h3 r3 s3 l3 o3 w3 => H f3 g3 u3 v3 x3 (fun x y h1 h2 h4 => (k3 x y h1 h2 h4).trans ((k2 x y h2 h4).trans (k1 x y h4 (fun e => h1 e.1)))) (fun x y h1 h2 h4 => (q3 x y h1 h2 h4).trans ((t4 x y h1 h2 h4).trans (m_fll_n h4))) h3 r3 s3 l3 o3 w3) C 1 nx _ _ f2 g2 (shu (pr f1) (fun j => Ur f1 j ∨ j = 0) u ((nwm (fun j => Ur f1 j ∨ j = 0) a u v (pr f1) 0 (fun _ => 1152921504606846976)) nx) C) (shv (fun j => Ur f1 j ∨ j = 0) v ((nwm (fun j => Ur f1 j ∨ j = 0) a u v (pr f1) 0 (fun _ => 1152921504606846976)) nx)) (fun j => a (i + 1) j - v j - (nwm (fun j => Ur f1 j ∨ j = 0) a u v (pr f1) 0 (fun _ => 1152921504606846976)) nx) (fun _ => 0) (fun _ => 0) (by omega) ⟨by omega, rfl⟩ x2 (fun _ _ _ _ => rfl) (fun _ _ _ _ _ => rfl) (by rw [eUf, ep2]; exact P1) (by rw [eUf]; exact RK_first wj) (by rw [eUf]; exact cntU_one C wj) n1 (by rw [eUf]; exact n2) (by show a (i + 1) nx - v nx - (nwm (fun j => Ur f1 j ∨ j = 0) a u v (pr f1) 0 (fun _ => 1152921504606846976)) nx = 0; rw [nm nx n1]; omega) t1 t2 (fun j hj => by rw [t3 j hj, shm_n (nW j hj), nm j hj]) hny (fun k h1 h2 => ?_) (fun j hj => ?_) (fun k hk y => ?_) ?_
  · by_cases e : k = i + 1
    · rw [e, sU, nm nx n1]
      exact (cb nx n1).1
    · rw [sN k e]
      exact lb k h1 (by omega)
  · have a1 := cb j hj
    have a2 := cb nx n1
    rw [nm nx n1]
    unfold bd
    omega
  · rw [sN k (by omega)]
    exact hu0 k hk (by omega)
  · rw [sU, shv_y (Or.inr rfl)]
    omega
theorem Mat_c {i C : Nat} {p : Nat → Nat} (hM : Mat i C p) : ∃ c : Nat → Nat, ∀ k, 1 ≤ k → k ≤ i → inC C (c k) ∧ p (c k) = k := by
  refine ⟨fun k => @dite _ (1 ≤ k ∧ k ≤ i) (Classical.propDecidable _) (fun q => Classical.choose (hM.2.2 k q.1 q.2)) (fun _ => 0), fun k h1 h2 => ?_⟩
  have e : (@dite _ (1 ≤ k ∧ k ≤ i) (Classical.propDecidable _) (fun q => Classical.choose (hM.2.2 k q.1 q.2)) (fun _ => 0) : Nat) = Classical.choose (hM.2.2 k h1 h2) := @dif_pos _ (Classical.propDecidable _) ⟨h1, h2⟩ _ _ _
  show inC C (@dite _ (1 ≤ k ∧ k ≤ i) (Classical.propDecidable _) (fun q => Classical.choose (hM.2.2 k q.1 q.2)) (fun _ => 0)) ∧ p (@dite _ (1 ≤ k ∧ k ≤ i) (Classical.propDecidable _) (fun q => Classical.choose (hM.2.2 k q.1 q.2)) (fun _ => 0)) = k
  rw [e]
  exact Classical.choose_spec (hM.2.2 k h1 h2)
set_option maxRecDepth 100000 in
theorem scf_lp {d L C i q : Nat} {f : Nat → Nat → Int32} {g : Nat → Nat → Int64} {R : Option Value → mH → Prop} (hC : C ≤ 48) (hi : i < 8) (hcb : f 150 8 = nI C) (hq : q < C) (ec : f 163 (q + 1) = nI (i + 1)) (un : ∀ j, 1 ≤ j → j < q + 1 → ¬ f 163 j = nI (i + 1)) (H : R (some (.int (nI q))) (shF L, f, g)) :
    ∀ (k t : Nat) (x : Int32), t + k = q + 1 → 1 ≤ t ∧ x = nI t → WPe pg_X3_columnOf none (Run mtab d) R (m_drop pg_X3_columnOf 2) [some (.ref 150), some (.int (nI i)), some (.int x)] [] (shF L, f, g)
  | 0, t, x, ht, ⟨h1, hx⟩ => by
    have e : t = q + 1 := by omega
    subst hx
    subst e
    have hcl : (nI (q + 1)).toNatClampNeg = q + 1 := nI_clamp (by omega)
    have hE : f 163 (nI (q + 1)).toNatClampNeg = nI i + 1 := by rw [hcl, ec, nI_1]
    refine at_X3_columnOf ?_
    conv => whnf
    simp only [hcb]
    refine ⟨fun q9 => absurd q9 (nI_nlt (by omega) (by omega)), fun q9 => ?_⟩
    conv => whnf
    refine ⟨vp_in_nI (by omega) (by decide), ?_⟩
    conv => whnf
    refine ⟨fun y => absurd hE y, fun _ => ?_⟩
    conv => whnf
    simp only [nI_pred]
    exact H
  | k + 1, t, x, ht, ⟨h1, hx⟩ => by
    subst hx
    have hcl : (nI t).toNatClampNeg = t := nI_clamp (by omega)
    have hE : ¬ f 163 (nI t).toNatClampNeg = nI i + 1 := by
      rw [hcl, nI_1]
      exact un t h1 (by omega)
    refine at_X3_columnOf ?_
    conv => whnf
    simp only [hcb]
    refine ⟨fun q9 => absurd q9 (nI_nlt (by omega) (by omega)), fun q9 => ?_⟩
    conv => whnf
    refine ⟨vp_in_nI (by omega) (by decide), ?_⟩
    conv => whnf
    refine ⟨fun _ => ?_, fun y => absurd y hE⟩
    conv => whnf
    exact scf_lp hC hi hcb hq ec un H k (t + 1) _ (by omega) ⟨by omega, nI_1 t⟩
set_option maxRecDepth 100000 in
set_option maxHeartbeats 4000000 in
theorem sf_columnOf {d L : Nat} {f : Nat → Nat → Int32} {g : Nat → Nat → Int64} {C i q : Nat} {R : Option Value → mH → Prop} (hd : 2 ≤ d) (hX : XI f) (hC : C ≤ 48) (hi : i < 8) (hcb : f 150 8 = nI C) (hq : q < C) (ec : f 163 (q + 1) = nI (i + 1)) (un : ∀ j, 1 ≤ j → j < q + 1 → ¬ f 163 j = nI (i + 1)) (H : R (some (.int (nI q))) (shF L, f, g)) : Run mtab d 29 [.ref 150, .int (nI i)] (shF L, f, g) R := by
  obtain ⟨d, rfl⟩ : ∃ e, d = e + 1 := ⟨d - 1, by omega⟩
  refine go_X3_columnOf rfl ?_
  conv => whnf
  exact scf_lp hC hi hcb hq ec un H q 1 _ (by omega) ⟨by omega, rfl⟩
theorem pr_un {r C i q : Nat} {f : Nat → Nat → Int32} (hX : XI f) (hM : Mat r C (pr f)) (hC : C ≤ 48) (hi : i < 8) (hq : q < C) (e : pr f (q + 1) = i + 1) : f 163 (q + 1) = nI (i + 1) ∧ ∀ j, 1 ≤ j → j < q + 1 → ¬ f 163 j = nI (i + 1) := by
  obtain ⟨ep, _⟩ := pr_e hX (q + 1)
  refine ⟨by rw [ep, e], fun j h1 h2 e3 => ?_⟩
  obtain ⟨ej, hj8⟩ := pr_e hX j
  have e1 : pr f j = i + 1 := (nI_eq (by omega) (by omega)).mp (ej.symm.trans e3)
  exact hM.2.1 j (q + 1) ⟨h1, by omega⟩ ⟨by omega, by omega⟩ (by omega) (by omega) (e1.trans e.symm)
set_option maxRecDepth 100000 in
set_option maxHeartbeats 4000000 in
theorem ssm_lp {d L C r : Nat} {f : Nat → Nat → Int32} {g : Nat → Nat → Int64} {a : Nat → Nat → Int} {c : Nat → Nat} {R : Option Value → mH → Prop} (hd : 3 ≤ d) (hX : XI f) (hC : C ≤ 48) (hr8 : r ≤ 8) (hrb : f 150 7 = nI r) (hcb : f 150 8 = nI C) (hM : Mat r C (pr f)) (hc : ∀ k, 1 ≤ k → k ≤ r → inC C (c k) ∧ pr f (c k) = k) (rW : WOr g r C a) (ba : ∀ k j, 1 ≤ k → k ≤ r → inC C j → -1125899906842624 ≤ a k j ∧ a k j ≤ 0)
    (H : ∀ v : Int64, v.toInt = - sumR (fun k => a k (c k)) r → R (some (.long v)) (shF L, f, g)) :
    ∀ (k i : Nat) (x : Int32) (lw : Int64) (s4 : Option Value), i + k = r → x = nI i → lw.toInt = - sumR (fun k => a k (c k)) i → (0 ≤ lw.toInt ∧ lw.toInt ≤ (i : Int) * 1125899906842624) → WPe pg_X3_solve none (Run mtab d) R (m_drop pg_X3_solve 27) [some (.ref 150), some (.long lw), none, some (.int x), s4] [] (shF L, f, g)
  | 0, i, x, lw, s4, hi, hx, hl, hb => by
    have e : i = r := by omega
    subst hx
    subst e
    refine at_X3_solve ?_
    conv => whnf
    simp only [hrb]
    refine ⟨fun _ => ?_, fun y => absurd (nI_le (Nat.le_refl _) (by omega)) y⟩
    conv => whnf
    exact H lw hl
  | k + 1, i, x, lw, s4, hi, hx, hl, hb => by
    subst hx
    have hcl : (nI i).toNatClampNeg = i := nI_clamp (by omega)
    obtain ⟨c1, c2⟩ := hc (i + 1) (by omega) (by omega)
    obtain ⟨q, hq⟩ : ∃ q, c (i + 1) = q + 1 := ⟨c (i + 1) - 1, by have := c1.1; omega⟩
    have hqC : q < C := by
      have := c1.2
      omega
    obtain ⟨u1, u2⟩ := pr_un (i := i) hX hM hC (by omega) hqC (by rw [← hq, c2])
    have hcq : (nI q).toNatClampNeg = q := nI_clamp (by omega)
    have hrow := row_151 i (by omega)
    have hshp := shp_151 L i (by omega)
    have ew : (g (152 + i) q).toInt = - a (i + 1) (q + 1) := by
      have := rW (i + 1) (q + 1) (by omega) (by omega) ⟨by omega, by omega⟩
      rw [show 151 + (i + 1) = 152 + i by omega, show q + 1 - 1 = q from rfl] at this
      exact this
    have bw := ba (i + 1) (q + 1) (by omega) (by omega) ⟨by omega, by omega⟩
    refine at_X3_solve ?_
    conv => whnf
    simp only [hrb]
    refine ⟨fun y => absurd y (nI_ge (by omega) (by omega)), fun _ => ?_⟩
    conv => whnf
    refine sf_columnOf (C := C) (i := i) (q := q) (by omega) hX hC (by omega) hcb hqC u1 u2 ?_
    conv => whnf
    refine ⟨fun _ => ?_, fun y => absurd (show (0 : Int32) ≤ nI q from nI_le (a := 0) (by omega) (by omega)) y⟩
    conv => whnf
    refine ⟨⟨vp_in_nI (by omega) (by decide), by rw [hcl]; exact (by omega : i < 8), by rw [hcl, hrow]; rfl⟩, ?_⟩
    simp only [hcl, hrow, Option.getD_some]
    conv => whnf
    simp only [m_act_eq, mi, mj, m_act0, m_arr, hshp]
    conv => whnf
    refine ⟨vp_in_nI (by omega) (by decide), ?_⟩
    conv => whnf
    simp only [hcq]
    have es : (lw + g (152 + i) q).toInt = lw.toInt - a (i + 1) (q + 1) := by
      rw [l_add (by rw [ew]; omega) (by rw [ew]; omega), ew]
      omega
    refine ssm_lp hd hX hC hr8 hrb hcb hM hc rW ba H k (i + 1) _ _ _ (by omega) (nI_1 i) ?_ ?_
    · rw [es, hl]
      show _ = - (sumR (fun k => a k (c k)) i + a (i + 1) (c (i + 1)))
      rw [hq]
      omega
    · rw [es]
      omega
set_option maxRecDepth 100000 in
set_option maxHeartbeats 4000000 in
theorem srw_lp {d L C r : Nat} {f0 : Nat → Nat → Int32} {g0 : Nat → Nat → Int64} {a : Nat → Nat → Int} {R : Option Value → mH → Prop} (hd : 5 ≤ d) (hC : C ≤ 48) (hr8 : r ≤ 8) (hrC : r ≤ C) (hrb : f0 150 7 = nI r) (hcb : f0 150 8 = nI C) (ba : ∀ k j, 1 ≤ k → k ≤ r → inC C j → -1125899906842624 ≤ a k j ∧ a k j ≤ 0) (rW : WOr g0 r C a)
    (H : ∀ (x : Int64) (f' : Nat → Nat → Int32) (g' : Nat → Nat → Int64) (u v : Nat → Int) (c : Nat → Nat), XI f' → (∀ x y, ¬ x = 163 → ¬ x = 164 → ¬ x = 165 → f' x y = f0 x y) → (∀ x y, ¬ x = 160 → ¬ x = 161 → ¬ x = 162 → g' x y = g0 x y) → HU r C a u v (pr f') → (∀ k, 1 ≤ k → k ≤ r → inC C (c k) ∧ pr f' (c k) = k) → x.toInt = - sumR (fun k => a k (c k)) r → R (some (.long x)) (shF L, f', g')) :
    ∀ (k i : Nat) (x : Int32) (s2 s3 s4 : Option Value) (f : Nat → Nat → Int32) (g : Nat → Nat → Int64) (u v : Nat → Int), i + k = r → x = nI (i + 1) → XI f → (∀ x y, ¬ x = 163 → ¬ x = 164 → ¬ x = 165 → f x y = f0 x y) → (∀ x y, ¬ x = 160 → ¬ x = 161 → ¬ x = 162 → g x y = g0 x y) → HU i C a u v (pr f) → RPr g u → CPr g C v → (∀ k, 1 ≤ k → k ≤ i → -1125899906842624 ≤ u k) → (∀ k, k ≤ 8 → (k = 0 ∨ i < k) → u k = 0) → ((i < r → 0 ≤ v 0) ∧ v 0 ≤ (i : Int) * 1125899906842624) → WPe pg_X3_solve none (Run mtab d) R (m_drop pg_X3_solve 14) [some (.ref 150), some (.int x), s2, s3, s4] [] (shF L, f, g)
  | 0, i, x, s2, s3, s4, f, g, u, v, hi, hx, hX, hF, hG, hU, rU, rV, lb, hu0, hv0 => by
    have e : i = r := by omega
    subst hx
    subst e
    have hrb2 : f 150 7 = nI i := (hF 150 7 (by omega) (by omega) (by omega)).trans hrb
    have hcb2 : f 150 8 = nI C := (hF 150 8 (by omega) (by omega) (by omega)).trans hcb
    have rW2 : WOr g i C a := fun k j h1 h2 hj => by
      rw [hG (151 + k) (j - 1) (by omega) (by omega) (by omega)]
      exact rW k j h1 h2 hj
    obtain ⟨c, hc⟩ := Mat_c hU.2.2.2
    refine at_X3_solve ?_
    conv => whnf
    simp only [hrb2]
    refine ⟨fun _ => ?_, fun y => absurd (nI_lt (by omega) (by omega)) y⟩
    conv => whnf
    exact ssm_lp (by omega) hX hC hr8 hrb2 hcb2 hU.2.2.2 hc rW2 ba (fun y hy => H y f g u v c hX hF hG hU hc hy) i 0 _ _ _ (by omega) rfl (by rw [show sumR (fun k => a k (c k)) 0 = 0 from rfl]; rfl) ⟨by decide, by decide⟩
  | k + 1, i, x, s2, s3, s4, f, g, u, v, hi, hx, hX, hF, hG, hU, rU, rV, lb, hu0, hv0 => by
    subst hx
    have hrb2 : f 150 7 = nI r := (hF 150 7 (by omega) (by omega) (by omega)).trans hrb
    have hcb2 : f 150 8 = nI C := (hF 150 8 (by omega) (by omega) (by omega)).trans hcb
    have rW2 : WOr g r C a := fun k j h1 h2 hj => by
      rw [hG (151 + k) (j - 1) (by omega) (by omega) (by omega)]
      exact rW k j h1 h2 hj
    have v0 := hv0.1 (by omega)
    have v1 := hv0.2
    refine at_X3_solve ?_
    conv => whnf
    simp only [hrb2]
    refine ⟨fun y => absurd y (nI_nlt (by omega) (by omega)), fun _ => ?_⟩
    conv => whnf
    refine sf_seat (C := C) (i := i) (r := r) (a := a) (u := u) (v := v) (by omega) hX hC hcb2 (by omega) (by omega) (by omega) hr8 ba rW2 hU lb hu0 ⟨by omega, by omega⟩ rU rV (fun f2 g2 u2 v2 x2 k2 q2 h2 r2 c2 l2 o2 e2 => ?_)
    conv => whnf
    refine srw_lp hd hC hr8 hrC hrb hcb ba rW H k (i + 1) _ _ _ _ f2 g2 u2 v2 (by omega) (nI_1 (i + 1)) x2 (fun x y h1 h3 h4 => (k2 x y h1 h3 h4).trans (hF x y h1 h3 h4)) (fun x y h1 h3 h4 => (q2 x y h1 h3 h4).trans (hG x y h1 h3 h4)) h2 r2 c2 l2 o2 ⟨fun hlt => ?_, ?_⟩
    · obtain ⟨ub, _⟩ := HU_bd h2 (by omega) (fun k j h1 h3 hj => ba k j h1 (by omega) hj)
      have := ub (i + 1) (by omega) (Nat.le_refl _)
      omega
    · have := l2 (i + 1) (by omega) (Nat.le_refl _)
      omega
set_option maxRecDepth 100000 in
set_option maxHeartbeats 4000000 in
theorem sf_solve {d L : Nat} {f : Nat → Nat → Int32} {g : Nat → Nat → Int64} {C r : Nat} {a : Nat → Nat → Int} {R : Option Value → mH → Prop} (hd : 6 ≤ d) (hX : XI f) (hC : C ≤ 48) (hr8 : r ≤ 8) (hrC : r ≤ C) (hrb : f 150 7 = nI r) (hcb : f 150 8 = nI C) (ba : ∀ k j, 1 ≤ k → k ≤ r → inC C j → -1125899906842624 ≤ a k j ∧ a k j ≤ 0) (rW : WOr g r C a) (H : ∀ (x : Int64) (f' : Nat → Nat → Int32) (g' : Nat → Nat → Int64) (u v : Nat → Int) (c : Nat → Nat), XI f' → (∀ x y, ¬ x = 163 → ¬ x = 164 → ¬ x = 165 → f' x y = f x y) → (∀ x y, ¬ x = 160 → ¬ x = 161 → ¬ x = 162 → g' x y = g x y) → HU r C a u v (pr f') → (∀ k, 1 ≤ k → k ≤ r → inC C (c k) ∧ pr f' (c k) = k) → x.toInt = - sumR (fun k => a k (c k)) r → R (some (.long x)) (shF L, f', g')) : Run mtab d 28 [.ref 150] (shF L, f, g) R := by
  obtain ⟨d, rfl⟩ : ∃ e, d = e + 1 := ⟨d - 1, by omega⟩
  refine go_X3_solve rfl ?_
  conv => whnf
  refine ct_fillF (n := 9) (by omega) rfl (by decide) ?_
  conv => whnf
  refine ct_fillF (n := 49) (by omega) rfl (by decide) ?_
  conv => whnf
  refine ct_fill (n := 49) (by omega) rfl (by decide) ?_
  conv => whnf
  have hX1 : XI (m_fil f 163 49 0) := XI_fil hX (fun _ => show inr 0 8 0 by unfold inr; decide)
  have p0 : ∀ j, inC C j → pr (m_fil f 163 49 0) j = 0 := fun j hj => by
    unfold pr
    rw [m_fil_ap, if_pos ⟨rfl, by have := hj.2; omega⟩]
    rfl
  refine srw_lp (f0 := f) (g0 := g) (a := a) (by omega) hC hr8 hrC hrb hcb ba rW H r 0 _ _ _ _ _ _ (fun _ => 0) (fun _ => 0) (by omega) rfl hX1 (fun x y h1 _ _ => m_fil_o (fun e => h1 e.1)) (fun x y h1 h2 _ => (m_fll_n h2).trans (m_fll_n h1)) ⟨fun k j h1 h2 _ => absurd h2 (by omega), fun j hj hp => absurd (p0 j hj) hp, fun j hj => ⟨Int.le_refl _, fun _ => rfl⟩, fun j hj => by rw [p0 j hj]; exact Nat.le_refl _, fun j j' hj _ _ hn => absurd (p0 j hj) hn, fun k h1 h2 => absurd h2 (by omega)⟩ (fun k hk => by rw [m_fll_n (by omega), m_fll_y (by omega)]; rfl) (fun j hj => by rw [m_fll_y (by omega)]; rfl) (fun k h1 h2 => absurd h2 (by omega)) (fun _ _ _ => rfl) ⟨fun _ => Int.le_refl _, by show (0 : Int) ≤ _; omega⟩
/-! rows 0 .. r - 1 to works below n (n or more: to none), no work twice -/
def PMt (r n : Nat) (b : Nat → Nat) : Prop := ∀ i j, i < j → j < r → b i < n → ¬ b i = b j
def vl (T : Nat → Nat → Int) (b : Nat → Nat) : Nat → Int
  | 0 => 0
  | r + 1 => vl T b r + T r (b r)
def Z0 (n : Nat) (T : Nat → Nat → Int) : Prop := ∀ i w, n ≤ w → T i w = 0
def Mst (r n : Nat) (T : Nat → Nat → Int) (x : Int) : Prop := (∃ b, PMt r n b ∧ vl T b r = x) ∧ ∀ b, PMt r n b → vl T b r ≤ x
def Opt (r n : Nat) (T : Nat → Nat → Int) (b : Nat → Nat) : Prop := PMt r n b ∧ ∀ b', PMt r n b' → vl T b' r ≤ vl T b r
theorem vl_s (T : Nat → Nat → Int) (b : Nat → Nat) (r : Nat) : vl T b (r + 1) = vl T b r + T r (b r) := rfl
theorem Mst_un {r n : Nat} {T : Nat → Nat → Int} {x y : Int} (h : Mst r n T x) (h' : Mst r n T y) : x = y := by
  obtain ⟨⟨b, p1, e1⟩, m1⟩ := h
  obtain ⟨⟨b', p2, e2⟩, m2⟩ := h'
  have := m1 b' p2
  have := m2 b p1
  omega
theorem Opt_mst {r n : Nat} {T : Nat → Nat → Int} {b : Nat → Nat} (h : Opt r n T b) : Mst r n T (vl T b r) := ⟨⟨b, h.1, rfl⟩, h.2⟩
theorem vl_tail {T T' : Nat → Nat → Int} {b b' : Nat → Nat} {s : Nat} : ∀ r, s ≤ r → (∀ k, s ≤ k → k < r → T k (b k) = T' k (b' k)) → vl T b r - vl T b s = vl T' b' r - vl T' b' s
  | 0, h, _ => by
    have e : s = 0 := by omega
    subst e
    omega
  | r + 1, h, hE => by
    by_cases e : s = r + 1
    · subst e
      omega
    · have a1 := vl_tail (T := T) (T' := T') (b := b) (b' := b') r (by omega) (fun k h1 h2 => hE k h1 (by omega))
      have a2 := hE r (by omega) (by omega)
      rw [vl_s, vl_s]
      omega
theorem vl_congr {T T' : Nat → Nat → Int} {b b' : Nat → Nat} (r : Nat) (h : ∀ k, k < r → T k (b k) = T' k (b' k)) : vl T b r = vl T' b' r := by
  have := vl_tail (s := 0) r (by omega) (fun k _ h2 => h k h2)
  have e1 : vl T b 0 = 0 := rfl
  have e2 : vl T' b' 0 = 0 := rfl
  omega
theorem vl_0 {T : Nat → Nat → Int} {b : Nat → Nat} : ∀ r, (∀ k, k < r → T k (b k) = 0) → vl T b r = 0
  | 0, _ => rfl
  | r + 1, h => by
    rw [vl_s, vl_0 r (fun k hk => h k (by omega)), h r (by omega)]
    rfl
/-- what the class finds is the most -/
theorem solve_opt {r n C : Nat} {a W : Nat → Nat → Int} {u v : Nat → Int} {p c : Nat → Nat} (hC : C = n + r) (hH : HU r C a u v p) (hc : ∀ k, 1 ≤ k → k ≤ r → inC C (c k) ∧ p (c k) = k) (hW : ∀ k j, 1 ≤ k → k ≤ r → inC C j → a k j = - W (k - 1) (j - 1)) (hZ : Z0 n W) :
    Opt r n W (fun i => c (i + 1) - 1) ∧ sumR (fun k => a k (c k)) r = - vl W (fun i => c (i + 1) - 1) r := by
  obtain ⟨hA, hs⟩ := asg_eq hH hc
  have eq : ∀ (c2 : Nat → Nat), (∀ k, 1 ≤ k → k ≤ r → inC C (c2 k)) → ∀ s, s ≤ r → sumR (fun k => a k (c2 k)) s = - vl W (fun i => c2 (i + 1) - 1) s := fun c2 h2 s => by
    induction s with
    | zero => intro _; rfl
    | succ s ih =>
      intro hs2
      have e1 := ih (by omega)
      have e2 := hW (s + 1) (c2 (s + 1)) (by omega) hs2 (h2 (s + 1) (by omega) hs2)
      rw [show s + 1 - 1 = s from rfl] at e2
      show sumR (fun k => a k (c2 k)) s + a (s + 1) (c2 (s + 1)) = - (vl W (fun i => c2 (i + 1) - 1) s + W s (c2 (s + 1) - 1))
      omega
  have eo := eq c hA.1 r (Nat.le_refl _)
  refine ⟨⟨fun i j hij hj hn e => ?_, fun b hb => ?_⟩, eo⟩
  · have a1 := (hA.1 (i + 1) (by omega) (by omega)).1
    have a2 := (hA.1 (j + 1) (by omega) (by omega)).1
    have e' : c (i + 1) - 1 = c (j + 1) - 1 := e
    exact hA.2 (i + 1) (j + 1) (by omega) (by omega) (by omega) (by omega)
  · have hA2 : Asg r C (fun k => (if b (k - 1) < n then b (k - 1) else n + (k - 1)) + 1) := by
      refine ⟨fun k h1 h2 => ?_, fun k k' h1 h2 h3 e => ?_⟩
      · show inC C ((if b (k - 1) < n then b (k - 1) else n + (k - 1)) + 1)
        by_cases q : b (k - 1) < n
        · rw [if_pos q]
          exact ⟨by omega, by omega⟩
        · rw [if_neg q]
          exact ⟨by omega, by omega⟩
      · have e' : (if b (k - 1) < n then b (k - 1) else n + (k - 1)) + 1 = (if b (k' - 1) < n then b (k' - 1) else n + (k' - 1)) + 1 := e
        by_cases q : b (k - 1) < n
        · rw [if_pos q] at e'
          by_cases q' : b (k' - 1) < n
          · rw [if_pos q'] at e'
            exact hb (k - 1) (k' - 1) (by omega) (by omega) q (by omega)
          · rw [if_neg q'] at e'
            omega
        · rw [if_neg q] at e'
          by_cases q' : b (k' - 1) < n
          · rw [if_pos q'] at e'
            omega
          · rw [if_neg q'] at e'
            omega
    have g1 := asg_ge hH hA2
    have g2 := eq _ hA2.1 r (Nat.le_refl _)
    have g3 : vl W b r = vl W (fun i => ((if b (i + 1 - 1) < n then b (i + 1 - 1) else n + (i + 1 - 1)) + 1) - 1) r := vl_congr r (fun k hk => by
      show W k (b k) = W k (((if b (k + 1 - 1) < n then b (k + 1 - 1) else n + (k + 1 - 1)) + 1) - 1)
      rw [show k + 1 - 1 = k from rfl]
      by_cases q : b k < n
      · rw [if_pos q]
        rfl
      · rw [if_neg q, hZ k (b k) (by omega), hZ k _ (by omega)])
    rw [g3]
    have g2' : sumR (fun k => a k ((if b (k - 1) < n then b (k - 1) else n + (k - 1)) + 1)) r = - vl W (fun i => ((if b (i + 1 - 1) < n then b (i + 1 - 1) else n + (i + 1 - 1)) + 1) - 1) r := g2
    have g1' : sumR u r + sumC v C ≤ sumR (fun k => a k ((if b (k - 1) < n then b (k - 1) else n + (k - 1)) + 1)) r := g1
    omega
/-! worths: scores, then digits -/
def P41 (s : Nat) : Int := (41 : Int) ^ (8 - s)
theorem P41_s {s : Nat} (h : s < 8) : P41 s = 41 * P41 (s + 1) := by
  unfold P41
  rw [show 8 - s = (8 - (s + 1)) + 1 by omega, Int.pow_succ]
  omega
theorem P41_pos (s : Nat) : 1 ≤ P41 s := by
  unfold P41
  have := Int.pow_pos (n := 41) (m := 8 - s) (by decide)
  omega
def DG (n : Nat) (S : Nat → Nat → Int) (i w : Nat) : Int := if w < n ∧ 0 < S i w then 40 - (w : Int) else 0
def wt (n : Nat) (S : Nat → Nat → Int) (i w : Nat) : Int := 7984925229121 * S i w + DG n S i w * P41 (i + 1)
theorem DG_b {n i w : Nat} {S : Nat → Nat → Int} (hn : n ≤ 40) : 0 ≤ DG n S i w ∧ DG n S i w ≤ 40 := by
  unfold DG
  by_cases q : w < n ∧ 0 < S i w
  · rw [if_pos q]
    have := q.1
    omega
  · rw [if_neg q]
    omega
theorem wt_vl {n : Nat} {S : Nat → Nat → Int} {b : Nat → Nat} : ∀ r, vl (wt n S) b r = 7984925229121 * vl S b r + vl (fun i w => DG n S i w * P41 (i + 1)) b r
  | 0 => rfl
  | r + 1 => by
    rw [vl_s, vl_s, vl_s, wt_vl r]
    show _ + (7984925229121 * S r (b r) + DG n S r (b r) * P41 (r + 1)) = _ + (_ + DG n S r (b r) * P41 (r + 1))
    omega
theorem dg_le {n : Nat} {S : Nat → Nat → Int} {b : Nat → Nat} (hn : n ≤ 40) {s : Nat} : ∀ r, s ≤ r → r ≤ 8 → 0 ≤ vl (fun i w => DG n S i w * P41 (i + 1)) b r - vl (fun i w => DG n S i w * P41 (i + 1)) b s ∧ vl (fun i w => DG n S i w * P41 (i + 1)) b r - vl (fun i w => DG n S i w * P41 (i + 1)) b s ≤ P41 s - P41 r
  | 0, h, _ => by
    have e : s = 0 := by omega
    subst e
    omega
  | r + 1, h, h8 => by
    by_cases e : s = r + 1
    · subst e
      omega
    · have a1 := dg_le (S := S) (b := b) hn (s := s) r (by omega) (by omega)
      have a2 := DG_b (n := n) (i := r) (w := b r) (S := S) hn
      have a3 := P41_pos (r + 1)
      have a4 := P41_s (s := r) (by omega)
      have a5 : 0 ≤ DG n S r (b r) * P41 (r + 1) := Int.mul_nonneg a2.1 (by omega)
      have a6 : DG n S r (b r) * P41 (r + 1) ≤ 40 * P41 (r + 1) := Int.mul_le_mul_of_nonneg_right a2.2 (by omega)
      rw [vl_s]
      show 0 ≤ _ + DG n S r (b r) * P41 (r + 1) - _ ∧ _ + DG n S r (b r) * P41 (r + 1) - _ ≤ _
      omega
theorem dg_all {n r : Nat} {S : Nat → Nat → Int} {b : Nat → Nat} (hn : n ≤ 40) (hr : r ≤ 8) : 0 ≤ vl (fun i w => DG n S i w * P41 (i + 1)) b r ∧ vl (fun i w => DG n S i w * P41 (i + 1)) b r < 7984925229121 := by
  have a := dg_le (S := S) (b := b) hn (s := 0) r (by omega) hr
  have e : P41 0 = 7984925229121 := rfl
  have p := P41_pos r
  have z : vl (fun i w => DG n S i w * P41 (i + 1)) b 0 = 0 := rfl
  omega
/-- the most by worths is the most by scores -/
theorem wt_opt {n r : Nat} {S : Nat → Nat → Int} {b : Nat → Nat} (hn : n ≤ 40) (hr : r ≤ 8) (h : Opt r n (wt n S) b) : Opt r n S b := by
  refine ⟨h.1, fun b' hb => ?_⟩
  have a := h.2 b' hb
  rw [wt_vl, wt_vl] at a
  have d1 := dg_all (S := S) (b := b) hn hr
  have d2 := dg_all (S := S) (b := b') hn hr
  omega
/-- of like scores the first row's least work, then the second's -/
theorem wt_lex {n r s : Nat} {S : Nat → Nat → Int} {b b' : Nat → Nat} (hn : n ≤ 40) (hr : r ≤ 8) (h : Opt r n (wt n S) b) (hb : PMt r n b') (hs : s < r) (eS : vl S b' r = vl S b r) (eD : ∀ i, i < s → DG n S i (b' i) = DG n S i (b i)) : DG n S s (b' s) ≤ DG n S s (b s) := by
  apply Classical.byContradiction
  intro no
  have a := h.2 b' hb
  rw [wt_vl, wt_vl, eS] at a
  have e0 : vl (fun i w => DG n S i w * P41 (i + 1)) b' s = vl (fun i w => DG n S i w * P41 (i + 1)) b s := vl_congr s (fun k hk => by
    show DG n S k (b' k) * P41 (k + 1) = DG n S k (b k) * P41 (k + 1)
    rw [eD k hk])
  have d1 := dg_le (S := S) (b := b') hn (s := s + 1) r (by omega) hr
  have d2 := dg_le (S := S) (b := b) hn (s := s + 1) r (by omega) hr
  have pr_ := P41_pos r
  have p := P41_pos (s + 1)
  have s1 : vl (fun i w => DG n S i w * P41 (i + 1)) b' (s + 1) = vl (fun i w => DG n S i w * P41 (i + 1)) b' s + DG n S s (b' s) * P41 (s + 1) := rfl
  have s2 : vl (fun i w => DG n S i w * P41 (i + 1)) b (s + 1) = vl (fun i w => DG n S i w * P41 (i + 1)) b s + DG n S s (b s) * P41 (s + 1) := rfl
  have m : (DG n S s (b s) + 1) * P41 (s + 1) ≤ DG n S s (b' s) * P41 (s + 1) := Int.mul_le_mul_of_nonneg_right (by omega) (by omega)
  rw [Int.add_mul] at m
  omega
/-! the greedy way -/
/-- rows below i and the works that they are joined to are out -/
noncomputable def tb (S : Nat → Nat → Int) (b : Nat → Nat) (i : Nat) : Nat → Nat → Int := fun k w => @ite _ (k < i ∨ ∃ q, q < i ∧ 0 < S q (b q) ∧ b q = w) (Classical.propDecidable _) 0 (S k w)
noncomputable def tko (T : Nat → Nat → Int) (i : Nat) (w : Nat) : Nat → Nat → Int := fun k v => if k = i ∨ v = w then 0 else T k v
theorem tb_y {S : Nat → Nat → Int} {b : Nat → Nat} {i k w : Nat} (h : k < i ∨ ∃ q, q < i ∧ 0 < S q (b q) ∧ b q = w) : tb S b i k w = 0 := @if_pos _ (Classical.propDecidable _) h _ _ _
theorem tb_n {S : Nat → Nat → Int} {b : Nat → Nat} {i k w : Nat} (h : ¬ (k < i ∨ ∃ q, q < i ∧ 0 < S q (b q) ∧ b q = w)) : tb S b i k w = S k w := @if_neg _ (Classical.propDecidable _) h _ _ _
theorem tb_ge {S : Nat → Nat → Int} {b : Nat → Nat} {i k w : Nat} (hS : ∀ i w, 0 ≤ S i w) : 0 ≤ tb S b i k w ∧ tb S b i k w ≤ S k w := by
  have h := hS k w
  by_cases q : k < i ∨ ∃ q, q < i ∧ 0 < S q (b q) ∧ b q = w
  · rw [tb_y q]
    omega
  · rw [tb_n q]
    omega
theorem tb_pos {S : Nat → Nat → Int} {b : Nat → Nat} {i k w : Nat} (h : 0 < tb S b i k w) : ¬ k < i ∧ (∀ q, q < i → 0 < S q (b q) → ¬ b q = w) ∧ tb S b i k w = S k w := by
  by_cases q : k < i ∨ ∃ q, q < i ∧ 0 < S q (b q) ∧ b q = w
  · rw [tb_y q] at h
    omega
  · exact ⟨fun y => q (Or.inl y), fun x h1 h2 h3 => q (Or.inr ⟨x, h1, h2, h3⟩), tb_n q⟩
/-- b below i, w for i, then b' -/
noncomputable def cmb (S T : Nat → Nat → Int) (n i w : Nat) (b b' : Nat → Nat) : Nat → Nat := fun k => if k < i then (if 0 < S k (b k) then b k else n) else if k = i then w else (if 0 < T k (b' k) then b' k else n)
theorem cmb_lt {S T : Nat → Nat → Int} {n i w k : Nat} {b b' : Nat → Nat} (h : k < i) : cmb S T n i w b b' k = if 0 < S k (b k) then b k else n := if_pos h
theorem cmb_eq {S T : Nat → Nat → Int} {n i w : Nat} {b b' : Nat → Nat} : cmb S T n i w b b' i = w := by
  unfold cmb
  rw [if_neg (by omega), if_pos rfl]
theorem cmb_gt {S T : Nat → Nat → Int} {n i w k : Nat} {b b' : Nat → Nat} (h : i < k) : cmb S T n i w b b' k = if 0 < T k (b' k) then b' k else n := by
  unfold cmb
  rw [if_neg (by omega), if_neg (by omega)]
theorem cmb_all {r n i w : Nat} {S : Nat → Nat → Int} {b b' : Nat → Nat} (hS : ∀ i w, 0 ≤ S i w) (hZ : Z0 n S) (hb : PMt r n b) (hb' : PMt r n b') (hi : i < r) (hw : 0 < tb S b i i w) :
    PMt r n (cmb S (tko (tb S b i) i w) n i w b b') ∧ vl S (cmb S (tko (tb S b i) i w) n i w b b') r = vl S b i + S i w + vl (tko (tb S b i) i w) b' r := by
  obtain ⟨_, w2, w3⟩ := tb_pos hw
  have tp : ∀ k v, 0 < tko (tb S b i) i w k v → ¬ k = i ∧ ¬ v = w ∧ 0 < tb S b i k v ∧ tko (tb S b i) i w k v = tb S b i k v := fun k v h => by
    have h' : 0 < (if k = i ∨ v = w then 0 else tb S b i k v) := h
    by_cases q : k = i ∨ v = w
    · rw [if_pos q] at h'
      omega
    · rw [if_neg q] at h'
      exact ⟨fun y => q (Or.inl y), fun y => q (Or.inr y), h', if_neg q⟩
  refine ⟨fun k l hkl hl hkn e => ?_, ?_⟩
  · by_cases k1 : k < i
    · rw [cmb_lt k1] at hkn e
      by_cases j1 : 0 < S k (b k)
      · rw [if_pos j1] at hkn e
        by_cases l1 : l < i
        · rw [cmb_lt l1] at e
          by_cases j2 : 0 < S l (b l)
          · rw [if_pos j2] at e
            exact hb k l hkl hl hkn e
          · rw [if_neg j2] at e
            omega
        · by_cases l2 : l = i
          · subst l2
            rw [cmb_eq] at e
            exact w2 k k1 j1 e
          · rw [cmb_gt (by omega)] at e
            by_cases j2 : 0 < tko (tb S b i) i w l (b' l)
            · rw [if_pos j2] at e
              obtain ⟨_, _, t3, _⟩ := tp _ _ j2
              exact (tb_pos t3).2.1 k k1 j1 e
            · rw [if_neg j2] at e
              omega
      · rw [if_neg j1] at hkn
        omega
    · by_cases k2 : k = i
      · subst k2
        rw [cmb_eq] at hkn e
        rw [cmb_gt hkl] at e
        by_cases j2 : 0 < tko (tb S b k) k w l (b' l)
        · rw [if_pos j2] at e
          exact (tp _ _ j2).2.1 e.symm
        · rw [if_neg j2] at e
          omega
      · rw [cmb_gt (by omega)] at hkn e
        rw [cmb_gt (by omega)] at e
        by_cases j1 : 0 < tko (tb S b i) i w k (b' k)
        · rw [if_pos j1] at hkn e
          by_cases j2 : 0 < tko (tb S b i) i w l (b' l)
          · rw [if_pos j2] at e
            exact hb' k l hkl hl hkn e
          · rw [if_neg j2] at e
            omega
        · rw [if_neg j1] at hkn
          omega
  · have v1 : vl S (cmb S (tko (tb S b i) i w) n i w b b') i = vl S b i := vl_congr i (fun k hk => by
      rw [cmb_lt hk]
      by_cases j : 0 < S k (b k)
      · rw [if_pos j]
      · rw [if_neg j, hZ k n (Nat.le_refl _)]
        have := hS k (b k)
        omega)
    have v2 : vl (tko (tb S b i) i w) b' (i + 1) = 0 := vl_0 (i + 1) (fun k hk => by
      show (if k = i ∨ b' k = w then 0 else tb S b i k (b' k)) = 0
      by_cases q : k = i ∨ b' k = w
      · rw [if_pos q]
      · rw [if_neg q]
        exact tb_y (Or.inl (by omega)))
    have v3 := vl_tail (T := S) (T' := tko (tb S b i) i w) (b := cmb S (tko (tb S b i) i w) n i w b b') (b' := b') (s := i + 1) r (by omega) (fun k h1 h2 => by
      rw [cmb_gt (by omega)]
      by_cases j : 0 < tko (tb S b i) i w k (b' k)
      · rw [if_pos j]
        obtain ⟨_, _, t3, t4⟩ := tp _ _ j
        rw [t4, (tb_pos t3).2.2]
      · rw [if_neg j, hZ k n (Nat.le_refl _)]
        have : 0 ≤ tko (tb S b i) i w k (b' k) := by
          show 0 ≤ (if k = i ∨ b' k = w then 0 else tb S b i k (b' k))
          by_cases q : k = i ∨ b' k = w
          · rw [if_pos q]
            omega
          · rw [if_neg q]
            exact (tb_ge hS).1
        omega)
    have v4 : vl S (cmb S (tko (tb S b i) i w) n i w b b') (i + 1) = vl S (cmb S (tko (tb S b i) i w) n i w b b') i + S i w := by
      rw [vl_s, cmb_eq]
    omega
/-- a work that can be joined is none before the best one's -/
theorem greedy_1 {r n i w : Nat} {S : Nat → Nat → Int} {b : Nat → Nat} {x : Int} (hn : n ≤ 40) (hr : r ≤ 8) (hS : ∀ i w, 0 ≤ S i w) (hZ : Z0 n S) (h : Opt r n (wt n S) b) (hi : i < r) (hw : 0 < tb S b i i w) (hx : Mst r n (tko (tb S b i) i w) x) (e : S i w + x = vl S b r - vl S b i) : 0 < S i (b i) ∧ b i ≤ w := by
  obtain ⟨⟨b', hb', e'⟩, _⟩ := hx
  obtain ⟨c1, c2⟩ := cmb_all hS hZ h.1 hb' hi hw
  obtain ⟨_, _, w3⟩ := tb_pos hw
  have lx := wt_lex hn hr h c1 hi (by omega) (fun k hk => by
    rw [cmb_lt hk]
    by_cases j : 0 < S k (b k)
    · rw [if_pos j]
    · rw [if_neg j]
      unfold DG
      rw [if_neg (fun y => absurd y.1 (by omega)), if_neg (fun y => j y.2)])
  rw [cmb_eq] at lx
  have wn : w < n := Nat.lt_of_not_le (fun y => by
    have := hZ i w y
    omega)
  unfold DG at lx
  rw [if_pos ⟨wn, by omega⟩] at lx
  by_cases q : b i < n ∧ 0 < S i (b i)
  · rw [if_pos q] at lx
    exact ⟨q.2, by omega⟩
  · rw [if_neg q] at lx
    omega
/-- the best one's own can be joined -/
theorem greedy_2 {r n i : Nat} {S : Nat → Nat → Int} {b : Nat → Nat} {x : Int} (hn : n ≤ 40) (hr : r ≤ 8) (hS : ∀ i w, 0 ≤ S i w) (hZ : Z0 n S) (h : Opt r n (wt n S) b) (hi : i < r) (hj : 0 < S i (b i)) (hx : Mst r n (tko (tb S b i) i (b i)) x) : S i (b i) + x = vl S b r - vl S b i := by
  have hb := wt_opt hn hr h
  have bn : b i < n := Nat.lt_of_not_le (fun y => by
    have := hZ i (b i) y
    omega)
  have hw : 0 < tb S b i i (b i) := by
    rw [tb_n (fun y => y.elim (fun z => absurd z (by omega)) (fun ⟨q, h1, h2, h3⟩ => h.1 q i h1 hi (by omega) h3))]
    exact hj
  obtain ⟨⟨b', hb', e'⟩, m⟩ := hx
  obtain ⟨c1, c2⟩ := cmb_all hS hZ h.1 hb' hi hw
  have le1 := hb.2 _ c1
  have le2 := m b h.1
  have v2 : vl (tko (tb S b i) i (b i)) b (i + 1) = 0 := vl_0 (i + 1) (fun k hk => by
    show (if k = i ∨ b k = b i then 0 else tb S b i k (b k)) = 0
    by_cases q : k = i ∨ b k = b i
    · rw [if_pos q]
    · rw [if_neg q]
      exact tb_y (Or.inl (by omega)))
  have v3 := vl_tail (T := S) (T' := tko (tb S b i) i (b i)) (b := b) (b' := b) (s := i + 1) r (by omega) (fun k h1 h2 => by
    show S k (b k) = (if k = i ∨ b k = b i then 0 else tb S b i k (b k))
    by_cases q : k = i ∨ b k = b i
    · exact absurd (q.resolve_left (by omega)).symm (h.1 i k (by omega) h2 bn)
    · rw [if_neg q]
      by_cases j : 0 < S k (b k)
      · rw [tb_n (fun y => y.elim (fun z => absurd z (by omega)) (fun ⟨q, h3, h4, h5⟩ => h.1 q k (by omega) h2 (Nat.lt_of_not_le (fun y => by
          have := hZ q (b q) y
          omega)) h5))]
      · have := hS k (b k)
        have := tb_ge (S := S) (b := b) (i := i) (k := k) (w := b k) hS
        omega)
  have v4 : vl S b (i + 1) = vl S b i + S i (b i) := rfl
  omega
/-- the tables go on alike -/
theorem tb_s {n i : Nat} {S : Nat → Nat → Int} {b : Nat → Nat} : (0 < S i (b i) → ∀ k w, tko (tb S b i) i (b i) k w = tb S b (i + 1) k w) ∧ (¬ 0 < S i (b i) → ∀ k w, (if k = i then 0 else tb S b i k w) = tb S b (i + 1) k w) := by
  refine ⟨fun hj k w => ?_, fun hj k w => ?_⟩
  · show (if k = i ∨ w = b i then 0 else tb S b i k w) = tb S b (i + 1) k w
    by_cases q : k = i ∨ w = b i
    · rw [if_pos q, tb_y (i := i + 1) (q.elim (fun y => Or.inl (by omega)) (fun y => Or.inr ⟨i, by omega, hj, y.symm⟩))]
    · rw [if_neg q]
      by_cases p : k < i ∨ ∃ q, q < i ∧ 0 < S q (b q) ∧ b q = w
      · rw [tb_y p, tb_y (i := i + 1) (p.elim (fun y => Or.inl (by omega)) (fun ⟨x, h1, h2⟩ => Or.inr ⟨x, by omega, h2⟩))]
      · rw [tb_n p, tb_n (i := i + 1) (fun y => y.elim (fun z => p (Or.inl (by omega))) (fun ⟨x, h1, h2, h3⟩ => by
          by_cases e : x = i
          · subst e
            exact q (Or.inr h3.symm)
          · exact p (Or.inr ⟨x, by omega, h2, h3⟩)))]
  · by_cases q : k = i
    · rw [if_pos q, tb_y (i := i + 1) (Or.inl (by omega))]
    · rw [if_neg q]
      by_cases p : k < i ∨ ∃ q, q < i ∧ 0 < S q (b q) ∧ b q = w
      · rw [tb_y p, tb_y (i := i + 1) (p.elim (fun y => Or.inl (by omega)) (fun ⟨x, h1, h2⟩ => Or.inr ⟨x, by omega, h2⟩))]
      · rw [tb_n p, tb_n (i := i + 1) (fun y => y.elim (fun z => p (Or.inl (by omega))) (fun ⟨x, h1, h2, h3⟩ => by
          by_cases e : x = i
          · subst e
            exact hj h2
          · exact p (Or.inr ⟨x, by omega, h2, h3⟩)))]
theorem tb_0 {S : Nat → Nat → Int} {b : Nat → Nat} (k w : Nat) : tb S b 0 k w = S k w := tb_n (fun y => y.elim (fun z => absurd z (by omega)) (fun ⟨x, h1, _⟩ => absurd h1 (by omega)))
theorem l_mul {x y : Int64} (h1 : -9223372036854775808 ≤ x.toInt * y.toInt) (h2 : x.toInt * y.toInt ≤ 9223372036854775807) : (x * y).toInt = x.toInt * y.toInt := by
  rw [Int64.toInt_mul]
  exact Int.bmod_eq_of_le (by omega) (by omega)
/-! the mentions of an event: how many (8 at most), which -/
def gr (E : Nat → Int32) (e : Int32) : Nat → Nat
  | 0 => 0
  | m + 1 => if gr E e m < 8 ∧ E m = e then gr E e m + 1 else gr E e m
def gl (E : Nat → Int32) (e : Int32) : Nat → Nat → Nat
  | 0, _ => 0
  | m + 1, i => if (gr E e m < 8 ∧ E m = e) ∧ i = gr E e m then m else gl E e m i
theorem gr_y {E : Nat → Int32} {e : Int32} {m : Nat} (h : gr E e m < 8) (h2 : E m = e) : gr E e (m + 1) = gr E e m + 1 := if_pos ⟨h, h2⟩
theorem gr_n {E : Nat → Int32} {e : Int32} {m : Nat} (h : ¬ (gr E e m < 8 ∧ E m = e)) : gr E e (m + 1) = gr E e m := if_neg h
theorem gl_y {E : Nat → Int32} {e : Int32} {m i : Nat} (h : gr E e m < 8) (h2 : E m = e) (h3 : i = gr E e m) : gl E e (m + 1) i = m := if_pos ⟨⟨h, h2⟩, h3⟩
theorem gl_n {E : Nat → Int32} {e : Int32} {m i : Nat} (h : ¬ ((gr E e m < 8 ∧ E m = e) ∧ i = gr E e m)) : gl E e (m + 1) i = gl E e m i := if_neg h
theorem gr_le (E : Nat → Int32) (e : Int32) : ∀ m, gr E e m ≤ 8
  | 0 => by
    show (0 : Nat) ≤ 8
    omega
  | m + 1 => by
    have h := gr_le E e m
    by_cases q : gr E e m < 8 ∧ E m = e
    · rw [gr_y q.1 q.2]
      have := q.1
      omega
    · rw [gr_n q]
      exact h
theorem gr_stop {E : Nat → Int32} {e : Int32} {i : Nat} (h : gr E e i = 8) : ∀ m, i ≤ m → gr E e m = 8 ∧ ∀ q, gl E e m q = gl E e i q
  | 0, hi => by
    have e0 : i = 0 := by omega
    subst e0
    exact ⟨h, fun _ => rfl⟩
  | m + 1, hi => by
    by_cases e0 : i = m + 1
    · subst e0
      exact ⟨h, fun _ => rfl⟩
    · obtain ⟨a1, a2⟩ := gr_stop h m (by omega)
      refine ⟨?_, fun q => ?_⟩
      · rw [gr_n (fun z => absurd z.1 (by omega))]
        exact a1
      · rw [gl_n (fun z => absurd z.1.1 (by omega))]
        exact a2 q
/-- each is one of that event, they rise, and all are there (or 8 before it) -/
theorem gl_all {E : Nat → Int32} {e : Int32} : ∀ m, (∀ i, i < gr E e m → gl E e m i < m ∧ E (gl E e m i) = e) ∧ (∀ i j, i < j → j < gr E e m → gl E e m i < gl E e m j) ∧ ∀ k, k < m → E k = e → (∃ i, i < gr E e m ∧ gl E e m i = k) ∨ (gr E e m = 8 ∧ ∀ i, i < 8 → gl E e m i < k)
  | 0 => ⟨fun i h => absurd h (Nat.not_lt_zero _), fun i j _ h => absurd h (Nat.not_lt_zero _), fun k h => absurd h (Nat.not_lt_zero _)⟩
  | m + 1 => by
    obtain ⟨a1, a2, a3⟩ := gl_all (E := E) (e := e) m
    by_cases q : gr E e m < 8 ∧ E m = e
    · have er := gr_y q.1 q.2
      have lo : ∀ i, i < gr E e m → gl E e (m + 1) i = gl E e m i := fun i hi => gl_n (fun z => absurd z.2 (by omega))
      have hi_ : gl E e (m + 1) (gr E e m) = m := gl_y q.1 q.2 rfl
      rw [er]
      refine ⟨fun i hi => ?_, fun i j hij hj => ?_, fun k hk ek => ?_⟩
      · by_cases z : i = gr E e m
        · rw [z, hi_]
          exact ⟨by omega, q.2⟩
        · rw [lo i (by omega)]
          have := a1 i (by omega)
          exact ⟨by omega, this.2⟩
      · by_cases z : j = gr E e m
        · rw [z, hi_, lo i (by omega)]
          exact (a1 i (by omega)).1
        · rw [lo i (by omega), lo j (by omega)]
          exact a2 i j hij (by omega)
      · by_cases z : k = m
        · exact Or.inl ⟨gr E e m, by omega, by rw [hi_, z]⟩
        · rcases a3 k (by omega) ek with ⟨i, h1, h2⟩ | ⟨h1, h2⟩
          · exact Or.inl ⟨i, by omega, by rw [lo i h1]; exact h2⟩
          · exact absurd q.1 (by omega)
    · have er := gr_n q
      have lo : ∀ i, gl E e (m + 1) i = gl E e m i := fun i => gl_n (fun z => q z.1)
      rw [er]
      refine ⟨fun i hi => ?_, fun i j hij hj => ?_, fun k hk ek => ?_⟩
      · rw [lo i]
        have := a1 i hi
        exact ⟨by omega, this.2⟩
      · rw [lo i, lo j]
        exact a2 i j hij hj
      · by_cases z : k = m
        · have h8 : gr E e m = 8 := by
            have := gr_le E e m
            apply Classical.byContradiction
            intro ne
            exact q ⟨by omega, by rw [← z]; exact ek⟩
          refine Or.inr ⟨h8, fun i hi => ?_⟩
          rw [lo i, z]
          exact (a1 i (by omega)).1
        · rcases a3 k (by omega) ek with ⟨i, h1, h2⟩ | ⟨h1, h2⟩
          · exact Or.inl ⟨i, h1, by rw [lo i]; exact h2⟩
          · exact Or.inr ⟨h1, fun i hi => by rw [lo i]; exact h2 i hi⟩
set_option maxRecDepth 100000 in
set_option maxHeartbeats 4000000 in
theorem sgt_lp {d L m : Nat} {f0 : Nat → Nat → Int32} {g : Nat → Nat → Int64} {w : Int32} {R : Option Value → mH → Prop} (hm : m ≤ 50) (h0 : f0 139 13 = nI m) (H : ∀ f, XI f → (∀ a i, ¬ a = 166 → ¬ (a = 150 ∧ i = 7) → f a i = f0 a i) → f 150 7 = nI (gr (f0 141) w m) → (∀ q, q < gr (f0 141) w m → f 166 q = nI (gl (f0 141) w m q)) → R none (shF L, f, g)) :
    ∀ (k i : Nat) (x b : Int32) (f : Nat → Nat → Int32), i + k = m → x = nI i → b = nI (gr (f0 141) w i) → XI f → (∀ a j, ¬ a = 166 → f a j = f0 a j) → (∀ q, q < gr (f0 141) w i → f 166 q = nI (gl (f0 141) w i q)) → WPe pg_X2_gather none (Run mtab d) R (m_drop pg_X2_gather 4) [some (.ref 149), some (.int w), some (.int b), some (.int x)] [] (shF L, f, g)
  | 0, i, x, b, f, hi, hx, hb, hX, hF, h166 => by
    have e : i = m := by omega
    subst hx
    subst hb
    subst e
    have hc : f 139 13 = nI i := (hF 139 13 (by omega)).trans h0
    refine at_X2_gather ?_
    conv => whnf
    simp only [hc]
    refine ⟨fun _ => ?_, fun y => absurd (nI_le (Nat.le_refl _) (by omega)) y⟩
    conv => whnf
    exact H _ (XI_ui hX (show inr 0 8 _ from inr_n (m := 8) (gr_le _ _ _) rfl (by decide))) (fun a j h1 h2 => (m_ui_o h2).trans (hF a j h1)) m_ui_s (fun q hq => (m_ui_o (by omega)).trans (h166 q hq))
  | k + 1, i, x, b, f, hi, hx, hb, hX, hF, h166 => by
    subst hx
    subst hb
    have hc : f 139 13 = nI m := (hF 139 13 (by omega)).trans h0
    have hcl : (nI i).toNatClampNeg = i := nI_clamp (by omega)
    have hg8 := gr_le (f0 141) w i
    have hcg : (nI (gr (f0 141) w i)).toNatClampNeg = gr (f0 141) w i := nI_clamp (by omega)
    have e141 : f 141 i = f0 141 i := hF 141 i (by omega)
    refine at_X2_gather ?_
    conv => whnf
    simp only [hc]
    refine ⟨fun y => absurd y (nI_ge (by omega) (by omega)), fun _ => ?_⟩
    conv => whnf
    by_cases q8 : gr (f0 141) w i = 8
    · refine ⟨fun _ => ?_, fun y => absurd (show (8 : Int32) ≤ nI (gr (f0 141) w i) by rw [q8]; decide) y⟩
      conv => whnf
      obtain ⟨s1, s2⟩ := gr_stop q8 m (by omega)
      refine H _ (XI_ui hX (show inr 0 8 _ from inr_n (m := 8) (gr_le _ _ _) rfl (by decide))) (fun a j h1 h2 => (m_ui_o h2).trans (hF a j h1)) (m_ui_s.trans (by rw [s1, q8])) (fun q hq => ?_)
      rw [m_ui_o (by omega), h166 q (by omega), s2 q]
    · refine ⟨fun y => absurd (show nI 8 ≤ nI (gr (f0 141) w i) from y) (nI_ge (by omega) (by decide)), fun _ => ?_⟩
      conv => whnf
      refine ⟨vp_in_nI (by omega) (by decide), ?_⟩
      conv => whnf
      simp only [hcl, e141]
      by_cases c1 : f0 141 i = w
      · have g1 := gr_y (E := f0 141) (e := w) (m := i) (by omega) c1
        refine ⟨fun y => absurd c1 y, fun _ => ?_⟩
        conv => whnf
        refine ⟨vp_in_nI (by omega) (by decide), ?_⟩
        conv => whnf
        simp only [hcg]
        refine sgt_lp hm h0 H k (i + 1) _ _ _ (by omega) (nI_1 i) (by rw [g1]; exact nI_1 _) (XI_ui hX (show inr 0 49 _ from inr_n (m := 49) (by omega) rfl (by decide))) (fun a j h1 => (m_ui_o (fun e => h1 e.1)).trans (hF a j h1)) (fun q hq => ?_)
        by_cases e : q = gr (f0 141) w i
        · rw [e, m_ui_s, gl_y (by omega) c1 rfl]
        · rw [m_ui_o (by omega), h166 q (by omega), gl_n (fun z => e z.2)]
      · have g1 := gr_n (E := f0 141) (e := w) (m := i) (fun z => c1 z.2)
        refine ⟨fun _ => ?_, fun y => absurd y c1⟩
        conv => whnf
        exact sgt_lp hm h0 H k (i + 1) _ _ _ (by omega) (nI_1 i) (by rw [g1]) hX hF (fun q hq => by rw [gl_n (fun z => c1 z.1.2)]; exact h166 q (by rw [g1] at hq; exact hq))
set_option maxRecDepth 100000 in
set_option maxHeartbeats 4000000 in
theorem sf_gather {d L : Nat} {f : Nat → Nat → Int32} {g : Nat → Nat → Int64} {m : Nat} {w : Int32} {R : Option Value → mH → Prop} (hd : 2 ≤ d) (hX : XI f) (hm : m ≤ 50) (h0 : f 139 13 = nI m) (H : ∀ f', XI f' → (∀ a i, ¬ a = 166 → ¬ (a = 150 ∧ i = 7) → f' a i = f a i) → f' 150 7 = nI (gr (f 141) w m) → (∀ q, q < gr (f 141) w m → f' 166 q = nI (gl (f 141) w m q)) → R none (shF L, f', g)) : Run mtab d 20 [.ref 149, .int w] (shF L, f, g) R := by
  obtain ⟨d, rfl⟩ : ∃ e, d = e + 1 := ⟨d - 1, by omega⟩
  refine go_X2_gather rfl ?_
  conv => whnf
  exact sgt_lp hm h0 H m 0 _ _ f (by omega) rfl rfl hX (fun _ _ _ => rfl) (fun q hq => absurd hq (Nat.not_lt_zero _))
set_option maxRecDepth 100000 in
theorem sso_lp {d L r : Nat} {f : Nat → Nat → Int32} {g : Nat → Nat → Int64} {y : Int32} {R : Option Value → mH → Prop} (hr : r ≤ 8) (hrb : f 150 7 = nI r) (H1 : ∀ i, i < r → f 166 i = y → (∀ q, q < i → ¬ f 166 q = y) → R (some (.int (nI i))) (shF L, f, g)) (H0 : (∀ i, i < r → ¬ f 166 i = y) → R (some (.int (-4))) (shF L, f, g)) :
    ∀ (k i : Nat) (x : Int32), i + k = r → x = nI i → (∀ q, q < i → ¬ f 166 q = y) → WPe pg_X2_seatOf none (Run mtab d) R (m_drop pg_X2_seatOf 2) [some (.ref 149), some (.int y), some (.int x)] [] (shF L, f, g)
  | 0, i, x, hi, hx, hq => by
    have e : i = r := by omega
    subst hx
    subst e
    refine at_X2_seatOf ?_
    conv => whnf
    simp only [hrb]
    refine ⟨fun _ => ?_, fun y => absurd (nI_le (Nat.le_refl _) (by omega)) y⟩
    conv => whnf
    exact H0 hq
  | k + 1, i, x, hi, hx, hq => by
    subst hx
    have hcl : (nI i).toNatClampNeg = i := nI_clamp (by omega)
    refine at_X2_seatOf ?_
    conv => whnf
    simp only [hrb]
    refine ⟨fun y => absurd y (nI_ge (by omega) (by omega)), fun _ => ?_⟩
    conv => whnf
    refine ⟨vp_in_nI (by omega) (by decide), ?_⟩
    conv => whnf
    simp only [hcl]
    by_cases c1 : f 166 i = y
    · refine ⟨fun z9 => absurd c1 z9, fun _ => ?_⟩
      conv => whnf
      exact H1 i (by omega) c1 hq
    · refine ⟨fun _ => ?_, fun z9 => absurd z9 c1⟩
      conv => whnf
      exact sso_lp hr hrb H1 H0 k (i + 1) _ (by omega) (nI_1 i) (fun q h => by
        by_cases e : q = i
        · rw [e]
          exact c1
        · exact hq q (by omega))
set_option maxRecDepth 100000 in
set_option maxHeartbeats 4000000 in
theorem sf_seatOf {d L : Nat} {f : Nat → Nat → Int32} {g : Nat → Nat → Int64} {r : Nat} {y : Int32} {R : Option Value → mH → Prop} (hd : 2 ≤ d) (hr : r ≤ 8) (hrb : f 150 7 = nI r) (H1 : ∀ i, i < r → f 166 i = y → (∀ q, q < i → ¬ f 166 q = y) → R (some (.int (nI i))) (shF L, f, g)) (H0 : (∀ i, i < r → ¬ f 166 i = y) → R (some (.int (-4))) (shF L, f, g)) : Run mtab d 22 [.ref 149, .int y] (shF L, f, g) R := by
  obtain ⟨d, rfl⟩ : ∃ e, d = e + 1 := ⟨d - 1, by omega⟩
  refine go_X2_seatOf rfl ?_
  conv => whnf
  exact sso_lp hr hrb H1 H0 r 0 _ (by omega) rfl (fun q h => absurd h (by omega))
set_option maxRecDepth 100000 in
set_option maxHeartbeats 4000000 in
theorem sf_workFor {d L : Nat} {f : Nat → Nat → Int32} {g : Nat → Nat → Int64} {r : Nat} {y : Int32} {R : Option Value → mH → Prop} (hd : 3 ≤ d) (hr : r ≤ 8) (hrb : f 150 7 = nI r) (H1 : ∀ i, i < r → f 166 i = y → (∀ q, q < i → ¬ f 166 q = y) → R (some (.int (f 167 i))) (shF L, f, g)) (H0 : (∀ i, i < r → ¬ f 166 i = y) → R (some (.int (-4))) (shF L, f, g)) : Run mtab d 23 [.ref 149, .int y] (shF L, f, g) R := by
  obtain ⟨d, rfl⟩ : ∃ e, d = e + 1 := ⟨d - 1, by omega⟩
  refine go_X2_workFor rfl ?_
  conv => whnf
  refine sf_seatOf (by omega) hr hrb (fun i h1 h2 h3 => ?_) (fun h => ?_)
  · have hcl : (nI i).toNatClampNeg = i := nI_clamp (by omega)
    conv => whnf
    refine ⟨fun _ => ?_, fun z9 => absurd (show (0 : Int32) ≤ nI i from nI_le (a := 0) (by omega) (by omega)) z9⟩
    conv => whnf
    refine ⟨vp_in_nI (by omega) (by decide), ?_⟩
    conv => whnf
    simp only [hcl]
    exact H1 i h1 h2 h3
  · conv => whnf
    refine ⟨fun z9 => absurd z9 (by decide), fun _ => ?_⟩
    conv => whnf
    exact H0 h
theorem wt_0 {n i w : Nat} {S : Nat → Nat → Int} (h : S i w = 0) : wt n S i w = 0 := by
  unfold wt DG
  rw [h, if_neg (fun z => absurd z.2 (by omega))]
  omega
theorem wt_p {n i w : Nat} {S : Nat → Nat → Int} (hw : w < n) (h : 0 < S i w) : wt n S i w = 7984925229121 * S i w + (40 - (w : Int)) * P41 (i + 1) := by
  unfold wt DG
  rw [if_pos ⟨hw, h⟩]
set_option maxRecDepth 100000 in
set_option maxHeartbeats 8000000 in
theorem swg_lp {d L n C p j h : Nat} {f : Nat → Nat → Int32} {g0 : Nat → Nat → Int64} {S : Nat → Nat → Int} {pw : Int64} {R : Option Value → mH → Prop} (hd : 5 ≤ d) (hp : p < 8) (hC : C ≤ 48) (hn : n ≤ 40) (hcb : f 150 8 = nI C) (hnb : f 6 13 = nI n) (h166 : f 166 p = nI j) (hj : j < 50) (hN : RN f j) (hSz : ∀ w, w < n → SZ1 f w (f 142 j)) (hT : ∀ w, w < n → ∃ q, 1 ≤ q ∧ q ≤ 4 ∧ f 96 w = nI q) (hob : f 100 6 = nI h) (hoh : h ≤ 60) (hSc : ∀ w, w < n → (scC f h j w).toInt = S p w) (hS0 : ∀ w, 0 ≤ S p w ∧ S p w ≤ 136) (hZ : Z0 n S) (hB : pw.toInt = P41 (p + 1)) (hB7 : P41 (p + 1) ≤ 194754273881) (H : ∀ g', (∀ a i, ¬ a = 152 + p → g' a i = g0 a i) → (∀ w, w < C → (g' (152 + p) w).toInt = wt n S p w) → R none (shF L, f, g')) :
    ∀ (k i : Nat) (x : Int32) (s5 s6 s7 : Option Value) (g : Nat → Nat → Int64), i + k = C → x = nI i → (∀ a q, ¬ a = 152 + p → g a q = g0 a q) → (∀ w, w < i → (g (152 + p) w).toInt = wt n S p w) → WPe pg_X2_weigh none (Run mtab d) R (m_drop pg_X2_weigh 2) [some (.ref 149), some (.int (nI p)), some (.long pw), none, some (.int x), s5, s6, s7] [] (shF L, f, g)
  | 0, i, x, s5, s6, s7, g, hi, hx, hG, hR => by
    have e : i = C := by omega
    subst hx
    subst e
    refine at_X2_weigh ?_
    conv => whnf
    simp only [hcb]
    refine ⟨fun _ => ?_, fun y => absurd (nI_le (Nat.le_refl _) (by omega)) y⟩
    conv => whnf
    exact H g hG hR
  | k + 1, i, x, s5, s6, s7, g, hi, hx, hG, hR => by
    subst hx
    have hcl : (nI i).toNatClampNeg = i := nI_clamp (by omega)
    have hclp : (nI p).toNatClampNeg = p := nI_clamp (by omega)
    have hrow := row_151 p hp
    have hshp := shp_151 L p hp
    refine at_X2_weigh ?_
    conv => whnf
    simp only [hcb]
    refine ⟨fun y => absurd y (nI_ge (by omega) (by omega)), fun _ => ?_⟩
    conv => whnf
    simp only [hnb]
    by_cases c1 : i < n
    · refine ⟨fun y => absurd y (nI_ge (by omega) (by omega)), fun _ => ?_⟩
      conv => whnf
      refine ⟨vp_in_nI (by omega) (by decide), ?_⟩
      conv => whnf
      simp only [hclp, h166]
      obtain ⟨q, hq1, hq4, hq⟩ := hT i c1
      refine sf_scoreFor (h := h) (by omega) hj (by omega) hN (hSz i c1) hq hq1 hq4 hob hoh (fun v ev => ?_)
      have es : v.toInt = S p i := by rw [ev]; exact hSc i c1
      have b1 := hS0 i
      conv => whnf
      by_cases c2 : v = 0
      · have s0 : S p i = 0 := by
          rw [← es, c2]
          rfl
        refine ⟨fun y => absurd c2 y, fun _ => ?_⟩
        conv => whnf
        refine ⟨⟨vp_in_nI (by omega) (by decide), by rw [hclp]; exact hp, by rw [hclp, hrow]; rfl⟩, ?_⟩
        simp only [hclp, hrow, Option.getD_some]
        conv => whnf
        simp only [m_act_eq, mi, mj, m_act0, m_arr, hshp]
        conv => whnf
        refine ⟨vp_in_nI (by omega) (by decide), ?_⟩
        conv => whnf
        simp only [hcl]
        exact swg_lp hd hp hC hn hcb hnb h166 hj hN hSz hT hob hoh hSc hS0 hZ hB hB7 H k (i + 1) _ _ _ _ _ (by omega) (nI_1 i) (fun a q h => (m_ul_o (fun e => h e.1)).trans (hG a q h)) (fun v hv => by
          by_cases e : v = i
          · rw [e, m_ul_s]
            exact (show (0 : Int64).toInt = _ by rw [wt_0 s0]; rfl)
          · rw [m_ul_o (by omega)]
            exact hR v (by omega))
      · have s1 : 0 < S p i := by
          have : ¬ S p i = 0 := fun y => c2 (Int32.toInt_inj.mp (by rw [es, y]; rfl))
          omega
        have p0 := P41_pos (p + 1)
        have e1 : (v.toInt64 * 7984925229121).toInt = 7984925229121 * S p i := by
          have q1 : (v.toInt64).toInt = S p i := by rw [Int32.toInt_toInt64, es]
          have q2 : (7984925229121 : Int64).toInt = 7984925229121 := rfl
          rw [l_mul (by rw [q1, q2]; omega) (by rw [q1, q2]; omega), q1, q2]
          omega
        have e2 : ((40 - nI i).toInt64).toInt = 40 - (i : Int) := by
          rw [Int32.toInt_toInt64]
          have q1 : (40 : Int32).toInt = 40 := rfl
          have q2 : (nI i).toInt = (i : Int) := nI_toInt (by omega)
          rw [i_sub (by rw [q1, q2]; omega) (by rw [q1, q2]; omega), q1, q2]
        have m0 : 0 ≤ (40 - (i : Int)) * P41 (p + 1) := Int.mul_nonneg (by omega) (by omega)
        have m1 : (40 - (i : Int)) * P41 (p + 1) ≤ 40 * P41 (p + 1) := Int.mul_le_mul_of_nonneg_right (by omega) (by omega)
        have e3 : ((40 - nI i).toInt64 * pw).toInt = (40 - (i : Int)) * P41 (p + 1) := by
          rw [l_mul (by rw [e2, hB]; omega) (by rw [e2, hB]; omega), e2, hB]
        have e4 : (v.toInt64 * 7984925229121 + (40 - nI i).toInt64 * pw).toInt = wt n S p i := by
          rw [wt_p c1 s1, l_add (by rw [e1, e3]; omega) (by rw [e1, e3]; omega), e1, e3]
        refine ⟨fun _ => ?_, fun y => absurd y c2⟩
        conv => whnf
        refine ⟨⟨vp_in_nI (by omega) (by decide), by rw [hclp]; exact hp, by rw [hclp, hrow]; rfl⟩, ?_⟩
        simp only [hclp, hrow, Option.getD_some]
        conv => whnf
        simp only [m_act_eq, mi, mj, m_act0, m_arr, hshp]
        conv => whnf
        refine ⟨vp_in_nI (by omega) (by decide), ?_⟩
        conv => whnf
        simp only [hcl]
        exact swg_lp hd hp hC hn hcb hnb h166 hj hN hSz hT hob hoh hSc hS0 hZ hB hB7 H k (i + 1) _ _ _ _ _ (by omega) (nI_1 i) (fun a q h => (m_ul_o (fun e => h e.1)).trans (hG a q h)) (fun v hv => by
          by_cases e : v = i
          · rw [e, m_ul_s]
            exact e4
          · rw [m_ul_o (by omega)]
            exact hR v (by omega))
    · refine ⟨fun _ => ?_, fun y => absurd (nI_le (by omega) (by omega)) y⟩
      conv => whnf
      refine ⟨⟨vp_in_nI (by omega) (by decide), by rw [hclp]; exact hp, by rw [hclp, hrow]; rfl⟩, ?_⟩
      simp only [hclp, hrow, Option.getD_some]
      conv => whnf
      simp only [m_act_eq, mi, mj, m_act0, m_arr, hshp]
      conv => whnf
      refine ⟨vp_in_nI (by omega) (by decide), ?_⟩
      conv => whnf
      simp only [hcl]
      exact swg_lp hd hp hC hn hcb hnb h166 hj hN hSz hT hob hoh hSc hS0 hZ hB hB7 H k (i + 1) _ _ _ _ _ (by omega) (nI_1 i) (fun a q h => (m_ul_o (fun e => h e.1)).trans (hG a q h)) (fun v hv => by
        by_cases e : v = i
        · rw [e, m_ul_s]
          exact (show (0 : Int64).toInt = _ by rw [wt_0 (hZ p i (by omega))]; rfl)
        · rw [m_ul_o (by omega)]
          exact hR v (by omega))
set_option maxRecDepth 100000 in
set_option maxHeartbeats 4000000 in
theorem sf_weigh {d L : Nat} {f : Nat → Nat → Int32} {g : Nat → Nat → Int64} {n C p j h : Nat} {S : Nat → Nat → Int} {pw : Int64} {R : Option Value → mH → Prop} (hd : 6 ≤ d) (hp : p < 8) (hC : C ≤ 48) (hn : n ≤ 40) (hcb : f 150 8 = nI C) (hnb : f 6 13 = nI n) (h166 : f 166 p = nI j) (hj : j < 50) (hN : RN f j) (hSz : ∀ w, w < n → SZ1 f w (f 142 j)) (hT : ∀ w, w < n → ∃ q, 1 ≤ q ∧ q ≤ 4 ∧ f 96 w = nI q) (hob : f 100 6 = nI h) (hoh : h ≤ 60) (hSc : ∀ w, w < n → (scC f h j w).toInt = S p w) (hS0 : ∀ w, 0 ≤ S p w ∧ S p w ≤ 136) (hZ : Z0 n S) (hB : pw.toInt = P41 (p + 1)) (hB7 : P41 (p + 1) ≤ 194754273881) (H : ∀ g', (∀ a i, ¬ a = 152 + p → g' a i = g a i) → (∀ w, w < C → (g' (152 + p) w).toInt = wt n S p w) → R none (shF L, f, g')) : Run mtab d 21 [.ref 149, .int (nI p), .long pw] (shF L, f, g) R := by
  obtain ⟨d, rfl⟩ : ∃ e, d = e + 1 := ⟨d - 1, by omega⟩
  refine go_X2_weigh rfl ?_
  conv => whnf
  exact swg_lp (by omega) hp hC hn hcb hnb h166 hj hN hSz hT hob hoh hSc hS0 hZ hB hB7 H C 0 _ _ _ _ g (by omega) rfl (fun _ _ _ => rfl) (fun w hw => absurd hw (by omega))
def pwv (i : Nat) : Int64 := Int64.ofNat (41 ^ (8 - i))
theorem pwv_d : ∀ i, i < 8 → pwv i / 41 = pwv (i + 1) := by decide +kernel
theorem pwv_i : ∀ i, i < 9 → (pwv i).toInt = P41 i := by decide +kernel
theorem P41_7 : ∀ p, p < 8 → P41 (p + 1) ≤ 194754273881 := by decide +kernel
theorem lg_le {x y : Int64} : (lg_cmp x y ≤ 0) ↔ ¬ y.toInt < x.toInt := by
  rw [← i32_nlt, lg_cmp_gt, Int64.lt_iff_toInt_lt]
theorem l_divK {x : Int64} {s t : Int} (hx : x.toInt = 7984925229121 * s + t) (h0 : 0 ≤ t) (h1 : t < 7984925229121) (hs0 : 0 ≤ s) (hs1 : s ≤ 2000) : (x / 7984925229121).toInt = s := by
  rw [Int64.toInt_div, hx, show (7984925229121 : Int64).toInt = 7984925229121 from rfl, Int.tdiv_eq_ediv_of_nonneg (by omega)]
  have e : (7984925229121 * s + t) / 7984925229121 = s := by omega
  rw [e]
  exact Int.bmod_eq_of_le (by omega) (by omega)
theorem l_divK2 {x : Int64} {s t : Int} (hx : x.toInt = 7984925229121 * s + t) (h0 : 0 ≤ t) (h1 : t < 7984925229121) (hs0 : 0 ≤ s) (hs1 : s ≤ 2000) : (x / 7984925229121).toInt32.toInt = s := by
  rw [Int64.toInt_toInt32, l_divK hx h0 h1 hs0 hs1]
  exact Int.bmod_eq_of_le (by omega) (by omega)
theorem vl_b {S : Nat → Nat → Int} {b : Nat → Nat} (h : ∀ p w, 0 ≤ S p w ∧ S p w ≤ 136) : ∀ r, 0 ≤ vl S b r ∧ vl S b r ≤ 136 * (r : Int)
  | 0 => by
    show (0 : Int) ≤ 0 ∧ (0 : Int) ≤ 136 * ((0 : Nat) : Int)
    omega
  | r + 1 => by
    have a := vl_b (b := b) h r
    have c := h r (b r)
    rw [vl_s]
    omega
theorem wt_b {n p w : Nat} {S : Nat → Nat → Int} (hn : n ≤ 40) (hp : p < 8) (h : ∀ p w, 0 ≤ S p w ∧ S p w ≤ 136) : 0 ≤ wt n S p w ∧ wt n S p w ≤ 1125899906842624 := by
  have a := h p w
  have c := DG_b (n := n) (i := p) (w := w) (S := S) hn
  have d := P41_pos (p + 1)
  have e := P41_7 p hp
  have m0 : 0 ≤ DG n S p w * P41 (p + 1) := Int.mul_nonneg c.1 (by omega)
  have m1 : DG n S p w * P41 (p + 1) ≤ 40 * P41 (p + 1) := Int.mul_le_mul_of_nonneg_right c.2 (by omega)
  unfold wt
  omega
theorem wt_Z {n : Nat} {S : Nat → Nat → Int} (hZ : Z0 n S) : Z0 n (wt n S) := fun i w h => wt_0 (hZ i w h)
theorem S_n {n i w : Nat} {S : Nat → Nat → Int} (hZ : Z0 n S) (h : 0 < S i w) : w < n := Nat.lt_of_not_le (fun y => by
  have := hZ i w y
  omega)
theorem wt_pos {n i w : Nat} {S : Nat → Nat → Int} (hn : n ≤ 40) (hS : 0 ≤ S i w) (hZ : Z0 n S) : 0 < wt n S i w ↔ 0 < S i w := by
  constructor
  · intro h
    apply Classical.byContradiction
    intro no
    rw [wt_0 (by omega)] at h
    omega
  · intro h
    have hw := S_n hZ h
    rw [wt_p hw h]
    have := P41_pos (i + 1)
    have := Int.mul_nonneg (a := 40 - (w : Int)) (b := P41 (i + 1)) (by omega) (by omega)
    omega
/-- less one pair -/
def S0 (S : Nat → Nat → Int) (i v : Nat) : Nat → Nat → Int := fun k w => if k = i ∧ w = v then 0 else S k w
theorem S0_b {S : Nat → Nat → Int} {i v : Nat} (h : ∀ p w, 0 ≤ S p w ∧ S p w ≤ 136) : ∀ p w, 0 ≤ S0 S i v p w ∧ S0 S i v p w ≤ 136 := fun p w => by
  have a := h p w
  unfold S0
  by_cases q : p = i ∧ w = v
  · rw [if_pos q]
    omega
  · rw [if_neg q]
    exact a
theorem S0_Z {n i v : Nat} {S : Nat → Nat → Int} (hZ : Z0 n S) : Z0 n (S0 S i v) := fun k w h => by
  unfold S0
  by_cases q : k = i ∧ w = v
  · rw [if_pos q]
  · rw [if_neg q]
    exact hZ k w h
theorem S0_wt {n i v k w : Nat} {S : Nat → Nat → Int} : (k = i ∧ w = v → wt n (S0 S i v) k w = 0) ∧ (¬ (k = i ∧ w = v) → wt n (S0 S i v) k w = wt n S k w) := by
  refine ⟨fun q => wt_0 (by unfold S0; rw [if_pos q]), fun q => ?_⟩
  have e : S0 S i v k w = S k w := by
    unfold S0
    rw [if_neg q]
  unfold wt DG
  rw [e]
theorem RN_q {f f' : Nat → Nat → Int32} {k : Nat} (h : ∀ a i, (a < 149 ∨ 168 ≤ a) → f' a i = f a i) (r : RN f k) : RN f' k := by
  unfold RN at *
  rw [h 140 k (by omega), h 141 k (by omega), h 142 k (by omega), h 143 k (by omega), h 144 k (by omega), h 145 k (by omega), h 146 k (by omega), h 147 k (by omega), h 148 k (by omega)]
  rw [h 203 (9 * k) (by omega), h 203 (9 * k + 1) (by omega), h 203 (9 * k + 2) (by omega), h 203 (9 * k + 3) (by omega), h 203 (9 * k + 4) (by omega), h 203 (9 * k + 5) (by omega), h 203 (9 * k + 6) (by omega), h 203 (9 * k + 7) (by omega), h 203 (9 * k + 8) (by omega)]
  exact r
theorem SZ1_q {f f' : Nat → Nat → Int32} {w : Nat} {y : Int32} (h : ∀ a i, a < 149 → f' a i = f a i) (s : SZ1 f w y) : SZ1 f' w y := by
  unfold SZ1 hC wC at *
  rw [h 97 w (by omega), h 9 w (by omega), h 98 w (by omega), h 10 w (by omega), h 99 w (by omega)]
  exact s
theorem scC_fx {f f' : Nat → Nat → Int32} {h j w : Nat} (hw : w < 40) (k : ∀ a i, a < 149 → f' a i = f a i) : scC f' h j w = scC f h j w := by
  have k' : ∀ a, a < 149 → f' a = f a := fun a ha => funext (fun i => k a i ha)
  have eP : PO f' 104 105 (nI w) (f 142 j) = PO f 104 105 (nI w) (f 142 j) := funext (fun i => by
    unfold PO
    rw [k 101 i (by omega), k 104 i (by omega), k 105 i (by omega)])
  unfold scC SFC hC wC titC
  rw [k' 142 (by omega), k' 134 (by omega), k' 127 (by omega), k' 143 (by omega), k' 145 (by omega), k' 146 (by omega), k' 144 (by omega), k' 140 (by omega), k' 97 (by omega), k' 9 (by omega), k' 98 (by omega), k' 10 (by omega), k' 99 (by omega), k' 147 (by omega), k' 148 (by omega), k' 96 (by omega), k' (15 + w) (by omega), k' (56 + w) (by omega), k' 102 (by omega), eP]
/-- the state behind a join: r rows, the mentions li; b: the works that they are joined to -/
def JS (f : Nat → Nat → Int32) (g : Nat → Nat → Int64) (n r : Nat) (li : Nat → Nat) (S : Nat → Nat → Int) (b : Nat → Nat) : Prop :=
  f 150 7 = nI r ∧ f 150 8 = nI (n + r) ∧ (∀ i, i < r → f 166 i = nI (li i)) ∧ Opt r n (wt n S) b ∧ (f 149 5).toInt = vl S b r ∧ (∀ i, i < r → f 167 i = if 0 < S i (b i) then nI (b i) else -4) ∧ (∀ p, p < r → ∀ w, w < n + r → (g (152 + p) w).toInt = wt n S p w)
set_option maxRecDepth 100000 in
set_option maxHeartbeats 4000000 in
theorem sj1_lp {d L n r C h : Nat} {f : Nat → Nat → Int32} {g0 : Nat → Nat → Int64} {S : Nat → Nat → Int} {li : Nat → Nat} {w : Int32} {R : Option Value → mH → Prop} (hd : 7 ≤ d) (hr : r ≤ 8) (hC : C ≤ 48) (hn : n ≤ 40) (hrb : f 150 7 = nI r) (hcb : f 150 8 = nI C) (hnb : f 6 13 = nI n) (hli : ∀ p, p < r → f 166 p = nI (li p) ∧ li p < 50 ∧ RN f (li p) ∧ (∀ w, w < n → SZ1 f w (f 142 (li p))) ∧ ∀ w, w < n → (scC f h (li p) w).toInt = S p w) (hT : ∀ w, w < n → ∃ q, 1 ≤ q ∧ q ≤ 4 ∧ f 96 w = nI q) (hob : f 100 6 = nI h) (hoh : h ≤ 60) (hS0 : ∀ p w, 0 ≤ S p w ∧ S p w ≤ 136) (hZ : Z0 n S)
    (H : ∀ (g : Nat → Nat → Int64) (pw : Int64) (s5 s6 : Option Value), (∀ a i, ¬ (152 ≤ a ∧ a < 160) → g a i = g0 a i) → (∀ p, p < r → ∀ v, v < C → (g (152 + p) v).toInt = wt n S p v) → WPe pg_X2_join none (Run mtab d) R (m_drop pg_X2_join 17) [some (.ref 149), some (.int w), some (.long pw), none, some (.int (nI r)), s5, s6] [] (shF L, f, g)) :
    ∀ (k i : Nat) (x : Int32) (pw : Int64) (s5 s6 : Option Value) (g : Nat → Nat → Int64), i + k = r → x = nI i → pw = pwv i → (∀ a q, ¬ (152 ≤ a ∧ a < 160) → g a q = g0 a q) → (∀ p, p < i → ∀ v, v < C → (g (152 + p) v).toInt = wt n S p v) → WPe pg_X2_join none (Run mtab d) R (m_drop pg_X2_join 17) [some (.ref 149), some (.int w), some (.long pw), none, some (.int x), s5, s6] [] (shF L, f, g)
  | 0, i, x, pw, s5, s6, g, hi, hx, hpw, hG, hR => by
    have e : i = r := by omega
    subst hx
    subst e
    exact H g pw s5 s6 hG hR
  | k + 1, i, x, pw, s5, s6, g, hi, hx, hpw, hG, hR => by
    subst hx
    subst hpw
    obtain ⟨l1, l2, l3, l4, l5⟩ := hli i (by omega)
    refine at_X2_join ?_
    conv => whnf
    simp only [hrb]
    refine ⟨fun y => absurd y (nI_ge (by omega) (by omega)), fun _ => ?_⟩
    conv => whnf
    refine ⟨show ¬ (41 : Int64) = 0 by decide, ?_⟩
    conv => whnf
    refine sf_weigh (n := n) (C := C) (p := i) (j := li i) (h := h) (S := S) (pw := pwv i / 41) (by omega) (by omega) hC hn hcb hnb l1 l2 l3 l4 hT hob hoh l5 (hS0 i) hZ (by rw [pwv_d i (by omega)]; exact pwv_i (i + 1) (by omega)) (P41_7 i (by omega)) (fun g1 q1 w1 => ?_)
    conv => whnf
    refine sj1_lp hd hr hC hn hrb hcb hnb hli hT hob hoh hS0 hZ H k (i + 1) _ _ _ _ g1 (by omega) (nI_1 i) (pwv_d i (by omega)) (fun a q h => (q1 a q (by omega)).trans (hG a q h)) (fun p hp v hv => ?_)
    by_cases e : p = i
    · rw [e]
      exact w1 v hv
    · rw [q1 (152 + p) v (by omega)]
      exact hR p (by omega) v hv
set_option maxRecDepth 100000 in
set_option maxHeartbeats 4000000 in
theorem sj2_lp {d L n r : Nat} {f0 : Nat → Nat → Int32} {g : Nat → Nat → Int64} {S : Nat → Nat → Int} {b : Nat → Nat} {w : Int32} {pw : Int64} {R : Option Value → mH → Prop} (hd : 3 ≤ d) (hr : r ≤ 8) (hn : n ≤ 40) (hrb : f0 150 7 = nI r) (hcb : f0 150 8 = nI (n + r)) (hM : Mat r (n + r) (pr f0)) (hb : ∀ i, i < r → b i < n + r ∧ pr f0 (b i + 1) = i + 1) (hg : ∀ p, p < r → ∀ v, v < n + r → (g (152 + p) v).toInt = wt n S p v) (hS0 : ∀ p w, 0 ≤ S p w ∧ S p w ≤ 136) (hZ : Z0 n S)
    (H : ∀ f, XI f → (∀ a i, ¬ a = 167 → f a i = f0 a i) → (∀ i, i < r → f 167 i = if 0 < S i (b i) then nI (b i) else -4) → R none (shF L, f, g)) :
    ∀ (k i : Nat) (x : Int32) (s5 s6 : Option Value) (f : Nat → Nat → Int32), i + k = r → x = nI i → XI f → (∀ a q, ¬ a = 167 → f a q = f0 a q) → (∀ q, q < i → f 167 q = if 0 < S q (b q) then nI (b q) else -4) → WPe pg_X2_join none (Run mtab d) R (m_drop pg_X2_join 42) [some (.ref 149), some (.int w), some (.long pw), none, some (.int x), s5, s6] [] (shF L, f, g)
  | 0, i, x, s5, s6, f, hi, hx, hX, hF, hR => by
    have e : i = r := by omega
    subst hx
    subst e
    have hrb2 : f 150 7 = nI i := (hF 150 7 (by omega)).trans hrb
    refine at_X2_join ?_
    conv => whnf
    simp only [hrb2]
    refine ⟨fun _ => ?_, fun y => absurd (nI_le (Nat.le_refl _) (by omega)) y⟩
    conv => whnf
    exact H f hX hF hR
  | k + 1, i, x, s5, s6, f, hi, hx, hX, hF, hR => by
    subst hx
    have hcl : (nI i).toNatClampNeg = i := nI_clamp (by omega)
    have hrow := row_151 i (by omega)
    have hshp := shp_151 L i (by omega)
    have hrb2 : f 150 7 = nI r := (hF 150 7 (by omega)).trans hrb
    have hcb2 : f 150 8 = nI (n + r) := (hF 150 8 (by omega)).trans hcb
    have epr : pr f = pr f0 := funext (fun j => by
      unfold pr
      rw [hF 163 j (by omega)])
    obtain ⟨b1, b2⟩ := hb i (by omega)
    have hcb1 : (nI (b i)).toNatClampNeg = b i := nI_clamp (by omega)
    obtain ⟨u1, u2⟩ := pr_un (i := i) hX (by rw [epr]; exact hM) (by omega) (by omega) b1 (by rw [epr]; exact b2)
    have ew := hg i (by omega) (b i) b1
    have wp := wt_pos (n := n) (i := i) (w := b i) hn (hS0 i (b i)).1 hZ
    refine at_X2_join ?_
    conv => whnf
    simp only [hrb2]
    refine ⟨fun y => absurd y (nI_ge (by omega) (by omega)), fun _ => ?_⟩
    conv => whnf
    refine sf_columnOf (C := n + r) (i := i) (q := b i) (by omega) hX (by omega) (by omega) hcb2 b1 u1 u2 ?_
    conv => whnf
    refine ⟨fun y => absurd (show nI (b i) < nI 0 from y) (nI_nlt (by omega) (by omega)), fun _ => ?_⟩
    conv => whnf
    refine ⟨⟨vp_in_nI (by omega) (by decide), by rw [hcl]; exact (by omega : i < 8), by rw [hcl, hrow]; rfl⟩, ?_⟩
    simp only [hcl, hrow, Option.getD_some]
    conv => whnf
    simp only [m_act_eq, mi, mj, m_act0, m_arr, hshp]
    conv => whnf
    refine ⟨vp_in_nI (by omega) (by decide), ?_⟩
    conv => whnf
    simp only [hcb1]
    by_cases c1 : 0 < S i (b i)
    · refine ⟨fun y => absurd (show (0 : Int64).toInt < (g (152 + i) (b i)).toInt by rw [ew]; exact wp.mpr c1) (lg_le.mp y), fun _ => ?_⟩
      conv => whnf
      (first | refine ⟨fun z9 => absurd z9 (by decide), fun _ => ?_⟩ | refine ⟨fun z9 => False.elim z9, fun _ => ?_⟩)
      conv => whnf
      refine ⟨vp_in_nI (by omega) (by decide), ?_⟩
      conv => whnf
      simp only [hcl]
      refine sj2_lp hd hr hn hrb hcb hM hb hg hS0 hZ H k (i + 1) _ _ _ _ (by omega) (nI_1 i) (XI_ui hX (show inr (-4) 47 _ from by
        have := S_n hZ c1
        have h1 : inr 0 47 (nI (b i)) := inr_n (m := 47) (by omega) rfl (by decide)
        exact ⟨Int32.le_trans (by decide) h1.1, h1.2⟩)) (fun a q h => (m_ui_o (fun e => h e.1)).trans (hF a q h)) (fun q hq => ?_)
      by_cases e : q = i
      · rw [e, m_ui_s, if_pos c1]
      · rw [m_ui_o (by omega)]
        exact hR q (by omega)
    · refine ⟨fun _ => ?_, fun y => absurd (lg_le.mpr (show ¬ (0 : Int64).toInt < (g (152 + i) (b i)).toInt by rw [ew]; exact fun z9 => c1 (wp.mp z9))) y⟩
      conv => whnf
      (first | refine ⟨fun _ => ?_, fun z9 => absurd rfl z9⟩ | refine ⟨fun _ => ?_, fun z9 => absurd True.intro z9⟩)
      conv => whnf
      refine ⟨vp_in_nI (by omega) (by decide), ?_⟩
      conv => whnf
      simp only [hcl]
      refine sj2_lp hd hr hn hrb hcb hM hb hg hS0 hZ H k (i + 1) _ _ _ _ (by omega) (nI_1 i) (XI_ui hX (show inr (-4) 47 (-4) by unfold inr; decide)) (fun a q h => (m_ui_o (fun e => h e.1)).trans (hF a q h)) (fun q hq => ?_)
      by_cases e : q = i
      · rw [e, m_ui_s, if_neg c1]
      · rw [m_ui_o (by omega)]
        exact hR q (by omega)
set_option maxRecDepth 100000 in
set_option maxHeartbeats 4000000 in
theorem sf_join {d L : Nat} {f : Nat → Nat → Int32} {g : Nat → Nat → Int64} {n h m : Nat} {w : Int32} {S : Nat → Nat → Int} {R : Option Value → mH → Prop} (hd : 8 ≤ d) (hX : XI f) (hn : n ≤ 40) (hnb : f 6 13 = nI n) (hm : m ≤ 50) (hmb : f 139 13 = nI m) (hN : ∀ j, j < m → RN f j) (hSz : ∀ j, j < m → ∀ v, v < n → SZ1 f v (f 142 j)) (hT : ∀ w, w < n → ∃ q, 1 ≤ q ∧ q ≤ 4 ∧ f 96 w = nI q) (hob : f 100 6 = nI h) (hoh : h ≤ 60) (hSc : ∀ p, p < gr (f 141) w m → ∀ v, v < n → (scC f h (gl (f 141) w m p) v).toInt = S p v) (hS0 : ∀ p w, 0 ≤ S p w ∧ S p w ≤ 136) (hZ : Z0 n S) (H : ∀ f' g' b, XI f' → (∀ a i, (a < 149 ∨ 168 ≤ a) → f' a i = f a i) → JS f' g' n (gr (f 141) w m) (gl (f 141) w m) S b → R none (shF L, f', g')) : Run mtab d 19 [.ref 149, .int w] (shF L, f, g) R := by
  obtain ⟨d, rfl⟩ : ∃ e, d = e + 1 := ⟨d - 1, by omega⟩
  refine go_X2_join rfl ?_
  conv => whnf
  refine sf_gather (by omega) hX hm hmb (fun f1 x1 k1 r1 l1 => ?_)
  have hr8 := gr_le (f 141) w m
  obtain ⟨gl1, _, _⟩ := gl_all (E := f 141) (e := w) m
  generalize gr (f 141) w m = r at *
  generalize hli0 : gl (f 141) w m = li at *
  have hn1 : f1 6 13 = nI n := (k1 6 13 (by omega) (by omega)).trans hnb
  conv => whnf
  simp only [hn1, r1, nI_add]
  have x2 : XI (m_ui f1 150 8 (nI (n + r))) := XI_ui x1 (show inr 0 48 _ from inr_n (m := 48) (by omega) rfl (by decide))
  have k2 : ∀ a i, ¬ a = 166 → ¬ a = 150 → m_ui f1 150 8 (nI (n + r)) a i = f a i := fun a i h1 h2 => (m_ui_o (fun e => h2 e.1)).trans (k1 a i h1 (fun e => h2 e.1))
  have kf : ∀ a i, (a < 149 ∨ 168 ≤ a) → m_ui f1 150 8 (nI (n + r)) a i = f a i := fun a i h => k2 a i (by omega) (by omega)
  have rb2 : m_ui f1 150 8 (nI (n + r)) 150 7 = nI r := (m_ui_o (by omega)).trans r1
  have cb2 : m_ui f1 150 8 (nI (n + r)) 150 8 = nI (n + r) := m_ui_s
  have l2 : ∀ q, q < r → m_ui f1 150 8 (nI (n + r)) 166 q = nI (li q) := fun q hq => (m_ui_o (by omega)).trans (l1 q hq)
  generalize m_ui f1 150 8 (nI (n + r)) = f2 at *
  refine sj1_lp (C := n + r) (h := h) (S := S) (li := li) (f := f2) (by omega) hr8 (by omega) hn rb2 cb2 ((kf 6 13 (by omega)).trans hnb) (fun p hp => ?_) (fun v hv => ?_) ((kf 100 6 (by omega)).trans hob) hoh hS0 hZ (fun g2 pw s5 s6 q2 w2 => ?_) r 0 _ _ _ _ g (by omega) rfl rfl (fun _ _ _ => rfl) (fun p hp => absurd hp (by omega))
  · have lp := gl1 p hp
    refine ⟨l2 p hp, by omega, RN_q kf (hN _ lp.1), fun v hv => ?_, fun v hv => ?_⟩
    · rw [kf 142 (li p) (by omega)]
      exact SZ1_q (fun a i ha => kf a i (Or.inl ha)) (hSz _ lp.1 v hv)
    · rw [scC_fx (by omega) (fun a i ha => kf a i (Or.inl ha))]
      exact hSc p hp v hv
  · obtain ⟨q, h1, h2, h3⟩ := hT v hv
    exact ⟨q, h1, h2, (kf 96 v (by omega)).trans h3⟩
  · refine at_X2_join ?_
    conv => whnf
    simp only [rb2]
    refine ⟨fun _ => ?_, fun y => absurd (nI_le (Nat.le_refl _) (by omega)) y⟩
    conv => whnf
    refine sf_solve (C := n + r) (r := r) (a := fun k j => - wt n S (k - 1) (j - 1)) (by omega) x2 (by omega) hr8 (by omega) rb2 cb2 (fun k j h1 h2 hj => ?_) (fun k j h1 h2 hj => ?_) (fun x f3 g3 u v c x3 k3 q3 hH hc ex => ?_)
    · have := wt_b (n := n) (p := k - 1) (w := j - 1) (S := S) hn (by omega) hS0
      show -1125899906842624 ≤ - wt n S (k - 1) (j - 1) ∧ - wt n S (k - 1) (j - 1) ≤ 0
      omega
    · show (g2 (151 + k) (j - 1)).toInt = - - wt n S (k - 1) (j - 1)
      have hj1 := hj.1
      have hj2 := hj.2
      have := w2 (k - 1) (by omega) (j - 1) (by omega)
      rw [show 152 + (k - 1) = 151 + k by omega] at this
      rw [this]
      omega
    · obtain ⟨hO, hs⟩ := solve_opt (W := wt n S) rfl hH hc (fun _ _ _ _ _ => rfl) (wt_Z hZ)
      rw [hs] at ex
      have exx : x.toInt = 7984925229121 * vl S (fun i => c (i + 1) - 1) r + vl (fun i w => DG n S i w * P41 (i + 1)) (fun i => c (i + 1) - 1) r := by
        rw [← wt_vl]
        omega
      have dg := dg_all (S := S) (b := fun i => c (i + 1) - 1) hn hr8
      have vb := vl_b (b := fun i => c (i + 1) - 1) hS0 r
      have et := l_divK2 exx dg.1 dg.2 vb.1 (by omega)
      have cc : ∀ i, i < r → c (i + 1) - 1 < n + r ∧ pr f3 (c (i + 1) - 1 + 1) = i + 1 := fun i hi => by
        obtain ⟨a1, a2⟩ := hc (i + 1) (by omega) (by omega)
        have := a1.1
        have := a1.2
        rw [show c (i + 1) - 1 + 1 = c (i + 1) by omega]
        exact ⟨by omega, a2⟩
      conv => whnf
      refine ⟨show ¬ (7984925229121 : Int64) = 0 by decide, ?_⟩
      conv => whnf
      have rb3 : f3 150 7 = nI r := (k3 150 7 (by omega) (by omega) (by omega)).trans rb2
      have cb3 : f3 150 8 = nI (n + r) := (k3 150 8 (by omega) (by omega) (by omega)).trans cb2
      have w3 : ∀ p, p < r → ∀ v, v < n + r → (g3 (152 + p) v).toInt = wt n S p v := fun p hp v hv => by
        rw [q3 (152 + p) v (by omega) (by omega) (by omega)]
        exact w2 p hp v hv
      have ep : pr (m_ui f3 149 5 (x / 7984925229121).toInt32) = pr f3 := funext (fun j => by
        unfold pr
        rw [m_ui_o (by omega)])
      refine sj2_lp (n := n) (r := r) (S := S) (b := fun i => c (i + 1) - 1) (f0 := m_ui f3 149 5 (x / 7984925229121).toInt32) (by omega) hr8 hn ((m_ui_o (by omega)).trans rb3) ((m_ui_o (by omega)).trans cb3) (by rw [ep]; exact hH.2.2.2) (by rw [ep]; exact cc) w3 hS0 hZ (fun f4 x4 k4 h4 => ?_) r 0 _ _ _ _ (by omega) rfl (XI_ui x3 True.intro) (fun _ _ _ => rfl) (fun q hq => absurd hq (by omega))
      have kk : ∀ a i, ¬ a = 167 → ¬ (a = 149 ∧ i = 5) → f4 a i = f3 a i := fun a i h1 h2 => (k4 a i h1).trans (m_ui_o h2)
      refine H f4 g3 (fun i => c (i + 1) - 1) x4 (fun a i h => (kk a i (by omega) (by omega)).trans ((k3 a i (by omega) (by omega) (by omega)).trans (kf a i h))) ⟨(kk 150 7 (by omega) (by omega)).trans rb3, (kk 150 8 (by omega) (by omega)).trans cb3, fun i hi => (kk 166 i (by omega) (by omega)).trans ((k3 166 i (by omega) (by omega) (by omega)).trans (l2 i hi)), hO, ?_, h4, w3⟩
      rw [k4 149 5 (by omega), m_ui_s]
      exact et
set_option maxRecDepth 100000 in
set_option maxHeartbeats 4000000 in
theorem sf_isSure {d L : Nat} {f : Nat → Nat → Int32} {g : Nat → Nat → Int64} {n r i : Nat} {li b : Nat → Nat} {S : Nat → Nat → Int} {R : Option Value → mH → Prop} (hd : 7 ≤ d) (hX : XI f) (hn : n ≤ 40) (hr : r ≤ 8) (hJ : JS f g n r li S b) (hS0 : ∀ p w, 0 ≤ S p w ∧ S p w ≤ 136) (hZ : Z0 n S) (hi : i < r) (H0 : ¬ 0 < S i (b i) → R (some (.int 0)) (shF L, f, g)) (H : 0 < S i (b i) → ∀ f' g' y, XI f' → (∀ a k, ¬ a = 163 → ¬ a = 164 → ¬ a = 165 → f' a k = f a k) → JS f' g' n r li S b → Mst r n (S0 S i (b i)) y → R (some (.int (if y < vl S b r then 1 else 0))) (shF L, f', g')) : Run mtab d 24 [.ref 149, .int (nI i)] (shF L, f, g) R := by
  obtain ⟨d, rfl⟩ : ∃ e, d = e + 1 := ⟨d - 1, by omega⟩
  refine go_X2_isSure rfl ?_
  conv => whnf
  obtain ⟨rb, cb, l166, hO, tot, h167, hg⟩ := id hJ
  have hcl : (nI i).toNatClampNeg = i := nI_clamp (by omega)
  have hrow := row_151 i (by omega)
  have hshp := shp_151 L i (by omega)
  simp only [rb, nI_pr (h := r) (by omega)]
  refine ct_isWithin (by omega) (fun _ => ?_) (fun q1 => absurd ⟨show (0 : Int32) ≤ nI i from nI_le (a := 0) (by omega) (by omega), nI_le (by omega) (by omega)⟩ q1)
  conv => whnf
  (first | refine ⟨fun z9 => absurd z9 (by decide), fun _ => ?_⟩ | refine ⟨fun z9 => False.elim z9, fun _ => ?_⟩)
  conv => whnf
  refine ⟨vp_in_nI (by omega) (by decide), ?_⟩
  conv => whnf
  simp only [hcl]
  by_cases c1 : 0 < S i (b i)
  · have hbn := S_n hZ c1
    have e167 : f 167 i = nI (b i) := by rw [h167 i hi, if_pos c1]
    have hcb1 : (nI (b i)).toNatClampNeg = b i := nI_clamp (by omega)
    simp only [e167]
    refine ⟨fun _ => ?_, fun y => absurd (show (0 : Int32) ≤ nI (b i) from nI_le (a := 0) (by omega) (by omega)) y⟩
    conv => whnf
    refine ⟨⟨vp_in_nI (by omega) (by decide), by rw [hcl]; exact (by omega : i < 8), by rw [hcl, hrow]; rfl⟩, ?_⟩
    simp only [hcl, hrow, Option.getD_some]
    conv => whnf
    refine ⟨vp_in_nI (by omega) (by decide), ?_⟩
    conv => whnf
    simp only [hcl, e167]
    simp only [m_act_eq, mi, mj, m_act0, m_arr, hshp]
    conv => whnf
    refine ⟨vp_in_nI (by omega) (by decide), ?_⟩
    conv => whnf
    refine ⟨vp_in_nI (by omega) (by decide), ?_⟩
    conv => whnf
    simp only [hcl, e167]
    simp only [m_act_eq, mi, mj, m_act0, m_arr, hshp]
    conv => whnf
    refine ⟨vp_in_nI (by omega) (by decide), ?_⟩
    conv => whnf
    simp only [hcb1]
    refine sf_solve (C := n + r) (r := r) (a := fun k j => - wt n (S0 S i (b i)) (k - 1) (j - 1)) (by omega) hX (by omega) hr (by omega) rb cb (fun k j h1 h2 hj => ?_) (fun k j h1 h2 hj => ?_) (fun x f3 g3 u v c x3 k3 q3 hH hc ex => ?_)
    · have := wt_b (n := n) (p := k - 1) (w := j - 1) (S := S0 S i (b i)) hn (by omega) (S0_b hS0)
      show -1125899906842624 ≤ - wt n (S0 S i (b i)) (k - 1) (j - 1) ∧ - wt n (S0 S i (b i)) (k - 1) (j - 1) ≤ 0
      omega
    · show (m_ul g (152 + i) (b i) 0 (151 + k) (j - 1)).toInt = - - wt n (S0 S i (b i)) (k - 1) (j - 1)
      have hj1 := hj.1
      have hj2 := hj.2
      have s0 := S0_wt (n := n) (i := i) (v := b i) (k := k - 1) (w := j - 1) (S := S)
      by_cases e : k - 1 = i ∧ j - 1 = b i
      · rw [s0.1 e, show 151 + k = 152 + i by omega, e.2, m_ul_s]
        rfl
      · have := hg (k - 1) (by omega) (j - 1) (by omega)
        rw [show 152 + (k - 1) = 151 + k by omega] at this
        rw [s0.2 e, m_ul_o (by omega), this]
        omega
    · obtain ⟨hO2, hs⟩ := solve_opt (W := wt n (S0 S i (b i))) rfl hH hc (fun _ _ _ _ _ => rfl) (wt_Z (S0_Z hZ))
      rw [hs] at ex
      have exx : x.toInt = 7984925229121 * vl (S0 S i (b i)) (fun i => c (i + 1) - 1) r + vl (fun k w => DG n (S0 S i (b i)) k w * P41 (k + 1)) (fun i => c (i + 1) - 1) r := by
        rw [← wt_vl]
        omega
      have dg := dg_all (S := S0 S i (b i)) (b := fun i => c (i + 1) - 1) hn hr
      have vb := vl_b (b := fun i => c (i + 1) - 1) (S0_b (i := i) (v := b i) hS0) r
      have et := l_divK exx dg.1 dg.2 vb.1 (by omega)
      have mst := Opt_mst (wt_opt hn hr hO2)
      have e3 : f3 167 i = nI (b i) := (k3 167 i (by omega) (by omega) (by omega)).trans e167
      have t3 : (f3 149 5).toInt64.toInt = vl S b r := by rw [Int32.toInt_toInt64, k3 149 5 (by omega) (by omega) (by omega)]; exact tot
      conv => whnf
      refine ⟨show ¬ (7984925229121 : Int64) = 0 by decide, ?_⟩
      conv => whnf
      refine ⟨vp_in_nI (by omega) (by decide), ?_⟩
      conv => whnf
      simp only [hcl, e3]
      simp only [m_act_eq, mi, mj, m_act0, m_arr, hshp]
      conv => whnf
      refine ⟨vp_in_nI (by omega) (by decide), ?_⟩
      conv => whnf
      simp only [hcb1]
      have HH := H c1 f3 (m_ul g3 (152 + i) (b i) (g (152 + i) (b i))) _ x3 k3 ⟨(k3 150 7 (by omega) (by omega) (by omega)).trans rb, (k3 150 8 (by omega) (by omega) (by omega)).trans cb, fun q hq => (k3 166 q (by omega) (by omega) (by omega)).trans (l166 q hq), hO, by rw [k3 149 5 (by omega) (by omega) (by omega)]; exact tot, fun q hq => (k3 167 q (by omega) (by omega) (by omega)).trans (h167 q hq), fun p hp v hv => by
        by_cases e : p = i ∧ v = b i
        · rw [e.1, e.2, m_ul_s]
          exact hg i hi (b i) (by omega)
        · rw [m_ul_o (by omega), q3 (152 + p) v (by omega) (by omega) (by omega), m_ul_o (by omega)]
          exact hg p hp v hv⟩ mst
      by_cases c2 : vl (S0 S i (b i)) (fun i => c (i + 1) - 1) r < vl S b r
      · rw [if_pos c2] at HH
        refine ⟨fun y => absurd (show (x / 7984925229121).toInt < (f3 149 5).toInt64.toInt by rw [et, t3]; exact c2) (lg_ge.mp y), fun _ => ?_⟩
        conv => whnf
        first | exact ⟨Or.inr rfl, HH⟩ | exact ⟨Or.inr True.intro, HH⟩ | exact HH
      · rw [if_neg c2] at HH
        refine ⟨fun _ => ?_, fun y => absurd (lg_ge.mpr (show ¬ (x / 7984925229121).toInt < (f3 149 5).toInt64.toInt by rw [et, t3]; exact c2)) y⟩
        conv => whnf
        first | exact ⟨Or.inl rfl, HH⟩ | exact ⟨Or.inl True.intro, HH⟩ | exact HH
  · have e167 : f 167 i = -4 := by rw [h167 i hi, if_neg c1]
    simp only [e167]
    refine ⟨fun y => absurd y (by decide), fun _ => ?_⟩
    conv => whnf
    first | exact ⟨Or.inl rfl, H0 c1⟩ | exact ⟨Or.inl True.intro, H0 c1⟩ | exact H0 c1
/-! bits of a set of rows -/
theorem bt1 : ∀ s, s < 256 → ∀ i, i < 8 → (nI s ||| (1 : Int32) <<< (nI i &&& 31)) = nI (s ||| 2 ^ i) ∧ (s ||| 2 ^ i) < 256 := by decide +kernel
theorem bt2 : ∀ s, s < 256 → ∀ i, i < 8 → ∀ j, j < 8 → (s ||| 2 ^ i).testBit j = (s.testBit j || decide (i = j)) := by decide +kernel
theorem bt3 : ∀ t, t < 256 → ∀ i, i < 8 → t.testBit i = true → ((t ^^^ 2 ^ i) ||| 2 ^ i = t ∧ (t ^^^ 2 ^ i).testBit i = false) := by decide +kernel
theorem bt3b : ∀ t, t < 256 → ∀ i, i < 8 → ∀ j, j < 8 → ¬ j = i → (t ^^^ 2 ^ i).testBit j = t.testBit j := by decide +kernel
theorem bt4 : ∀ r, r < 9 → ∀ s, s < 2 ^ r → ∀ i, i < r → (s ||| 2 ^ i < 2 ^ r ∧ s ^^^ 2 ^ i < 2 ^ r) := by decide +kernel
theorem bt5 : ∀ s, s < 256 → ∀ i, i < 8 → (s ||| 2 ^ i = s ↔ s.testBit i = true) := by decide +kernel
theorem bt0 : ∀ r, r < 9 → ∀ s, s < 2 ^ r → (∀ i, i < r → s.testBit i = false) → s = 0 := by decide +kernel
theorem p2_256 {r : Nat} (h : r ≤ 8) : 2 ^ r ≤ 256 := Nat.pow_le_pow_right (n := 2) (by decide) h
/-- a set by its bits -/
theorem bt6 {r : Nat} (hr : r ≤ 8) (P : Nat → Prop) : ∃ s, s < 2 ^ r ∧ ∀ i, i < r → (s.testBit i = true ↔ P i) := by
  have key : ∀ k, k ≤ r → ∃ s, s < 2 ^ r ∧ ∀ i, i < r → (s.testBit i = true ↔ (P i ∧ i < k)) := by
    intro k
    induction k with
    | zero => intro _; exact ⟨0, Nat.pow_pos (by decide), fun i _ => by rw [Nat.zero_testBit]; exact ⟨fun y => absurd y (by decide), fun y => absurd y.2 (by omega)⟩⟩
    | succ k ih =>
      intro hk
      obtain ⟨s, h1, h2⟩ := ih (by omega)
      have hs : s < 256 := Nat.lt_of_lt_of_le h1 (p2_256 hr)
      by_cases q : P k
      · refine ⟨s ||| 2 ^ k, (bt4 r (by omega) s h1 k (by omega)).1, fun i hi => ?_⟩
        rw [bt2 s hs k (by omega) i (by omega)]
        constructor
        · intro y
          by_cases e : k = i
          · exact ⟨by rw [← e]; exact q, by omega⟩
          · rw [decide_eq_false e, Bool.or_false] at y
            have := (h2 i hi).mp y
            exact ⟨this.1, by omega⟩
        · intro y
          by_cases e : k = i
          · rw [decide_eq_true e, Bool.or_true]
          · rw [(h2 i hi).mpr ⟨y.1, by omega⟩, Bool.true_or]
      · refine ⟨s, h1, fun i hi => ?_⟩
        rw [h2 i hi]
        constructor
        · exact fun y => ⟨y.1, by omega⟩
        · intro y
          exact ⟨y.1, by
            have : ¬ i = k := fun e => q (by rw [← e]; exact y.1)
            omega⟩
  obtain ⟨s, h1, h2⟩ := key r (Nat.le_refl _)
  exact ⟨s, h1, fun i hi => ⟨fun y => ((h2 i hi).mp y).1, fun y => (h2 i hi).mpr ⟨y, hi⟩⟩⟩
/-- the rows of s, and they alone, are joined, to works below w -/
def Cf (r n : Nat) (T : Nat → Nat → Int) (w s : Nat) (b : Nat → Nat) : Prop := PMt r n b ∧ ∀ i, i < r → (s.testBit i = true → b i < w ∧ 0 < T i (b i)) ∧ (s.testBit i = false → n ≤ b i)
def BV (r n : Nat) (T : Nat → Nat → Int) (w s : Nat) (x : Int) : Prop := (x = -1 ∧ ∀ b, ¬ Cf r n T w s b) ∨ (0 ≤ x ∧ (∃ b, Cf r n T w s b ∧ vl T b r = x) ∧ ∀ b, Cf r n T w s b → vl T b r ≤ x)
def VA (r : Nat) (T : Nat → Nat → Int) (w : Nat) (old : Nat → Int) (s i t : Nat) : Prop := s < 2 ^ r ∧ i < r ∧ s.testBit i = false ∧ 0 ≤ old s ∧ 0 < T i w ∧ t = s ||| 2 ^ i
theorem vl_nn {T : Nat → Nat → Int} {b : Nat → Nat} (h : ∀ i w, 0 ≤ T i w) : ∀ r, 0 ≤ vl T b r
  | 0 => Int.le_refl _
  | r + 1 => by
    have a := vl_nn (b := b) h r
    have c := h r (b r)
    rw [vl_s]
    omega
theorem vl_upd {T : Nat → Nat → Int} {b : Nat → Nat} {i v : Nat} : ∀ r, vl T (fun k => if k = i then v else b k) r = if i < r then vl T b r - T i (b i) + T i v else vl T b r
  | 0 => by
    rw [if_neg (Nat.not_lt_zero _)]
    rfl
  | r + 1 => by
    have ih := vl_upd (T := T) (b := b) (i := i) (v := v) r
    rw [vl_s, vl_s, ih]
    show _ + T r (if r = i then v else b r) = _
    by_cases e : r = i
    · subst e
      rw [if_neg (by omega), if_pos rfl, if_pos (by omega)]
      omega
    · rw [if_neg e]
      by_cases q : i < r
      · rw [if_pos q, if_pos (by omega)]
        omega
      · rw [if_neg q, if_neg (by omega)]
theorem dp_0 {r n : Nat} {T : Nat → Nat → Int} (hr : r ≤ 8) (hZ : Z0 n T) : ∀ s, s < 2 ^ r → BV r n T 0 s (if s = 0 then 0 else -1) := fun s hs => by
  by_cases e : s = 0
  · subst e
    rw [if_pos rfl]
    refine Or.inr ⟨Int.le_refl _, ⟨fun _ => n, ⟨fun i j _ _ h => absurd h (Nat.lt_irrefl _), fun i hi => ⟨fun y => absurd y (by rw [Nat.zero_testBit]; decide), fun _ => Nat.le_refl _⟩⟩, vl_0 r (fun k _ => hZ k n (Nat.le_refl _))⟩, fun b hb => ?_⟩
    rw [vl_0 r (fun k hk => hZ k (b k) ((hb.2 k hk).2 (Nat.zero_testBit k)))]
    exact Int.le_refl _
  · rw [if_neg e]
    refine Or.inl ⟨rfl, fun b hb => e (bt0 r (by omega) s hs (fun i hi => ?_))⟩
    cases q : s.testBit i
    · rfl
    · exact absurd ((hb.2 i hi).1 q).1 (by omega)
theorem dp_step {r n w : Nat} {T : Nat → Nat → Int} (hr : r ≤ 8) (hT : ∀ i w, 0 ≤ T i w) (hZ : Z0 n T) (hw : w < n) {old new : Nat → Int} (hold : ∀ s, s < 2 ^ r → BV r n T w s (old s))
    (h1 : ∀ t, t < 2 ^ r → old t ≤ new t ∧ (∀ s i, VA r T w old s i t → old s + T i w ≤ new t) ∧ (new t = old t ∨ ∃ s i, VA r T w old s i t ∧ new t = old s + T i w)) : ∀ t, t < 2 ^ r → BV r n T (w + 1) t (new t) := fun t ht => by
  obtain ⟨a1, a2, a3⟩ := h1 t ht
  have t8 : t < 256 := Nat.lt_of_lt_of_le ht (p2_256 hr)
  have cmpl : ∀ b, Cf r n T (w + 1) t b → vl T b r ≤ new t := fun b hb => by
    by_cases q : ∃ i, i < r ∧ t.testBit i = true ∧ b i = w
    · obtain ⟨i, hi, ti, bi⟩ := q
      obtain ⟨x1, x2⟩ := bt3 t t8 i (by omega) ti
      have x3 := (bt4 r (by omega) t ht i hi).2
      have hC : Cf r n T w (t ^^^ 2 ^ i) (fun k => if k = i then n else b k) := by
        refine ⟨fun k l hkl hl hkn e => ?_, fun k hk => ⟨fun y => ?_, fun y => ?_⟩⟩
        · have hkn' : (if k = i then n else b k) < n := hkn
          have e' : (if k = i then n else b k) = (if l = i then n else b l) := e
          by_cases c1 : k = i
          · rw [if_pos c1] at hkn'
            omega
          · rw [if_neg c1] at hkn' e'
            by_cases c2 : l = i
            · rw [if_pos c2] at e'
              omega
            · rw [if_neg c2] at e'
              exact hb.1 k l hkl hl hkn' e'
        · show (if k = i then n else b k) < w ∧ 0 < T k (if k = i then n else b k)
          by_cases c1 : k = i
          · rw [c1, x2] at y
            exact absurd y (by decide)
          · rw [if_neg c1]
            rw [bt3b t t8 i (by omega) k (by omega) c1] at y
            have z := (hb.2 k hk).1 y
            have ne : ¬ b k = w := fun z2 => by
              rcases Nat.lt_or_gt_of_ne c1 with c2 | c2
              · exact hb.1 k i c2 hi (by omega) (by omega)
              · exact hb.1 i k c2 hk (by omega) (by omega)
            exact ⟨by omega, z.2⟩
        · show n ≤ (if k = i then n else b k)
          by_cases c1 : k = i
          · rw [if_pos c1]
            exact Nat.le_refl _
          · rw [if_neg c1]
            rw [bt3b t t8 i (by omega) k (by omega) c1] at y
            exact (hb.2 k hk).2 y
      have ev := vl_upd (T := T) (b := b) (i := i) (v := n) r
      rw [if_pos hi, hZ i n (Nat.le_refl _)] at ev
      rcases hold (t ^^^ 2 ^ i) x3 with ⟨_, no⟩ | ⟨o1, _, o3⟩
      · exact absurd hC (no _)
      · have l1 := o3 _ hC
        have l2 := a2 (t ^^^ 2 ^ i) i ⟨x3, hi, x2, o1, by have := ((hb.2 i hi).1 ti).2; rw [bi] at this; exact this, x1.symm⟩
        rw [bi] at ev
        omega
    · have hC : Cf r n T w t b := ⟨hb.1, fun i hi => ⟨fun y => by
        have z := (hb.2 i hi).1 y
        have : ¬ b i = w := fun e => q ⟨i, hi, y, e⟩
        exact ⟨by omega, z.2⟩, (hb.2 i hi).2⟩⟩
      rcases hold t ht with ⟨_, no⟩ | ⟨_, _, o3⟩
      · exact absurd hC (no _)
      · have := o3 b hC
        omega
  rcases a3 with a3 | ⟨s, i, ⟨v1, v2, v3, v4, v5, v6⟩, a3⟩
  · rcases hold t ht with ⟨o1, no⟩ | ⟨o1, ⟨b, o2, o4⟩, o3⟩
    · refine Or.inl ⟨by omega, fun b hb => ?_⟩
      have l1 := cmpl b hb
      have l2 := vl_nn (b := b) hT r
      omega
    · exact Or.inr ⟨by omega, ⟨b, ⟨o2.1, fun k hk => ⟨fun y => by
        have := (o2.2 k hk).1 y
        exact ⟨by omega, this.2⟩, (o2.2 k hk).2⟩⟩, by omega⟩, cmpl⟩
  · have s8 : s < 256 := Nat.lt_of_lt_of_le v1 (p2_256 hr)
    rcases hold s v1 with ⟨o1, _⟩ | ⟨o1, ⟨b, o2, o4⟩, o3⟩
    · omega
    · have nw : ∀ k, k < r → ¬ b k = w := fun k hk e => by
        cases q : s.testBit k
        · have := (o2.2 k hk).2 q
          omega
        · have := ((o2.2 k hk).1 q).1
          omega
      have bn : n ≤ b i := (o2.2 i v2).2 v3
      have ev := vl_upd (T := T) (b := b) (i := i) (v := w) r
      rw [if_pos v2, hZ i (b i) bn] at ev
      refine Or.inr ⟨by omega, ⟨fun k => if k = i then w else b k, ⟨fun k l hkl hl hkn e => ?_, fun k hk => ⟨fun y => ?_, fun y => ?_⟩⟩, by omega⟩, cmpl⟩
      · have hkn' : (if k = i then w else b k) < n := hkn
        have e' : (if k = i then w else b k) = (if l = i then w else b l) := e
        by_cases c1 : k = i
        · rw [if_pos c1, if_neg (by omega)] at e'
          exact nw l hl e'.symm
        · rw [if_neg c1] at hkn' e'
          by_cases c2 : l = i
          · rw [if_pos c2] at e'
            exact nw k (by omega) e'
          · rw [if_neg c2] at e'
            exact o2.1 k l hkl hl hkn' e'
      · show (if k = i then w else b k) < w + 1 ∧ 0 < T k (if k = i then w else b k)
        by_cases c1 : k = i
        · rw [if_pos c1, c1]
          exact ⟨by omega, v5⟩
        · rw [if_neg c1]
          rw [v6, bt2 s s8 i (by omega) k (by omega), decide_eq_false (fun z => c1 z.symm), Bool.or_false] at y
          have := (o2.2 k hk).1 y
          exact ⟨by omega, this.2⟩
      · show n ≤ (if k = i then w else b k)
        rw [v6, bt2 s s8 i (by omega) k (by omega)] at y
        by_cases c1 : k = i
        · rw [decide_eq_true c1.symm, Bool.or_true] at y
          exact absurd y (by decide)
        · rw [if_neg c1]
          rw [decide_eq_false (fun z => c1 z.symm), Bool.or_false] at y
          exact (o2.2 k hk).2 y
theorem dp_end {r n : Nat} {T : Nat → Nat → Int} {x : Int} (hr : r ≤ 8) (hT : ∀ i w, 0 ≤ T i w) (hZ : Z0 n T) {old : Nat → Int} (hold : ∀ s, s < 2 ^ r → BV r n T n s (old s)) (h1 : ∀ s, s < 2 ^ r → old s ≤ x) (h2 : x = 0 ∨ ∃ s, s < 2 ^ r ∧ x = old s) (h3 : 0 ≤ x) : Mst r n T x := by
  refine ⟨?_, fun b hb => ?_⟩
  · rcases h2 with e | ⟨s, hs, e⟩
    · exact ⟨fun _ => n, fun i j _ _ h => absurd h (Nat.lt_irrefl _), by rw [e]; exact vl_0 r (fun k _ => hZ k n (Nat.le_refl _))⟩
    · rcases hold s hs with ⟨o1, _⟩ | ⟨o1, ⟨b, o2, o4⟩, o3⟩
      · omega
      · exact ⟨b, o2.1, by omega⟩
  · obtain ⟨s, hs, sb⟩ := bt6 hr (fun i => 0 < T i (b i))
    have hC : Cf r n T n s (fun k => if 0 < T k (b k) then b k else n) := by
      refine ⟨fun k l hkl hl hkn e => ?_, fun k hk => ⟨fun y => ?_, fun y => ?_⟩⟩
      · have hkn' : (if 0 < T k (b k) then b k else n) < n := hkn
        have e' : (if 0 < T k (b k) then b k else n) = (if 0 < T l (b l) then b l else n) := e
        by_cases c1 : 0 < T k (b k)
        · rw [if_pos c1] at hkn' e'
          by_cases c2 : 0 < T l (b l)
          · rw [if_pos c2] at e'
            exact hb k l hkl hl hkn' e'
          · rw [if_neg c2] at e'
            omega
        · rw [if_neg c1] at hkn'
          omega
      · have c1 := (sb k hk).mp y
        show (if 0 < T k (b k) then b k else n) < n ∧ 0 < T k (if 0 < T k (b k) then b k else n)
        rw [if_pos c1]
        exact ⟨Nat.lt_of_not_le (fun z => by have := hZ k (b k) z; omega), c1⟩
      · show n ≤ (if 0 < T k (b k) then b k else n)
        rw [if_neg (fun c1 => by rw [(sb k hk).mpr c1] at y; exact absurd y (by decide))]
        exact Nat.le_refl _
    have ev : vl T b r = vl T (fun k => if 0 < T k (b k) then b k else n) r := vl_congr r (fun k hk => by
      show T k (b k) = T k (if 0 < T k (b k) then b k else n)
      by_cases c1 : 0 < T k (b k)
      · rw [if_pos c1]
      · rw [if_neg c1, hZ k n (Nat.le_refl _)]
        have := hT k (b k)
        omega)
    rcases hold s hs with ⟨_, no⟩ | ⟨_, _, o3⟩
    · exact absurd hC (no _)
    · have := o3 _ hC
      have := h1 s hs
      omega
/-- the new values, as far as they are reckoned: sets below q, of q the rows below i -/
def LIc (r : Nat) (T : Nat → Nat → Int) (w : Nat) (old new : Nat → Int) (q i : Nat) : Prop := ∀ t, t < 2 ^ r → old t ≤ new t ∧ (∀ s j, VA r T w old s j t → (s < q ∨ (s = q ∧ j < i)) → old s + T j w ≤ new t) ∧ (new t = old t ∨ ∃ s j, VA r T w old s j t ∧ new t = old s + T j w)
theorem LI_0 {r w : Nat} {T : Nat → Nat → Int} {old new : Nat → Int} (h : ∀ t, t < 2 ^ r → new t = old t) : LIc r T w old new 0 0 := fun t ht => ⟨by rw [h t ht]; exact Int.le_refl _, fun s j _ y => by omega, Or.inl (h t ht)⟩
theorem LI_skip {r w q i : Nat} {T : Nat → Nat → Int} {old new : Nat → Int} (h : LIc r T w old new q i) (no : ∀ t, ¬ VA r T w old q i t) : LIc r T w old new q (i + 1) := fun t ht => by
  obtain ⟨a1, a2, a3⟩ := h t ht
  refine ⟨a1, fun s j hv y => ?_, a3⟩
  by_cases e : s = q ∧ j = i
  · rw [e.1, e.2] at hv
    exact absurd hv (no t)
  · exact a2 s j hv (by omega)
theorem LI_low {r w q i : Nat} {T : Nat → Nat → Int} {old new : Nat → Int} (h : LIc r T w old new q i) (le : old q + T i w ≤ new (q ||| 2 ^ i)) : LIc r T w old new q (i + 1) := fun t ht => by
  obtain ⟨a1, a2, a3⟩ := h t ht
  refine ⟨a1, fun s j hv y => ?_, a3⟩
  by_cases e : s = q ∧ j = i
  · have := hv.2.2.2.2.2
    rw [e.1, e.2] at this ⊢
    rw [this]
    exact le
  · exact a2 s j hv (by omega)
theorem LI_up {r w q i : Nat} {T : Nat → Nat → Int} {old new new' : Nat → Int} (h : LIc r T w old new q i) (hv : VA r T w old q i (q ||| 2 ^ i)) (lt : new (q ||| 2 ^ i) < old q + T i w) (e1 : new' (q ||| 2 ^ i) = old q + T i w) (e2 : ∀ t, ¬ t = q ||| 2 ^ i → new' t = new t) : LIc r T w old new' q (i + 1) := fun t ht => by
  obtain ⟨a1, a2, a3⟩ := h t ht
  by_cases et : t = q ||| 2 ^ i
  · subst et
    rw [e1]
    refine ⟨by omega, fun s j hv2 y => ?_, Or.inr ⟨q, i, hv, rfl⟩⟩
    by_cases e : s = q ∧ j = i
    · rw [e.1, e.2]
      exact Int.le_refl _
    · have := a2 s j hv2 (by omega)
      omega
  · rw [e2 t et]
    refine ⟨a1, fun s j hv2 y => ?_, a3⟩
    by_cases e : s = q ∧ j = i
    · have := hv2.2.2.2.2.2
      rw [e.1, e.2] at this
      exact absurd this et
    · exact a2 s j hv2 (by omega)
theorem LI_next {r w q i : Nat} {T : Nat → Nat → Int} {old new : Nat → Int} (h : LIc r T w old new q i) (hi : i = r ∨ old q < 0) : LIc r T w old new (q + 1) 0 := fun t ht => by
  obtain ⟨a1, a2, a3⟩ := h t ht
  refine ⟨a1, fun s j hv y => ?_, a3⟩
  by_cases e : s = q
  · rcases hi with z | z
    · exact a2 s j hv (Or.inr ⟨e, by have := hv.2.1; omega⟩)
    · have := hv.2.2.2.1
      rw [e] at this
      omega
  · exact a2 s j hv (by omega)
theorem LI_end {r w : Nat} {T : Nat → Nat → Int} {old new : Nat → Int} (h : LIc r T w old new (2 ^ r) 0) : ∀ t, t < 2 ^ r → old t ≤ new t ∧ (∀ s i, VA r T w old s i t → old s + T i w ≤ new t) ∧ (new t = old t ∨ ∃ s i, VA r T w old s i t ∧ new t = old s + T i w) := fun t ht => by
  obtain ⟨a1, a2, a3⟩ := h t ht
  exact ⟨a1, fun s i hv => a2 s i hv (Or.inl hv.1), a3⟩
