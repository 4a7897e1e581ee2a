/-! choices of s among m, by rising numbers, in their order -/
def inc (s m : Nat) (r : Nat → Nat) : Prop := (∀ u v, u < v → v < s → r u + (v - u) ≤ r v) ∧ ∀ u, u < s → r u + s ≤ m + u
def lexl (s : Nat) (r p : Nat → Nat) : Prop := ∃ t, t < s ∧ (∀ u, u < t → r u = p u) ∧ r t < p t
def nxtp (p : Nat → Nat) (t : Nat) : Nat → Nat := fun u => if u < t then p u else p t + 1 + (u - t)
theorem first_diff (r p : Nat → Nat) : ∀ s, (∀ u, u < s → r u = p u) ∨ ∃ t, t < s ∧ (∀ u, u < t → r u = p u) ∧ ¬ r t = p t
  | 0 => Or.inl (fun u hu => absurd hu (by omega))
  | s + 1 => by
    rcases first_diff r p s with h | ⟨t, ht, h1, h2⟩
    · by_cases e : r s = p s
      · left
        intro u hu
        by_cases q : u = s
        · subst q
          exact e
        · exact h u (by omega)
      · exact Or.inr ⟨s, by omega, h, e⟩
    · exact Or.inr ⟨t, by omega, h1, h2⟩
theorem nxt_lt {p : Nat → Nat} {t u : Nat} (h : u < t) : nxtp p t u = p u := if_pos h
theorem nxt_ge {p : Nat → Nat} {t u : Nat} (h : ¬ u < t) : nxtp p t u = p t + 1 + (u - t) := if_neg h
theorem inc_nxt {s m t : Nat} {p : Nat → Nat} (h : inc s m p) (ht : t < s) (hb : p t + s < m + t) : inc s m (nxtp p t) := by
  refine ⟨fun u v huv hv => ?_, fun u hu => ?_⟩
  · by_cases q1 : v < t
    · rw [nxt_lt (show u < t by omega), nxt_lt q1]
      exact h.1 u v huv hv
    · rw [nxt_ge q1]
      by_cases q2 : u < t
      · rw [nxt_lt q2]
        have := h.1 u t q2 ht
        omega
      · rw [nxt_ge q2]
        omega
  · by_cases q2 : u < t
    · rw [nxt_lt q2]
      exact h.2 u hu
    · rw [nxt_ge q2]
      omega
theorem lex_nxt {s m t : Nat} {p r : Nat → Nat} (hr : inc s m r) (ht : t < s) (hm : ∀ u, t < u → u < s → ¬ p u + s < m + u) (h : lexl s r (nxtp p t)) : lexl s r p ∨ ∀ u, u < s → r u = p u := by
  obtain ⟨w, hw, h1, h2⟩ := h
  by_cases q : w < t
  · left
    refine ⟨w, hw, fun u hu => (h1 u hu).trans (nxt_lt (by omega)), ?_⟩
    rw [nxt_lt q] at h2
    exact h2
  · by_cases q2 : w = t
    · subst q2
      rw [nxt_ge (by omega)] at h2
      rcases first_diff r p s with a | ⟨z, hz, z1, z2⟩
      · exact Or.inr a
      · left
        refine ⟨z, hz, z1, ?_⟩
        by_cases g : z < w
        · exact absurd ((h1 z g).trans (nxt_lt g)) z2
        · by_cases g2 : z = w
          · subst g2
            omega
          · have b1 := hm z (by omega) hz
            have b2 := hr.2 z hz
            omega
    · exfalso
      rw [nxt_ge (by omega)] at h2
      have a := h1 t (by omega)
      rw [nxt_ge (by omega)] at a
      have b := hr.1 t w (by omega) hw
      omega
theorem lex_last {s m : Nat} {p r : Nat → Nat} (hr : inc s m r) (hm : ∀ u, u < s → ¬ p u + s < m + u) : lexl s r p ∨ ∀ u, u < s → r u = p u := by
  rcases first_diff r p s with a | ⟨z, hz, z1, z2⟩
  · exact Or.inr a
  · left
    refine ⟨z, hz, z1, ?_⟩
    have b1 := hm z hz
    have b2 := hr.2 z hz
    omega
theorem lex_first {s m : Nat} {r : Nat → Nat} (hr : inc s m r) : ¬ lexl s r (fun u => u) := by
  rintro ⟨t, ht, h1, h2⟩
  have h3 : r t < t := h2
  by_cases q : t = 0
  · omega
  · have := hr.1 0 t (by omega) ht
    omega
theorem inc_first {s m : Nat} (h : s ≤ m) : inc s m (fun u => u) := ⟨fun u v h1 h2 => by show u + (v - u) ≤ v; omega, fun u hu => by show u + s ≤ m + u; omega⟩
/-- how many choices are left -/
def c2_ : Nat → Nat
  | 0 => 0
  | x + 1 => c2_ x + x
def c3_ : Nat → Nat
  | 0 => 0
  | x + 1 => c3_ x + c2_ x
def mu3 (s m : Nat) (p : Nat → Nat) : Nat := if s = 1 then m - 1 - p 0 else if s = 2 then c2_ (m - 1 - p 0) + (m - 1 - p 1) else c3_ (m - 1 - p 0) + c2_ (m - 1 - p 1) + (m - 1 - p 2)
theorem mu_1 {m : Nat} (p : Nat → Nat) : mu3 1 m p = m - 1 - p 0 := rfl
theorem mu_2 {m : Nat} (p : Nat → Nat) : mu3 2 m p = c2_ (m - 1 - p 0) + (m - 1 - p 1) := rfl
theorem mu_3 {m : Nat} (p : Nat → Nat) : mu3 3 m p = c3_ (m - 1 - p 0) + c2_ (m - 1 - p 1) + (m - 1 - p 2) := rfl
theorem mu_0 : ∀ m, m < 21 → ∀ s, s < 4 → mu3 s m (fun u => u) ≤ 1999 := by decide +kernel
theorem c2_s {x y : Nat} (h : y = x + 1) : c2_ y = c2_ x + x := by
  subst h
  rfl
theorem c3_s {x y : Nat} (h : y = x + 1) : c3_ y = c3_ x + c2_ x := by
  subst h
  rfl
theorem mu_nxt {s m t : Nat} {p : Nat → Nat} (h : inc s m p) (h1 : 1 ≤ s) (h3 : s ≤ 3) (ht : t < s) (hb : p t + s < m + t) (hm : ∀ u, t < u → u < s → ¬ p u + s < m + u) : mu3 s m (nxtp p t) < mu3 s m p := by
  have e : s = 1 ∨ s = 2 ∨ s = 3 := by omega
  rcases e with rfl | rfl | rfl
  · have e : t = 0 := by omega
    subst e
    rw [mu_1, mu_1, nxt_ge (by omega)]
    omega
  · have b0 := h.2 0 (by omega)
    have b1 := h.2 1 (by omega)
    have e : t = 0 ∨ t = 1 := by omega
    rcases e with rfl | rfl
    · have a1 := hm 1 (by omega) (by omega)
      have e0 : nxtp p 0 0 = p 0 + 1 := nxt_ge (by omega)
      have e1 : nxtp p 0 1 = p 0 + 1 + 1 := nxt_ge (by omega)
      have g := c2_s (x := m - 1 - (p 0 + 1)) (y := m - 1 - p 0) (by omega)
      rw [mu_2, mu_2, e0, e1, g]
      omega
    · have e0 : nxtp p 1 0 = p 0 := nxt_lt (by omega)
      have e1 : nxtp p 1 1 = p 1 + 1 := nxt_ge (by omega)
      rw [mu_2, mu_2, e0, e1]
      omega
  · have b0 := h.2 0 (by omega)
    have b1 := h.2 1 (by omega)
    have b2 := h.2 2 (by omega)
    have e : t = 0 ∨ t = 1 ∨ t = 2 := by omega
    rcases e with rfl | rfl | rfl
    · have a1 := hm 1 (by omega) (by omega)
      have a2 := hm 2 (by omega) (by omega)
      have e0 : nxtp p 0 0 = p 0 + 1 := nxt_ge (by omega)
      have e1 : nxtp p 0 1 = p 0 + 1 + 1 := nxt_ge (by omega)
      have e2 : nxtp p 0 2 = p 0 + 1 + 2 := nxt_ge (by omega)
      have g := c3_s (x := m - 1 - (p 0 + 1)) (y := m - 1 - p 0) (by omega)
      have g2 := c2_s (x := m - 1 - (p 0 + 1 + 1)) (y := m - 1 - (p 0 + 1)) (by omega)
      rw [mu_3, mu_3, e0, e1, e2, g, g2]
      omega
    · have a2 := hm 2 (by omega) (by omega)
      have e0 : nxtp p 1 0 = p 0 := nxt_lt (by omega)
      have e1 : nxtp p 1 1 = p 1 + 1 := nxt_ge (by omega)
      have e2 : nxtp p 1 2 = p 1 + 1 + 1 := nxt_ge (by omega)
      have g := c2_s (x := m - 1 - (p 1 + 1)) (y := m - 1 - p 1) (by omega)
      rw [mu_3, mu_3, e0, e1, e2, g]
      omega
    · have e0 : nxtp p 2 0 = p 0 := nxt_lt (by omega)
      have e1 : nxtp p 2 1 = p 1 := nxt_lt (by omega)
      have e2 : nxtp p 2 2 = p 2 + 1 := nxt_ge (by omega)
      rw [mu_3, mu_3, e0, e1, e2]
      omega
/-- how many would have to go: FE B: feasible without the clues of B; Cn: a clue counts -/
def AS (FE : (Nat → Prop) → Prop) (Cn : Nat → Prop) (c : Nat) (r : Int32) : Prop :=
  (FE (fun _ => False) ∧ r = 0) ∨ (¬ FE (fun _ => False) ∧ (∃ a, a < c ∧ Cn a ∧ FE (fun k => k = a)) ∧ r = 1) ∨
  (¬ FE (fun _ => False) ∧ ¬ (∃ a, a < c ∧ Cn a ∧ FE (fun k => k = a)) ∧ (∃ a b, a < b ∧ b < c ∧ Cn a ∧ Cn b ∧ FE (fun k => k = a ∨ k = b)) ∧ r = 2) ∨
  (¬ FE (fun _ => False) ∧ ¬ (∃ a, a < c ∧ Cn a ∧ FE (fun k => k = a)) ∧ ¬ (∃ a b, a < b ∧ b < c ∧ Cn a ∧ Cn b ∧ FE (fun k => k = a ∨ k = b)) ∧ (∃ a b d, a < b ∧ b < d ∧ d < c ∧ Cn a ∧ Cn b ∧ Cn d ∧ FE (fun k => k = a ∨ k = b ∨ k = d)) ∧ r = 3) ∨
  (¬ FE (fun _ => False) ∧ ¬ (∃ a, a < c ∧ Cn a ∧ FE (fun k => k = a)) ∧ ¬ (∃ a b, a < b ∧ b < c ∧ Cn a ∧ Cn b ∧ FE (fun k => k = a ∨ k = b)) ∧ ¬ (∃ a b d, a < b ∧ b < d ∧ d < c ∧ Cn a ∧ Cn b ∧ Cn d ∧ FE (fun k => k = a ∨ k = b ∨ k = d)) ∧ r = -4)
theorem AS_u {FE : (Nat → Prop) → Prop} {Cn : Nat → Prop} {c : Nat} {r r' : Int32} (h : AS FE Cn c r) (h' : AS FE Cn c r') : r = r' := by
  rcases h with ⟨a, e⟩ | ⟨a, b, e⟩ | ⟨a, b, d, e⟩ | ⟨a, b, d, g, e⟩ | ⟨a, b, d, g, e⟩ <;> rcases h' with ⟨a', e'⟩ | ⟨a', b', e'⟩ | ⟨a', b', d', e'⟩ | ⟨a', b', d', g', e'⟩ | ⟨a', b', d', g', e'⟩ <;> first | exact e.trans e'.symm | exact absurd a a' | exact absurd a' a | exact absurd b b' | exact absurd b' b | exact absurd d d' | exact absurd d' d | exact absurd g g' | exact absurd g' g
/-- the same by places in the list q of those that count -/
theorem S1_q {FE : (Nat → Prop) → Prop} {Cn : Nat → Prop} {c m : Nat} {q : Nat → Nat} (h1 : ∀ j, j < m → q j < c ∧ Cn (q j)) (h2 : ∀ k, k < c → Cn k → ∃ j, j < m ∧ q j = k) : (∃ a, a < c ∧ Cn a ∧ FE (fun k => k = a)) ↔ ∃ r, inc 1 m r ∧ FE (fun k => ∃ u, u < 1 ∧ k = q (r u)) := by
  constructor
  · rintro ⟨a, ha, ca, fe⟩
    obtain ⟨j, hj, e⟩ := h2 a ha ca
    refine ⟨fun _ => j, ⟨fun u v h1 h2 => by omega, fun u hu => by show j + 1 ≤ m + u; omega⟩, ?_⟩
    have es : (fun k => ∃ u, u < 1 ∧ k = q ((fun _ => j) u)) = fun k => k = a := by
      funext k
      refine propext ⟨fun ⟨u, _, z⟩ => z.trans e, fun z => ⟨0, by omega, z.trans e.symm⟩⟩
    rw [es]
    exact fe
  · rintro ⟨r, hr, fe⟩
    have b := hr.2 0 (by omega)
    obtain ⟨g1, g2⟩ := h1 (r 0) (by omega)
    refine ⟨q (r 0), g1, g2, ?_⟩
    have es : (fun k => ∃ u, u < 1 ∧ k = q (r u)) = fun k => k = q (r 0) := by
      funext k
      refine propext ⟨fun ⟨u, hu, z⟩ => ?_, fun z => ⟨0, by omega, z⟩⟩
      have e : u = 0 := by omega
      subst e
      exact z
    rw [es] at fe
    exact fe
theorem q_lt {m : Nat} {q : Nat → Nat} (h3 : ∀ j j', j < j' → j' < m → q j < q j') {i j : Nat} (hi : i < m) (hj : j < m) (h : q i < q j) : i < j := by
  rcases Nat.lt_trichotomy i j with a | a | a
  · exact a
  · subst a
    omega
  · have := h3 j i a hi
    omega
theorem S2_q {FE : (Nat → Prop) → Prop} {Cn : Nat → Prop} {c m : Nat} {q : Nat → Nat} (h1 : ∀ j, j < m → q j < c ∧ Cn (q j)) (h2 : ∀ k, k < c → Cn k → ∃ j, j < m ∧ q j = k) (h3 : ∀ j j', j < j' → j' < m → q j < q j') : (∃ a b, a < b ∧ b < c ∧ Cn a ∧ Cn b ∧ FE (fun k => k = a ∨ k = b)) ↔ ∃ r, inc 2 m r ∧ FE (fun k => ∃ u, u < 2 ∧ k = q (r u)) := by
  constructor
  · rintro ⟨a, b, hab, hb, ca, cb, fe⟩
    obtain ⟨i, hi, ei⟩ := h2 a (by omega) ca
    obtain ⟨j, hj, ej⟩ := h2 b hb cb
    have hij : i < j := q_lt h3 hi hj (by omega)
    refine ⟨fun u => if u = 0 then i else j, ⟨fun u v h1 h2 => ?_, fun u hu => ?_⟩, ?_⟩
    · have e1 : u = 0 := by omega
      have e2 : v = 1 := by omega
      subst e1
      subst e2
      show i + 1 ≤ j
      omega
    · show (if u = 0 then i else j) + 2 ≤ m + u
      by_cases e : u = 0
      · rw [if_pos e]
        omega
      · rw [if_neg e]
        omega
    · have es : (fun k => ∃ u, u < 2 ∧ k = q ((fun u => if u = 0 then i else j) u)) = fun k => k = a ∨ k = b := by
        funext k
        refine propext ⟨fun ⟨u, hu, z⟩ => ?_, fun z => ?_⟩
        · have e : u = 0 ∨ u = 1 := by omega
          rcases e with rfl | rfl
          · exact Or.inl (z.trans ei)
          · exact Or.inr (z.trans ej)
        · rcases z with z | z
          · exact ⟨0, by omega, z.trans ei.symm⟩
          · exact ⟨1, by omega, z.trans ej.symm⟩
      rw [es]
      exact fe
  · rintro ⟨r, hr, fe⟩
    have b0 := hr.2 0 (by omega)
    have b1 := hr.2 1 (by omega)
    have b2 := hr.1 0 1 (by omega) (by omega)
    obtain ⟨g1, g2⟩ := h1 (r 0) (by omega)
    obtain ⟨g3, g4⟩ := h1 (r 1) (by omega)
    refine ⟨q (r 0), q (r 1), h3 _ _ (by omega) (by omega), g3, g2, g4, ?_⟩
    have es : (fun k => ∃ u, u < 2 ∧ k = q (r u)) = fun k => k = q (r 0) ∨ k = q (r 1) := by
      funext k
      refine propext ⟨fun ⟨u, hu, z⟩ => ?_, fun z => ?_⟩
      · have e : u = 0 ∨ u = 1 := by omega
        rcases e with rfl | rfl
        · exact Or.inl z
        · exact Or.inr z
      · rcases z with z | z
        · exact ⟨0, by omega, z⟩
        · exact ⟨1, by omega, z⟩
    rw [es] at fe
    exact fe
theorem S3_q {FE : (Nat → Prop) → Prop} {Cn : Nat → Prop} {c m : Nat} {q : Nat → Nat} (h1 : ∀ j, j < m → q j < c ∧ Cn (q j)) (h2 : ∀ k, k < c → Cn k → ∃ j, j < m ∧ q j = k) (h3 : ∀ j j', j < j' → j' < m → q j < q j') : (∃ a b d, a < b ∧ b < d ∧ d < c ∧ Cn a ∧ Cn b ∧ Cn d ∧ FE (fun k => k = a ∨ k = b ∨ k = d)) ↔ ∃ r, inc 3 m r ∧ FE (fun k => ∃ u, u < 3 ∧ k = q (r u)) := by
  constructor
  · rintro ⟨a, b, d, hab, hbd, hd, ca, cb, cd, fe⟩
    obtain ⟨i, hi, ei⟩ := h2 a (by omega) ca
    obtain ⟨j, hj, ej⟩ := h2 b (by omega) cb
    obtain ⟨l, hl, el⟩ := h2 d hd cd
    have hij : i < j := q_lt h3 hi hj (by omega)
    have hjl : j < l := q_lt h3 hj hl (by omega)
    refine ⟨fun u => if u = 0 then i else if u = 1 then j else l, ⟨fun u v h1 h2 => ?_, fun u hu => ?_⟩, ?_⟩
    · show (if u = 0 then i else if u = 1 then j else l) + (v - u) ≤ (if v = 0 then i else if v = 1 then j else l)
      have e : (u = 0 ∧ v = 1) ∨ (u = 0 ∧ v = 2) ∨ (u = 1 ∧ v = 2) := by omega
      rcases e with ⟨rfl, rfl⟩ | ⟨rfl, rfl⟩ | ⟨rfl, rfl⟩
      · show i + 1 ≤ j
        omega
      · show i + 2 ≤ l
        omega
      · show j + 1 ≤ l
        omega
    · have e : u = 0 ∨ u = 1 ∨ u = 2 := by omega
      rcases e with rfl | rfl | rfl
      · show i + 3 ≤ m + 0
        omega
      · show j + 3 ≤ m + 1
        omega
      · show l + 3 ≤ m + 2
        omega
    · have es : (fun k => ∃ u, u < 3 ∧ k = q ((fun u => if u = 0 then i else if u = 1 then j else l) u)) = fun k => k = a ∨ k = b ∨ k = d := by
        funext k
        refine propext ⟨fun ⟨u, hu, z⟩ => ?_, fun z => ?_⟩
        · have e : u = 0 ∨ u = 1 ∨ u = 2 := by omega
          rcases e with rfl | rfl | rfl
          · exact Or.inl (z.trans ei)
          · exact Or.inr (Or.inl (z.trans ej))
          · exact Or.inr (Or.inr (z.trans el))
        · rcases z with z | z | z
          · exact ⟨0, by omega, z.trans ei.symm⟩
          · exact ⟨1, by omega, z.trans ej.symm⟩
          · exact ⟨2, by omega, z.trans el.symm⟩
      rw [es]
      exact fe
  · rintro ⟨r, hr, fe⟩
    have b1 := hr.2 1 (by omega)
    have b2 := hr.2 2 (by omega)
    have b0 := hr.2 0 (by omega)
    have d1 := hr.1 0 1 (by omega) (by omega)
    have d2 := hr.1 1 2 (by omega) (by omega)
    obtain ⟨g1, g2⟩ := h1 (r 0) (by omega)
    obtain ⟨g3, g4⟩ := h1 (r 1) (by omega)
    obtain ⟨g5, g6⟩ := h1 (r 2) (by omega)
    refine ⟨q (r 0), q (r 1), q (r 2), h3 _ _ (by omega) (by omega), h3 _ _ (by omega) (by omega), g5, g2, g4, g6, ?_⟩
    have es : (fun k => ∃ u, u < 3 ∧ k = q (r u)) = fun k => k = q (r 0) ∨ k = q (r 1) ∨ k = q (r 2) := by
      funext k
      refine propext ⟨fun ⟨u, hu, z⟩ => ?_, fun z => ?_⟩
      · have e : u = 0 ∨ u = 1 ∨ u = 2 := by omega
        rcases e with rfl | rfl | rfl
        · exact Or.inl z
        · exact Or.inr (Or.inl z)
        · exact Or.inr (Or.inr z)
      · rcases z with z | z | z
        · exact ⟨0, by omega, z⟩
        · exact ⟨1, by omega, z⟩
        · exact ⟨2, by omega, z⟩
    rw [es] at fe
    exact fe
