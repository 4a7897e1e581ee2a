/-! ===== THE CONSTRUCTORS ===== -/
/-- the ints that constructors leave, where they aren't 0: the rules in force, numbers, lengths; the model's lanes and rules -/
def inix (a i : Nat) : Int32 :=
  if 109 ≤ a ∧ a ≤ 112 then (if i = 0 ∨ i = 2 then 3 else if i = 1 then 2 else 0)
  else if a = 169 ∧ i < 40 then -4
  else if a = 180 ∧ i < 4 then -1
  else if a = 224 ∧ i < 4 then -1
  else if a = 213 ∧ i = 0 then 3
  else if a = 214 ∧ i = 0 then 2
  else if a = 215 ∧ i = 0 then 3
  else 0
/-- behind a constructor that makes the cells n0 .. n1 - 1 -/
def zi (n0 n1 : Nat) (f f' : Nat → Nat → Int32) : Prop := ∀ a i, f' a i = if a < n0 then f a i else if a < n1 then inix a i else 0
def zl (n : Nat) (f f' : Nat → Nat → Int64) : Prop := ∀ a i, f' a i = if a < n then f a i else 0
def ni (n0 n1 : Nat) : Prop := ∀ a i, n0 ≤ a → a < n1 → inix a i = 0
def zr (n : Nat) (f f' : Nat → Nat → Int32) : Prop := ∀ a i, f' a i = if a < n then f a i else 0
theorem zr_ci {n k : Nat} {f : Nat → Nat → Int32} (h : k = n) : zr n f (m_ci k f) := by
  subst h
  exact fun a i => rfl
theorem zr_up {n k : Nat} {f f' : Nat → Nat → Int32} (h : n ≤ k) (hz : zr n f f') : zr n f (m_ci k f') := fun a i => by
  unfold m_ci
  rw [hz a i]
  by_cases h1 : a < n
  · rw [if_pos (show a < k by omega)]
  · rw [if_neg h1]
    split <;> rfl
theorem zi_of {n0 n1 : Nat} {f f' : Nat → Nat → Int32} (h0 : ni n0 n1) (hz : zr n0 f f') : zi n0 n1 f f' := fun a i => by
  rw [hz a i]
  by_cases q0 : a < n0
  · rw [if_pos q0, if_pos q0]
  · rw [if_neg q0, if_neg q0]
    split
    · rename_i q1
      exact (h0 a i (by omega) q1).symm
    · rfl
theorem zi_app {n0 n1 n2 : Nat} {f f' f'' : Nat → Nat → Int32} (h1 : n0 ≤ n1) (h2 : n1 ≤ n2) (hz : zi n0 n1 f f') (hz' : zi n1 n2 f' f'') : zi n0 n2 f f'' := fun a i => by
  rw [hz' a i, hz a i]
  by_cases q0 : a < n0
  · rw [if_pos q0, if_pos (show a < n1 by omega), if_pos q0]
  · rw [if_neg q0, if_neg q0]
    by_cases q1 : a < n1
    · rw [if_pos q1, if_pos q1, if_pos (show a < n2 by omega)]
    · rw [if_neg q1]
theorem zl_ci {n k : Nat} {f : Nat → Nat → Int64} (h : k = n) : zl n f (m_cl k f) := by
  subst h
  exact fun a i => rfl
theorem zl_up {n k : Nat} {f f' : Nat → Nat → Int64} (h : n ≤ k) (hz : zl n f f') : zl n f (m_cl k f') := fun a i => by
  unfold m_cl
  rw [hz a i]
  by_cases h1 : a < n
  · rw [if_pos (show a < k by omega)]
  · rw [if_neg h1]
    split <;> rfl
theorem zi_new {n n1 : Nat} {f f' : Nat → Nat → Int32} (h0 : ∀ i, inix n i = 0) (hn : n < n1) (hz : zi (n + 1) n1 (m_ci n f) f') : zi n n1 f f' := fun a i => by
  rw [hz a i]
  unfold m_ci
  by_cases q0 : a < n
  · rw [if_pos (show a < n + 1 by omega), if_pos q0, if_pos q0]
  · rw [if_neg q0, if_neg q0]
    by_cases q1 : a = n
    · subst q1
      rw [if_pos (show a < a + 1 by omega), if_pos hn]
      exact (h0 i).symm
    · rw [if_neg (show ¬ a < n + 1 by omega)]
theorem rp_obj {d k : Nat} {h : mH} {R : Option Value → mH → Prop} (hd : 1 ≤ d) (H : R none h) : Run mtab d 0 [.ref k] h R := by
  obtain ⟨d, rfl⟩ : ∃ e, d = e + 1 := ⟨d - 1, by omega⟩
  exact H
theorem rp_max {d : Nat} {x y : Int32} {h : mH} {R : Option Value → mH → Prop} (hd : 1 ≤ d) (H : R (some (.int (if x < y then y else x))) h) : Run mtab d 3 [.int x, .int y] h R := by
  obtain ⟨d, rfl⟩ : ∃ e, d = e + 1 := ⟨d - 1, by omega⟩
  exact H
theorem rp_min {d : Nat} {x y : Int32} {h : mH} {R : Option Value → mH → Prop} (hd : 1 ≤ d) (H : R (some (.int (if y < x then y else x))) h) : Run mtab d 4 [.int x, .int y] h R := by
  obtain ⟨d, rfl⟩ : ∃ e, d = e + 1 := ⟨d - 1, by omega⟩
  exact H
theorem rp_cpy {d a b ta na nb : Nat} {ra rb : List (Option Nat)} {sp dp n : Int32} {l : List mS} {f : Nat → Nat → Int32} {g : Nat → Nat → Int64} {R : Option Value → mH → Prop} (hd : 1 ≤ d) (ha : m_nth l a = some (ta, na, ra)) (ht : (Nat.beq ta 100 || Nat.beq ta 200) = true) (hb : m_nth l b = some (100, nb, rb)) (hs : ¬ sp < 0 ∧ ¬ dp < 0 ∧ ¬ n < 0 ∧ sp.toNatClampNeg + n.toNatClampNeg ≤ na ∧ dp.toNatClampNeg + n.toNatClampNeg ≤ nb) (H : R none (l, m_cpy f a b sp.toNatClampNeg dp.toNatClampNeg n.toNatClampNeg, g)) : Run mtab d 1 [.ref a, .int sp, .ref b, .int dp, .int n] (l, f, g) R := by
  obtain ⟨d, rfl⟩ : ∃ e, d = e + 1 := ⟨d - 1, by omega⟩
  have key : m_prim 1 [.ref a, .int sp, .ref b, .int dp, .int n] (l, f, g) R := by
    simp only [m_prim, ha, hb, ht]
    exact ⟨hs, H⟩
  exact key
def sa_Works (L : Nat) : List mS := [(200, L, []), (200, 3, []), (200, 3, []), (200, 4, []), (201, 0, []), (10, 9, [none, none, none, none, none, none, none, none, none]), (8, 14, [none, none, none, none, none, none, none, none, none, none, none, none, none, none])]
def sb_Works (L : Nat) : List mS := [(200, L, []), (200, 3, []), (200, 3, []), (200, 4, []), (201, 0, []), (10, 9, [none, none, none, none, none, none, none, none, none]), (8, 14, [some 7, some 8, some 9, some 10, some 11, some 12, some 13, some 14, some 55, some 96, some 97, some 98, some 99, none]), (100, 40, []), (100, 40, []), (100, 40, []), (100, 40, []), (100, 40, []), (100, 40, []), (101, 40, []), (104, 40, [some 15, some 16, some 17, some 18, some 19, some 20, some 21, some 22, some 23, some 24, some 25, some 26, some 27, some 28, some 29, some 30, some 31, some 32, some 33, some 34, some 35, some 36, some 37, some 38, some 39, some 40, some 41, some 42, some 43, some 44, some 45, some 46, some 47, some 48, some 49, some 50, some 51, some 52, some 53, some 54]), (100, 4, []), (100, 4, []), (100, 4, []), (100, 4, []), (100, 4, []), (100, 4, []), (100, 4, []), (100, 4, []), (100, 4, []), (100, 4, []), (100, 4, []), (100, 4, []), (100, 4, []), (100, 4, []), (100, 4, []), (100, 4, []), (100, 4, []), (100, 4, []), (100, 4, []), (100, 4, []), (100, 4, []), (100, 4, []), (100, 4, []), (100, 4, []), (100, 4, []), (100, 4, []), (100, 4, []), (100, 4, []), (100, 4, []), (100, 4, []), (100, 4, []), (100, 4, []), (100, 4, []), (100, 4, []), (100, 4, []), (100, 4, []), (100, 4, []), (100, 4, []), (100, 4, []), (100, 4, []), (104, 40, [some 56, some 57, some 58, some 59, some 60, some 61, some 62, some 63, some 64, some 65, some 66, some 67, some 68, some 69, some 70, some 71, some 72, some 73, some 74, some 75, some 76, some 77, some 78, some 79, some 80, some 81, some 82, some 83, some 84, some 85, some 86, some 87, some 88, some 89, some 90, some 91, some 92, some 93, some 94, some 95]), (100, 4, []), (100, 4, []), (100, 4, []), (100, 4, []), (100, 4, []), (100, 4, []), (100, 4, []), (100, 4, []), (100, 4, []), (100, 4, []), (100, 4, []), (100, 4, []), (100, 4, []), (100, 4, []), (100, 4, []), (100, 4, []), (100, 4, []), (100, 4, []), (100, 4, []), (100, 4, []), (100, 4, []), (100, 4, []), (100, 4, []), (100, 4, []), (100, 4, []), (100, 4, []), (100, 4, []), (100, 4, []), (100, 4, []), (100, 4, []), (100, 4, []), (100, 4, []), (100, 4, []), (100, 4, []), (100, 4, []), (100, 4, []), (100, 4, []), (100, 4, []), (100, 4, []), (100, 4, []), (100, 40, []), (100, 40, []), (100, 40, []), (100, 40, [])]
set_option maxHeartbeats 4000000 in
set_option maxRecDepth 100000 in
theorem ct_Works_init {d L : Nat} {f : Nat → Nat → Int32} {g : Nat → Nat → Int64} {R : Option Value → mH → Prop} (hd : 2 ≤ d) (hR : ∀ f' g', zi 7 100 f f' → R none (sb_Works L, f', g')) : Run mtab d 66 [.ref 6] (sa_Works L, f, g) R := by
  obtain ⟨d, rfl⟩ : ∃ e, d = e + 1 := ⟨d - 1, by omega⟩
  have h0 : ni 7 100 := by
    intro a i h1 h2
    unfold inix
    repeat rw [if_neg (by omega)]
  refine go_X8_init rfl ?_
  conv => whnf
  refine ⟨⟨Nat.le_of_ble_eq_true rfl, Nat.le_of_ble_eq_true rfl⟩, rp_obj (by omega) ?_⟩
  conv => whnf
  refine ⟨⟨by decide, by decide, Nat.le_of_ble_eq_true rfl, Nat.le_of_ble_eq_true rfl⟩, ?_⟩
  conv => whnf
  refine ⟨⟨by decide, by decide, Nat.le_of_ble_eq_true rfl, Nat.le_of_ble_eq_true rfl⟩, ?_⟩
  conv => whnf
  refine ⟨⟨by decide, by decide, Nat.le_of_ble_eq_true rfl, Nat.le_of_ble_eq_true rfl⟩, ?_⟩
  conv => whnf
  refine ⟨⟨by decide, by decide, Nat.le_of_ble_eq_true rfl, Nat.le_of_ble_eq_true rfl⟩, ?_⟩
  conv => whnf
  refine ⟨⟨by decide, by decide, Nat.le_of_ble_eq_true rfl, Nat.le_of_ble_eq_true rfl⟩, ?_⟩
  conv => whnf
  refine ⟨⟨by decide, by decide, Nat.le_of_ble_eq_true rfl, Nat.le_of_ble_eq_true rfl⟩, ?_⟩
  conv => whnf
  refine ⟨⟨by decide, by decide, Nat.le_of_ble_eq_true rfl, Nat.le_of_ble_eq_true rfl⟩, ?_⟩
  conv => whnf
  refine ⟨⟨by decide, by decide, by decide, by decide, Nat.le_of_ble_eq_true rfl, Nat.le_of_ble_eq_true rfl⟩, ?_⟩
  conv => whnf
  refine ⟨⟨by decide, by decide, by decide, by decide, Nat.le_of_ble_eq_true rfl, Nat.le_of_ble_eq_true rfl⟩, ?_⟩
  conv => whnf
  refine ⟨⟨by decide, by decide, Nat.le_of_ble_eq_true rfl, Nat.le_of_ble_eq_true rfl⟩, ?_⟩
  conv => whnf
  refine ⟨⟨by decide, by decide, Nat.le_of_ble_eq_true rfl, Nat.le_of_ble_eq_true rfl⟩, ?_⟩
  conv => whnf
  refine ⟨⟨by decide, by decide, Nat.le_of_ble_eq_true rfl, Nat.le_of_ble_eq_true rfl⟩, ?_⟩
  conv => whnf
  refine ⟨⟨by decide, by decide, Nat.le_of_ble_eq_true rfl, Nat.le_of_ble_eq_true rfl⟩, ?_⟩
  conv => whnf
  refine ⟨⟨rfl, rfl⟩, hR _ _ ?_⟩
  refine zi_of h0 ?_
  iterate 12 refine zr_up (Nat.le_of_ble_eq_true rfl) ?_
  exact zr_ci rfl
def sa_Owners (L : Nat) : List mS := [(200, L, []), (200, 3, []), (200, 3, []), (200, 4, []), (201, 0, []), (10, 9, [some 6, none, none, none, none, none, none, none, none]), (8, 14, [some 7, some 8, some 9, some 10, some 11, some 12, some 13, some 14, some 55, some 96, some 97, some 98, some 99, none]), (100, 40, []), (100, 40, []), (100, 40, []), (100, 40, []), (100, 40, []), (100, 40, []), (101, 40, []), (104, 40, [some 15, some 16, some 17, some 18, some 19, some 20, some 21, some 22, some 23, some 24, some 25, some 26, some 27, some 28, some 29, some 30, some 31, some 32, some 33, some 34, some 35, some 36, some 37, some 38, some 39, some 40, some 41, some 42, some 43, some 44, some 45, some 46, some 47, some 48, some 49, some 50, some 51, some 52, some 53, some 54]), (100, 4, []), (100, 4, []), (100, 4, []), (100, 4, []), (100, 4, []), (100, 4, []), (100, 4, []), (100, 4, []), (100, 4, []), (100, 4, []), (100, 4, []), (100, 4, []), (100, 4, []), (100, 4, []), (100, 4, []), (100, 4, []), (100, 4, []), (100, 4, []), (100, 4, []), (100, 4, []), (100, 4, []), (100, 4, []), (100, 4, []), (100, 4, []), (100, 4, []), (100, 4, []), (100, 4, []), (100, 4, []), (100, 4, []), (100, 4, []), (100, 4, []), (100, 4, []), (100, 4, []), (100, 4, []), (100, 4, []), (100, 4, []), (100, 4, []), (100, 4, []), (100, 4, []), (100, 4, []), (104, 40, [some 56, some 57, some 58, some 59, some 60, some 61, some 62, some 63, some 64, some 65, some 66, some 67, some 68, some 69, some 70, some 71, some 72, some 73, some 74, some 75, some 76, some 77, some 78, some 79, some 80, some 81, some 82, some 83, some 84, some 85, some 86, some 87, some 88, some 89, some 90, some 91, some 92, some 93, some 94, some 95]), (100, 4, []), (100, 4, []), (100, 4, []), (100, 4, []), (100, 4, []), (100, 4, []), (100, 4, []), (100, 4, []), (100, 4, []), (100, 4, []), (100, 4, []), (100, 4, []), (100, 4, []), (100, 4, []), (100, 4, []), (100, 4, []), (100, 4, []), (100, 4, []), (100, 4, []), (100, 4, []), (100, 4, []), (100, 4, []), (100, 4, []), (100, 4, []), (100, 4, []), (100, 4, []), (100, 4, []), (100, 4, []), (100, 4, []), (100, 4, []), (100, 4, []), (100, 4, []), (100, 4, []), (100, 4, []), (100, 4, []), (100, 4, []), (100, 4, []), (100, 4, []), (100, 4, []), (100, 4, []), (100, 40, []), (100, 40, []), (100, 40, []), (100, 40, []), (5, 7, [none, none, none, none, none, none, none])]
def sb_Owners (L : Nat) : List mS := [(200, L, []), (200, 3, []), (200, 3, []), (200, 4, []), (201, 0, []), (10, 9, [some 6, none, none, none, none, none, none, none, none]), (8, 14, [some 7, some 8, some 9, some 10, some 11, some 12, some 13, some 14, some 55, some 96, some 97, some 98, some 99, none]), (100, 40, []), (100, 40, []), (100, 40, []), (100, 40, []), (100, 40, []), (100, 40, []), (101, 40, []), (104, 40, [some 15, some 16, some 17, some 18, some 19, some 20, some 21, some 22, some 23, some 24, some 25, some 26, some 27, some 28, some 29, some 30, some 31, some 32, some 33, some 34, some 35, some 36, some 37, some 38, some 39, some 40, some 41, some 42, some 43, some 44, some 45, some 46, some 47, some 48, some 49, some 50, some 51, some 52, some 53, some 54]), (100, 4, []), (100, 4, []), (100, 4, []), (100, 4, []), (100, 4, []), (100, 4, []), (100, 4, []), (100, 4, []), (100, 4, []), (100, 4, []), (100, 4, []), (100, 4, []), (100, 4, []), (100, 4, []), (100, 4, []), (100, 4, []), (100, 4, []), (100, 4, []), (100, 4, []), (100, 4, []), (100, 4, []), (100, 4, []), (100, 4, []), (100, 4, []), (100, 4, []), (100, 4, []), (100, 4, []), (100, 4, []), (100, 4, []), (100, 4, []), (100, 4, []), (100, 4, []), (100, 4, []), (100, 4, []), (100, 4, []), (100, 4, []), (100, 4, []), (100, 4, []), (100, 4, []), (100, 4, []), (104, 40, [some 56, some 57, some 58, some 59, some 60, some 61, some 62, some 63, some 64, some 65, some 66, some 67, some 68, some 69, some 70, some 71, some 72, some 73, some 74, some 75, some 76, some 77, some 78, some 79, some 80, some 81, some 82, some 83, some 84, some 85, some 86, some 87, some 88, some 89, some 90, some 91, some 92, some 93, some 94, some 95]), (100, 4, []), (100, 4, []), (100, 4, []), (100, 4, []), (100, 4, []), (100, 4, []), (100, 4, []), (100, 4, []), (100, 4, []), (100, 4, []), (100, 4, []), (100, 4, []), (100, 4, []), (100, 4, []), (100, 4, []), (100, 4, []), (100, 4, []), (100, 4, []), (100, 4, []), (100, 4, []), (100, 4, []), (100, 4, []), (100, 4, []), (100, 4, []), (100, 4, []), (100, 4, []), (100, 4, []), (100, 4, []), (100, 4, []), (100, 4, []), (100, 4, []), (100, 4, []), (100, 4, []), (100, 4, []), (100, 4, []), (100, 4, []), (100, 4, []), (100, 4, []), (100, 4, []), (100, 4, []), (100, 40, []), (100, 40, []), (100, 40, []), (100, 40, []), (5, 7, [some 101, some 102, some 103, some 104, some 105, some 106, none]), (100, 60, []), (100, 60, []), (100, 60, []), (100, 60, []), (100, 60, []), (100, 60, [])]
set_option maxHeartbeats 4000000 in
set_option maxRecDepth 100000 in
theorem ct_Owners_init {d L : Nat} {f : Nat → Nat → Int32} {g : Nat → Nat → Int64} {R : Option Value → mH → Prop} (hd : 2 ≤ d) (hR : ∀ f' g', zi 101 107 f f' → R none (sb_Owners L, f', g')) : Run mtab d 42 [.ref 100] (sa_Owners L, f, g) R := by
  obtain ⟨d, rfl⟩ : ∃ e, d = e + 1 := ⟨d - 1, by omega⟩
  have h0 : ni 101 107 := by
    intro a i h1 h2
    unfold inix
    repeat rw [if_neg (by omega)]
  refine go_X5_init rfl ?_
  conv => whnf
  refine ⟨⟨Nat.le_of_ble_eq_true rfl, Nat.le_of_ble_eq_true rfl⟩, rp_obj (by omega) ?_⟩
  conv => whnf
  refine ⟨⟨by decide, by decide, Nat.le_of_ble_eq_true rfl, Nat.le_of_ble_eq_true rfl⟩, ?_⟩
  conv => whnf
  refine ⟨⟨by decide, by decide, Nat.le_of_ble_eq_true rfl, Nat.le_of_ble_eq_true rfl⟩, ?_⟩
  conv => whnf
  refine ⟨⟨by decide, by decide, Nat.le_of_ble_eq_true rfl, Nat.le_of_ble_eq_true rfl⟩, ?_⟩
  conv => whnf
  refine ⟨⟨by decide, by decide, Nat.le_of_ble_eq_true rfl, Nat.le_of_ble_eq_true rfl⟩, ?_⟩
  conv => whnf
  refine ⟨⟨by decide, by decide, Nat.le_of_ble_eq_true rfl, Nat.le_of_ble_eq_true rfl⟩, ?_⟩
  conv => whnf
  refine ⟨⟨by decide, by decide, Nat.le_of_ble_eq_true rfl, Nat.le_of_ble_eq_true rfl⟩, ?_⟩
  conv => whnf
  refine ⟨⟨rfl, rfl⟩, hR _ _ ?_⟩
  refine zi_of h0 ?_
  iterate 5 refine zr_up (Nat.le_of_ble_eq_true rfl) ?_
  exact zr_ci rfl
def sa_Committee (L : Nat) : List mS := [(200, L, []), (200, 3, []), (200, 3, []), (200, 4, []), (201, 0, []), (10, 9, [some 6, some 100, some 107, none, none, none, none, none, none]), (8, 14, [some 7, some 8, some 9, some 10, some 11, some 12, some 13, some 14, some 55, some 96, some 97, some 98, some 99, none]), (100, 40, []), (100, 40, []), (100, 40, []), (100, 40, []), (100, 40, []), (100, 40, []), (101, 40, []), (104, 40, [some 15, some 16, some 17, some 18, some 19, some 20, some 21, some 22, some 23, some 24, some 25, some 26, some 27, some 28, some 29, some 30, some 31, some 32, some 33, some 34, some 35, some 36, some 37, some 38, some 39, some 40, some 41, some 42, some 43, some 44, some 45, some 46, some 47, some 48, some 49, some 50, some 51, some 52, some 53, some 54]), (100, 4, []), (100, 4, []), (100, 4, []), (100, 4, []), (100, 4, []), (100, 4, []), (100, 4, []), (100, 4, []), (100, 4, []), (100, 4, []), (100, 4, []), (100, 4, []), (100, 4, []), (100, 4, []), (100, 4, []), (100, 4, []), (100, 4, []), (100, 4, []), (100, 4, []), (100, 4, []), (100, 4, []), (100, 4, []), (100, 4, []), (100, 4, []), (100, 4, []), (100, 4, []), (100, 4, []), (100, 4, []), (100, 4, []), (100, 4, []), (100, 4, []), (100, 4, []), (100, 4, []), (100, 4, []), (100, 4, []), (100, 4, []), (100, 4, []), (100, 4, []), (100, 4, []), (100, 4, []), (104, 40, [some 56, some 57, some 58, some 59, some 60, some 61, some 62, some 63, some 64, some 65, some 66, some 67, some 68, some 69, some 70, some 71, some 72, some 73, some 74, some 75, some 76, some 77, some 78, some 79, some 80, some 81, some 82, some 83, some 84, some 85, some 86, some 87, some 88, some 89, some 90, some 91, some 92, some 93, some 94, some 95]), (100, 4, []), (100, 4, []), (100, 4, []), (100, 4, []), (100, 4, []), (100, 4, []), (100, 4, []), (100, 4, []), (100, 4, []), (100, 4, []), (100, 4, []), (100, 4, []), (100, 4, []), (100, 4, []), (100, 4, []), (100, 4, []), (100, 4, []), (100, 4, []), (100, 4, []), (100, 4, []), (100, 4, []), (100, 4, []), (100, 4, []), (100, 4, []), (100, 4, []), (100, 4, []), (100, 4, []), (100, 4, []), (100, 4, []), (100, 4, []), (100, 4, []), (100, 4, []), (100, 4, []), (100, 4, []), (100, 4, []), (100, 4, []), (100, 4, []), (100, 4, []), (100, 4, []), (100, 4, []), (100, 40, []), (100, 40, []), (100, 40, []), (100, 40, []), (5, 7, [some 101, some 102, some 103, some 104, some 105, some 106, none]), (100, 60, []), (100, 60, []), (100, 60, []), (100, 60, []), (100, 60, []), (100, 60, []), (6, 6, [some 108, some 113, some 118, none, none, none]), (104, 4, [some 109, some 110, some 111, some 112]), (100, 3, []), (100, 3, []), (100, 3, []), (100, 3, []), (104, 4, [some 114, some 115, some 116, some 117]), (100, 3, []), (100, 3, []), (100, 3, []), (100, 3, []), (103, 50, []), (0, 10, [none, none, none, none, none, none, none, none, none, none])]
def sb_Committee (L : Nat) : List mS := [(200, L, []), (200, 3, []), (200, 3, []), (200, 4, []), (201, 0, []), (10, 9, [some 6, some 100, some 107, none, none, none, none, none, none]), (8, 14, [some 7, some 8, some 9, some 10, some 11, some 12, some 13, some 14, some 55, some 96, some 97, some 98, some 99, none]), (100, 40, []), (100, 40, []), (100, 40, []), (100, 40, []), (100, 40, []), (100, 40, []), (101, 40, []), (104, 40, [some 15, some 16, some 17, some 18, some 19, some 20, some 21, some 22, some 23, some 24, some 25, some 26, some 27, some 28, some 29, some 30, some 31, some 32, some 33, some 34, some 35, some 36, some 37, some 38, some 39, some 40, some 41, some 42, some 43, some 44, some 45, some 46, some 47, some 48, some 49, some 50, some 51, some 52, some 53, some 54]), (100, 4, []), (100, 4, []), (100, 4, []), (100, 4, []), (100, 4, []), (100, 4, []), (100, 4, []), (100, 4, []), (100, 4, []), (100, 4, []), (100, 4, []), (100, 4, []), (100, 4, []), (100, 4, []), (100, 4, []), (100, 4, []), (100, 4, []), (100, 4, []), (100, 4, []), (100, 4, []), (100, 4, []), (100, 4, []), (100, 4, []), (100, 4, []), (100, 4, []), (100, 4, []), (100, 4, []), (100, 4, []), (100, 4, []), (100, 4, []), (100, 4, []), (100, 4, []), (100, 4, []), (100, 4, []), (100, 4, []), (100, 4, []), (100, 4, []), (100, 4, []), (100, 4, []), (100, 4, []), (104, 40, [some 56, some 57, some 58, some 59, some 60, some 61, some 62, some 63, some 64, some 65, some 66, some 67, some 68, some 69, some 70, some 71, some 72, some 73, some 74, some 75, some 76, some 77, some 78, some 79, some 80, some 81, some 82, some 83, some 84, some 85, some 86, some 87, some 88, some 89, some 90, some 91, some 92, some 93, some 94, some 95]), (100, 4, []), (100, 4, []), (100, 4, []), (100, 4, []), (100, 4, []), (100, 4, []), (100, 4, []), (100, 4, []), (100, 4, []), (100, 4, []), (100, 4, []), (100, 4, []), (100, 4, []), (100, 4, []), (100, 4, []), (100, 4, []), (100, 4, []), (100, 4, []), (100, 4, []), (100, 4, []), (100, 4, []), (100, 4, []), (100, 4, []), (100, 4, []), (100, 4, []), (100, 4, []), (100, 4, []), (100, 4, []), (100, 4, []), (100, 4, []), (100, 4, []), (100, 4, []), (100, 4, []), (100, 4, []), (100, 4, []), (100, 4, []), (100, 4, []), (100, 4, []), (100, 4, []), (100, 4, []), (100, 40, []), (100, 40, []), (100, 40, []), (100, 40, []), (5, 7, [some 101, some 102, some 103, some 104, some 105, some 106, none]), (100, 60, []), (100, 60, []), (100, 60, []), (100, 60, []), (100, 60, []), (100, 60, []), (6, 6, [some 108, some 113, some 118, none, none, none]), (104, 4, [some 109, some 110, some 111, some 112]), (100, 3, []), (100, 3, []), (100, 3, []), (100, 3, []), (104, 4, [some 114, some 115, some 116, some 117]), (100, 3, []), (100, 3, []), (100, 3, []), (100, 3, []), (103, 50, []), (0, 10, [some 120, some 121, some 122, some 123, some 124, some 125, some 126, none, some 127, some 128]), (100, 8, []), (100, 60, []), (100, 60, []), (101, 60, []), (101, 60, []), (100, 60, []), (100, 60, []), (100, 40, []), (100, 40, [])]
set_option maxHeartbeats 4000000 in
set_option maxRecDepth 100000 in
theorem ct_Committee_init {d L : Nat} {f : Nat → Nat → Int32} {g : Nat → Nat → Int64} {R : Option Value → mH → Prop} (hd : 2 ≤ d) (hR : ∀ f' g', zi 120 129 f f' → R none (sb_Committee L, f', g')) : Run mtab d 6 [.ref 119] (sa_Committee L, f, g) R := by
  obtain ⟨d, rfl⟩ : ∃ e, d = e + 1 := ⟨d - 1, by omega⟩
  have h0 : ni 120 129 := by
    intro a i h1 h2
    unfold inix
    repeat rw [if_neg (by omega)]
  refine go_X0_init rfl ?_
  conv => whnf
  refine ⟨⟨Nat.le_of_ble_eq_true rfl, Nat.le_of_ble_eq_true rfl⟩, rp_obj (by omega) ?_⟩
  conv => whnf
  refine ⟨⟨by decide, by decide, Nat.le_of_ble_eq_true rfl, Nat.le_of_ble_eq_true rfl⟩, ?_⟩
  conv => whnf
  refine ⟨⟨by decide, by decide, Nat.le_of_ble_eq_true rfl, Nat.le_of_ble_eq_true rfl⟩, ?_⟩
  conv => whnf
  refine ⟨⟨by decide, by decide, Nat.le_of_ble_eq_true rfl, Nat.le_of_ble_eq_true rfl⟩, ?_⟩
  conv => whnf
  refine ⟨⟨by decide, by decide, Nat.le_of_ble_eq_true rfl, Nat.le_of_ble_eq_true rfl⟩, ?_⟩
  conv => whnf
  refine ⟨⟨by decide, by decide, Nat.le_of_ble_eq_true rfl, Nat.le_of_ble_eq_true rfl⟩, ?_⟩
  conv => whnf
  refine ⟨⟨by decide, by decide, Nat.le_of_ble_eq_true rfl, Nat.le_of_ble_eq_true rfl⟩, ?_⟩
  conv => whnf
  refine ⟨⟨by decide, by decide, Nat.le_of_ble_eq_true rfl, Nat.le_of_ble_eq_true rfl⟩, ?_⟩
  conv => whnf
  refine ⟨⟨by decide, by decide, Nat.le_of_ble_eq_true rfl, Nat.le_of_ble_eq_true rfl⟩, ?_⟩
  conv => whnf
  refine ⟨⟨by decide, by decide, Nat.le_of_ble_eq_true rfl, Nat.le_of_ble_eq_true rfl⟩, ?_⟩
  conv => whnf
  refine ⟨⟨rfl, rfl⟩, hR _ _ ?_⟩
  refine zi_of h0 ?_
  iterate 8 refine zr_up (Nat.le_of_ble_eq_true rfl) ?_
  exact zr_ci rfl
def sa_Years (L : Nat) : List mS := [(200, L, []), (200, 3, []), (200, 3, []), (200, 4, []), (201, 0, []), (10, 9, [some 6, some 100, some 107, some 119, none, none, none, none, none]), (8, 14, [some 7, some 8, some 9, some 10, some 11, some 12, some 13, some 14, some 55, some 96, some 97, some 98, some 99, none]), (100, 40, []), (100, 40, []), (100, 40, []), (100, 40, []), (100, 40, []), (100, 40, []), (101, 40, []), (104, 40, [some 15, some 16, some 17, some 18, some 19, some 20, some 21, some 22, some 23, some 24, some 25, some 26, some 27, some 28, some 29, some 30, some 31, some 32, some 33, some 34, some 35, some 36, some 37, some 38, some 39, some 40, some 41, some 42, some 43, some 44, some 45, some 46, some 47, some 48, some 49, some 50, some 51, some 52, some 53, some 54]), (100, 4, []), (100, 4, []), (100, 4, []), (100, 4, []), (100, 4, []), (100, 4, []), (100, 4, []), (100, 4, []), (100, 4, []), (100, 4, []), (100, 4, []), (100, 4, []), (100, 4, []), (100, 4, []), (100, 4, []), (100, 4, []), (100, 4, []), (100, 4, []), (100, 4, []), (100, 4, []), (100, 4, []), (100, 4, []), (100, 4, []), (100, 4, []), (100, 4, []), (100, 4, []), (100, 4, []), (100, 4, []), (100, 4, []), (100, 4, []), (100, 4, []), (100, 4, []), (100, 4, []), (100, 4, []), (100, 4, []), (100, 4, []), (100, 4, []), (100, 4, []), (100, 4, []), (100, 4, []), (104, 40, [some 56, some 57, some 58, some 59, some 60, some 61, some 62, some 63, some 64, some 65, some 66, some 67, some 68, some 69, some 70, some 71, some 72, some 73, some 74, some 75, some 76, some 77, some 78, some 79, some 80, some 81, some 82, some 83, some 84, some 85, some 86, some 87, some 88, some 89, some 90, some 91, some 92, some 93, some 94, some 95]), (100, 4, []), (100, 4, []), (100, 4, []), (100, 4, []), (100, 4, []), (100, 4, []), (100, 4, []), (100, 4, []), (100, 4, []), (100, 4, []), (100, 4, []), (100, 4, []), (100, 4, []), (100, 4, []), (100, 4, []), (100, 4, []), (100, 4, []), (100, 4, []), (100, 4, []), (100, 4, []), (100, 4, []), (100, 4, []), (100, 4, []), (100, 4, []), (100, 4, []), (100, 4, []), (100, 4, []), (100, 4, []), (100, 4, []), (100, 4, []), (100, 4, []), (100, 4, []), (100, 4, []), (100, 4, []), (100, 4, []), (100, 4, []), (100, 4, []), (100, 4, []), (100, 4, []), (100, 4, []), (100, 40, []), (100, 40, []), (100, 40, []), (100, 40, []), (5, 7, [some 101, some 102, some 103, some 104, some 105, some 106, none]), (100, 60, []), (100, 60, []), (100, 60, []), (100, 60, []), (100, 60, []), (100, 60, []), (6, 6, [some 108, some 113, some 118, none, none, none]), (104, 4, [some 109, some 110, some 111, some 112]), (100, 3, []), (100, 3, []), (100, 3, []), (100, 3, []), (104, 4, [some 114, some 115, some 116, some 117]), (100, 3, []), (100, 3, []), (100, 3, []), (100, 3, []), (103, 50, []), (0, 10, [some 120, some 121, some 122, some 123, some 124, some 125, some 126, none, some 127, some 128]), (100, 8, []), (100, 60, []), (100, 60, []), (101, 60, []), (101, 60, []), (100, 60, []), (100, 60, []), (100, 40, []), (100, 40, []), (9, 14, [none, none, none, none, none, none, none, none, none, none, none, none, none, none])]
def sb_Years (L : Nat) : List mS := [(200, L, []), (200, 3, []), (200, 3, []), (200, 4, []), (201, 0, []), (10, 9, [some 6, some 100, some 107, some 119, none, none, none, none, none]), (8, 14, [some 7, some 8, some 9, some 10, some 11, some 12, some 13, some 14, some 55, some 96, some 97, some 98, some 99, none]), (100, 40, []), (100, 40, []), (100, 40, []), (100, 40, []), (100, 40, []), (100, 40, []), (101, 40, []), (104, 40, [some 15, some 16, some 17, some 18, some 19, some 20, some 21, some 22, some 23, some 24, some 25, some 26, some 27, some 28, some 29, some 30, some 31, some 32, some 33, some 34, some 35, some 36, some 37, some 38, some 39, some 40, some 41, some 42, some 43, some 44, some 45, some 46, some 47, some 48, some 49, some 50, some 51, some 52, some 53, some 54]), (100, 4, []), (100, 4, []), (100, 4, []), (100, 4, []), (100, 4, []), (100, 4, []), (100, 4, []), (100, 4, []), (100, 4, []), (100, 4, []), (100, 4, []), (100, 4, []), (100, 4, []), (100, 4, []), (100, 4, []), (100, 4, []), (100, 4, []), (100, 4, []), (100, 4, []), (100, 4, []), (100, 4, []), (100, 4, []), (100, 4, []), (100, 4, []), (100, 4, []), (100, 4, []), (100, 4, []), (100, 4, []), (100, 4, []), (100, 4, []), (100, 4, []), (100, 4, []), (100, 4, []), (100, 4, []), (100, 4, []), (100, 4, []), (100, 4, []), (100, 4, []), (100, 4, []), (100, 4, []), (104, 40, [some 56, some 57, some 58, some 59, some 60, some 61, some 62, some 63, some 64, some 65, some 66, some 67, some 68, some 69, some 70, some 71, some 72, some 73, some 74, some 75, some 76, some 77, some 78, some 79, some 80, some 81, some 82, some 83, some 84, some 85, some 86, some 87, some 88, some 89, some 90, some 91, some 92, some 93, some 94, some 95]), (100, 4, []), (100, 4, []), (100, 4, []), (100, 4, []), (100, 4, []), (100, 4, []), (100, 4, []), (100, 4, []), (100, 4, []), (100, 4, []), (100, 4, []), (100, 4, []), (100, 4, []), (100, 4, []), (100, 4, []), (100, 4, []), (100, 4, []), (100, 4, []), (100, 4, []), (100, 4, []), (100, 4, []), (100, 4, []), (100, 4, []), (100, 4, []), (100, 4, []), (100, 4, []), (100, 4, []), (100, 4, []), (100, 4, []), (100, 4, []), (100, 4, []), (100, 4, []), (100, 4, []), (100, 4, []), (100, 4, []), (100, 4, []), (100, 4, []), (100, 4, []), (100, 4, []), (100, 4, []), (100, 40, []), (100, 40, []), (100, 40, []), (100, 40, []), (5, 7, [some 101, some 102, some 103, some 104, some 105, some 106, none]), (100, 60, []), (100, 60, []), (100, 60, []), (100, 60, []), (100, 60, []), (100, 60, []), (6, 6, [some 108, some 113, some 118, none, none, none]), (104, 4, [some 109, some 110, some 111, some 112]), (100, 3, []), (100, 3, []), (100, 3, []), (100, 3, []), (104, 4, [some 114, some 115, some 116, some 117]), (100, 3, []), (100, 3, []), (100, 3, []), (100, 3, []), (103, 50, []), (0, 10, [some 120, some 121, some 122, some 123, some 124, some 125, some 126, none, some 127, some 128]), (100, 8, []), (100, 60, []), (100, 60, []), (101, 60, []), (101, 60, []), (100, 60, []), (100, 60, []), (100, 40, []), (100, 40, []), (9, 14, [some 6, some 119, some 130, some 131, some 132, some 133, none, some 134, some 135, none, some 136, none, some 137, some 138]), (100, 20, []), (100, 20, []), (100, 20, []), (101, 20, []), (100, 40, []), (100, 40, []), (100, 20, []), (101, 20, []), (100, 3, [])]
set_option maxHeartbeats 4000000 in
set_option maxRecDepth 100000 in
theorem ct_Years_init {d L : Nat} {f : Nat → Nat → Int32} {g : Nat → Nat → Int64} {R : Option Value → mH → Prop} (hd : 2 ≤ d) (hR : ∀ f' g', zi 130 139 f f' → R none (sb_Years L, f', g')) : Run mtab d 77 [.ref 129, .ref 6, .ref 119] (sa_Years L, f, g) R := by
  obtain ⟨d, rfl⟩ : ∃ e, d = e + 1 := ⟨d - 1, by omega⟩
  have h0 : ni 130 139 := by
    intro a i h1 h2
    unfold inix
    repeat rw [if_neg (by omega)]
  refine go_X9_init rfl ?_
  conv => whnf
  refine ⟨⟨Nat.le_of_ble_eq_true rfl, Nat.le_of_ble_eq_true rfl⟩, rp_obj (by omega) ?_⟩
  conv => whnf
  refine ⟨⟨by decide, by decide, Nat.le_of_ble_eq_true rfl, Nat.le_of_ble_eq_true rfl⟩, ?_⟩
  conv => whnf
  refine ⟨⟨by decide, by decide, Nat.le_of_ble_eq_true rfl, Nat.le_of_ble_eq_true rfl⟩, ?_⟩
  conv => whnf
  refine ⟨⟨by decide, by decide, Nat.le_of_ble_eq_true rfl, Nat.le_of_ble_eq_true rfl⟩, ?_⟩
  conv => whnf
  refine ⟨⟨by decide, by decide, Nat.le_of_ble_eq_true rfl, Nat.le_of_ble_eq_true rfl⟩, ?_⟩
  conv => whnf
  refine ⟨⟨by decide, by decide, Nat.le_of_ble_eq_true rfl, Nat.le_of_ble_eq_true rfl⟩, ?_⟩
  conv => whnf
  refine ⟨⟨by decide, by decide, Nat.le_of_ble_eq_true rfl, Nat.le_of_ble_eq_true rfl⟩, ?_⟩
  conv => whnf
  refine ⟨⟨by decide, by decide, Nat.le_of_ble_eq_true rfl, Nat.le_of_ble_eq_true rfl⟩, ?_⟩
  conv => whnf
  refine ⟨⟨by decide, by decide, Nat.le_of_ble_eq_true rfl, Nat.le_of_ble_eq_true rfl⟩, ?_⟩
  conv => whnf
  refine ⟨⟨by decide, by decide, Nat.le_of_ble_eq_true rfl, Nat.le_of_ble_eq_true rfl⟩, ?_⟩
  conv => whnf
  refine ⟨⟨rfl, rfl⟩, hR _ _ ?_⟩
  refine zi_of h0 ?_
  iterate 8 refine zr_up (Nat.le_of_ble_eq_true rfl) ?_
  exact zr_ci rfl
def sa_Mentions (L : Nat) : List mS := [(200, L, []), (200, 3, []), (200, 3, []), (200, 4, []), (201, 0, []), (10, 9, [some 6, some 100, some 107, some 119, some 129, none, none, none, none]), (8, 14, [some 7, some 8, some 9, some 10, some 11, some 12, some 13, some 14, some 55, some 96, some 97, some 98, some 99, none]), (100, 40, []), (100, 40, []), (100, 40, []), (100, 40, []), (100, 40, []), (100, 40, []), (101, 40, []), (104, 40, [some 15, some 16, some 17, some 18, some 19, some 20, some 21, some 22, some 23, some 24, some 25, some 26, some 27, some 28, some 29, some 30, some 31, some 32, some 33, some 34, some 35, some 36, some 37, some 38, some 39, some 40, some 41, some 42, some 43, some 44, some 45, some 46, some 47, some 48, some 49, some 50, some 51, some 52, some 53, some 54]), (100, 4, []), (100, 4, []), (100, 4, []), (100, 4, []), (100, 4, []), (100, 4, []), (100, 4, []), (100, 4, []), (100, 4, []), (100, 4, []), (100, 4, []), (100, 4, []), (100, 4, []), (100, 4, []), (100, 4, []), (100, 4, []), (100, 4, []), (100, 4, []), (100, 4, []), (100, 4, []), (100, 4, []), (100, 4, []), (100, 4, []), (100, 4, []), (100, 4, []), (100, 4, []), (100, 4, []), (100, 4, []), (100, 4, []), (100, 4, []), (100, 4, []), (100, 4, []), (100, 4, []), (100, 4, []), (100, 4, []), (100, 4, []), (100, 4, []), (100, 4, []), (100, 4, []), (100, 4, []), (104, 40, [some 56, some 57, some 58, some 59, some 60, some 61, some 62, some 63, some 64, some 65, some 66, some 67, some 68, some 69, some 70, some 71, some 72, some 73, some 74, some 75, some 76, some 77, some 78, some 79, some 80, some 81, some 82, some 83, some 84, some 85, some 86, some 87, some 88, some 89, some 90, some 91, some 92, some 93, some 94, some 95]), (100, 4, []), (100, 4, []), (100, 4, []), (100, 4, []), (100, 4, []), (100, 4, []), (100, 4, []), (100, 4, []), (100, 4, []), (100, 4, []), (100, 4, []), (100, 4, []), (100, 4, []), (100, 4, []), (100, 4, []), (100, 4, []), (100, 4, []), (100, 4, []), (100, 4, []), (100, 4, []), (100, 4, []), (100, 4, []), (100, 4, []), (100, 4, []), (100, 4, []), (100, 4, []), (100, 4, []), (100, 4, []), (100, 4, []), (100, 4, []), (100, 4, []), (100, 4, []), (100, 4, []), (100, 4, []), (100, 4, []), (100, 4, []), (100, 4, []), (100, 4, []), (100, 4, []), (100, 4, []), (100, 40, []), (100, 40, []), (100, 40, []), (100, 40, []), (5, 7, [some 101, some 102, some 103, some 104, some 105, some 106, none]), (100, 60, []), (100, 60, []), (100, 60, []), (100, 60, []), (100, 60, []), (100, 60, []), (6, 6, [some 108, some 113, some 118, none, none, none]), (104, 4, [some 109, some 110, some 111, some 112]), (100, 3, []), (100, 3, []), (100, 3, []), (100, 3, []), (104, 4, [some 114, some 115, some 116, some 117]), (100, 3, []), (100, 3, []), (100, 3, []), (100, 3, []), (103, 50, []), (0, 10, [some 120, some 121, some 122, some 123, some 124, some 125, some 126, none, some 127, some 128]), (100, 8, []), (100, 60, []), (100, 60, []), (101, 60, []), (101, 60, []), (100, 60, []), (100, 60, []), (100, 40, []), (100, 40, []), (9, 14, [some 6, some 119, some 130, some 131, some 132, some 133, none, some 134, some 135, none, some 136, none, some 137, some 138]), (100, 20, []), (100, 20, []), (100, 20, []), (101, 20, []), (100, 40, []), (100, 40, []), (100, 20, []), (101, 20, []), (100, 3, []), (4, 14, [none, none, none, none, none, none, none, none, none, none, none, none, none, none])]
def sb_Mentions (L : Nat) : List mS := [(200, L, []), (200, 3, []), (200, 3, []), (200, 4, []), (201, 0, []), (10, 9, [some 6, some 100, some 107, some 119, some 129, none, none, none, none]), (8, 14, [some 7, some 8, some 9, some 10, some 11, some 12, some 13, some 14, some 55, some 96, some 97, some 98, some 99, none]), (100, 40, []), (100, 40, []), (100, 40, []), (100, 40, []), (100, 40, []), (100, 40, []), (101, 40, []), (104, 40, [some 15, some 16, some 17, some 18, some 19, some 20, some 21, some 22, some 23, some 24, some 25, some 26, some 27, some 28, some 29, some 30, some 31, some 32, some 33, some 34, some 35, some 36, some 37, some 38, some 39, some 40, some 41, some 42, some 43, some 44, some 45, some 46, some 47, some 48, some 49, some 50, some 51, some 52, some 53, some 54]), (100, 4, []), (100, 4, []), (100, 4, []), (100, 4, []), (100, 4, []), (100, 4, []), (100, 4, []), (100, 4, []), (100, 4, []), (100, 4, []), (100, 4, []), (100, 4, []), (100, 4, []), (100, 4, []), (100, 4, []), (100, 4, []), (100, 4, []), (100, 4, []), (100, 4, []), (100, 4, []), (100, 4, []), (100, 4, []), (100, 4, []), (100, 4, []), (100, 4, []), (100, 4, []), (100, 4, []), (100, 4, []), (100, 4, []), (100, 4, []), (100, 4, []), (100, 4, []), (100, 4, []), (100, 4, []), (100, 4, []), (100, 4, []), (100, 4, []), (100, 4, []), (100, 4, []), (100, 4, []), (104, 40, [some 56, some 57, some 58, some 59, some 60, some 61, some 62, some 63, some 64, some 65, some 66, some 67, some 68, some 69, some 70, some 71, some 72, some 73, some 74, some 75, some 76, some 77, some 78, some 79, some 80, some 81, some 82, some 83, some 84, some 85, some 86, some 87, some 88, some 89, some 90, some 91, some 92, some 93, some 94, some 95]), (100, 4, []), (100, 4, []), (100, 4, []), (100, 4, []), (100, 4, []), (100, 4, []), (100, 4, []), (100, 4, []), (100, 4, []), (100, 4, []), (100, 4, []), (100, 4, []), (100, 4, []), (100, 4, []), (100, 4, []), (100, 4, []), (100, 4, []), (100, 4, []), (100, 4, []), (100, 4, []), (100, 4, []), (100, 4, []), (100, 4, []), (100, 4, []), (100, 4, []), (100, 4, []), (100, 4, []), (100, 4, []), (100, 4, []), (100, 4, []), (100, 4, []), (100, 4, []), (100, 4, []), (100, 4, []), (100, 4, []), (100, 4, []), (100, 4, []), (100, 4, []), (100, 4, []), (100, 4, []), (100, 40, []), (100, 40, []), (100, 40, []), (100, 40, []), (5, 7, [some 101, some 102, some 103, some 104, some 105, some 106, none]), (100, 60, []), (100, 60, []), (100, 60, []), (100, 60, []), (100, 60, []), (100, 60, []), (6, 6, [some 108, some 113, some 118, none, none, none]), (104, 4, [some 109, some 110, some 111, some 112]), (100, 3, []), (100, 3, []), (100, 3, []), (100, 3, []), (104, 4, [some 114, some 115, some 116, some 117]), (100, 3, []), (100, 3, []), (100, 3, []), (100, 3, []), (103, 50, []), (0, 10, [some 120, some 121, some 122, some 123, some 124, some 125, some 126, none, some 127, some 128]), (100, 8, []), (100, 60, []), (100, 60, []), (101, 60, []), (101, 60, []), (100, 60, []), (100, 60, []), (100, 40, []), (100, 40, []), (9, 14, [some 6, some 119, some 130, some 131, some 132, some 133, none, some 134, some 135, none, some 136, none, some 137, some 138]), (100, 20, []), (100, 20, []), (100, 20, []), (101, 20, []), (100, 40, []), (100, 40, []), (100, 20, []), (101, 20, []), (100, 3, []), (4, 14, [some 6, some 100, some 129, some 119, some 140, some 141, some 142, some 143, some 144, some 145, some 146, some 147, some 148, none]), (100, 50, []), (100, 50, []), (100, 50, []), (100, 50, []), (100, 50, []), (100, 50, []), (101, 50, []), (100, 50, []), (100, 50, [])]
set_option maxHeartbeats 4000000 in
set_option maxRecDepth 100000 in
theorem ct_Mentions_init {d L : Nat} {f : Nat → Nat → Int32} {g : Nat → Nat → Int64} {R : Option Value → mH → Prop} (hd : 2 ≤ d) (hR : ∀ f' g', zi 140 149 f f' → R none (sb_Mentions L, f', g')) : Run mtab d 33 [.ref 139, .ref 6, .ref 100, .ref 129, .ref 119] (sa_Mentions L, f, g) R := by
  obtain ⟨d, rfl⟩ : ∃ e, d = e + 1 := ⟨d - 1, by omega⟩
  have h0 : ni 140 149 := by
    intro a i h1 h2
    unfold inix
    repeat rw [if_neg (by omega)]
  refine go_X4_init rfl ?_
  conv => whnf
  refine ⟨⟨Nat.le_of_ble_eq_true rfl, Nat.le_of_ble_eq_true rfl⟩, rp_obj (by omega) ?_⟩
  conv => whnf
  refine ⟨⟨by decide, by decide, Nat.le_of_ble_eq_true rfl, Nat.le_of_ble_eq_true rfl⟩, ?_⟩
  conv => whnf
  refine ⟨⟨by decide, by decide, Nat.le_of_ble_eq_true rfl, Nat.le_of_ble_eq_true rfl⟩, ?_⟩
  conv => whnf
  refine ⟨⟨by decide, by decide, Nat.le_of_ble_eq_true rfl, Nat.le_of_ble_eq_true rfl⟩, ?_⟩
  conv => whnf
  refine ⟨⟨by decide, by decide, Nat.le_of_ble_eq_true rfl, Nat.le_of_ble_eq_true rfl⟩, ?_⟩
  conv => whnf
  refine ⟨⟨by decide, by decide, Nat.le_of_ble_eq_true rfl, Nat.le_of_ble_eq_true rfl⟩, ?_⟩
  conv => whnf
  refine ⟨⟨by decide, by decide, Nat.le_of_ble_eq_true rfl, Nat.le_of_ble_eq_true rfl⟩, ?_⟩
  conv => whnf
  refine ⟨⟨by decide, by decide, Nat.le_of_ble_eq_true rfl, Nat.le_of_ble_eq_true rfl⟩, ?_⟩
  conv => whnf
  refine ⟨⟨by decide, by decide, Nat.le_of_ble_eq_true rfl, Nat.le_of_ble_eq_true rfl⟩, ?_⟩
  conv => whnf
  refine ⟨⟨by decide, by decide, Nat.le_of_ble_eq_true rfl, Nat.le_of_ble_eq_true rfl⟩, ?_⟩
  conv => whnf
  refine ⟨⟨rfl, rfl⟩, hR _ _ ?_⟩
  refine zi_of h0 ?_
  iterate 8 refine zr_up (Nat.le_of_ble_eq_true rfl) ?_
  exact zr_ci rfl
def sa_Matching (L : Nat) : List mS := [(200, L, []), (200, 3, []), (200, 3, []), (200, 4, []), (201, 0, []), (10, 9, [some 6, some 100, some 107, some 119, some 129, some 139, none, none, none]), (8, 14, [some 7, some 8, some 9, some 10, some 11, some 12, some 13, some 14, some 55, some 96, some 97, some 98, some 99, none]), (100, 40, []), (100, 40, []), (100, 40, []), (100, 40, []), (100, 40, []), (100, 40, []), (101, 40, []), (104, 40, [some 15, some 16, some 17, some 18, some 19, some 20, some 21, some 22, some 23, some 24, some 25, some 26, some 27, some 28, some 29, some 30, some 31, some 32, some 33, some 34, some 35, some 36, some 37, some 38, some 39, some 40, some 41, some 42, some 43, some 44, some 45, some 46, some 47, some 48, some 49, some 50, some 51, some 52, some 53, some 54]), (100, 4, []), (100, 4, []), (100, 4, []), (100, 4, []), (100, 4, []), (100, 4, []), (100, 4, []), (100, 4, []), (100, 4, []), (100, 4, []), (100, 4, []), (100, 4, []), (100, 4, []), (100, 4, []), (100, 4, []), (100, 4, []), (100, 4, []), (100, 4, []), (100, 4, []), (100, 4, []), (100, 4, []), (100, 4, []), (100, 4, []), (100, 4, []), (100, 4, []), (100, 4, []), (100, 4, []), (100, 4, []), (100, 4, []), (100, 4, []), (100, 4, []), (100, 4, []), (100, 4, []), (100, 4, []), (100, 4, []), (100, 4, []), (100, 4, []), (100, 4, []), (100, 4, []), (100, 4, []), (104, 40, [some 56, some 57, some 58, some 59, some 60, some 61, some 62, some 63, some 64, some 65, some 66, some 67, some 68, some 69, some 70, some 71, some 72, some 73, some 74, some 75, some 76, some 77, some 78, some 79, some 80, some 81, some 82, some 83, some 84, some 85, some 86, some 87, some 88, some 89, some 90, some 91, some 92, some 93, some 94, some 95]), (100, 4, []), (100, 4, []), (100, 4, []), (100, 4, []), (100, 4, []), (100, 4, []), (100, 4, []), (100, 4, []), (100, 4, []), (100, 4, []), (100, 4, []), (100, 4, []), (100, 4, []), (100, 4, []), (100, 4, []), (100, 4, []), (100, 4, []), (100, 4, []), (100, 4, []), (100, 4, []), (100, 4, []), (100, 4, []), (100, 4, []), (100, 4, []), (100, 4, []), (100, 4, []), (100, 4, []), (100, 4, []), (100, 4, []), (100, 4, []), (100, 4, []), (100, 4, []), (100, 4, []), (100, 4, []), (100, 4, []), (100, 4, []), (100, 4, []), (100, 4, []), (100, 4, []), (100, 4, []), (100, 40, []), (100, 40, []), (100, 40, []), (100, 40, []), (5, 7, [some 101, some 102, some 103, some 104, some 105, some 106, none]), (100, 60, []), (100, 60, []), (100, 60, []), (100, 60, []), (100, 60, []), (100, 60, []), (6, 6, [some 108, some 113, some 118, none, none, none]), (104, 4, [some 109, some 110, some 111, some 112]), (100, 3, []), (100, 3, []), (100, 3, []), (100, 3, []), (104, 4, [some 114, some 115, some 116, some 117]), (100, 3, []), (100, 3, []), (100, 3, []), (100, 3, []), (103, 50, []), (0, 10, [some 120, some 121, some 122, some 123, some 124, some 125, some 126, none, some 127, some 128]), (100, 8, []), (100, 60, []), (100, 60, []), (101, 60, []), (101, 60, []), (100, 60, []), (100, 60, []), (100, 40, []), (100, 40, []), (9, 14, [some 6, some 119, some 130, some 131, some 132, some 133, none, some 134, some 135, none, some 136, none, some 137, some 138]), (100, 20, []), (100, 20, []), (100, 20, []), (101, 20, []), (100, 40, []), (100, 40, []), (100, 20, []), (101, 20, []), (100, 3, []), (4, 14, [some 6, some 100, some 129, some 119, some 140, some 141, some 142, some 143, some 144, some 145, some 146, some 147, some 148, none]), (100, 50, []), (100, 50, []), (100, 50, []), (100, 50, []), (100, 50, []), (100, 50, []), (101, 50, []), (100, 50, []), (100, 50, []), (2, 6, [none, none, none, none, none, none]), (3, 9, [none, none, none, none, none, none, none, none, none])]
def sb_Matching (L : Nat) : List mS := [(200, L, []), (200, 3, []), (200, 3, []), (200, 4, []), (201, 0, []), (10, 9, [some 6, some 100, some 107, some 119, some 129, some 139, none, none, none]), (8, 14, [some 7, some 8, some 9, some 10, some 11, some 12, some 13, some 14, some 55, some 96, some 97, some 98, some 99, none]), (100, 40, []), (100, 40, []), (100, 40, []), (100, 40, []), (100, 40, []), (100, 40, []), (101, 40, []), (104, 40, [some 15, some 16, some 17, some 18, some 19, some 20, some 21, some 22, some 23, some 24, some 25, some 26, some 27, some 28, some 29, some 30, some 31, some 32, some 33, some 34, some 35, some 36, some 37, some 38, some 39, some 40, some 41, some 42, some 43, some 44, some 45, some 46, some 47, some 48, some 49, some 50, some 51, some 52, some 53, some 54]), (100, 4, []), (100, 4, []), (100, 4, []), (100, 4, []), (100, 4, []), (100, 4, []), (100, 4, []), (100, 4, []), (100, 4, []), (100, 4, []), (100, 4, []), (100, 4, []), (100, 4, []), (100, 4, []), (100, 4, []), (100, 4, []), (100, 4, []), (100, 4, []), (100, 4, []), (100, 4, []), (100, 4, []), (100, 4, []), (100, 4, []), (100, 4, []), (100, 4, []), (100, 4, []), (100, 4, []), (100, 4, []), (100, 4, []), (100, 4, []), (100, 4, []), (100, 4, []), (100, 4, []), (100, 4, []), (100, 4, []), (100, 4, []), (100, 4, []), (100, 4, []), (100, 4, []), (100, 4, []), (104, 40, [some 56, some 57, some 58, some 59, some 60, some 61, some 62, some 63, some 64, some 65, some 66, some 67, some 68, some 69, some 70, some 71, some 72, some 73, some 74, some 75, some 76, some 77, some 78, some 79, some 80, some 81, some 82, some 83, some 84, some 85, some 86, some 87, some 88, some 89, some 90, some 91, some 92, some 93, some 94, some 95]), (100, 4, []), (100, 4, []), (100, 4, []), (100, 4, []), (100, 4, []), (100, 4, []), (100, 4, []), (100, 4, []), (100, 4, []), (100, 4, []), (100, 4, []), (100, 4, []), (100, 4, []), (100, 4, []), (100, 4, []), (100, 4, []), (100, 4, []), (100, 4, []), (100, 4, []), (100, 4, []), (100, 4, []), (100, 4, []), (100, 4, []), (100, 4, []), (100, 4, []), (100, 4, []), (100, 4, []), (100, 4, []), (100, 4, []), (100, 4, []), (100, 4, []), (100, 4, []), (100, 4, []), (100, 4, []), (100, 4, []), (100, 4, []), (100, 4, []), (100, 4, []), (100, 4, []), (100, 4, []), (100, 40, []), (100, 40, []), (100, 40, []), (100, 40, []), (5, 7, [some 101, some 102, some 103, some 104, some 105, some 106, none]), (100, 60, []), (100, 60, []), (100, 60, []), (100, 60, []), (100, 60, []), (100, 60, []), (6, 6, [some 108, some 113, some 118, none, none, none]), (104, 4, [some 109, some 110, some 111, some 112]), (100, 3, []), (100, 3, []), (100, 3, []), (100, 3, []), (104, 4, [some 114, some 115, some 116, some 117]), (100, 3, []), (100, 3, []), (100, 3, []), (100, 3, []), (103, 50, []), (0, 10, [some 120, some 121, some 122, some 123, some 124, some 125, some 126, none, some 127, some 128]), (100, 8, []), (100, 60, []), (100, 60, []), (101, 60, []), (101, 60, []), (100, 60, []), (100, 60, []), (100, 40, []), (100, 40, []), (9, 14, [some 6, some 119, some 130, some 131, some 132, some 133, none, some 134, some 135, none, some 136, none, some 137, some 138]), (100, 20, []), (100, 20, []), (100, 20, []), (101, 20, []), (100, 40, []), (100, 40, []), (100, 20, []), (101, 20, []), (100, 3, []), (4, 14, [some 6, some 100, some 129, some 119, some 140, some 141, some 142, some 143, some 144, some 145, some 146, some 147, some 148, none]), (100, 50, []), (100, 50, []), (100, 50, []), (100, 50, []), (100, 50, []), (100, 50, []), (101, 50, []), (100, 50, []), (100, 50, []), (2, 6, [none, none, none, none, none, none]), (3, 9, [some 151, some 160, some 161, some 162, some 163, some 164, some 165, none, none]), (105, 8, [some 152, some 153, some 154, some 155, some 156, some 157, some 158, some 159]), (102, 48, []), (102, 48, []), (102, 48, []), (102, 48, []), (102, 48, []), (102, 48, []), (102, 48, []), (102, 48, []), (102, 9, []), (102, 49, []), (102, 49, []), (100, 49, []), (100, 49, []), (101, 49, [])]
set_option maxHeartbeats 4000000 in
set_option maxRecDepth 100000 in
theorem ct_Matching_init {d L : Nat} {f : Nat → Nat → Int32} {g : Nat → Nat → Int64} {R : Option Value → mH → Prop} (hd : 2 ≤ d) (hR : ∀ f' g', zi 151 166 f f' → R none (sb_Matching L, f', g')) : Run mtab d 27 [.ref 150] (sa_Matching L, f, g) R := by
  obtain ⟨d, rfl⟩ : ∃ e, d = e + 1 := ⟨d - 1, by omega⟩
  have h0 : ni 151 166 := by
    intro a i h1 h2
    unfold inix
    repeat rw [if_neg (by omega)]
  refine go_X3_init rfl ?_
  conv => whnf
  refine ⟨⟨Nat.le_of_ble_eq_true rfl, Nat.le_of_ble_eq_true rfl⟩, rp_obj (by omega) ?_⟩
  conv => whnf
  refine ⟨⟨by decide, by decide, by decide, by decide, Nat.le_of_ble_eq_true rfl, Nat.le_of_ble_eq_true rfl⟩, ?_⟩
  conv => whnf
  refine ⟨⟨by decide, by decide, Nat.le_of_ble_eq_true rfl, Nat.le_of_ble_eq_true rfl⟩, ?_⟩
  conv => whnf
  refine ⟨⟨by decide, by decide, Nat.le_of_ble_eq_true rfl, Nat.le_of_ble_eq_true rfl⟩, ?_⟩
  conv => whnf
  refine ⟨⟨by decide, by decide, Nat.le_of_ble_eq_true rfl, Nat.le_of_ble_eq_true rfl⟩, ?_⟩
  conv => whnf
  refine ⟨⟨by decide, by decide, Nat.le_of_ble_eq_true rfl, Nat.le_of_ble_eq_true rfl⟩, ?_⟩
  conv => whnf
  refine ⟨⟨by decide, by decide, Nat.le_of_ble_eq_true rfl, Nat.le_of_ble_eq_true rfl⟩, ?_⟩
  conv => whnf
  refine ⟨⟨by decide, by decide, Nat.le_of_ble_eq_true rfl, Nat.le_of_ble_eq_true rfl⟩, ?_⟩
  conv => whnf
  refine ⟨⟨rfl, rfl⟩, hR _ _ ?_⟩
  refine zi_of h0 ?_
  iterate 6 refine zr_up (Nat.le_of_ble_eq_true rfl) ?_
  exact zr_ci rfl
