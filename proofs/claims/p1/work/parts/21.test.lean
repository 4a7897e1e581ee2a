/-! ===== THE CONSTRUCTORS ===== -/
def shW0 (L : Nat) : List mS := [(200, L, []), (200, 3, []), (200, 3, []), (200, 4, []), (201, 0, []), (10, 9, [none, none, none, none, none, none, none, none, none]), (8, 14, [none, none, none, none, none, none, none, none, none, none, none, none, none, none])]
def shW1 (L : Nat) : List mS := [(200, L, []), (200, 3, []), (200, 3, []), (200, 4, []), (201, 0, []), (10, 9, [none, none, none, none, none, none, none, none, none]), (8, 14, [some 7, some 8, some 9, some 10, some 11, some 12, some 13, some 14, some 55, some 96, some 97, some 98, some 99, none]), (100, 40, []), (100, 40, []), (100, 40, []), (100, 40, []), (100, 40, []), (100, 40, []), (101, 40, []), (104, 40, [some 15, some 16, some 17, some 18, some 19, some 20, some 21, some 22, some 23, some 24, some 25, some 26, some 27, some 28, some 29, some 30, some 31, some 32, some 33, some 34, some 35, some 36, some 37, some 38, some 39, some 40, some 41, some 42, some 43, some 44, some 45, some 46, some 47, some 48, some 49, some 50, some 51, some 52, some 53, some 54]), (100, 4, []), (100, 4, []), (100, 4, []), (100, 4, []), (100, 4, []), (100, 4, []), (100, 4, []), (100, 4, []), (100, 4, []), (100, 4, []), (100, 4, []), (100, 4, []), (100, 4, []), (100, 4, []), (100, 4, []), (100, 4, []), (100, 4, []), (100, 4, []), (100, 4, []), (100, 4, []), (100, 4, []), (100, 4, []), (100, 4, []), (100, 4, []), (100, 4, []), (100, 4, []), (100, 4, []), (100, 4, []), (100, 4, []), (100, 4, []), (100, 4, []), (100, 4, []), (100, 4, []), (100, 4, []), (100, 4, []), (100, 4, []), (100, 4, []), (100, 4, []), (100, 4, []), (100, 4, []), (104, 40, [some 56, some 57, some 58, some 59, some 60, some 61, some 62, some 63, some 64, some 65, some 66, some 67, some 68, some 69, some 70, some 71, some 72, some 73, some 74, some 75, some 76, some 77, some 78, some 79, some 80, some 81, some 82, some 83, some 84, some 85, some 86, some 87, some 88, some 89, some 90, some 91, some 92, some 93, some 94, some 95]), (100, 4, []), (100, 4, []), (100, 4, []), (100, 4, []), (100, 4, []), (100, 4, []), (100, 4, []), (100, 4, []), (100, 4, []), (100, 4, []), (100, 4, []), (100, 4, []), (100, 4, []), (100, 4, []), (100, 4, []), (100, 4, []), (100, 4, []), (100, 4, []), (100, 4, []), (100, 4, []), (100, 4, []), (100, 4, []), (100, 4, []), (100, 4, []), (100, 4, []), (100, 4, []), (100, 4, []), (100, 4, []), (100, 4, []), (100, 4, []), (100, 4, []), (100, 4, []), (100, 4, []), (100, 4, []), (100, 4, []), (100, 4, []), (100, 4, []), (100, 4, []), (100, 4, []), (100, 4, []), (100, 40, []), (100, 40, []), (100, 40, []), (100, 40, [])]
def zr (n : Nat) (f f' : Nat → Nat → Int32) : Prop := ∀ a i, f' a i = if a < n then f a i else 0
def zl (n : Nat) (f f' : Nat → Nat → Int64) : Prop := ∀ a i, f' a i = if a < n then f a i else 0
theorem zr_ci {n k : Nat} {f : Nat → Nat → Int32} (h : k = n) : zr n f (m_ci k f) := by
  subst h
  exact fun a i => rfl
theorem zr_up {n k : Nat} {f f' : Nat → Nat → Int32} (h : n ≤ k) (hz : zr n f f') : zr n f (m_ci k f') := fun a i => by
  unfold m_ci
  rw [hz a i]
  by_cases h1 : a < n
  · rw [if_pos (show a < k by omega)]
  · rw [if_neg h1]
    split <;> rfl
theorem zl_ci {n k : Nat} {f : Nat → Nat → Int64} (h : k = n) : zl n f (m_cl k f) := by
  subst h
  exact fun a i => rfl
theorem zl_up {n k : Nat} {f f' : Nat → Nat → Int64} (h : n ≤ k) (hz : zl n f f') : zl n f (m_cl k f') := fun a i => by
  unfold m_cl
  rw [hz a i]
  by_cases h1 : a < n
  · rw [if_pos (show a < k by omega)]
  · rw [if_neg h1]
    split <;> rfl
theorem run_obj {d k : Nat} {h : mH} {R : Option Value → mH → Prop} (H : R none h) : Run mtab (d + 1) 0 [.ref k] h R := H
set_option maxHeartbeats 4000000 in
set_option maxRecDepth 100000 in
theorem ct_Works_init (d L : Nat) (f : Nat → Nat → Int32) (lg : Nat → Nat → Int64) (R : Option Value → mH → Prop) (hR : ∀ f' lg', zr 7 f f' → zl 7 lg lg' → R none (shW1 L, f', lg')) : Run mtab (d + 2) 66 [.ref 6] (shW0 L, f, lg) R := by
  refine go_X8_init rfl ?_
  conv => whnf
  refine ⟨⟨Nat.le_of_ble_eq_true rfl, Nat.le_of_ble_eq_true rfl⟩, run_obj ?_⟩
  conv => whnf
  iterate 7 (refine ⟨⟨by decide, by decide, Nat.le_of_ble_eq_true rfl, Nat.le_of_ble_eq_true rfl⟩, ?_⟩; conv => whnf)
  iterate 2 (refine ⟨⟨by decide, by decide, by decide, by decide, Nat.le_of_ble_eq_true rfl, Nat.le_of_ble_eq_true rfl⟩, ?_⟩; conv => whnf)
  iterate 4 (refine ⟨⟨by decide, by decide, Nat.le_of_ble_eq_true rfl, Nat.le_of_ble_eq_true rfl⟩, ?_⟩; conv => whnf)
  refine ⟨⟨rfl, rfl⟩, ?_⟩
  refine hR _ _ ?_ ?_
  · iterate 12 refine zr_up (Nat.le_of_ble_eq_true rfl) ?_
    exact zr_ci rfl
  · iterate 12 refine zl_up (Nat.le_of_ble_eq_true rfl) ?_
    exact zl_ci rfl
