theorem sx16 (x : Int32) : x.toInt16.toInt32 = (x <<< ((16 : Int32) &&& 31)) >>> ((16 : Int32) &&& 31) := by
  apply Int32.toBitVec_inj.mp
  have e1 : ((16 : Int32) &&& 31).toBitVec.smod 32 = 16#32 := by decide
  rw [Int32.toBitVec_shiftRight, Int32.toBitVec_shiftLeft, e1]
  show (x.toBitVec.signExtend 16).signExtend 32 = (x.toBitVec <<< (16 : Nat)).sshiftRight 16
  apply BitVec.eq_of_getLsbD_eq
  intro i hi
  rw [BitVec.getLsbD_signExtend, BitVec.getLsbD_sshiftRight]
  by_cases h : i < 16
  · have h2 : 16 + i < 32 := by omega
    have h3 : ¬ 32 ≤ i := by omega
    have h4 : ¬ 16 + i < 16 := by omega
    have h5 : 16 + i - 16 = i := by omega
    simp [h, hi, h2, h3, h4, h5, BitVec.getLsbD_signExtend, BitVec.getElem_signExtend, BitVec.getLsbD_shiftLeft]
  · have h2 : ¬ 16 + i < 32 := by omega
    have h3 : ¬ 32 ≤ i := by omega
    simp [h, hi, h2, h3, BitVec.msb_signExtend, BitVec.msb_shiftLeft, BitVec.getLsbD_shiftLeft, BitVec.getMsbD_eq_getLsbD]
def RS (f : Nat → Nat → Int32) : Prop := ∀ s, s < 4 → (f 180 s = -1 ∧ f 224 s = -1) ∨ (f 179 s = f 224 s ∧ inr 0 2 (f 224 s) ∧ f 180 s = f 225 s ∧ inr 0 60 (f 225 s) ∧ ∀ k, k < 60 → f (175 + s) k = f 226 (60 * s + k))
theorem RS_congr {f f' : Nat → Nat → Int32} (h1 : ∀ a i, 175 ≤ a → a ≤ 180 → f' a i = f a i) (h2 : ∀ a i, 224 ≤ a → a ≤ 226 → f' a i = f a i) (h : RS f) : RS f' := by
  intro s hs
  rw [h1 180 s (by omega) (by omega), h1 179 s (by omega) (by omega), h2 224 s (by omega) (by omega), h2 225 s (by omega) (by omega)]
  rcases h s hs with q | ⟨a, b, c, d, e⟩
  · exact Or.inl q
  · exact Or.inr ⟨a, b, c, d, fun k hk => by rw [h1 (175 + s) k (by omega) (by omega), h2 226 _ (by omega) (by omega), e k hk]⟩
theorem cmp_8 {i : Nat} : ∀ a, 173 ≤ a → a ≤ 180 → cmp a i = 8 := by
  intro a h h'
  have : a = 173 ∨ a = 174 ∨ a = 175 ∨ a = 176 ∨ a = 177 ∨ a = 178 ∨ a = 179 ∨ a = 180 := by omega
  rcases this with rfl | rfl | rfl | rfl | rfl | rfl | rfl | rfl <;> rfl
theorem cmp_18 {i : Nat} : ∀ a, 224 ≤ a → a ≤ 226 → cmp a i = 18 := by
  intro a h h'
  have : a = 224 ∨ a = 225 ∨ a = 226 := by omega
  rcases this with rfl | rfl | rfl <;> rfl
theorem cmp_2 {i : Nat} : ∀ a, 100 ≤ a → a ≤ 106 → cmp a i = 2 := by
  intro a h h'
  have : a = 100 ∨ a = 101 ∨ a = 102 ∨ a = 103 ∨ a = 104 ∨ a = 105 ∨ a = 106 := by omega
  rcases this with rfl | rfl | rfl | rfl | rfl | rfl | rfl <;> rfl
theorem RS_kp {l : List Nat} {f f' : Nat → Nat → Int32} (k : kp l f f') (h8 : hasN l 8 = false) (h18 : hasN l 18 = false) (h : RS f) : RS f' :=
  RS_congr (fun a i p q => k a i (by rw [cmp_8 a (by omega) q]; exact h8)) (fun a i p q => k a i (by rw [cmp_18 a p q]; exact h18)) h
def RH (f : Nat → Nat → Int32) (k : Nat) : Prop := f 101 k = f 195 (6 * k + 0) ∧ f 102 k = f 195 (6 * k + 1) ∧ inr 0 19 (f 102 k) ∧ f 103 k = f 195 (6 * k + 2) ∧ f 104 k = f 195 (6 * k + 3) ∧ f 105 k = f 195 (6 * k + 4) ∧ f 106 k = f 195 (6 * k + 5)
def RO (h : Nat) (f : Nat → Nat → Int32) : Prop := h ≤ 60 ∧ f 100 6 = nI h ∧ f 181 14 = nI h ∧ ∀ k, k < h → RH f k
theorem RO_congr {h : Nat} {f f' : Nat → Nat → Int32} (h1 : ∀ a i, 100 ≤ a → a ≤ 106 → f' a i = f a i) (h2 : ∀ i, f' 195 i = f 195 i) (h3 : f' 181 14 = f 181 14) (r : RO h f) : RO h f' := by
  obtain ⟨a, b, c, d⟩ := r
  refine ⟨a, (h1 100 6 (by omega) (by omega)).trans b, h3.trans c, fun k hk => ?_⟩
  unfold RH
  rw [h1 101 k (by omega) (by omega), h1 102 k (by omega) (by omega), h1 103 k (by omega) (by omega), h1 104 k (by omega) (by omega), h1 105 k (by omega) (by omega), h1 106 k (by omega) (by omega), h2, h2, h2, h2, h2, h2]
  exact d k hk
theorem RO_kp {l : List Nat} {h : Nat} {f f' : Nat → Nat → Int32} (k : kp l f f') (h2 : hasN l 2 = false) (h12 : hasN l 12 = false) (r : RO h f) : RO h f' :=
  RO_congr (fun a i p q => k a i (by rw [cmp_2 a p q]; exact h2)) (fun i => k 195 i (by exact h12)) (k 181 14 (by exact h12)) r
theorem m_ui_s' {f : Nat → Nat → Int32} {k j i : Nat} {v : Int32} (h : i = j := by omega) : m_ui f k j v k i = v := by rw [m_ui_ap, if_pos rfl, if_pos h]
theorem oadd_0 {f : Nat → Nat → Int32} {h k : Nat} {x1 x2 x3 x4 x5 x6 : Int32} : oadd f h x1 x2 x3 x4 x5 x6 101 k = if k = h then x1 else f 101 k := by
  unfold oadd
  by_cases e : k = h
  · subst e
    rw [m_ui_o (by omega), m_ui_o (by omega), m_ui_o (by omega), m_ui_o (by omega), m_ui_o (by omega), m_ui_o (by omega), m_ui_s, if_pos rfl]
  · rw [m_ui_o (by omega), m_ui_o (by omega), m_ui_o (by omega), m_ui_o (by omega), m_ui_o (by omega), m_ui_o (by omega), m_ui_o (by omega), if_neg e]
theorem kadd_0 {f : Nat → Nat → Int32} {h k : Nat} {x1 x2 x3 x4 x5 x6 : Int32} : kadd f h x1 x2 x3 x4 x5 x6 195 (6 * k + 0) = if k = h then x1 else f 195 (6 * k + 0) := by
  unfold kadd
  by_cases e : k = h
  · subst e
    rw [m_ui_o (by omega), m_ui_o (by omega), m_ui_o (by omega), m_ui_o (by omega), m_ui_o (by omega), m_ui_o (by omega), m_ui_o (by omega), m_ui_s', if_pos rfl]
  · rw [m_ui_o (by omega), m_ui_o (by omega), m_ui_o (by omega), m_ui_o (by omega), m_ui_o (by omega), m_ui_o (by omega), m_ui_o (by omega), m_ui_o (by omega), if_neg e]
theorem oaddn_0 {f : Nat → Nat → Int32} {h k : Nat} {r : Nat → Nat → Int32} : ∀ m, oaddn f h r m 101 k = if h ≤ k ∧ k < h + m then r (k - h) 0 else f 101 k
  | 0 => by
    rw [if_neg (by omega)]
    rfl
  | m + 1 => by
    show oadd (oaddn f h r m) (h + m) _ _ _ _ _ _ 101 k = _
    rw [oadd_0, oaddn_0 m]
    by_cases e : k = h + m
    · rw [if_pos e, if_pos (by omega), show k - h = m by omega]
    · rw [if_neg e]
      by_cases e2 : h ≤ k ∧ k < h + m
      · rw [if_pos e2, if_pos (by omega)]
      · rw [if_neg e2, if_neg (by omega)]
theorem kaddn_0 {f : Nat → Nat → Int32} {h k : Nat} {r : Nat → Nat → Int32} : ∀ m, kaddn f h r m 195 (6 * k + 0) = if h ≤ k ∧ k < h + m then r (k - h) 0 else f 195 (6 * k + 0)
  | 0 => by
    rw [if_neg (by omega)]
    rfl
  | m + 1 => by
    show kadd (kaddn f h r m) (h + m) _ _ _ _ _ _ 195 (6 * k + 0) = _
    rw [kadd_0, kaddn_0 m]
    by_cases e : k = h + m
    · rw [if_pos e, if_pos (by omega), show k - h = m by omega]
    · rw [if_neg e]
      by_cases e2 : h ≤ k ∧ k < h + m
      · rw [if_pos e2, if_pos (by omega)]
      · rw [if_neg e2, if_neg (by omega)]
theorem oadd_1 {f : Nat → Nat → Int32} {h k : Nat} {x1 x2 x3 x4 x5 x6 : Int32} : oadd f h x1 x2 x3 x4 x5 x6 102 k = if k = h then x2 else f 102 k := by
  unfold oadd
  by_cases e : k = h
  · subst e
    rw [m_ui_o (by omega), m_ui_o (by omega), m_ui_o (by omega), m_ui_o (by omega), m_ui_o (by omega), m_ui_s, if_pos rfl]
  · rw [m_ui_o (by omega), m_ui_o (by omega), m_ui_o (by omega), m_ui_o (by omega), m_ui_o (by omega), m_ui_o (by omega), m_ui_o (by omega), if_neg e]
theorem kadd_1 {f : Nat → Nat → Int32} {h k : Nat} {x1 x2 x3 x4 x5 x6 : Int32} : kadd f h x1 x2 x3 x4 x5 x6 195 (6 * k + 1) = if k = h then x2 else f 195 (6 * k + 1) := by
  unfold kadd
  by_cases e : k = h
  · subst e
    rw [m_ui_o (by omega), m_ui_o (by omega), m_ui_o (by omega), m_ui_o (by omega), m_ui_o (by omega), m_ui_o (by omega), m_ui_s', if_pos rfl]
  · rw [m_ui_o (by omega), m_ui_o (by omega), m_ui_o (by omega), m_ui_o (by omega), m_ui_o (by omega), m_ui_o (by omega), m_ui_o (by omega), m_ui_o (by omega), if_neg e]
theorem oaddn_1 {f : Nat → Nat → Int32} {h k : Nat} {r : Nat → Nat → Int32} : ∀ m, oaddn f h r m 102 k = if h ≤ k ∧ k < h + m then r (k - h) 1 else f 102 k
  | 0 => by
    rw [if_neg (by omega)]
    rfl
  | m + 1 => by
    show oadd (oaddn f h r m) (h + m) _ _ _ _ _ _ 102 k = _
    rw [oadd_1, oaddn_1 m]
    by_cases e : k = h + m
    · rw [if_pos e, if_pos (by omega), show k - h = m by omega]
    · rw [if_neg e]
      by_cases e2 : h ≤ k ∧ k < h + m
      · rw [if_pos e2, if_pos (by omega)]
      · rw [if_neg e2, if_neg (by omega)]
theorem kaddn_1 {f : Nat → Nat → Int32} {h k : Nat} {r : Nat → Nat → Int32} : ∀ m, kaddn f h r m 195 (6 * k + 1) = if h ≤ k ∧ k < h + m then r (k - h) 1 else f 195 (6 * k + 1)
  | 0 => by
    rw [if_neg (by omega)]
    rfl
  | m + 1 => by
    show kadd (kaddn f h r m) (h + m) _ _ _ _ _ _ 195 (6 * k + 1) = _
    rw [kadd_1, kaddn_1 m]
    by_cases e : k = h + m
    · rw [if_pos e, if_pos (by omega), show k - h = m by omega]
    · rw [if_neg e]
      by_cases e2 : h ≤ k ∧ k < h + m
      · rw [if_pos e2, if_pos (by omega)]
      · rw [if_neg e2, if_neg (by omega)]
theorem oadd_2 {f : Nat → Nat → Int32} {h k : Nat} {x1 x2 x3 x4 x5 x6 : Int32} : oadd f h x1 x2 x3 x4 x5 x6 103 k = if k = h then x3 else f 103 k := by
  unfold oadd
  by_cases e : k = h
  · subst e
    rw [m_ui_o (by omega), m_ui_o (by omega), m_ui_o (by omega), m_ui_o (by omega), m_ui_s, if_pos rfl]
  · rw [m_ui_o (by omega), m_ui_o (by omega), m_ui_o (by omega), m_ui_o (by omega), m_ui_o (by omega), m_ui_o (by omega), m_ui_o (by omega), if_neg e]
theorem kadd_2 {f : Nat → Nat → Int32} {h k : Nat} {x1 x2 x3 x4 x5 x6 : Int32} : kadd f h x1 x2 x3 x4 x5 x6 195 (6 * k + 2) = if k = h then x3 else f 195 (6 * k + 2) := by
  unfold kadd
  by_cases e : k = h
  · subst e
    rw [m_ui_o (by omega), m_ui_o (by omega), m_ui_o (by omega), m_ui_o (by omega), m_ui_o (by omega), m_ui_s', if_pos rfl]
  · rw [m_ui_o (by omega), m_ui_o (by omega), m_ui_o (by omega), m_ui_o (by omega), m_ui_o (by omega), m_ui_o (by omega), m_ui_o (by omega), m_ui_o (by omega), if_neg e]
theorem oaddn_2 {f : Nat → Nat → Int32} {h k : Nat} {r : Nat → Nat → Int32} : ∀ m, oaddn f h r m 103 k = if h ≤ k ∧ k < h + m then r (k - h) 2 else f 103 k
  | 0 => by
    rw [if_neg (by omega)]
    rfl
  | m + 1 => by
    show oadd (oaddn f h r m) (h + m) _ _ _ _ _ _ 103 k = _
    rw [oadd_2, oaddn_2 m]
    by_cases e : k = h + m
    · rw [if_pos e, if_pos (by omega), show k - h = m by omega]
    · rw [if_neg e]
      by_cases e2 : h ≤ k ∧ k < h + m
      · rw [if_pos e2, if_pos (by omega)]
      · rw [if_neg e2, if_neg (by omega)]
theorem kaddn_2 {f : Nat → Nat → Int32} {h k : Nat} {r : Nat → Nat → Int32} : ∀ m, kaddn f h r m 195 (6 * k + 2) = if h ≤ k ∧ k < h + m then r (k - h) 2 else f 195 (6 * k + 2)
  | 0 => by
    rw [if_neg (by omega)]
    rfl
  | m + 1 => by
    show kadd (kaddn f h r m) (h + m) _ _ _ _ _ _ 195 (6 * k + 2) = _
    rw [kadd_2, kaddn_2 m]
    by_cases e : k = h + m
    · rw [if_pos e, if_pos (by omega), show k - h = m by omega]
    · rw [if_neg e]
      by_cases e2 : h ≤ k ∧ k < h + m
      · rw [if_pos e2, if_pos (by omega)]
      · rw [if_neg e2, if_neg (by omega)]
theorem oadd_3 {f : Nat → Nat → Int32} {h k : Nat} {x1 x2 x3 x4 x5 x6 : Int32} : oadd f h x1 x2 x3 x4 x5 x6 104 k = if k = h then x4 else f 104 k := by
  unfold oadd
  by_cases e : k = h
  · subst e
    rw [m_ui_o (by omega), m_ui_o (by omega), m_ui_o (by omega), m_ui_s, if_pos rfl]
  · rw [m_ui_o (by omega), m_ui_o (by omega), m_ui_o (by omega), m_ui_o (by omega), m_ui_o (by omega), m_ui_o (by omega), m_ui_o (by omega), if_neg e]
theorem kadd_3 {f : Nat → Nat → Int32} {h k : Nat} {x1 x2 x3 x4 x5 x6 : Int32} : kadd f h x1 x2 x3 x4 x5 x6 195 (6 * k + 3) = if k = h then x4 else f 195 (6 * k + 3) := by
  unfold kadd
  by_cases e : k = h
  · subst e
    rw [m_ui_o (by omega), m_ui_o (by omega), m_ui_o (by omega), m_ui_o (by omega), m_ui_s', if_pos rfl]
  · rw [m_ui_o (by omega), m_ui_o (by omega), m_ui_o (by omega), m_ui_o (by omega), m_ui_o (by omega), m_ui_o (by omega), m_ui_o (by omega), m_ui_o (by omega), if_neg e]
theorem oaddn_3 {f : Nat → Nat → Int32} {h k : Nat} {r : Nat → Nat → Int32} : ∀ m, oaddn f h r m 104 k = if h ≤ k ∧ k < h + m then r (k - h) 3 else f 104 k
  | 0 => by
    rw [if_neg (by omega)]
    rfl
  | m + 1 => by
    show oadd (oaddn f h r m) (h + m) _ _ _ _ _ _ 104 k = _
    rw [oadd_3, oaddn_3 m]
    by_cases e : k = h + m
    · rw [if_pos e, if_pos (by omega), show k - h = m by omega]
    · rw [if_neg e]
      by_cases e2 : h ≤ k ∧ k < h + m
      · rw [if_pos e2, if_pos (by omega)]
      · rw [if_neg e2, if_neg (by omega)]
theorem kaddn_3 {f : Nat → Nat → Int32} {h k : Nat} {r : Nat → Nat → Int32} : ∀ m, kaddn f h r m 195 (6 * k + 3) = if h ≤ k ∧ k < h + m then r (k - h) 3 else f 195 (6 * k + 3)
  | 0 => by
    rw [if_neg (by omega)]
    rfl
  | m + 1 => by
    show kadd (kaddn f h r m) (h + m) _ _ _ _ _ _ 195 (6 * k + 3) = _
    rw [kadd_3, kaddn_3 m]
    by_cases e : k = h + m
    · rw [if_pos e, if_pos (by omega), show k - h = m by omega]
    · rw [if_neg e]
      by_cases e2 : h ≤ k ∧ k < h + m
      · rw [if_pos e2, if_pos (by omega)]
      · rw [if_neg e2, if_neg (by omega)]
theorem oadd_4 {f : Nat → Nat → Int32} {h k : Nat} {x1 x2 x3 x4 x5 x6 : Int32} : oadd f h x1 x2 x3 x4 x5 x6 105 k = if k = h then x5 else f 105 k := by
  unfold oadd
  by_cases e : k = h
  · subst e
    rw [m_ui_o (by omega), m_ui_o (by omega), m_ui_s, if_pos rfl]
  · rw [m_ui_o (by omega), m_ui_o (by omega), m_ui_o (by omega), m_ui_o (by omega), m_ui_o (by omega), m_ui_o (by omega), m_ui_o (by omega), if_neg e]
theorem kadd_4 {f : Nat → Nat → Int32} {h k : Nat} {x1 x2 x3 x4 x5 x6 : Int32} : kadd f h x1 x2 x3 x4 x5 x6 195 (6 * k + 4) = if k = h then x5 else f 195 (6 * k + 4) := by
  unfold kadd
  by_cases e : k = h
  · subst e
    rw [m_ui_o (by omega), m_ui_o (by omega), m_ui_o (by omega), m_ui_s', if_pos rfl]
  · rw [m_ui_o (by omega), m_ui_o (by omega), m_ui_o (by omega), m_ui_o (by omega), m_ui_o (by omega), m_ui_o (by omega), m_ui_o (by omega), m_ui_o (by omega), if_neg e]
theorem oaddn_4 {f : Nat → Nat → Int32} {h k : Nat} {r : Nat → Nat → Int32} : ∀ m, oaddn f h r m 105 k = if h ≤ k ∧ k < h + m then r (k - h) 4 else f 105 k
  | 0 => by
    rw [if_neg (by omega)]
    rfl
  | m + 1 => by
    show oadd (oaddn f h r m) (h + m) _ _ _ _ _ _ 105 k = _
    rw [oadd_4, oaddn_4 m]
    by_cases e : k = h + m
    · rw [if_pos e, if_pos (by omega), show k - h = m by omega]
    · rw [if_neg e]
      by_cases e2 : h ≤ k ∧ k < h + m
      · rw [if_pos e2, if_pos (by omega)]
      · rw [if_neg e2, if_neg (by omega)]
theorem kaddn_4 {f : Nat → Nat → Int32} {h k : Nat} {r : Nat → Nat → Int32} : ∀ m, kaddn f h r m 195 (6 * k + 4) = if h ≤ k ∧ k < h + m then r (k - h) 4 else f 195 (6 * k + 4)
  | 0 => by
    rw [if_neg (by omega)]
    rfl
  | m + 1 => by
    show kadd (kaddn f h r m) (h + m) _ _ _ _ _ _ 195 (6 * k + 4) = _
    rw [kadd_4, kaddn_4 m]
    by_cases e : k = h + m
    · rw [if_pos e, if_pos (by omega), show k - h = m by omega]
    · rw [if_neg e]
      by_cases e2 : h ≤ k ∧ k < h + m
      · rw [if_pos e2, if_pos (by omega)]
      · rw [if_neg e2, if_neg (by omega)]
theorem oadd_5 {f : Nat → Nat → Int32} {h k : Nat} {x1 x2 x3 x4 x5 x6 : Int32} : oadd f h x1 x2 x3 x4 x5 x6 106 k = if k = h then x6 else f 106 k := by
  unfold oadd
  by_cases e : k = h
  · subst e
    rw [m_ui_o (by omega), m_ui_s, if_pos rfl]
  · rw [m_ui_o (by omega), m_ui_o (by omega), m_ui_o (by omega), m_ui_o (by omega), m_ui_o (by omega), m_ui_o (by omega), m_ui_o (by omega), if_neg e]
theorem kadd_5 {f : Nat → Nat → Int32} {h k : Nat} {x1 x2 x3 x4 x5 x6 : Int32} : kadd f h x1 x2 x3 x4 x5 x6 195 (6 * k + 5) = if k = h then x6 else f 195 (6 * k + 5) := by
  unfold kadd
  by_cases e : k = h
  · subst e
    rw [m_ui_o (by omega), m_ui_o (by omega), m_ui_s', if_pos rfl]
  · rw [m_ui_o (by omega), m_ui_o (by omega), m_ui_o (by omega), m_ui_o (by omega), m_ui_o (by omega), m_ui_o (by omega), m_ui_o (by omega), m_ui_o (by omega), if_neg e]
theorem oaddn_5 {f : Nat → Nat → Int32} {h k : Nat} {r : Nat → Nat → Int32} : ∀ m, oaddn f h r m 106 k = if h ≤ k ∧ k < h + m then r (k - h) 5 else f 106 k
  | 0 => by
    rw [if_neg (by omega)]
    rfl
  | m + 1 => by
    show oadd (oaddn f h r m) (h + m) _ _ _ _ _ _ 106 k = _
    rw [oadd_5, oaddn_5 m]
    by_cases e : k = h + m
    · rw [if_pos e, if_pos (by omega), show k - h = m by omega]
    · rw [if_neg e]
      by_cases e2 : h ≤ k ∧ k < h + m
      · rw [if_pos e2, if_pos (by omega)]
      · rw [if_neg e2, if_neg (by omega)]
theorem kaddn_5 {f : Nat → Nat → Int32} {h k : Nat} {r : Nat → Nat → Int32} : ∀ m, kaddn f h r m 195 (6 * k + 5) = if h ≤ k ∧ k < h + m then r (k - h) 5 else f 195 (6 * k + 5)
  | 0 => by
    rw [if_neg (by omega)]
    rfl
  | m + 1 => by
    show kadd (kaddn f h r m) (h + m) _ _ _ _ _ _ 195 (6 * k + 5) = _
    rw [kadd_5, kaddn_5 m]
    by_cases e : k = h + m
    · rw [if_pos e, if_pos (by omega), show k - h = m by omega]
    · rw [if_neg e]
      by_cases e2 : h ≤ k ∧ k < h + m
      · rw [if_pos e2, if_pos (by omega)]
      · rw [if_neg e2, if_neg (by omega)]
theorem hasN_lt (p i : Nat) (hp : p < 181) (h : ¬ p = 129) : hasN [10, 12, 22] (cmp p i) = false := by
  have key : ∀ p, p < 181 → ¬ p = 129 → hasN [10, 12, 22] (cmp0 p) = false := by decide +kernel
  have e1 : Nat.beq p 129 = false := by
    cases q : Nat.beq p 129 with
    | false => rfl
    | true => exact absurd (Nat.eq_of_beq_eq_true q) h
  have e2 : Nat.beq p 181 = false := by
    cases q : Nat.beq p 181 with
    | false => rfl
    | true => exact absurd (Nat.eq_of_beq_eq_true q) (by omega)
  unfold cmp
  rw [e1, e2]
  exact key p hp h
theorem RO_addn {f : Nat → Nat → Int32} {h m : Nat} {r : Nat → Nat → Int32} (hR : RO h f) (hm : h + m ≤ 60) (hr : ∀ k, k < m → inr 0 19 (r k 1)) : RO (h + m) (kaddn (oaddn f h r m) h r m) := by
  obtain ⟨a, b, c, d⟩ := hR
  have hX : ∀ p i, p < 181 → kaddn (oaddn f h r m) h r m p i = oaddn f h r m p i := fun p i hp => by
    refine kp_kaddn m p i ?_
    by_cases e : p = 129
    · subst e
      show hasN [10, 12, 22] (bif Nat.beq i 6 then 5 else 0) = false
      cases Nat.beq i 6 <;> rfl
    · exact hasN_lt p i hp e
  have h195 : ∀ i, oaddn f h r m 195 i = f 195 i := fun i => fx_oaddn m 195 i (by omega)
  refine ⟨by omega, ?_, ?_, fun k hk => ?_⟩
  · rw [hX 100 6 (by omega), oaddn_c b]
  · exact kaddn_c ((fx_oaddn m 181 14 (by omega)).trans c) m
  · unfold RH
    rw [hX 101 k (by omega), hX 102 k (by omega), hX 103 k (by omega), hX 104 k (by omega), hX 105 k (by omega), hX 106 k (by omega), oaddn_0, oaddn_1, oaddn_2, oaddn_3, oaddn_4, oaddn_5, kaddn_0, kaddn_1, kaddn_2, kaddn_3, kaddn_4, kaddn_5]
    by_cases e : h ≤ k ∧ k < h + m
    · simp only [if_pos e]
      exact ⟨trivial, trivial, hr (k - h) (by omega), trivial, trivial, trivial, trivial⟩
    · simp only [if_neg e, h195]
      exact d k (by omega)
