def shF (L : Nat) : List mS := [(200, L, []), (200, 3, []), (200, 3, []), (200, 4, []), (201, 0, []), (10, 9, [some 6, some 100, some 107, some 119, some 129, some 139, some 149, some 168, some 173]), (8, 14, [some 7, some 8, some 9, some 10, some 11, some 12, some 13, some 14, some 55, some 96, some 97, some 98, some 99, none]), (100, 40, []), (100, 40, []), (100, 40, []), (100, 40, []), (100, 40, []), (100, 40, []), (101, 40, []), (104, 40, [some 15, some 16, some 17, some 18, some 19, some 20, some 21, some 22, some 23, some 24, some 25, some 26, some 27, some 28, some 29, some 30, some 31, some 32, some 33, some 34, some 35, some 36, some 37, some 38, some 39, some 40, some 41, some 42, some 43, some 44, some 45, some 46, some 47, some 48, some 49, some 50, some 51, some 52, some 53, some 54]), (100, 4, []), (100, 4, []), (100, 4, []), (100, 4, []), (100, 4, []), (100, 4, []), (100, 4, []), (100, 4, []), (100, 4, []), (100, 4, []), (100, 4, []), (100, 4, []), (100, 4, []), (100, 4, []), (100, 4, []), (100, 4, []), (100, 4, []), (100, 4, []), (100, 4, []), (100, 4, []), (100, 4, []), (100, 4, []), (100, 4, []), (100, 4, []), (100, 4, []), (100, 4, []), (100, 4, []), (100, 4, []), (100, 4, []), (100, 4, []), (100, 4, []), (100, 4, []), (100, 4, []), (100, 4, []), (100, 4, []), (100, 4, []), (100, 4, []), (100, 4, []), (100, 4, []), (100, 4, []), (104, 40, [some 56, some 57, some 58, some 59, some 60, some 61, some 62, some 63, some 64, some 65, some 66, some 67, some 68, some 69, some 70, some 71, some 72, some 73, some 74, some 75, some 76, some 77, some 78, some 79, some 80, some 81, some 82, some 83, some 84, some 85, some 86, some 87, some 88, some 89, some 90, some 91, some 92, some 93, some 94, some 95]), (100, 4, []), (100, 4, []), (100, 4, []), (100, 4, []), (100, 4, []), (100, 4, []), (100, 4, []), (100, 4, []), (100, 4, []), (100, 4, []), (100, 4, []), (100, 4, []), (100, 4, []), (100, 4, []), (100, 4, []), (100, 4, []), (100, 4, []), (100, 4, []), (100, 4, []), (100, 4, []), (100, 4, []), (100, 4, []), (100, 4, []), (100, 4, []), (100, 4, []), (100, 4, []), (100, 4, []), (100, 4, []), (100, 4, []), (100, 4, []), (100, 4, []), (100, 4, []), (100, 4, []), (100, 4, []), (100, 4, []), (100, 4, []), (100, 4, []), (100, 4, []), (100, 4, []), (100, 4, []), (100, 40, []), (100, 40, []), (100, 40, []), (100, 40, []), (5, 7, [some 101, some 102, some 103, some 104, some 105, some 106, none]), (100, 60, []), (100, 60, []), (100, 60, []), (100, 60, []), (100, 60, []), (100, 60, []), (6, 6, [some 108, some 113, some 118, none, none, none]), (104, 4, [some 109, some 110, some 111, some 112]), (100, 3, []), (100, 3, []), (100, 3, []), (100, 3, []), (104, 4, [some 114, some 115, some 116, some 117]), (100, 3, []), (100, 3, []), (100, 3, []), (100, 3, []), (103, 50, []), (0, 10, [some 120, some 121, some 122, some 123, some 124, some 125, some 126, none, some 127, some 128]), (100, 8, []), (100, 60, []), (100, 60, []), (101, 60, []), (101, 60, []), (100, 60, []), (100, 60, []), (100, 40, []), (100, 40, []), (9, 14, [some 6, some 119, some 130, some 131, some 132, some 133, none, some 134, some 135, none, some 136, none, some 137, some 138]), (100, 20, []), (100, 20, []), (100, 20, []), (101, 20, []), (100, 40, []), (100, 40, []), (100, 20, []), (101, 20, []), (100, 3, []), (4, 14, [some 6, some 100, some 129, some 119, some 140, some 141, some 142, some 143, some 144, some 145, some 146, some 147, some 148, none]), (100, 50, []), (100, 50, []), (100, 50, []), (100, 50, []), (100, 50, []), (100, 50, []), (101, 50, []), (100, 50, []), (100, 50, []), (2, 6, [some 6, some 139, some 150, some 166, some 167, none]), (3, 9, [some 151, some 160, some 161, some 162, some 163, some 164, some 165, none, none]), (105, 8, [some 152, some 153, some 154, some 155, some 156, some 157, some 158, some 159]), (102, 48, []), (102, 48, []), (102, 48, []), (102, 48, []), (102, 48, []), (102, 48, []), (102, 48, []), (102, 48, []), (102, 9, []), (102, 49, []), (102, 49, []), (100, 49, []), (100, 49, []), (101, 49, []), (100, 8, []), (100, 8, []), (1, 8, [some 6, some 129, some 119, some 169, some 170, some 171, some 172, none]), (100, 40, []), (100, 40, []), (100, 41, []), (100, 40, []), (7, 3, [some 174, some 179, some 180]), (104, 4, [some 175, some 176, some 177, some 178]), (100, 60, []), (100, 60, []), (100, 60, []), (100, 60, []), (100, 4, []), (100, 4, []), (11, 59, [none, some 182, some 183, some 184, some 185, some 186, some 187, some 188, some 189, some 190, some 191, some 192, some 193, some 194, none, some 195, none, some 196, some 197, some 198, some 199, none, some 200, some 201, none, none, some 202, none, some 203, none, some 204, some 205, some 206, some 207, none, some 208, some 209, some 210, some 211, none, some 212, some 213, some 214, some 215, some 216, some 217, none, none, none, some 218, none, some 219, some 220, some 221, some 222, some 223, some 224, some 225, some 226]), (100, 40, []), (100, 40, []), (101, 40, []), (100, 40, []), (100, 40, []), (100, 40, []), (100, 40, []), (100, 160, []), (100, 160, []), (100, 40, []), (100, 40, []), (100, 40, []), (100, 40, []), (100, 360, []), (100, 20, []), (100, 20, []), (100, 20, []), (101, 20, []), (100, 40, []), (100, 40, []), (100, 3, []), (100, 450, []), (100, 50, []), (101, 50, []), (100, 16, []), (100, 8, []), (100, 320, []), (100, 256, []), (100, 256, []), (100, 320, []), (100, 8, []), (100, 4, []), (100, 4, []), (100, 4, []), (100, 12, []), (100, 50, []), (100, 360, []), (100, 41, []), (101, 40, []), (100, 40, []), (100, 40, []), (100, 40, []), (100, 4, []), (100, 4, []), (100, 240, [])]
/-- what an int at a place and slot may be -/
def okv (a i : Nat) (v : Int32) : Prop :=
  if a = 6 then inr 0 40 v else
  if a = 7 then inr 0 3 v else
  if a = 8 then inr (-4) 39 v else
  if a = 96 then inr 0 4 v else
  if a = 100 then inr 0 60 v else
  if a = 107 ∧ i = 3 then inr 0 50 v else
  if a = 107 ∧ i = 4 then inr 0 50 v else
  if a = 119 then inr 0 60 v else
  if a = 121 then inr 0 39 v else
  if a = 129 then inr 0 20 v else
  if a = 130 then inr 0 39 v else
  if a = 131 then inr 0 39 v else
  if a = 136 then inr 0 19 v else
  if a = 138 then inr 0 19 v else
  if a = 139 then inr 0 50 v else
  if a = 150 ∧ i = 7 then inr 0 8 v else
  if a = 150 ∧ i = 8 then inr 0 48 v else
  if a = 163 then inr 0 8 v else
  if a = 164 then inr 0 48 v else
  if a = 166 then inr 0 49 v else
  if a = 167 then inr (-4) 47 v else
  if a = 168 then inr 0 9 v else
  if a = 169 then (v = -4 ∨ inr 0 40 v) else
  if a = 172 then inr 0 39 v else
  if a = 180 then inr (-1) 60 v else
  if a = 181 ∧ i = 0 then inr 0 40 v else
  if a = 181 ∧ i = 14 then inr 0 60 v else
  if a = 181 ∧ i = 16 then inr 0 20 v else
  if a = 181 ∧ i = 27 then inr 0 50 v else
  if a = 181 ∧ i = 34 then inr 0 8 v else
  if a = 181 ∧ i = 46 then inr 0 50 v else
  if a = 181 ∧ i = 47 then inr 0 50 v else
  if a = 181 ∧ i = 48 then inr 0 60 v else
  if a = 182 then inr 0 3 v else
  if a = 183 then inr (-1) 39 v else
  if a = 191 then inr 0 4 v else
  if a = 196 then inr 0 39 v else
  if a = 197 then inr 0 39 v else
  if a = 204 then inr (-4) 39 v else
  if a = 207 then inr 0 49 v else
  if a = 221 then inr 0 40 v else
  if a = 223 then inr 0 39 v else
  if a = 225 then inr 0 60 v else
  True
/-- the invariant -/
def XI (f : Nat → Nat → Int32) : Prop := ∀ a i, okv a i (f a i)
theorem XI_ui {f : Nat → Nat → Int32} {k j : Nat} {v : Int32} (h : XI f) (hv : okv k j v) : XI (m_ui f k j v) := fun a i => by
  show okv a i (if a = k then (if i = j then v else f a i) else f a i)
  by_cases q : a = k
  · subst q
    rw [if_pos rfl]
    by_cases q2 : i = j
    · subst q2
      rw [if_pos rfl]
      exact hv
    · rw [if_neg q2]
      exact h a i
  · rw [if_neg q]
    exact h a i
theorem XI_fil {f : Nat → Nat → Int32} {k n : Nat} {v : Int32} (h : XI f) (hv : ∀ i, okv k i v) : XI (m_fil f k n v) := fun a i => by
  show okv a i (if a = k ∧ i < n then v else f a i)
  by_cases q : a = k ∧ i < n
  · rw [if_pos q, q.1]
    exact hv i
  · rw [if_neg q]
    exact h a i
theorem XI_cpy {f : Nat → Nat → Int32} {x y sp dp n : Nat} (h : XI f) (hv : ∀ i j, okv y i (f x j)) : XI (m_cpy f x y sp dp n) := fun a i => by
  show okv a i (if a = y then (if dp ≤ i ∧ i < dp + n then f x (sp + (i - dp)) else f a i) else f a i)
  by_cases q : a = y
  · subst q
    rw [if_pos rfl]
    split
    · exact hv _ _
    · exact h a i
  · rw [if_neg q]
    exact h a i
/-- nothing outside the places lo .. hi - 1 has changed -/
def fx (lo hi : Nat) (f f' : Nat → Nat → Int32) : Prop := ∀ a i, (a < lo ∨ hi ≤ a) → f' a i = f a i
theorem fx_refl (lo hi : Nat) (f : Nat → Nat → Int32) : fx lo hi f f := fun _ _ _ => rfl
theorem fx_trans {lo hi : Nat} {f f' f'' : Nat → Nat → Int32} (h : fx lo hi f f') (h' : fx lo hi f' f'') : fx lo hi f f'' := fun a i q => (h' a i q).trans (h a i q)
theorem fx_wide {lo hi lo' hi' : Nat} {f f' : Nat → Nat → Int32} (h : fx lo hi f f') (h1 : lo' ≤ lo) (h2 : hi ≤ hi') : fx lo' hi' f f' := fun a i q => h a i (by omega)
theorem fx_ui {lo hi : Nat} {f f' : Nat → Nat → Int32} {k j : Nat} {v : Int32} (h1 : lo ≤ k) (h2 : k < hi) (h : fx lo hi f f') : fx lo hi f (m_ui f' k j v) := fun a i q => by
  show (if a = k then (if i = j then v else f' a i) else f' a i) = _
  rw [if_neg (by omega)]
  exact h a i q
theorem fx_fil {lo hi : Nat} {f f' : Nat → Nat → Int32} {k n : Nat} {v : Int32} (h1 : lo ≤ k) (h2 : k < hi) (h : fx lo hi f f') : fx lo hi f (m_fil f' k n v) := fun a i q => by
  show (if a = k ∧ i < n then v else f' a i) = _
  rw [if_neg (by omega)]
  exact h a i q
theorem fx_cpy {lo hi : Nat} {f f' : Nat → Nat → Int32} {x k sp dp n : Nat} (h1 : lo ≤ k) (h2 : k < hi) (h : fx lo hi f f') : fx lo hi f (m_cpy f' x k sp dp n) := fun a i q => by
  show (if a = k then (if dp ≤ i ∧ i < dp + n then f' x (sp + (i - dp)) else f' a i) else f' a i) = _
  rw [if_neg (by omega)]
  exact h a i q
theorem m_ui_ap (f : Nat → Nat → Int32) (k j : Nat) (v : Int32) (a i : Nat) : m_ui f k j v a i = if a = k then (if i = j then v else f a i) else f a i := rfl
theorem m_fil_ap (f : Nat → Nat → Int32) (k n : Nat) (v : Int32) (a i : Nat) : m_fil f k n v a i = if a = k ∧ i < n then v else f a i := rfl
theorem m_cpy_ap (f : Nat → Nat → Int32) (a b sp dp n k i : Nat) : m_cpy f a b sp dp n k i = if k = b then (if dp ≤ i ∧ i < dp + n then f a (sp + (i - dp)) else f k i) else f k i := rfl
theorem vpi {x hi : Int32} {n : Nat} (h : inr 0 hi x) (hn : hi.toInt < n) : vp_in x n := by
  have h1 := Int32.le_iff_toInt_le.mp h.1
  have h2 := Int32.le_iff_toInt_le.mp h.2
  have e0 : (0 : Int32).toInt = 0 := rfl
  exact vp_in_iff.mpr ⟨by omega, by omega⟩
theorem inr_nat {x hi : Int32} {n : Nat} (hn : hi.toInt = n) (h : inr 0 hi x) : ∃ j : Nat, j ≤ n ∧ x = nI j := nI_of2 hn (by
  have h1 := Int32.le_iff_toInt_le.mp h.1
  rw [Int32.lt_iff_toInt_lt]
  omega) h.2
theorem xi_6 {f : Nat → Nat → Int32} (h : XI f) (i : Nat) : inr 0 40 (f 6 i) := h 6 i
theorem xi_7 {f : Nat → Nat → Int32} (h : XI f) (i : Nat) : inr 0 3 (f 7 i) := h 7 i
theorem xi_8 {f : Nat → Nat → Int32} (h : XI f) (i : Nat) : inr (-4) 39 (f 8 i) := h 8 i
theorem xi_96 {f : Nat → Nat → Int32} (h : XI f) (i : Nat) : inr 0 4 (f 96 i) := h 96 i
theorem xi_100 {f : Nat → Nat → Int32} (h : XI f) (i : Nat) : inr 0 60 (f 100 i) := h 100 i
theorem xi_107_3 {f : Nat → Nat → Int32} (h : XI f) : inr 0 50 (f 107 3) := h 107 3
theorem xi_107_4 {f : Nat → Nat → Int32} (h : XI f) : inr 0 50 (f 107 4) := h 107 4
theorem xi_119 {f : Nat → Nat → Int32} (h : XI f) (i : Nat) : inr 0 60 (f 119 i) := h 119 i
theorem xi_121 {f : Nat → Nat → Int32} (h : XI f) (i : Nat) : inr 0 39 (f 121 i) := h 121 i
theorem xi_129 {f : Nat → Nat → Int32} (h : XI f) (i : Nat) : inr 0 20 (f 129 i) := h 129 i
theorem xi_130 {f : Nat → Nat → Int32} (h : XI f) (i : Nat) : inr 0 39 (f 130 i) := h 130 i
theorem xi_131 {f : Nat → Nat → Int32} (h : XI f) (i : Nat) : inr 0 39 (f 131 i) := h 131 i
theorem xi_136 {f : Nat → Nat → Int32} (h : XI f) (i : Nat) : inr 0 19 (f 136 i) := h 136 i
theorem xi_138 {f : Nat → Nat → Int32} (h : XI f) (i : Nat) : inr 0 19 (f 138 i) := h 138 i
theorem xi_139 {f : Nat → Nat → Int32} (h : XI f) (i : Nat) : inr 0 50 (f 139 i) := h 139 i
theorem xi_150_7 {f : Nat → Nat → Int32} (h : XI f) : inr 0 8 (f 150 7) := h 150 7
theorem xi_150_8 {f : Nat → Nat → Int32} (h : XI f) : inr 0 48 (f 150 8) := h 150 8
theorem xi_163 {f : Nat → Nat → Int32} (h : XI f) (i : Nat) : inr 0 8 (f 163 i) := h 163 i
theorem xi_164 {f : Nat → Nat → Int32} (h : XI f) (i : Nat) : inr 0 48 (f 164 i) := h 164 i
theorem xi_166 {f : Nat → Nat → Int32} (h : XI f) (i : Nat) : inr 0 49 (f 166 i) := h 166 i
theorem xi_167 {f : Nat → Nat → Int32} (h : XI f) (i : Nat) : inr (-4) 47 (f 167 i) := h 167 i
theorem xi_168 {f : Nat → Nat → Int32} (h : XI f) (i : Nat) : inr 0 9 (f 168 i) := h 168 i
theorem xi_169 {f : Nat → Nat → Int32} (h : XI f) (i : Nat) : (f 169 i = -4 ∨ inr 0 40 (f 169 i)) := h 169 i
theorem xi_172 {f : Nat → Nat → Int32} (h : XI f) (i : Nat) : inr 0 39 (f 172 i) := h 172 i
theorem xi_180 {f : Nat → Nat → Int32} (h : XI f) (i : Nat) : inr (-1) 60 (f 180 i) := h 180 i
theorem xi_181_0 {f : Nat → Nat → Int32} (h : XI f) : inr 0 40 (f 181 0) := h 181 0
theorem xi_181_14 {f : Nat → Nat → Int32} (h : XI f) : inr 0 60 (f 181 14) := h 181 14
theorem xi_181_16 {f : Nat → Nat → Int32} (h : XI f) : inr 0 20 (f 181 16) := h 181 16
theorem xi_181_27 {f : Nat → Nat → Int32} (h : XI f) : inr 0 50 (f 181 27) := h 181 27
theorem xi_181_34 {f : Nat → Nat → Int32} (h : XI f) : inr 0 8 (f 181 34) := h 181 34
theorem xi_181_46 {f : Nat → Nat → Int32} (h : XI f) : inr 0 50 (f 181 46) := h 181 46
theorem xi_181_47 {f : Nat → Nat → Int32} (h : XI f) : inr 0 50 (f 181 47) := h 181 47
theorem xi_181_48 {f : Nat → Nat → Int32} (h : XI f) : inr 0 60 (f 181 48) := h 181 48
theorem xi_182 {f : Nat → Nat → Int32} (h : XI f) (i : Nat) : inr 0 3 (f 182 i) := h 182 i
theorem xi_183 {f : Nat → Nat → Int32} (h : XI f) (i : Nat) : inr (-1) 39 (f 183 i) := h 183 i
theorem xi_191 {f : Nat → Nat → Int32} (h : XI f) (i : Nat) : inr 0 4 (f 191 i) := h 191 i
theorem xi_196 {f : Nat → Nat → Int32} (h : XI f) (i : Nat) : inr 0 39 (f 196 i) := h 196 i
theorem xi_197 {f : Nat → Nat → Int32} (h : XI f) (i : Nat) : inr 0 39 (f 197 i) := h 197 i
theorem xi_204 {f : Nat → Nat → Int32} (h : XI f) (i : Nat) : inr (-4) 39 (f 204 i) := h 204 i
theorem xi_207 {f : Nat → Nat → Int32} (h : XI f) (i : Nat) : inr 0 49 (f 207 i) := h 207 i
theorem xi_221 {f : Nat → Nat → Int32} (h : XI f) (i : Nat) : inr 0 40 (f 221 i) := h 221 i
theorem xi_223 {f : Nat → Nat → Int32} (h : XI f) (i : Nat) : inr 0 39 (f 223 i) := h 223 i
theorem xi_225 {f : Nat → Nat → Int32} (h : XI f) (i : Nat) : inr 0 60 (f 225 i) := h 225 i
theorem vx_121 {f : Nat → Nat → Int32} (h : XI f) (i : Nat) : vp_in (f 121 i) 40 := vpi (xi_121 h i) (by decide)
theorem vx_130 {f : Nat → Nat → Int32} (h : XI f) (i : Nat) : vp_in (f 130 i) 40 := vpi (xi_130 h i) (by decide)
theorem vx_131 {f : Nat → Nat → Int32} (h : XI f) (i : Nat) : vp_in (f 131 i) 40 := vpi (xi_131 h i) (by decide)
theorem vx_136 {f : Nat → Nat → Int32} (h : XI f) (i : Nat) : vp_in (f 136 i) 20 := vpi (xi_136 h i) (by decide)
theorem vx_138 {f : Nat → Nat → Int32} (h : XI f) (i : Nat) : vp_in (f 138 i) 20 := vpi (xi_138 h i) (by decide)
theorem vx_163 {f : Nat → Nat → Int32} (h : XI f) (i : Nat) : vp_in (f 163 i) 9 := vpi (xi_163 h i) (by decide)
theorem vx_164 {f : Nat → Nat → Int32} (h : XI f) (i : Nat) : vp_in (f 164 i) 49 := vpi (xi_164 h i) (by decide)
theorem vx_166 {f : Nat → Nat → Int32} (h : XI f) (i : Nat) : vp_in (f 166 i) 50 := vpi (xi_166 h i) (by decide)
theorem vx_172 {f : Nat → Nat → Int32} (h : XI f) (i : Nat) : vp_in (f 172 i) 40 := vpi (xi_172 h i) (by decide)
theorem vx_196 {f : Nat → Nat → Int32} (h : XI f) (i : Nat) : vp_in (f 196 i) 40 := vpi (xi_196 h i) (by decide)
theorem vx_197 {f : Nat → Nat → Int32} (h : XI f) (i : Nat) : vp_in (f 197 i) 40 := vpi (xi_197 h i) (by decide)
theorem vx_207 {f : Nat → Nat → Int32} (h : XI f) (i : Nat) : vp_in (f 207 i) 50 := vpi (xi_207 h i) (by decide)
theorem vx_223 {f : Nat → Nat → Int32} (h : XI f) (i : Nat) : vp_in (f 223 i) 40 := vpi (xi_223 h i) (by decide)
/-- the component of a place and slot: 0 what the class reckons, 1 .. 9 its tables, 10 what the model reckons, 11 .. 19 its tables, 20 the rest -/
def cmp0 (a : Nat) : Nat :=
  bif Nat.ble a 5 then 20 else bif Nat.ble a 99 then 1 else bif Nat.ble a 106 then 2 else bif Nat.ble a 118 then 3 else
  bif Nat.ble a 119 then 4 else bif Nat.ble a 120 then 9 else bif Nat.ble a 126 then 4 else bif Nat.ble a 128 then 0 else
  bif Nat.ble a 129 then 5 else bif Nat.ble a 133 then 5 else bif Nat.ble a 136 then 0 else bif Nat.ble a 137 then 21 else bif Nat.ble a 138 then 0 else bif Nat.ble a 148 then 6 else bif Nat.ble a 167 then 0 else
  bif Nat.ble a 171 then 7 else bif Nat.ble a 172 then 0 else bif Nat.ble a 180 then 8 else bif Nat.ble a 181 then 10 else bif Nat.ble a 194 then 11 else
  bif Nat.ble a 195 then 12 else bif Nat.ble a 199 then 15 else bif Nat.ble a 201 then 22 else bif Nat.ble a 202 then 10 else bif Nat.ble a 203 then 16 else bif Nat.ble a 206 then 23 else bif Nat.ble a 211 then 10 else
  bif Nat.ble a 212 then 19 else bif Nat.ble a 215 then 13 else bif Nat.ble a 216 then 10 else bif Nat.ble a 217 then 13 else bif Nat.ble a 218 then 14 else
  bif Nat.ble a 222 then 17 else bif Nat.ble a 223 then 10 else bif Nat.ble a 226 then 18 else 20
def cmp (a i : Nat) : Nat :=
  bif Nat.beq a 129 then (bif Nat.beq i 6 then 5 else 0) else
  bif Nat.beq a 181 then (bif Nat.beq i 0 then 11 else bif Nat.beq i 14 then 12 else bif Nat.beq i 16 then 15 else bif Nat.beq i 27 then 16 else bif Nat.beq i 46 then 13 else bif Nat.beq i 48 then 14 else bif Nat.beq i 50 then 17 else bif Nat.beq i 21 then 22 else bif Nat.beq i 24 then 22 else bif Nat.beq i 29 then 22 else bif Nat.beq i 39 then 23 else 10) else cmp0 a
def hasN : List Nat → Nat → Bool
  | [], _ => false
  | x :: t, n => bif Nat.beq x n then true else hasN t n
def okc (l : List Nat) (a : Nat) : Bool :=
  bif Nat.beq a 129 then (hasN l 0 && hasN l 5) else
  bif Nat.beq a 181 then (hasN l 10 && (hasN l 11 && (hasN l 12 && (hasN l 13 && (hasN l 14 && (hasN l 15 && (hasN l 16 && (hasN l 17 && (hasN l 22 && hasN l 23))))))))) else hasN l (cmp0 a)
def okr (l : List Nat) : Nat → Nat → Bool
  | _, 0 => true
  | lo, n + 1 => okc l lo && okr l (lo + 1) n
theorem bif_or {p : Prop} {b : Bool} {x y : Nat} {l : List Nat} (hx : p → hasN l x = true) (hy : p → hasN l y = true) (h : p) : hasN l (bif b then x else y) = true := by
  cases b
  · exact hy h
  · exact hx h
theorem okc_ok {l : List Nat} {a : Nat} (h : okc l a = true) (i : Nat) : hasN l (cmp a i) = true := by
  unfold okc at h
  unfold cmp
  cases h1 : Nat.beq a 129 with
  | true =>
    rw [h1] at h
    simp only [cond_true, Bool.and_eq_true] at h ⊢
    cases Nat.beq i 6
    · exact h.1
    · exact h.2
  | false =>
    rw [h1] at h
    cases h2 : Nat.beq a 181 with
    | true =>
      rw [h2] at h
      simp only [cond_true, cond_false, Bool.and_eq_true] at h ⊢
      obtain ⟨a0, a1, a2, a3, a4, a5, a6, a7, a8, a9⟩ := h
      cases Nat.beq i 0
      · cases Nat.beq i 14
        · cases Nat.beq i 16
          · cases Nat.beq i 27
            · cases Nat.beq i 46
              · cases Nat.beq i 48
                · cases Nat.beq i 50
                  · cases Nat.beq i 21
                    · cases Nat.beq i 24
                      · cases Nat.beq i 29
                        · cases Nat.beq i 39
                          · exact a0
                          · exact a9
                        · exact a8
                      · exact a8
                    · exact a8
                  · exact a7
                · exact a4
              · exact a3
            · exact a6
          · exact a5
        · exact a2
      · exact a1
    | false =>
      rw [h2] at h
      exact h
theorem okr_ok {l : List Nat} : ∀ (n lo : Nat), okr l lo n = true → ∀ a, lo ≤ a → a < lo + n → okc l a = true
  | 0, lo, _, a, h1, h2 => absurd h2 (by omega)
  | n + 1, lo, h, a, h1, h2 => by
    unfold okr at h
    rw [Bool.and_eq_true] at h
    by_cases e : a = lo
    · rw [e]
      exact h.1
    · exact okr_ok n (lo + 1) h.2 a (by omega) (by omega)
/-- only what is of these components has changed -/
def kp (l : List Nat) (f f' : Nat → Nat → Int32) : Prop := ∀ a i, hasN l (cmp a i) = false → f' a i = f a i
theorem kp_refl (l : List Nat) (f : Nat → Nat → Int32) : kp l f f := fun _ _ _ => rfl
theorem kp_trans {l : List Nat} {f f' f'' : Nat → Nat → Int32} (h : kp l f f') (h' : kp l f' f'') : kp l f f'' := fun a i q => (h' a i q).trans (h a i q)
theorem kp_ui {l : List Nat} {f f' : Nat → Nat → Int32} {k j : Nat} {v : Int32} (h1 : hasN l (cmp k j) = true) (h : kp l f f') : kp l f (m_ui f' k j v) := fun a i q => by
  show (if a = k then (if i = j then v else f' a i) else f' a i) = _
  by_cases e : a = k
  · by_cases e2 : i = j
    · rw [e, e2, h1] at q
      exact absurd q (by decide)
    · rw [if_pos e, if_neg e2]
      exact h a i q
  · rw [if_neg e]
    exact h a i q
theorem kp_fil {l : List Nat} {f f' : Nat → Nat → Int32} {k n : Nat} {v : Int32} (h1 : okc l k = true) (h : kp l f f') : kp l f (m_fil f' k n v) := fun a i q => by
  show (if a = k ∧ i < n then v else f' a i) = _
  rw [if_neg (fun e => by rw [e.1, okc_ok h1 i] at q; exact absurd q (by decide))]
  exact h a i q
theorem kp_cpy {l : List Nat} {f f' : Nat → Nat → Int32} {x k sp dp n : Nat} (h1 : okc l k = true) (h : kp l f f') : kp l f (m_cpy f' x k sp dp n) := fun a i q => by
  show (if a = k then (if dp ≤ i ∧ i < dp + n then f' x (sp + (i - dp)) else f' a i) else f' a i) = _
  rw [if_neg (fun e => by rw [e, okc_ok h1 i] at q; exact absurd q (by decide))]
  exact h a i q
theorem kp_fx {l : List Nat} {lo hi : Nat} {f f' : Nat → Nat → Int32} (h : fx lo hi f f') (h1 : okr l lo (hi - lo) = true) : kp l f f' := fun a i q => by
  apply h
  by_cases e : lo ≤ a ∧ a < hi
  · have := okc_ok (okr_ok _ _ h1 a e.1 (by omega)) i
    rw [this] at q
    exact absurd q (by decide)
  · omega
def subN : List Nat → List Nat → Bool
  | [], _ => true
  | x :: t, l => hasN l x && subN t l
theorem hasN_sub {l : List Nat} : ∀ (l' : List Nat), subN l' l = true → ∀ n, hasN l n = false → hasN l' n = false
  | [], _, n, _ => rfl
  | x :: t, h, n, q => by
    unfold subN at h
    rw [Bool.and_eq_true] at h
    show (bif Nat.beq x n then true else hasN t n) = false
    cases e : Nat.beq x n with
    | true =>
      have := Nat.eq_of_beq_eq_true e
      subst this
      rw [h.1] at q
      exact absurd q (by decide)
    | false => exact hasN_sub t h.2 n q
theorem kp_wd {l l' : List Nat} {f f' : Nat → Nat → Int32} (h : kp l' f f') (h1 : subN l' l = true) : kp l f f' := fun a i q => h a i (hasN_sub l' h1 _ q)
theorem row_14 : ∀ j, j < 40 → ([some 15, some 16, some 17, some 18, some 19, some 20, some 21, some 22, some 23, some 24, some 25, some 26, some 27, some 28, some 29, some 30, some 31, some 32, some 33, some 34, some 35, some 36, some 37, some 38, some 39, some 40, some 41, some 42, some 43, some 44, some 45, some 46, some 47, some 48, some 49, some 50, some 51, some 52, some 53, some 54] : List (Option Nat)).getD j none = some (15 + j) := by decide
theorem shp_14 (L : Nat) : ∀ j, j < 40 → m_nth (shF L) (15 + j) = some (100, 4, [])
  | 0, _ => rfl
  | 1, _ => rfl
  | 2, _ => rfl
  | 3, _ => rfl
  | 4, _ => rfl
  | 5, _ => rfl
  | 6, _ => rfl
  | 7, _ => rfl
  | 8, _ => rfl
  | 9, _ => rfl
  | 10, _ => rfl
  | 11, _ => rfl
  | 12, _ => rfl
  | 13, _ => rfl
  | 14, _ => rfl
  | 15, _ => rfl
  | 16, _ => rfl
  | 17, _ => rfl
  | 18, _ => rfl
  | 19, _ => rfl
  | 20, _ => rfl
  | 21, _ => rfl
  | 22, _ => rfl
  | 23, _ => rfl
  | 24, _ => rfl
  | 25, _ => rfl
  | 26, _ => rfl
  | 27, _ => rfl
  | 28, _ => rfl
  | 29, _ => rfl
  | 30, _ => rfl
  | 31, _ => rfl
  | 32, _ => rfl
  | 33, _ => rfl
  | 34, _ => rfl
  | 35, _ => rfl
  | 36, _ => rfl
  | 37, _ => rfl
  | 38, _ => rfl
  | 39, _ => rfl
  | k + 40, h => absurd h (by omega)
theorem row_55 : ∀ j, j < 40 → ([some 56, some 57, some 58, some 59, some 60, some 61, some 62, some 63, some 64, some 65, some 66, some 67, some 68, some 69, some 70, some 71, some 72, some 73, some 74, some 75, some 76, some 77, some 78, some 79, some 80, some 81, some 82, some 83, some 84, some 85, some 86, some 87, some 88, some 89, some 90, some 91, some 92, some 93, some 94, some 95] : List (Option Nat)).getD j none = some (56 + j) := by decide
theorem shp_55 (L : Nat) : ∀ j, j < 40 → m_nth (shF L) (56 + j) = some (100, 4, [])
  | 0, _ => rfl
  | 1, _ => rfl
  | 2, _ => rfl
  | 3, _ => rfl
  | 4, _ => rfl
  | 5, _ => rfl
  | 6, _ => rfl
  | 7, _ => rfl
  | 8, _ => rfl
  | 9, _ => rfl
  | 10, _ => rfl
  | 11, _ => rfl
  | 12, _ => rfl
  | 13, _ => rfl
  | 14, _ => rfl
  | 15, _ => rfl
  | 16, _ => rfl
  | 17, _ => rfl
  | 18, _ => rfl
  | 19, _ => rfl
  | 20, _ => rfl
  | 21, _ => rfl
  | 22, _ => rfl
  | 23, _ => rfl
  | 24, _ => rfl
  | 25, _ => rfl
  | 26, _ => rfl
  | 27, _ => rfl
  | 28, _ => rfl
  | 29, _ => rfl
  | 30, _ => rfl
  | 31, _ => rfl
  | 32, _ => rfl
  | 33, _ => rfl
  | 34, _ => rfl
  | 35, _ => rfl
  | 36, _ => rfl
  | 37, _ => rfl
  | 38, _ => rfl
  | 39, _ => rfl
  | k + 40, h => absurd h (by omega)
theorem row_108 : ∀ j, j < 4 → ([some 109, some 110, some 111, some 112] : List (Option Nat)).getD j none = some (109 + j) := by decide
theorem shp_108 (L : Nat) : ∀ j, j < 4 → m_nth (shF L) (109 + j) = some (100, 3, [])
  | 0, _ => rfl
  | 1, _ => rfl
  | 2, _ => rfl
  | 3, _ => rfl
  | k + 4, h => absurd h (by omega)
theorem row_113 : ∀ j, j < 4 → ([some 114, some 115, some 116, some 117] : List (Option Nat)).getD j none = some (114 + j) := by decide
theorem shp_113 (L : Nat) : ∀ j, j < 4 → m_nth (shF L) (114 + j) = some (100, 3, [])
  | 0, _ => rfl
  | 1, _ => rfl
  | 2, _ => rfl
  | 3, _ => rfl
  | k + 4, h => absurd h (by omega)
theorem row_151 : ∀ j, j < 8 → ([some 152, some 153, some 154, some 155, some 156, some 157, some 158, some 159] : List (Option Nat)).getD j none = some (152 + j) := by decide
theorem shp_151 (L : Nat) : ∀ j, j < 8 → m_nth (shF L) (152 + j) = some (102, 48, [])
  | 0, _ => rfl
  | 1, _ => rfl
  | 2, _ => rfl
  | 3, _ => rfl
  | 4, _ => rfl
  | 5, _ => rfl
  | 6, _ => rfl
  | 7, _ => rfl
  | k + 8, h => absurd h (by omega)
theorem row_174 : ∀ j, j < 4 → ([some 175, some 176, some 177, some 178] : List (Option Nat)).getD j none = some (175 + j) := by decide
theorem shp_174 (L : Nat) : ∀ j, j < 4 → m_nth (shF L) (175 + j) = some (100, 60, [])
  | 0, _ => rfl
  | 1, _ => rfl
  | 2, _ => rfl
  | 3, _ => rfl
  | k + 4, h => absurd h (by omega)
theorem nI_lt0 {n : Nat} (h : n < 2 ^ 31) {w : Int32} (h1 : ¬ w < 0) (h2 : ¬ nI n ≤ w) : ∃ j, j < n ∧ w = nI j := by
  obtain ⟨j, hj, rfl⟩ := nI_of h1
  exact ⟨j, by
    rw [nI_leI h hj] at h2
    omega, rfl⟩
theorem nI_no {n : Nat} (h : n < 2 ^ 31) {w : Int32} (h1 : w < 0 ∨ nI n ≤ w) : ∀ j, j < n → ¬ w = nI j := by
  intro j hj e
  subst e
  rcases h1 with h1 | h1
  · exact absurd h1 (nI_pos (by omega))
  · exact absurd h1 (nI_ge hj h)
set_option maxRecDepth 100000 in
theorem ct_has {d L n : Nat} {f : Nat → Nat → Int32} {g : Nat → Nat → Int64} {w : Int32} {R : Option Value → mH → Prop} (hd : 1 ≤ d) (hn : f 6 13 = nI n) (hm : n ≤ 40) (H1 : ∀ j, j < n → w = nI j → R (some (.int 1)) (shF L, f, g)) (H0 : (∀ j, j < n → ¬ w = nI j) → R (some (.int 0)) (shF L, f, g)) : Run mtab d 67 [.ref 6, .int w] (shF L, f, g) R := by
  obtain ⟨d, rfl⟩ : ∃ e, d = e + 1 := ⟨d - 1, by omega⟩
  refine go_X8_has rfl ?_
  conv => whnf
  refine ⟨fun c => ?_, fun c => ?_⟩
  · conv => whnf
    exact ⟨Or.inl rfl, H0 (nI_no (by omega) (Or.inl c))⟩
  · conv => whnf
    rw [hn]
    refine ⟨fun c' => ?_, fun c' => ?_⟩
    · conv => whnf
      exact ⟨Or.inl rfl, H0 (nI_no (by omega) (Or.inr c'))⟩
    · conv => whnf
      obtain ⟨j, hj, e⟩ := nI_lt0 (by omega) c c'
      exact ⟨Or.inr rfl, H1 j hj e⟩
set_option maxRecDepth 100000 in
theorem ct_shas {d L n : Nat} {f : Nat → Nat → Int32} {g : Nat → Nat → Int64} {w : Int32} {R : Option Value → mH → Prop} (hd : 1 ≤ d) (hn : f 139 13 = nI n) (hm : n ≤ 50) (H1 : ∀ j, j < n → w = nI j → R (some (.int 1)) (shF L, f, g)) (H0 : (∀ j, j < n → ¬ w = nI j) → R (some (.int 0)) (shF L, f, g)) : Run mtab d 34 [.ref 139, .int w] (shF L, f, g) R := by
  obtain ⟨d, rfl⟩ : ∃ e, d = e + 1 := ⟨d - 1, by omega⟩
  refine go_X4_has rfl ?_
  conv => whnf
  refine ⟨fun c => ?_, fun c => ?_⟩
  · conv => whnf
    exact ⟨Or.inl rfl, H0 (nI_no (by omega) (Or.inl c))⟩
  · conv => whnf
    rw [hn]
    refine ⟨fun c' => ?_, fun c' => ?_⟩
    · conv => whnf
      exact ⟨Or.inl rfl, H0 (nI_no (by omega) (Or.inr c'))⟩
    · conv => whnf
      obtain ⟨j, hj, e⟩ := nI_lt0 (by omega) c c'
      exact ⟨Or.inr rfl, H1 j hj e⟩
set_option maxRecDepth 100000 in
set_option maxHeartbeats 4000000 in
theorem sx_isPainted {d L : Nat} {f : Nat → Nat → Int32} {g : Nat → Nat → Int64} {j : Nat} {R : Option Value → mH → Prop} (hd : 1 ≤ d) (hX : XI f) (hj : j < 40) (H : ∀ v, (v = 0 ∨ v = 1) → R (some (.int v)) (shF L, f, g)) : Run mtab d 68 [.ref 6, .int (nI j)] (shF L, f, g) R := by
  obtain ⟨d, rfl⟩ : ∃ e, d = e + 1 := ⟨d - 1, by omega⟩
  refine go_X8_isPainted rfl ?_
  conv => whnf
  repeat' first
    | ((with_reducible refine ⟨vp_in_nI (by omega) (by decide), ?_⟩) <;> conv => whnf)
    | (refine ⟨Or.inl rfl, ?_⟩ <;> conv => whnf)
    | (refine ⟨Or.inr rfl, ?_⟩ <;> conv => whnf)
    | (refine ⟨Or.inl True.intro, ?_⟩ <;> conv => whnf)
    | (refine ⟨Or.inr True.intro, ?_⟩ <;> conv => whnf)
    | (refine ⟨fun c => ?_, fun c => ?_⟩ <;> first | ((have c9 : (1 : Int32) = 0 := by with_reducible exact c); exact absurd c9 (by decide)) | exact absurd (rfl : (0 : Int32) = 0) (by with_reducible exact c) | exact absurd True.intro (by with_reducible exact c) | exact False.elim (by with_reducible exact c) | (conv => whnf))
    | (refine ⟨by unfold vp_in; decide, ?_⟩ <;> conv => whnf)
    | fail
  all_goals first | exact ⟨Or.inl rfl, H _ (Or.inl rfl)⟩ | exact ⟨Or.inr rfl, H _ (Or.inr rfl)⟩ | exact H _ (Or.inl rfl) | exact H _ (Or.inr rfl)
set_option maxRecDepth 100000 in
set_option maxHeartbeats 4000000 in
theorem sx_isOnPaper {d L : Nat} {f : Nat → Nat → Int32} {g : Nat → Nat → Int64} {j : Nat} {R : Option Value → mH → Prop} (hd : 1 ≤ d) (hX : XI f) (hj : j < 40) (H : ∀ v, (v = 0 ∨ v = 1) → R (some (.int v)) (shF L, f, g)) : Run mtab d 69 [.ref 6, .int (nI j)] (shF L, f, g) R := by
  obtain ⟨d, rfl⟩ : ∃ e, d = e + 1 := ⟨d - 1, by omega⟩
  refine go_X8_isOnPaper rfl ?_
  conv => whnf
  repeat' first
    | ((with_reducible refine ⟨vp_in_nI (by omega) (by decide), ?_⟩) <;> conv => whnf)
    | (refine ⟨Or.inl rfl, ?_⟩ <;> conv => whnf)
    | (refine ⟨Or.inr rfl, ?_⟩ <;> conv => whnf)
    | (refine ⟨Or.inl True.intro, ?_⟩ <;> conv => whnf)
    | (refine ⟨Or.inr True.intro, ?_⟩ <;> conv => whnf)
    | (refine ⟨fun c => ?_, fun c => ?_⟩ <;> first | ((have c9 : (1 : Int32) = 0 := by with_reducible exact c); exact absurd c9 (by decide)) | exact absurd (rfl : (0 : Int32) = 0) (by with_reducible exact c) | exact absurd True.intro (by with_reducible exact c) | exact False.elim (by with_reducible exact c) | (conv => whnf))
    | (refine ⟨by unfold vp_in; decide, ?_⟩ <;> conv => whnf)
    | fail
  all_goals first | exact ⟨Or.inl rfl, H _ (Or.inl rfl)⟩ | exact ⟨Or.inr rfl, H _ (Or.inr rfl)⟩ | exact H _ (Or.inl rfl) | exact H _ (Or.inr rfl)
set_option maxRecDepth 100000 in
set_option maxHeartbeats 4000000 in
theorem sx_heightIn {d L : Nat} {f : Nat → Nat → Int32} {g : Nat → Nat → Int64} {j : Nat} {y : Int32} {R : Option Value → mH → Prop} (hd : 1 ≤ d) (hX : XI f) (hj : j < 40) (H : ∀ v, R (some (.int v)) (shF L, f, g)) : Run mtab d 74 [.ref 6, .int (nI j), .int y] (shF L, f, g) R := by
  obtain ⟨d, rfl⟩ : ∃ e, d = e + 1 := ⟨d - 1, by omega⟩
  refine go_X8_heightIn rfl ?_
  conv => whnf
  repeat' first
    | ((with_reducible refine ⟨vp_in_nI (by omega) (by decide), ?_⟩) <;> conv => whnf)
    | (refine ⟨Or.inl rfl, ?_⟩ <;> conv => whnf)
    | (refine ⟨Or.inr rfl, ?_⟩ <;> conv => whnf)
    | (refine ⟨Or.inl True.intro, ?_⟩ <;> conv => whnf)
    | (refine ⟨Or.inr True.intro, ?_⟩ <;> conv => whnf)
    | (refine ⟨fun c => ?_, fun c => ?_⟩ <;> first | ((have c9 : (1 : Int32) = 0 := by with_reducible exact c); exact absurd c9 (by decide)) | exact absurd (rfl : (0 : Int32) = 0) (by with_reducible exact c) | exact absurd True.intro (by with_reducible exact c) | exact False.elim (by with_reducible exact c) | (conv => whnf))
    | (refine ⟨by unfold vp_in; decide, ?_⟩ <;> conv => whnf)
    | fail
  all_goals exact H _
set_option maxRecDepth 100000 in
set_option maxHeartbeats 4000000 in
theorem sx_widthIn {d L : Nat} {f : Nat → Nat → Int32} {g : Nat → Nat → Int64} {j : Nat} {y : Int32} {R : Option Value → mH → Prop} (hd : 1 ≤ d) (hX : XI f) (hj : j < 40) (H : ∀ v, R (some (.int v)) (shF L, f, g)) : Run mtab d 75 [.ref 6, .int (nI j), .int y] (shF L, f, g) R := by
  obtain ⟨d, rfl⟩ : ∃ e, d = e + 1 := ⟨d - 1, by omega⟩
  refine go_X8_widthIn rfl ?_
  conv => whnf
  repeat' first
    | ((with_reducible refine ⟨vp_in_nI (by omega) (by decide), ?_⟩) <;> conv => whnf)
    | (refine ⟨Or.inl rfl, ?_⟩ <;> conv => whnf)
    | (refine ⟨Or.inr rfl, ?_⟩ <;> conv => whnf)
    | (refine ⟨Or.inl True.intro, ?_⟩ <;> conv => whnf)
    | (refine ⟨Or.inr True.intro, ?_⟩ <;> conv => whnf)
    | (refine ⟨fun c => ?_, fun c => ?_⟩ <;> first | ((have c9 : (1 : Int32) = 0 := by with_reducible exact c); exact absurd c9 (by decide)) | exact absurd (rfl : (0 : Int32) = 0) (by with_reducible exact c) | exact absurd True.intro (by with_reducible exact c) | exact False.elim (by with_reducible exact c) | (conv => whnf))
    | (refine ⟨by unfold vp_in; decide, ?_⟩ <;> conv => whnf)
    | fail
  all_goals exact H _
set_option maxRecDepth 100000 in
set_option maxHeartbeats 4000000 in
theorem sx_told {d L : Nat} {f : Nat → Nat → Int32} {g : Nat → Nat → Int64} {x1 x2 : Int32} {R : Option Value → mH → Prop} (hd : 6 ≤ d) (hX : XI f) (H : ∀ v, R (some (.int v)) (shF L, f, g)) : Run mtab d 95 [.ref 5, .int x1, .int x2] (shF L, f, g) R := by
  obtain ⟨d, rfl⟩ : ∃ e, d = e + 1 := ⟨d - 1, by omega⟩
  refine go_X10_told rfl ?_
  conv => whnf
  obtain ⟨n, hm, hn⟩ := inr_nat (n := 40) rfl (xi_6 hX 13)
  repeat' first
    | ((with_reducible refine ⟨vp_in_nI (by omega) (by decide), ?_⟩) <;> conv => whnf)
    | (refine ⟨Or.inl rfl, ?_⟩ <;> conv => whnf)
    | (refine ⟨Or.inr rfl, ?_⟩ <;> conv => whnf)
    | (refine ⟨Or.inl True.intro, ?_⟩ <;> conv => whnf)
    | (refine ⟨Or.inr True.intro, ?_⟩ <;> conv => whnf)
    | (refine ⟨fun c => ?_, fun c => ?_⟩ <;> first | ((have c9 : (1 : Int32) = 0 := by with_reducible exact c); exact absurd c9 (by decide)) | exact absurd (rfl : (0 : Int32) = 0) (by with_reducible exact c) | exact absurd True.intro (by with_reducible exact c) | exact False.elim (by with_reducible exact c) | (conv => whnf))
    | (refine ct_has (by omega) hn hm (fun j hj e => ?_) (fun q => ?_) <;> (try subst e) <;> conv => whnf)
    | (refine ⟨by unfold vp_in; decide, ?_⟩ <;> conv => whnf)
    | (refine ⟨fun c => ?_, ?_⟩ <;> conv => whnf)
    | (intro c; conv => whnf)
    | fail
  all_goals exact H _
set_option maxRecDepth 100000 in
set_option maxHeartbeats 4000000 in
theorem sx_turned {d L : Nat} {f : Nat → Nat → Int32} {g : Nat → Nat → Int64} {x1 : Int32} {R : Option Value → mH → Prop} (hd : 6 ≤ d) (hX : XI f) (H : ∀ v, R (some (.int v)) (shF L, f, g)) : Run mtab d 97 [.ref 5, .int x1] (shF L, f, g) R := by
  obtain ⟨d, rfl⟩ : ∃ e, d = e + 1 := ⟨d - 1, by omega⟩
  refine go_X10_turned rfl ?_
  conv => whnf
  obtain ⟨n, hm, hn⟩ := inr_nat (n := 40) rfl (xi_6 hX 13)
  repeat' first
    | ((with_reducible refine ⟨vp_in_nI (by omega) (by decide), ?_⟩) <;> conv => whnf)
    | (refine ⟨Or.inl rfl, ?_⟩ <;> conv => whnf)
    | (refine ⟨Or.inr rfl, ?_⟩ <;> conv => whnf)
    | (refine ⟨Or.inl True.intro, ?_⟩ <;> conv => whnf)
    | (refine ⟨Or.inr True.intro, ?_⟩ <;> conv => whnf)
    | (refine ⟨fun c => ?_, fun c => ?_⟩ <;> first | ((have c9 : (1 : Int32) = 0 := by with_reducible exact c); exact absurd c9 (by decide)) | exact absurd (rfl : (0 : Int32) = 0) (by with_reducible exact c) | exact absurd True.intro (by with_reducible exact c) | exact False.elim (by with_reducible exact c) | (conv => whnf))
    | (refine ct_has (by omega) hn hm (fun j hj e => ?_) (fun q => ?_) <;> (try subst e) <;> conv => whnf)
    | (refine ct_bit (by omega) (fun p => ?_) (fun p => ?_) <;> conv => whnf)
    | (refine ⟨by unfold vp_in; decide, ?_⟩ <;> conv => whnf)
    | fail
  all_goals exact H _
theorem inr_n {n m : Nat} {hi : Int32} (h : n ≤ m) (hm : hi.toInt = m) (h2 : m < 2 ^ 31) : inr 0 hi (nI n) := by
  constructor
  · rw [Int32.le_iff_toInt_le, nI_toInt (by omega)]
    have e0 : (0 : Int32).toInt = 0 := rfl
    omega
  · rw [Int32.le_iff_toInt_le, nI_toInt (by omega)]
    omega
theorem inr_n1 {n m : Nat} {hi : Int32} (h : n + 1 ≤ m) (hm : hi.toInt = m) (h2 : m < 2 ^ 31) : inr 0 hi (nI n + 1) := by
  rw [nI_1]
  exact inr_n h hm h2
theorem inr_np {n m : Nat} {hi : Int32} (h : n ≤ m + 1) (h1 : ¬ n = 0) (hm : hi.toInt = m) (h2 : m < 2 ^ 31) : inr 0 hi (nI n - 1) := by
  obtain ⟨k, rfl⟩ : ∃ k, n = k + 1 := ⟨n - 1, by omega⟩
  rw [nI_pred]
  exact inr_n (by omega) hm h2
theorem nI_n0 {n : Nat} (h : n < 2 ^ 31) (c : ¬ nI n = 0) : ¬ n = 0 := fun e => c (by rw [e]; rfl)
set_option maxRecDepth 100000 in
set_option maxHeartbeats 4000000 in
theorem sx_unhold {d L : Nat} {f : Nat → Nat → Int32} {g : Nat → Nat → Int64}  {R : Option Value → mH → Prop} (hd : 2 ≤ d) (hX : XI f) (H : ∀ v f' g', XI f' → kp [2] f f' → R (some (.int v)) (shF L, f', g')) : Run mtab d 99 [.ref 5] (shF L, f, g) R := by
  obtain ⟨d, rfl⟩ : ∃ e, d = e + 1 := ⟨d - 1, by omega⟩
  refine go_X10_unhold rfl ?_
  conv => whnf
  obtain ⟨n, hm, hb⟩ := inr_nat (n := 60) rfl (xi_100 hX 6)
  simp only [hb]
  refine ⟨fun c => ?_, fun c => ?_⟩
  · conv => whnf
    simp only [hb]
    exact H _ _ _ (XI_ui hX (inr_np (m := 60) (by omega) (nI_n0 (by omega) c) rfl (by decide))) (kp_ui rfl (kp_refl _ _))
  · conv => whnf
    exact H _ _ _ hX (kp_refl _ _)
set_option maxRecDepth 100000 in
set_option maxHeartbeats 4000000 in
theorem sx_Oadd {d L : Nat} {f : Nat → Nat → Int32} {g : Nat → Nat → Int64} {x1 x2 x3 x4 x5 x6 : Int32} {R : Option Value → mH → Prop} (hd : 2 ≤ d) (hX : XI f) (H : ∀ v f' g', XI f' → fx 100 107 f f' → R (some (.int v)) (shF L, f', g')) : Run mtab d 43 [.ref 100, .int x1, .int x2, .int x3, .int x4, .int x5, .int x6] (shF L, f, g) R := by
  obtain ⟨d, rfl⟩ : ∃ e, d = e + 1 := ⟨d - 1, by omega⟩
  refine go_X5_add rfl ?_
  conv => whnf
  obtain ⟨n, hm, hb⟩ := inr_nat (n := 60) rfl (xi_100 hX 6)
  by_cases hq : n = 60
  · subst hq
    repeat' first
      | (simp only [hb])
      | ((with_reducible refine ⟨vp_in_nI (by omega) (by decide), ?_⟩) <;> conv => whnf)
      | (refine ⟨Or.inl rfl, ?_⟩ <;> conv => whnf)
      | (refine ⟨Or.inr rfl, ?_⟩ <;> conv => whnf)
      | (refine ⟨Or.inl True.intro, ?_⟩ <;> conv => whnf)
      | (refine ⟨Or.inr True.intro, ?_⟩ <;> conv => whnf)
      | (refine ⟨fun c => ?_, fun c => ?_⟩ <;> first | ((have c9 : (1 : Int32) = 0 := by with_reducible exact c); exact absurd c9 (by decide)) | exact absurd (rfl : (0 : Int32) = 0) (by with_reducible exact c) | exact absurd True.intro (by with_reducible exact c) | exact False.elim (by with_reducible exact c) | exact absurd (by decide) c | (conv => whnf))
      | (refine ⟨by unfold vp_in; decide, ?_⟩ <;> conv => whnf)
      | fail
    all_goals exact H _ _ _ (by repeat' first | (with_reducible assumption) | (with_reducible refine XI_ui ?_ ?_) | (with_reducible refine XI_fil ?_ (fun _ => ?_)) | (with_reducible refine XI_cpy ?_ (fun _ _ => ?_)) | exact True.intro | ((show inr _ _ _); first | (with_reducible assumption) | (unfold inr; decide)) | fail) (by repeat' first | (with_reducible exact fx_refl _ _ _) | (with_reducible assumption) | (with_reducible refine fx_ui ?_ ?_ ?_) | (with_reducible refine fx_fil ?_ ?_ ?_) | (with_reducible refine fx_cpy ?_ ?_ ?_) | omega | decide | fail)
  · have hlt : n < 60 := by omega
    repeat' first
      | (simp only [hb, m_ui_ap, m_fil_ap, m_cpy_ap, Nat.reduceEqDiff, Nat.reduceLT, Nat.reduceLeDiff, eq_self, ↓reduceIte, false_and, and_false, true_and, and_true, and_self])
      | ((with_reducible refine ⟨vp_in_nI (by omega) (by decide), ?_⟩) <;> conv => whnf)
      | (refine ⟨Or.inl rfl, ?_⟩ <;> conv => whnf)
      | (refine ⟨Or.inr rfl, ?_⟩ <;> conv => whnf)
      | (refine ⟨Or.inl True.intro, ?_⟩ <;> conv => whnf)
      | (refine ⟨Or.inr True.intro, ?_⟩ <;> conv => whnf)
      | (refine ⟨fun c => ?_, fun c => ?_⟩ <;> first | ((have c9 : (1 : Int32) = 0 := by with_reducible exact c); exact absurd c9 (by decide)) | exact absurd (rfl : (0 : Int32) = 0) (by with_reducible exact c) | exact absurd True.intro (by with_reducible exact c) | exact False.elim (by with_reducible exact c) | exact absurd ((nI_eq (b := 60) (by omega) (by decide)).mp c) hq | (conv => whnf))
      | (refine ⟨by unfold vp_in; decide, ?_⟩ <;> conv => whnf)
      | fail
    all_goals exact H _ _ _ (by repeat' first | (with_reducible assumption) | (with_reducible refine XI_ui ?_ ?_) | (with_reducible refine XI_fil ?_ (fun _ => ?_)) | (with_reducible refine XI_cpy ?_ (fun _ _ => ?_)) | exact True.intro | ((show inr _ _ _); first | (with_reducible assumption) | ((with_reducible refine inr_n1 (m := 60) ?_ ?_ ?_) <;> first | omega | rfl | decide) | ((with_reducible refine inr_n (m := 60) ?_ ?_ ?_) <;> first | omega | rfl | decide) | (unfold inr; decide)) | fail) (by repeat' first | (with_reducible exact fx_refl _ _ _) | (with_reducible assumption) | (with_reducible refine fx_ui ?_ ?_ ?_) | (with_reducible refine fx_fil ?_ ?_ ?_) | (with_reducible refine fx_cpy ?_ ?_ ?_) | omega | decide | fail)
set_option maxRecDepth 100000 in
set_option maxHeartbeats 4000000 in
theorem sx_Yadd {d L : Nat} {f : Nat → Nat → Int32} {g : Nat → Nat → Int64} {x1 x2 x3 : Int32} {R : Option Value → mH → Prop} (hd : 2 ≤ d) (hX : XI f) (h1 : inr 0 39 x1) (h2 : inr 0 39 x2) (H : ∀ v f' g', XI f' → kp [5] f f' → R (some (.int v)) (shF L, f', g')) : Run mtab d 78 [.ref 129, .int x1, .int x2, .int x3] (shF L, f, g) R := by
  obtain ⟨d, rfl⟩ : ∃ e, d = e + 1 := ⟨d - 1, by omega⟩
  refine go_X9_add rfl ?_
  conv => whnf
  obtain ⟨n, hm, hb⟩ := inr_nat (n := 20) rfl (xi_129 hX 6)
  by_cases hq : n = 20
  · subst hq
    repeat' first
      | (simp only [hb])
      | ((with_reducible refine ⟨vp_in_nI (by omega) (by decide), ?_⟩) <;> conv => whnf)
      | (refine ⟨Or.inl rfl, ?_⟩ <;> conv => whnf)
      | (refine ⟨Or.inr rfl, ?_⟩ <;> conv => whnf)
      | (refine ⟨Or.inl True.intro, ?_⟩ <;> conv => whnf)
      | (refine ⟨Or.inr True.intro, ?_⟩ <;> conv => whnf)
      | (refine ⟨fun c => ?_, fun c => ?_⟩ <;> first | ((have c9 : (1 : Int32) = 0 := by with_reducible exact c); exact absurd c9 (by decide)) | exact absurd (rfl : (0 : Int32) = 0) (by with_reducible exact c) | exact absurd True.intro (by with_reducible exact c) | exact False.elim (by with_reducible exact c) | exact absurd (by decide) c | (conv => whnf))
      | (refine ⟨by unfold vp_in; decide, ?_⟩ <;> conv => whnf)
      | fail
    all_goals exact H _ _ _ (by repeat' first | (with_reducible assumption) | (with_reducible refine XI_ui ?_ ?_) | (with_reducible refine XI_fil ?_ (fun _ => ?_)) | (with_reducible refine XI_cpy ?_ (fun _ _ => ?_)) | exact True.intro | ((show inr _ _ _); first | (with_reducible assumption) | (unfold inr; decide)) | fail) (by repeat' first | (with_reducible exact kp_refl _ _) | (with_reducible assumption) | (with_reducible refine kp_ui ?_ ?_) | (with_reducible refine kp_fil ?_ ?_) | (with_reducible refine kp_cpy ?_ ?_) | rfl | fail)
  · have hlt : n < 20 := by omega
    repeat' first
      | (simp only [hb, m_ui_ap, m_fil_ap, m_cpy_ap, Nat.reduceEqDiff, Nat.reduceLT, Nat.reduceLeDiff, eq_self, ↓reduceIte, false_and, and_false, true_and, and_true, and_self])
      | ((with_reducible refine ⟨vp_in_nI (by omega) (by decide), ?_⟩) <;> conv => whnf)
      | (refine ⟨Or.inl rfl, ?_⟩ <;> conv => whnf)
      | (refine ⟨Or.inr rfl, ?_⟩ <;> conv => whnf)
      | (refine ⟨Or.inl True.intro, ?_⟩ <;> conv => whnf)
      | (refine ⟨Or.inr True.intro, ?_⟩ <;> conv => whnf)
      | (refine ⟨fun c => ?_, fun c => ?_⟩ <;> first | ((have c9 : (1 : Int32) = 0 := by with_reducible exact c); exact absurd c9 (by decide)) | exact absurd (rfl : (0 : Int32) = 0) (by with_reducible exact c) | exact absurd True.intro (by with_reducible exact c) | exact False.elim (by with_reducible exact c) | exact absurd ((nI_eq (b := 20) (by omega) (by decide)).mp c) hq | (conv => whnf))
      | (refine ⟨by unfold vp_in; decide, ?_⟩ <;> conv => whnf)
      | fail
    all_goals exact H _ _ _ (by repeat' first | (with_reducible assumption) | (with_reducible refine XI_ui ?_ ?_) | (with_reducible refine XI_fil ?_ (fun _ => ?_)) | (with_reducible refine XI_cpy ?_ (fun _ _ => ?_)) | exact True.intro | ((show inr _ _ _); first | (with_reducible assumption) | ((with_reducible refine inr_n1 (m := 20) ?_ ?_ ?_) <;> first | omega | rfl | decide) | ((with_reducible refine inr_n (m := 20) ?_ ?_ ?_) <;> first | omega | rfl | decide) | (unfold inr; decide)) | fail) (by repeat' first | (with_reducible exact kp_refl _ _) | (with_reducible assumption) | (with_reducible refine kp_ui ?_ ?_) | (with_reducible refine kp_fil ?_ ?_) | (with_reducible refine kp_cpy ?_ ?_) | rfl | fail)
set_option maxRecDepth 100000 in
set_option maxHeartbeats 4000000 in
theorem sx_Cadd {d L : Nat} {f : Nat → Nat → Int32} {g : Nat → Nat → Int64} {x1 x2 x3 x4 : Int32} {R : Option Value → mH → Prop} (hd : 2 ≤ d) (hX : XI f) (h1 : inr 0 39 x1) (H : ∀ v f' g', XI f' → fx 119 129 f f' → R (some (.int v)) (shF L, f', g')) : Run mtab d 8 [.ref 119, .int x1, .int x2, .int x3, .int x4] (shF L, f, g) R := by
  obtain ⟨d, rfl⟩ : ∃ e, d = e + 1 := ⟨d - 1, by omega⟩
  refine go_X0_add rfl ?_
  conv => whnf
  obtain ⟨n, hm, hb⟩ := inr_nat (n := 60) rfl (xi_119 hX 7)
  by_cases hq : n = 60
  · subst hq
    repeat' first
      | (simp only [hb])
      | ((with_reducible refine ⟨vp_in_nI (by omega) (by decide), ?_⟩) <;> conv => whnf)
      | (refine ⟨Or.inl rfl, ?_⟩ <;> conv => whnf)
      | (refine ⟨Or.inr rfl, ?_⟩ <;> conv => whnf)
      | (refine ⟨Or.inl True.intro, ?_⟩ <;> conv => whnf)
      | (refine ⟨Or.inr True.intro, ?_⟩ <;> conv => whnf)
      | (refine ⟨fun c => ?_, fun c => ?_⟩ <;> first | ((have c9 : (1 : Int32) = 0 := by with_reducible exact c); exact absurd c9 (by decide)) | exact absurd (rfl : (0 : Int32) = 0) (by with_reducible exact c) | exact absurd True.intro (by with_reducible exact c) | exact False.elim (by with_reducible exact c) | exact absurd (by decide) c | (conv => whnf))
      | (refine ⟨by unfold vp_in; decide, ?_⟩ <;> conv => whnf)
      | fail
    all_goals exact H _ _ _ (by repeat' first | (with_reducible assumption) | (with_reducible refine XI_ui ?_ ?_) | (with_reducible refine XI_fil ?_ (fun _ => ?_)) | (with_reducible refine XI_cpy ?_ (fun _ _ => ?_)) | exact True.intro | ((show inr _ _ _); first | (with_reducible assumption) | (unfold inr; decide)) | fail) (by repeat' first | (with_reducible exact fx_refl _ _ _) | (with_reducible assumption) | (with_reducible refine fx_ui ?_ ?_ ?_) | (with_reducible refine fx_fil ?_ ?_ ?_) | (with_reducible refine fx_cpy ?_ ?_ ?_) | omega | decide | fail)
  · have hlt : n < 60 := by omega
    repeat' first
      | (simp only [hb, m_ui_ap, m_fil_ap, m_cpy_ap, Nat.reduceEqDiff, Nat.reduceLT, Nat.reduceLeDiff, eq_self, ↓reduceIte, false_and, and_false, true_and, and_true, and_self])
      | ((with_reducible refine ⟨vp_in_nI (by omega) (by decide), ?_⟩) <;> conv => whnf)
      | (refine ⟨Or.inl rfl, ?_⟩ <;> conv => whnf)
      | (refine ⟨Or.inr rfl, ?_⟩ <;> conv => whnf)
      | (refine ⟨Or.inl True.intro, ?_⟩ <;> conv => whnf)
      | (refine ⟨Or.inr True.intro, ?_⟩ <;> conv => whnf)
      | (refine ⟨fun c => ?_, fun c => ?_⟩ <;> first | ((have c9 : (1 : Int32) = 0 := by with_reducible exact c); exact absurd c9 (by decide)) | exact absurd (rfl : (0 : Int32) = 0) (by with_reducible exact c) | exact absurd True.intro (by with_reducible exact c) | exact False.elim (by with_reducible exact c) | exact absurd ((nI_eq (b := 60) (by omega) (by decide)).mp c) hq | (conv => whnf))
      | (refine ⟨by unfold vp_in; decide, ?_⟩ <;> conv => whnf)
      | fail
    all_goals exact H _ _ _ (by repeat' first | (with_reducible assumption) | (with_reducible refine XI_ui ?_ ?_) | (with_reducible refine XI_fil ?_ (fun _ => ?_)) | (with_reducible refine XI_cpy ?_ (fun _ _ => ?_)) | exact True.intro | ((show inr _ _ _); first | (with_reducible assumption) | ((with_reducible refine inr_n1 (m := 60) ?_ ?_ ?_) <;> first | omega | rfl | decide) | ((with_reducible refine inr_n (m := 60) ?_ ?_ ?_) <;> first | omega | rfl | decide) | (unfold inr; decide)) | fail) (by repeat' first | (with_reducible exact fx_refl _ _ _) | (with_reducible assumption) | (with_reducible refine fx_ui ?_ ?_ ?_) | (with_reducible refine fx_fil ?_ ?_ ?_) | (with_reducible refine fx_cpy ?_ ?_ ?_) | omega | decide | fail)
set_option maxRecDepth 100000 in
set_option maxHeartbeats 4000000 in
theorem sx_Madd {d L : Nat} {f : Nat → Nat → Int32} {g : Nat → Nat → Int64} {x1 x2 x3 x4 x5 : Int32} {R : Option Value → mH → Prop} (hd : 2 ≤ d) (hX : XI f) (H : ∀ v f' g', XI f' → fx 139 149 f f' → R (some (.int v)) (shF L, f', g')) : Run mtab d 35 [.ref 139, .int x1, .int x2, .int x3, .int x4, .int x5] (shF L, f, g) R := by
  obtain ⟨d, rfl⟩ : ∃ e, d = e + 1 := ⟨d - 1, by omega⟩
  refine go_X4_add rfl ?_
  conv => whnf
  obtain ⟨n, hm, hb⟩ := inr_nat (n := 50) rfl (xi_139 hX 13)
  by_cases hq : n = 50
  · subst hq
    repeat' first
      | (simp only [hb])
      | ((with_reducible refine ⟨vp_in_nI (by omega) (by decide), ?_⟩) <;> conv => whnf)
      | (refine ⟨Or.inl rfl, ?_⟩ <;> conv => whnf)
      | (refine ⟨Or.inr rfl, ?_⟩ <;> conv => whnf)
      | (refine ⟨Or.inl True.intro, ?_⟩ <;> conv => whnf)
      | (refine ⟨Or.inr True.intro, ?_⟩ <;> conv => whnf)
      | (refine ⟨fun c => ?_, fun c => ?_⟩ <;> first | ((have c9 : (1 : Int32) = 0 := by with_reducible exact c); exact absurd c9 (by decide)) | exact absurd (rfl : (0 : Int32) = 0) (by with_reducible exact c) | exact absurd True.intro (by with_reducible exact c) | exact False.elim (by with_reducible exact c) | exact absurd (by decide) c | (conv => whnf))
      | (refine ⟨by unfold vp_in; decide, ?_⟩ <;> conv => whnf)
      | fail
    all_goals exact H _ _ _ (by repeat' first | (with_reducible assumption) | (with_reducible refine XI_ui ?_ ?_) | (with_reducible refine XI_fil ?_ (fun _ => ?_)) | (with_reducible refine XI_cpy ?_ (fun _ _ => ?_)) | exact True.intro | ((show inr _ _ _); first | (with_reducible assumption) | (unfold inr; decide)) | fail) (by repeat' first | (with_reducible exact fx_refl _ _ _) | (with_reducible assumption) | (with_reducible refine fx_ui ?_ ?_ ?_) | (with_reducible refine fx_fil ?_ ?_ ?_) | (with_reducible refine fx_cpy ?_ ?_ ?_) | omega | decide | fail)
  · have hlt : n < 50 := by omega
    repeat' first
      | (simp only [hb, m_ui_ap, m_fil_ap, m_cpy_ap, Nat.reduceEqDiff, Nat.reduceLT, Nat.reduceLeDiff, eq_self, ↓reduceIte, false_and, and_false, true_and, and_true, and_self])
      | ((with_reducible refine ⟨vp_in_nI (by omega) (by decide), ?_⟩) <;> conv => whnf)
      | (refine ⟨Or.inl rfl, ?_⟩ <;> conv => whnf)
      | (refine ⟨Or.inr rfl, ?_⟩ <;> conv => whnf)
      | (refine ⟨Or.inl True.intro, ?_⟩ <;> conv => whnf)
      | (refine ⟨Or.inr True.intro, ?_⟩ <;> conv => whnf)
      | (refine ⟨fun c => ?_, fun c => ?_⟩ <;> first | ((have c9 : (1 : Int32) = 0 := by with_reducible exact c); exact absurd c9 (by decide)) | exact absurd (rfl : (0 : Int32) = 0) (by with_reducible exact c) | exact absurd True.intro (by with_reducible exact c) | exact False.elim (by with_reducible exact c) | exact absurd ((nI_eq (b := 50) (by omega) (by decide)).mp c) hq | (conv => whnf))
      | (refine ⟨by unfold vp_in; decide, ?_⟩ <;> conv => whnf)
      | fail
    all_goals exact H _ _ _ (by repeat' first | (with_reducible assumption) | (with_reducible refine XI_ui ?_ ?_) | (with_reducible refine XI_fil ?_ (fun _ => ?_)) | (with_reducible refine XI_cpy ?_ (fun _ _ => ?_)) | exact True.intro | ((show inr _ _ _); first | (with_reducible assumption) | ((with_reducible refine inr_n1 (m := 50) ?_ ?_ ?_) <;> first | omega | rfl | decide) | ((with_reducible refine inr_n (m := 50) ?_ ?_ ?_) <;> first | omega | rfl | decide) | (unfold inr; decide)) | fail) (by repeat' first | (with_reducible exact fx_refl _ _ _) | (with_reducible assumption) | (with_reducible refine fx_ui ?_ ?_ ?_) | (with_reducible refine fx_fil ?_ ?_ ?_) | (with_reducible refine fx_cpy ?_ ?_ ?_) | omega | decide | fail)
set_option maxRecDepth 100000 in
set_option maxHeartbeats 4000000 in
theorem sx_whoMay_lp {d L n : Nat} {f : Nat → Nat → Int32} {g : Nat → Nat → Int64} {w y : Int32} {R : Option Value → mH → Prop} (hd : 1 ≤ d) (hX : XI f) (hb : f 100 6 = nI n) (hm : n ≤ 60) (H : ∀ v, R (some (.int v)) (shF L, f, g)) :
    ∀ (k i : Nat) (x : Int32) (a : Int32), i + k = n → x = nI i → WPe pg_X5_whoMay none (Run mtab d) R (m_drop pg_X5_whoMay 4) [some (.ref 100), some (.int w), some (.int y), some (.int a), some (.int x)] [] (shF L, f, g)
  | 0, i, x, a, hi, hx => by
    have e : i = n := by omega
    subst hx
    subst e
    refine at_X5_whoMay ?_
    conv => whnf
    simp only [hb]
    refine ⟨fun c => ?_, fun c => absurd (nI_le (Nat.le_refl _) (by omega)) c⟩
    conv => whnf
    repeat' first
      | (simp only [hb])
      | ((with_reducible refine ⟨vp_in_nI (by omega) (by decide), ?_⟩) <;> conv => whnf)
      | (refine ⟨Or.inl rfl, ?_⟩ <;> conv => whnf)
      | (refine ⟨Or.inr rfl, ?_⟩ <;> conv => whnf)
      | (refine ⟨Or.inl True.intro, ?_⟩ <;> conv => whnf)
      | (refine ⟨Or.inr True.intro, ?_⟩ <;> conv => whnf)
      | (refine ⟨fun c => ?_, fun c => ?_⟩ <;> first | ((have c9 : (1 : Int32) = 0 := by with_reducible exact c); exact absurd c9 (by decide)) | exact absurd (rfl : (0 : Int32) = 0) (by with_reducible exact c) | exact absurd True.intro (by with_reducible exact c) | exact False.elim (by with_reducible exact c) | (conv => whnf))
      | (refine ct_isWithin (by omega) (fun p => ?_) (fun p => ?_) <;> conv => whnf)
      | (refine ⟨by unfold vp_in; decide, ?_⟩ <;> conv => whnf)
      | fail
    all_goals exact H _
  | k + 1, i, x, a, hi, hx => by
    subst hx
    refine at_X5_whoMay ?_
    conv => whnf
    simp only [hb]
    refine ⟨fun c => absurd c (nI_ge (b := n) (by omega) (by omega)), fun c => ?_⟩
    conv => whnf
    repeat' first
      | exact sx_whoMay_lp hd hX hb hm H k (i + 1) _ _ (by omega) (nI_1 i)
      | (simp only [hb])
      | ((with_reducible refine ⟨vp_in_nI (by omega) (by decide), ?_⟩) <;> conv => whnf)
      | (refine ⟨Or.inl rfl, ?_⟩ <;> conv => whnf)
      | (refine ⟨Or.inr rfl, ?_⟩ <;> conv => whnf)
      | (refine ⟨Or.inl True.intro, ?_⟩ <;> conv => whnf)
      | (refine ⟨Or.inr True.intro, ?_⟩ <;> conv => whnf)
      | (refine ⟨fun c => ?_, fun c => ?_⟩ <;> first | ((have c9 : (1 : Int32) = 0 := by with_reducible exact c); exact absurd c9 (by decide)) | exact absurd (rfl : (0 : Int32) = 0) (by with_reducible exact c) | exact absurd True.intro (by with_reducible exact c) | exact False.elim (by with_reducible exact c) | (conv => whnf))
      | (refine ct_isWithin (by omega) (fun p => ?_) (fun p => ?_) <;> conv => whnf)
      | (refine ⟨by unfold vp_in; decide, ?_⟩ <;> conv => whnf)
      | fail
    all_goals exact H _
set_option maxRecDepth 100000 in
set_option maxHeartbeats 4000000 in
theorem sx_whoMay {d L : Nat} {f : Nat → Nat → Int32} {g : Nat → Nat → Int64} {w y : Int32} {R : Option Value → mH → Prop} (hd : 2 ≤ d) (hX : XI f) (H : ∀ v, R (some (.int v)) (shF L, f, g)) : Run mtab d 45 [.ref 100, .int w, .int y] (shF L, f, g) R := by
  obtain ⟨d, rfl⟩ : ∃ e, d = e + 1 := ⟨d - 1, by omega⟩
  refine go_X5_whoMay rfl ?_
  conv => whnf
  obtain ⟨n, hm, hb⟩ := inr_nat (n := 60) rfl (xi_100 hX 6)
  exact sx_whoMay_lp (by omega) hX hb hm H n 0 _ _ (by omega) rfl
set_option maxRecDepth 100000 in
set_option maxHeartbeats 4000000 in
theorem sx_theOwner_lp {d L n : Nat} {f : Nat → Nat → Int32} {g : Nat → Nat → Int64} {w y : Int32} {R : Option Value → mH → Prop} (hd : 1 ≤ d) (hX : XI f) (hb : f 100 6 = nI n) (hm : n ≤ 60) (H : ∀ v, R (some (.int v)) (shF L, f, g)) :
    ∀ (k i : Nat) (x : Int32) (a : Int32), i + k = n → x = nI i → WPe pg_X5_theOwner none (Run mtab d) R (m_drop pg_X5_theOwner 4) [some (.ref 100), some (.int w), some (.int y), some (.int a), some (.int x)] [] (shF L, f, g)
  | 0, i, x, a, hi, hx => by
    have e : i = n := by omega
    subst hx
    subst e
    refine at_X5_theOwner ?_
    conv => whnf
    simp only [hb]
    refine ⟨fun c => ?_, fun c => absurd (nI_le (Nat.le_refl _) (by omega)) c⟩
    conv => whnf
    repeat' first
      | (simp only [hb])
      | ((with_reducible refine ⟨vp_in_nI (by omega) (by decide), ?_⟩) <;> conv => whnf)
      | (refine ⟨Or.inl rfl, ?_⟩ <;> conv => whnf)
      | (refine ⟨Or.inr rfl, ?_⟩ <;> conv => whnf)
      | (refine ⟨Or.inl True.intro, ?_⟩ <;> conv => whnf)
      | (refine ⟨Or.inr True.intro, ?_⟩ <;> conv => whnf)
      | (refine ⟨fun c => ?_, fun c => ?_⟩ <;> first | ((have c9 : (1 : Int32) = 0 := by with_reducible exact c); exact absurd c9 (by decide)) | exact absurd (rfl : (0 : Int32) = 0) (by with_reducible exact c) | exact absurd True.intro (by with_reducible exact c) | exact False.elim (by with_reducible exact c) | (conv => whnf))
      | (refine ct_isWithin (by omega) (fun p => ?_) (fun p => ?_) <;> conv => whnf)
      | (refine ⟨by unfold vp_in; decide, ?_⟩ <;> conv => whnf)
      | fail
    all_goals exact H _
  | k + 1, i, x, a, hi, hx => by
    subst hx
    refine at_X5_theOwner ?_
    conv => whnf
    simp only [hb]
    refine ⟨fun c => absurd c (nI_ge (b := n) (by omega) (by omega)), fun c => ?_⟩
    conv => whnf
    repeat' first
      | exact sx_theOwner_lp hd hX hb hm H k (i + 1) _ _ (by omega) (nI_1 i)
      | (simp only [hb])
      | ((with_reducible refine ⟨vp_in_nI (by omega) (by decide), ?_⟩) <;> conv => whnf)
      | (refine ⟨Or.inl rfl, ?_⟩ <;> conv => whnf)
      | (refine ⟨Or.inr rfl, ?_⟩ <;> conv => whnf)
      | (refine ⟨Or.inl True.intro, ?_⟩ <;> conv => whnf)
      | (refine ⟨Or.inr True.intro, ?_⟩ <;> conv => whnf)
      | (refine ⟨fun c => ?_, fun c => ?_⟩ <;> first | ((have c9 : (1 : Int32) = 0 := by with_reducible exact c); exact absurd c9 (by decide)) | exact absurd (rfl : (0 : Int32) = 0) (by with_reducible exact c) | exact absurd True.intro (by with_reducible exact c) | exact False.elim (by with_reducible exact c) | (conv => whnf))
      | (refine ct_isWithin (by omega) (fun p => ?_) (fun p => ?_) <;> conv => whnf)
      | (refine ⟨by unfold vp_in; decide, ?_⟩ <;> conv => whnf)
      | fail
    all_goals exact H _
set_option maxRecDepth 100000 in
set_option maxHeartbeats 4000000 in
theorem sx_theOwner {d L : Nat} {f : Nat → Nat → Int32} {g : Nat → Nat → Int64} {w y : Int32} {R : Option Value → mH → Prop} (hd : 2 ≤ d) (hX : XI f) (H : ∀ v, R (some (.int v)) (shF L, f, g)) : Run mtab d 44 [.ref 100, .int w, .int y] (shF L, f, g) R := by
  obtain ⟨d, rfl⟩ : ∃ e, d = e + 1 := ⟨d - 1, by omega⟩
  refine go_X5_theOwner rfl ?_
  conv => whnf
  obtain ⟨n, hm, hb⟩ := inr_nat (n := 60) rfl (xi_100 hX 6)
  exact sx_theOwner_lp (by omega) hX hb hm H n 0 _ _ (by omega) rfl
set_option maxRecDepth 100000 in
set_option maxHeartbeats 4000000 in
theorem sx_kinOfAny_lp {d L : Nat} {f : Nat → Nat → Int32} {g : Nat → Nat → Int64} {w : Int32} {R : Option Value → mH → Prop} (hd : 1 ≤ d) (hX : XI f) (H : ∀ v, R (some (.int v)) (shF L, f, g)) :
    ∀ (k i : Nat) (x : Int32) (a : Int32), i + k = 8 → x = nI i → WPe pg_X0_kinOfAny none (Run mtab d) R (m_drop pg_X0_kinOfAny 4) [some (.ref 119), some (.int w), some (.int a), some (.int x)] [] (shF L, f, g)
  | 0, i, x, a, hi, hx => by
    have e : i = 8 := by omega
    subst hx
    subst e
    refine at_X0_kinOfAny ?_
    conv => whnf
    refine ⟨fun c => ?_, fun c => absurd (by decide) c⟩
    conv => whnf
    repeat' first
      | ((with_reducible refine ⟨vp_in_nI (by omega) (by decide), ?_⟩) <;> conv => whnf)
      | (refine ⟨Or.inl rfl, ?_⟩ <;> conv => whnf)
      | (refine ⟨Or.inr rfl, ?_⟩ <;> conv => whnf)
      | (refine ⟨Or.inl True.intro, ?_⟩ <;> conv => whnf)
      | (refine ⟨Or.inr True.intro, ?_⟩ <;> conv => whnf)
      | (refine ⟨fun c => ?_, fun c => ?_⟩ <;> first | ((have c9 : (1 : Int32) = 0 := by with_reducible exact c); exact absurd c9 (by decide)) | exact absurd (rfl : (0 : Int32) = 0) (by with_reducible exact c) | exact absurd True.intro (by with_reducible exact c) | exact False.elim (by with_reducible exact c) | (conv => whnf))
      | (refine ⟨by unfold vp_in; decide, ?_⟩ <;> conv => whnf)
      | fail
    all_goals exact H _
  | k + 1, i, x, a, hi, hx => by
    subst hx
    refine at_X0_kinOfAny ?_
    conv => whnf
    refine ⟨fun c => absurd c (nI_ge (b := 8) (by omega) (by omega)), fun c => ?_⟩
    conv => whnf
    repeat' first
      | exact sx_kinOfAny_lp hd hX H k (i + 1) _ _ (by omega) (nI_1 i)
      | ((with_reducible refine ⟨vp_in_nI (by omega) (by decide), ?_⟩) <;> conv => whnf)
      | (refine ⟨Or.inl rfl, ?_⟩ <;> conv => whnf)
      | (refine ⟨Or.inr rfl, ?_⟩ <;> conv => whnf)
      | (refine ⟨Or.inl True.intro, ?_⟩ <;> conv => whnf)
      | (refine ⟨Or.inr True.intro, ?_⟩ <;> conv => whnf)
      | (refine ⟨fun c => ?_, fun c => ?_⟩ <;> first | ((have c9 : (1 : Int32) = 0 := by with_reducible exact c); exact absurd c9 (by decide)) | exact absurd (rfl : (0 : Int32) = 0) (by with_reducible exact c) | exact absurd True.intro (by with_reducible exact c) | exact False.elim (by with_reducible exact c) | (conv => whnf))
      | (refine ⟨by unfold vp_in; decide, ?_⟩ <;> conv => whnf)
      | fail
    all_goals exact H _
set_option maxRecDepth 100000 in
set_option maxHeartbeats 4000000 in
theorem sx_kinOfAny {d L : Nat} {f : Nat → Nat → Int32} {g : Nat → Nat → Int64} {w : Int32} {R : Option Value → mH → Prop} (hd : 2 ≤ d) (hX : XI f) (H : ∀ v, R (some (.int v)) (shF L, f, g)) : Run mtab d 7 [.ref 119, .int w] (shF L, f, g) R := by
  obtain ⟨d, rfl⟩ : ∃ e, d = e + 1 := ⟨d - 1, by omega⟩
  refine go_X0_kinOfAny rfl ?_
  conv => whnf
  exact sx_kinOfAny_lp (by omega) hX H 8 0 _ _ (by omega) rfl
theorem vpi2 {x lo hi : Int32} {n : Nat} (h : inr lo hi x) (c : ¬ x < 0) (hn : hi.toInt < n) : vp_in x n := by
  have h2 := Int32.le_iff_toInt_le.mp h.2
  have e0 : (0 : Int32).toInt = 0 := rfl
  rw [Int32.lt_iff_toInt_lt] at c
  exact vp_in_iff.mpr ⟨by omega, by omega⟩
set_option maxRecDepth 100000 in
set_option maxHeartbeats 4000000 in
theorem sx_isLeaning_lp {d L : Nat} {f : Nat → Nat → Int32} {g : Nat → Nat → Int64} {w y : Int32} {R : Option Value → mH → Prop} (hd : 1 ≤ d) (hX : XI f) (H : ∀ v, (v = 0 ∨ v = 1) → R (some (.int v)) (shF L, f, g)) :
    ∀ (k i : Nat) (x : Int32) (u : Int32), i + k = 40 → x = nI i → inr (-4) 39 u → WPe pg_X8_isLeaning none (Run mtab d) R (m_drop pg_X8_isLeaning 7) [some (.ref 6), some (.int w), some (.int y), some (.int u), some (.int x)] [] (shF L, f, g)
  | 0, i, x, u, hi, hx, hu => by
    have e : i = 40 := by omega
    subst hx
    subst e
    refine at_X8_isLeaning ?_
    conv => whnf
    refine ⟨fun c => ?_, fun c => absurd (by decide) c⟩
    conv => whnf
    repeat' first
      | (refine ⟨vpi2 hu (by assumption) (by decide), ?_⟩ <;> conv => whnf)
      | ((with_reducible refine ⟨vp_in_nI (by omega) (by decide), ?_⟩) <;> conv => whnf)
      | (refine ⟨Or.inl rfl, ?_⟩ <;> conv => whnf)
      | (refine ⟨Or.inr rfl, ?_⟩ <;> conv => whnf)
      | (refine ⟨Or.inl True.intro, ?_⟩ <;> conv => whnf)
      | (refine ⟨Or.inr True.intro, ?_⟩ <;> conv => whnf)
      | (refine ⟨fun c => ?_, fun c => ?_⟩ <;> first | ((have c9 : (1 : Int32) = 0 := by with_reducible exact c); exact absurd c9 (by decide)) | exact absurd (rfl : (0 : Int32) = 0) (by with_reducible exact c) | exact absurd True.intro (by with_reducible exact c) | exact False.elim (by with_reducible exact c) | (conv => whnf))
      | (refine ⟨by unfold vp_in; decide, ?_⟩ <;> conv => whnf)
      | fail
    all_goals first | exact ⟨Or.inl rfl, H _ (Or.inl rfl)⟩ | exact ⟨Or.inr rfl, H _ (Or.inr rfl)⟩ | exact H _ (Or.inl rfl) | exact H _ (Or.inr rfl)
  | k + 1, i, x, u, hi, hx, hu => by
    subst hx
    refine at_X8_isLeaning ?_
    conv => whnf
    refine ⟨fun c => absurd c (nI_ge (b := 40) (by omega) (by omega)), fun c => ?_⟩
    conv => whnf
    repeat' first
      | exact sx_isLeaning_lp hd hX H k (i + 1) _ _ (by omega) (nI_1 i) (xi_8 hX _)
      | (refine ⟨vpi2 hu (by assumption) (by decide), ?_⟩ <;> conv => whnf)
      | ((with_reducible refine ⟨vp_in_nI (by omega) (by decide), ?_⟩) <;> conv => whnf)
      | (refine ⟨Or.inl rfl, ?_⟩ <;> conv => whnf)
      | (refine ⟨Or.inr rfl, ?_⟩ <;> conv => whnf)
      | (refine ⟨Or.inl True.intro, ?_⟩ <;> conv => whnf)
      | (refine ⟨Or.inr True.intro, ?_⟩ <;> conv => whnf)
      | (refine ⟨fun c => ?_, fun c => ?_⟩ <;> first | ((have c9 : (1 : Int32) = 0 := by with_reducible exact c); exact absurd c9 (by decide)) | exact absurd (rfl : (0 : Int32) = 0) (by with_reducible exact c) | exact absurd True.intro (by with_reducible exact c) | exact False.elim (by with_reducible exact c) | (conv => whnf))
      | (refine ⟨by unfold vp_in; decide, ?_⟩ <;> conv => whnf)
      | fail
    all_goals first | exact ⟨Or.inl rfl, H _ (Or.inl rfl)⟩ | exact ⟨Or.inr rfl, H _ (Or.inr rfl)⟩ | exact H _ (Or.inl rfl) | exact H _ (Or.inr rfl)
set_option maxRecDepth 100000 in
set_option maxHeartbeats 4000000 in
theorem sx_isLeaning {d L : Nat} {f : Nat → Nat → Int32} {g : Nat → Nat → Int64} {j : Nat} {y : Int32} {R : Option Value → mH → Prop} (hd : 2 ≤ d) (hX : XI f) (hj : j < 40) (H : ∀ v, (v = 0 ∨ v = 1) → R (some (.int v)) (shF L, f, g)) : Run mtab d 76 [.ref 6, .int (nI j), .int y] (shF L, f, g) R := by
  obtain ⟨d, rfl⟩ : ∃ e, d = e + 1 := ⟨d - 1, by omega⟩
  refine go_X8_isLeaning rfl ?_
  conv => whnf
  repeat' first
    | exact sx_isLeaning_lp (by omega) hX H 40 0 _ _ (by omega) rfl (xi_8 hX _)
    | ((with_reducible refine ⟨vp_in_nI (by omega) (by decide), ?_⟩) <;> conv => whnf)
    | (refine ⟨Or.inl rfl, ?_⟩ <;> conv => whnf)
    | (refine ⟨Or.inr rfl, ?_⟩ <;> conv => whnf)
    | (refine ⟨Or.inl True.intro, ?_⟩ <;> conv => whnf)
    | (refine ⟨Or.inr True.intro, ?_⟩ <;> conv => whnf)
    | (refine ⟨fun c => ?_, fun c => ?_⟩ <;> first | ((have c9 : (1 : Int32) = 0 := by with_reducible exact c); exact absurd c9 (by decide)) | exact absurd (rfl : (0 : Int32) = 0) (by with_reducible exact c) | exact absurd True.intro (by with_reducible exact c) | exact False.elim (by with_reducible exact c) | (conv => whnf))
    | (refine ⟨by unfold vp_in; decide, ?_⟩ <;> conv => whnf)
    | fail
set_option maxRecDepth 100000 in
set_option maxHeartbeats 4000000 in
theorem sx_firstGap_lp {d L : Nat} {f : Nat → Nat → Int32} {g : Nat → Nat → Int64} {w y : Int32} {R : Option Value → mH → Prop} (hd : 2 ≤ d) (hX : XI f) (H : ∀ v, R (some (.int v)) (shF L, f, g)) :
    ∀ (k i : Nat) (x : Int32), i + k = 2000 → x = nI i → WPe pg_X5_firstGap none (Run mtab d) R (m_drop pg_X5_firstGap 2) [some (.ref 100), some (.int w), some (.int y), some (.int x)] [] (shF L, f, g)
  | 0, i, x, hi, hx => by
    have e : i = 2000 := by omega
    subst hx
    subst e
    refine at_X5_firstGap ?_
    conv => whnf
    refine ⟨fun c => ?_, fun c => absurd (by decide) c⟩
    conv => whnf
    repeat' first
      | ((with_reducible refine ⟨vp_in_nI (by omega) (by decide), ?_⟩) <;> conv => whnf)
      | (refine ⟨Or.inl rfl, ?_⟩ <;> conv => whnf)
      | (refine ⟨Or.inr rfl, ?_⟩ <;> conv => whnf)
      | (refine ⟨Or.inl True.intro, ?_⟩ <;> conv => whnf)
      | (refine ⟨Or.inr True.intro, ?_⟩ <;> conv => whnf)
      | (refine ⟨fun c => ?_, fun c => ?_⟩ <;> first | ((have c9 : (1 : Int32) = 0 := by with_reducible exact c); exact absurd c9 (by decide)) | exact absurd (rfl : (0 : Int32) = 0) (by with_reducible exact c) | exact absurd True.intro (by with_reducible exact c) | exact False.elim (by with_reducible exact c) | (conv => whnf))
      | (refine sx_whoMay (by omega) hX (fun v => ?_) <;> conv => whnf)
      | (refine ⟨by unfold vp_in; decide, ?_⟩ <;> conv => whnf)
      | fail
    all_goals exact H _
  | k + 1, i, x, hi, hx => by
    subst hx
    refine at_X5_firstGap ?_
    conv => whnf
    refine ⟨fun c => absurd c (nI_nlt (a := 1999) (by omega) (by omega)), fun c => ?_⟩
    conv => whnf
    repeat' first
      | exact sx_firstGap_lp hd hX H k (i + 1) _  (by omega) (nI_1 i)
      | ((with_reducible refine ⟨vp_in_nI (by omega) (by decide), ?_⟩) <;> conv => whnf)
      | (refine ⟨Or.inl rfl, ?_⟩ <;> conv => whnf)
      | (refine ⟨Or.inr rfl, ?_⟩ <;> conv => whnf)
      | (refine ⟨Or.inl True.intro, ?_⟩ <;> conv => whnf)
      | (refine ⟨Or.inr True.intro, ?_⟩ <;> conv => whnf)
      | (refine ⟨fun c => ?_, fun c => ?_⟩ <;> first | ((have c9 : (1 : Int32) = 0 := by with_reducible exact c); exact absurd c9 (by decide)) | exact absurd (rfl : (0 : Int32) = 0) (by with_reducible exact c) | exact absurd True.intro (by with_reducible exact c) | exact False.elim (by with_reducible exact c) | (conv => whnf))
      | (refine sx_whoMay (by omega) hX (fun v => ?_) <;> conv => whnf)
      | (refine ⟨by unfold vp_in; decide, ?_⟩ <;> conv => whnf)
      | fail
    all_goals exact H _
set_option maxRecDepth 100000 in
set_option maxHeartbeats 4000000 in
theorem sx_firstGap {d L : Nat} {f : Nat → Nat → Int32} {g : Nat → Nat → Int64} {w y : Int32} {R : Option Value → mH → Prop} (hd : 3 ≤ d) (hX : XI f) (hy : inr 1800 1999 y) (H : ∀ v, R (some (.int v)) (shF L, f, g)) : Run mtab d 48 [.ref 100, .int w, .int y] (shF L, f, g) R := by
  obtain ⟨d, rfl⟩ : ∃ e, d = e + 1 := ⟨d - 1, by omega⟩
  refine go_X5_firstGap rfl ?_
  conv => whnf
  obtain ⟨j, hj, e⟩ := nI_of2 (n := 1999) rfl (i32_nlt.mpr (by have := Int32.le_iff_toInt_le.mp hy.1; rw [Int32.le_iff_toInt_le]; have e0 : (0 : Int32).toInt = 0 := rfl; have e1 : (1800 : Int32).toInt = 1800 := rfl; omega)) hy.2
  exact sx_firstGap_lp (by omega) hX H (2000 - j) j _ (by omega) e
theorem rq_max {d : Nat} {x y : Int32} {h : mH} {R : Option Value → mH → Prop} (hd : 1 ≤ d) (H : ∀ v, R (some (.int v)) h) : Run mtab d 3 [.int x, .int y] h R := rp_max hd (H _)
theorem rq_min {d : Nat} {x y : Int32} {h : mH} {R : Option Value → mH → Prop} (hd : 1 ≤ d) (H : ∀ v, R (some (.int v)) h) : Run mtab d 4 [.int x, .int y] h R := rp_min hd (H _)
set_option maxRecDepth 100000 in
set_option maxHeartbeats 4000000 in
theorem sx_areTwoAtOnce {d L : Nat} {f : Nat → Nat → Int32} {g : Nat → Nat → Int64} {i j : Nat} {R : Option Value → mH → Prop} (hd : 2 ≤ d) (hX : XI f) (hi : i < 60) (hj : j < 60) (H : ∀ v, (v = 0 ∨ v = 1) → R (some (.int v)) (shF L, f, g)) : Run mtab d 47 [.ref 100, .int (nI i), .int (nI j)] (shF L, f, g) R := by
  obtain ⟨d, rfl⟩ : ∃ e, d = e + 1 := ⟨d - 1, by omega⟩
  refine go_X5_areTwoAtOnce rfl ?_
  conv => whnf
  repeat' first
    | ((with_reducible refine ⟨vp_in_nI (by omega) (by decide), ?_⟩) <;> conv => whnf)
    | (refine ⟨Or.inl rfl, ?_⟩ <;> conv => whnf)
    | (refine ⟨Or.inr rfl, ?_⟩ <;> conv => whnf)
    | (refine ⟨Or.inl True.intro, ?_⟩ <;> conv => whnf)
    | (refine ⟨Or.inr True.intro, ?_⟩ <;> conv => whnf)
    | (refine ⟨fun c => ?_, fun c => ?_⟩ <;> first | ((have c9 : (1 : Int32) = 0 := by with_reducible exact c); exact absurd c9 (by decide)) | exact absurd (rfl : (0 : Int32) = 0) (by with_reducible exact c) | exact absurd True.intro (by with_reducible exact c) | exact False.elim (by with_reducible exact c) | (conv => whnf))
    | (refine rq_max (by omega) (fun v => ?_) <;> conv => whnf)
    | (refine rq_min (by omega) (fun v => ?_) <;> conv => whnf)
    | (refine ⟨by unfold vp_in; decide, ?_⟩ <;> conv => whnf)
    | fail
  all_goals first | exact ⟨Or.inl rfl, H _ (Or.inl rfl)⟩ | exact ⟨Or.inr rfl, H _ (Or.inr rfl)⟩ | exact H _ (Or.inl rfl) | exact H _ (Or.inr rfl)
set_option maxRecDepth 100000 in
set_option maxHeartbeats 4000000 in
theorem sx_ftwoI_lp {d L n : Nat} {f : Nat → Nat → Int32} {g : Nat → Nat → Int64} {p : Nat} {w : Int32} {R : Option Value → mH → Prop} (hd : 2 ≤ d) (hX : XI f) (hb : f 100 6 = nI n) (hm : n ≤ 60) (hp : p < 60) (HO : ∀ (x' : Int32) (s : Option Value), x' = nI (p + 1) → WPe pg_X5_firstTwoAtOnce none (Run mtab d) R (m_drop pg_X5_firstTwoAtOnce 2) [some (.ref 100), some (.int w), some (.int x'), s] [] (shF L, f, g)) (H : ∀ v, R (some (.int v)) (shF L, f, g)) :
    ∀ (k i : Nat) (x : Int32), i + k = n → x = nI i → WPe pg_X5_firstTwoAtOnce none (Run mtab d) R (m_drop pg_X5_firstTwoAtOnce 10) [some (.ref 100), some (.int w), some (.int (nI p)), some (.int x)] [] (shF L, f, g)
  | 0, i, x, hi, hx => by
    have e : i = n := by omega
    subst hx
    subst e
    refine at_X5_firstTwoAtOnce ?_
    conv => whnf
    simp only [hb]
    refine ⟨fun c => ?_, fun c => absurd (nI_le (Nat.le_refl _) (by omega)) c⟩
    conv => whnf
    repeat' first
      | exact HO _ _ (nI_1 p)
      | (simp only [hb])
      | ((with_reducible refine ⟨vp_in_nI (by omega) (by decide), ?_⟩) <;> conv => whnf)
      | (refine ⟨Or.inl rfl, ?_⟩ <;> conv => whnf)
      | (refine ⟨Or.inr rfl, ?_⟩ <;> conv => whnf)
      | (refine ⟨Or.inl True.intro, ?_⟩ <;> conv => whnf)
      | (refine ⟨Or.inr True.intro, ?_⟩ <;> conv => whnf)
      | (refine ⟨fun c => ?_, fun c => ?_⟩ <;> first | ((have c9 : (1 : Int32) = 0 := by with_reducible exact c); exact absurd c9 (by decide)) | exact absurd (rfl : (0 : Int32) = 0) (by with_reducible exact c) | exact absurd True.intro (by with_reducible exact c) | exact False.elim (by with_reducible exact c) | (conv => whnf))
      | (refine sx_areTwoAtOnce (by omega) hX (by omega) (by omega) (fun v hv => ?_) <;> conv => whnf)
      | (refine ⟨by unfold vp_in; decide, ?_⟩ <;> conv => whnf)
      | fail
    all_goals exact H _
  | k + 1, i, x, hi, hx => by
    subst hx
    refine at_X5_firstTwoAtOnce ?_
    conv => whnf
    simp only [hb]
    refine ⟨fun c => absurd c (nI_ge (b := n) (by omega) (by omega)), fun c => ?_⟩
    conv => whnf
    repeat' first
      | exact sx_ftwoI_lp hd hX hb hm hp HO H k (i + 1) _  (by omega) (nI_1 i)
      | (simp only [hb])
      | ((with_reducible refine ⟨vp_in_nI (by omega) (by decide), ?_⟩) <;> conv => whnf)
      | (refine ⟨Or.inl rfl, ?_⟩ <;> conv => whnf)
      | (refine ⟨Or.inr rfl, ?_⟩ <;> conv => whnf)
      | (refine ⟨Or.inl True.intro, ?_⟩ <;> conv => whnf)
      | (refine ⟨Or.inr True.intro, ?_⟩ <;> conv => whnf)
      | (refine ⟨fun c => ?_, fun c => ?_⟩ <;> first | ((have c9 : (1 : Int32) = 0 := by with_reducible exact c); exact absurd c9 (by decide)) | exact absurd (rfl : (0 : Int32) = 0) (by with_reducible exact c) | exact absurd True.intro (by with_reducible exact c) | exact False.elim (by with_reducible exact c) | (conv => whnf))
      | (refine sx_areTwoAtOnce (by omega) hX (by omega) (by omega) (fun v hv => ?_) <;> conv => whnf)
      | (refine ⟨by unfold vp_in; decide, ?_⟩ <;> conv => whnf)
      | fail
    all_goals exact H _
set_option maxRecDepth 100000 in
set_option maxHeartbeats 4000000 in
theorem sx_ftwo_lp {d L n : Nat} {f : Nat → Nat → Int32} {g : Nat → Nat → Int64} {w : Int32} {R : Option Value → mH → Prop} (hd : 2 ≤ d) (hX : XI f) (hb : f 100 6 = nI n) (hm : n ≤ 60) (H : ∀ v, R (some (.int v)) (shF L, f, g)) :
    ∀ (k i : Nat) (x : Int32) (s : Option Value), i + k = n → x = nI i → WPe pg_X5_firstTwoAtOnce none (Run mtab d) R (m_drop pg_X5_firstTwoAtOnce 2) [some (.ref 100), some (.int w), some (.int x), s] [] (shF L, f, g)
  | 0, i, x, s, hi, hx => by
    have e : i = n := by omega
    subst hx
    subst e
    refine at_X5_firstTwoAtOnce ?_
    conv => whnf
    simp only [hb]
    refine ⟨fun c => ?_, fun c => absurd (nI_le (Nat.le_refl _) (by omega)) c⟩
    conv => whnf
    repeat' first
      | (simp only [hb])
      | ((with_reducible refine ⟨vp_in_nI (by omega) (by decide), ?_⟩) <;> conv => whnf)
      | (refine ⟨Or.inl rfl, ?_⟩ <;> conv => whnf)
      | (refine ⟨Or.inr rfl, ?_⟩ <;> conv => whnf)
      | (refine ⟨Or.inl True.intro, ?_⟩ <;> conv => whnf)
      | (refine ⟨Or.inr True.intro, ?_⟩ <;> conv => whnf)
      | (refine ⟨fun c => ?_, fun c => ?_⟩ <;> first | ((have c9 : (1 : Int32) = 0 := by with_reducible exact c); exact absurd c9 (by decide)) | exact absurd (rfl : (0 : Int32) = 0) (by with_reducible exact c) | exact absurd True.intro (by with_reducible exact c) | exact False.elim (by with_reducible exact c) | (conv => whnf))
      | (refine ⟨by unfold vp_in; decide, ?_⟩ <;> conv => whnf)
      | fail
    all_goals exact H _
  | k + 1, i, x, s, hi, hx => by
    subst hx
    refine at_X5_firstTwoAtOnce ?_
    conv => whnf
    simp only [hb]
    refine ⟨fun c => absurd c (nI_ge (b := n) (by omega) (by omega)), fun c => ?_⟩
    conv => whnf
    repeat' first
      | exact sx_ftwo_lp hd hX hb hm H k (i + 1) _ _ (by omega) (nI_1 i)
      | (rw [nI_1]; exact sx_ftwoI_lp (p := i) hd hX hb hm (by omega) (fun x' s hx' => sx_ftwo_lp hd hX hb hm H k (i + 1) x' s (by omega) hx') H (n - (i + 1)) (i + 1) _ (by omega) rfl)
      | (simp only [hb])
      | ((with_reducible refine ⟨vp_in_nI (by omega) (by decide), ?_⟩) <;> conv => whnf)
      | (refine ⟨Or.inl rfl, ?_⟩ <;> conv => whnf)
      | (refine ⟨Or.inr rfl, ?_⟩ <;> conv => whnf)
      | (refine ⟨Or.inl True.intro, ?_⟩ <;> conv => whnf)
      | (refine ⟨Or.inr True.intro, ?_⟩ <;> conv => whnf)
      | (refine ⟨fun c => ?_, fun c => ?_⟩ <;> first | ((have c9 : (1 : Int32) = 0 := by with_reducible exact c); exact absurd c9 (by decide)) | exact absurd (rfl : (0 : Int32) = 0) (by with_reducible exact c) | exact absurd True.intro (by with_reducible exact c) | exact False.elim (by with_reducible exact c) | (conv => whnf))
      | (refine ⟨by unfold vp_in; decide, ?_⟩ <;> conv => whnf)
      | fail
    all_goals exact H _
set_option maxRecDepth 100000 in
set_option maxHeartbeats 4000000 in
theorem sx_firstTwo {d L : Nat} {f : Nat → Nat → Int32} {g : Nat → Nat → Int64} {w : Int32} {R : Option Value → mH → Prop} (hd : 3 ≤ d) (hX : XI f) (H : ∀ v, R (some (.int v)) (shF L, f, g)) : Run mtab d 46 [.ref 100, .int w] (shF L, f, g) R := by
  obtain ⟨d, rfl⟩ : ∃ e, d = e + 1 := ⟨d - 1, by omega⟩
  refine go_X5_firstTwoAtOnce rfl ?_
  conv => whnf
  obtain ⟨n, hm, hb⟩ := inr_nat (n := 60) rfl (xi_100 hX 6)
  exact sx_ftwo_lp (by omega) hX hb hm H n 0 _ _ (by omega) rfl
set_option maxRecDepth 100000 in
set_option maxHeartbeats 4000000 in
theorem sx_reckonV_lp {d L n : Nat} {f0 : Nat → Nat → Int32} {w : Int32} {R : Option Value → mH → Prop} (hd : 1 ≤ d) (hm : n ≤ 60) (H : ∀ f' g', XI f' → fx 127 129 f0 f' → R none (shF L, f', g'))  :
    ∀ (k i : Nat) (x : Int32) (s : Option Value) (f : Nat → Nat → Int32) (g : Nat → Nat → Int64), i + k = n → x = nI i → XI f → fx 127 129 f0 f → WPe pg_X0_reckon none (Run mtab d) R (m_drop pg_X0_reckon 10) [some (.ref 119), some (.int w), some (.int (nI n)), some (.int x), s] [] (shF L, f, g)
  | 0, i, x, s, f, g, he, hx, hX, hF => by
    have e : i = n := by omega
    subst hx
    subst e
    refine at_X0_reckon ?_
    conv => whnf
    try simp only [m_ui_ap, m_fil_ap, m_cpy_ap, Nat.reduceEqDiff, Nat.reduceLT, Nat.reduceLeDiff, eq_self, ↓reduceIte, false_and, and_false, true_and, and_true, and_self]
    refine ⟨fun c => ?_, fun c => absurd (nI_le (Nat.le_refl _) (by omega)) c⟩
    conv => whnf
    repeat' first
      | (simp only [m_ui_ap, m_fil_ap, m_cpy_ap, Nat.reduceEqDiff, Nat.reduceLT, Nat.reduceLeDiff, eq_self, ↓reduceIte, false_and, and_false, true_and, and_true, and_self])
      | ((with_reducible refine ⟨vp_in_nI (by omega) (by decide), ?_⟩) <;> conv => whnf)
      | (refine ⟨Or.inl rfl, ?_⟩ <;> conv => whnf)
      | (refine ⟨Or.inr rfl, ?_⟩ <;> conv => whnf)
      | (refine ⟨Or.inl True.intro, ?_⟩ <;> conv => whnf)
      | (refine ⟨Or.inr True.intro, ?_⟩ <;> conv => whnf)
      | (refine ⟨fun c => ?_, fun c => ?_⟩ <;> first | ((have c9 : (1 : Int32) = 0 := by with_reducible exact c); exact absurd c9 (by decide)) | exact absurd (rfl : (0 : Int32) = 0) (by with_reducible exact c) | exact absurd True.intro (by with_reducible exact c) | exact False.elim (by with_reducible exact c) | (conv => whnf))
      | (refine ⟨by unfold vp_in; decide, ?_⟩ <;> conv => whnf)
      | fail
    all_goals exact H _ _ hX hF
  | k + 1, i, x, s, f, g, he, hx, hX, hF => by
    subst hx
    refine at_X0_reckon ?_
    conv => whnf
    try simp only [m_ui_ap, m_fil_ap, m_cpy_ap, Nat.reduceEqDiff, Nat.reduceLT, Nat.reduceLeDiff, eq_self, ↓reduceIte, false_and, and_false, true_and, and_true, and_self]
    refine ⟨fun c => absurd c (nI_ge (b := n) (by omega) (by omega)), fun c => ?_⟩
    conv => whnf
    repeat' first
      | exact sx_reckonV_lp hd hm H k (i + 1) _ _ _ _ (by omega) (nI_1 i) (by repeat' first | (with_reducible assumption) | (with_reducible refine XI_ui ?_ ?_) | (with_reducible refine XI_fil ?_ (fun _ => ?_)) | (with_reducible refine XI_cpy ?_ (fun _ _ => ?_)) | exact True.intro | ((show inr _ _ _); first | (with_reducible assumption) | (unfold inr; decide)) | fail) (by repeat' first | (with_reducible exact fx_refl _ _ _) | (with_reducible assumption) | (with_reducible refine fx_ui ?_ ?_ ?_) | (with_reducible refine fx_fil ?_ ?_ ?_) | (with_reducible refine fx_cpy ?_ ?_ ?_) | omega | decide | fail)
      | ((with_reducible refine ⟨vx_121 hX _, ?_⟩) <;> conv => whnf)
      | (simp only [m_ui_ap, m_fil_ap, m_cpy_ap, Nat.reduceEqDiff, Nat.reduceLT, Nat.reduceLeDiff, eq_self, ↓reduceIte, false_and, and_false, true_and, and_true, and_self])
      | ((with_reducible refine ⟨vp_in_nI (by omega) (by decide), ?_⟩) <;> conv => whnf)
      | (refine ⟨Or.inl rfl, ?_⟩ <;> conv => whnf)
      | (refine ⟨Or.inr rfl, ?_⟩ <;> conv => whnf)
      | (refine ⟨Or.inl True.intro, ?_⟩ <;> conv => whnf)
      | (refine ⟨Or.inr True.intro, ?_⟩ <;> conv => whnf)
      | (refine ⟨fun c => ?_, fun c => ?_⟩ <;> first | ((have c9 : (1 : Int32) = 0 := by with_reducible exact c); exact absurd c9 (by decide)) | exact absurd (rfl : (0 : Int32) = 0) (by with_reducible exact c) | exact absurd True.intro (by with_reducible exact c) | exact False.elim (by with_reducible exact c) | (conv => whnf))
      | (refine ⟨by unfold vp_in; decide, ?_⟩ <;> conv => whnf)
      | fail
    all_goals exact H _ _ hX hF
set_option maxRecDepth 100000 in
set_option maxHeartbeats 4000000 in
theorem sx_reckonV {d L : Nat} {f : Nat → Nat → Int32} {g : Nat → Nat → Int64} {n : Nat} {w : Int32} {R : Option Value → mH → Prop} (hd : 3 ≤ d) (hX : XI f) (hm : n ≤ 60) (H : ∀ f' g', XI f' → fx 127 129 f f' → R none (shF L, f', g')) : Run mtab d 11 [.ref 119, .int w, .int (nI n)] (shF L, f, g) R := by
  obtain ⟨d, rfl⟩ : ∃ e, d = e + 1 := ⟨d - 1, by omega⟩
  refine go_X0_reckon rfl ?_
  conv => whnf
  refine ct_fill (n := 40) (by omega) rfl (by decide) ?_
  conv => whnf
  refine ct_fill (n := 40) (by omega) rfl (by decide) ?_
  conv => whnf
  exact sx_reckonV_lp (by omega) hm H n 0 _ _ _ _ (by omega) rfl (by repeat' first | (with_reducible assumption) | (with_reducible refine XI_ui ?_ ?_) | (with_reducible refine XI_fil ?_ (fun _ => ?_)) | (with_reducible refine XI_cpy ?_ (fun _ _ => ?_)) | exact True.intro | ((show inr _ _ _); first | (with_reducible assumption) | (unfold inr; decide)) | fail) (by repeat' first | (with_reducible exact fx_refl _ _ _) | (with_reducible assumption) | (with_reducible refine fx_ui ?_ ?_ ?_) | (with_reducible refine fx_fil ?_ ?_ ?_) | (with_reducible refine fx_cpy ?_ ?_ ?_) | omega | decide | fail)
set_option maxRecDepth 100000 in
set_option maxHeartbeats 4000000 in
theorem sx_reckonAll {d L : Nat} {f : Nat → Nat → Int32} {g : Nat → Nat → Int64}  {R : Option Value → mH → Prop} (hd : 4 ≤ d) (hX : XI f) (H : ∀ f' g', XI f' → fx 127 129 f f' → R none (shF L, f', g')) : Run mtab d 10 [.ref 119] (shF L, f, g) R := by
  obtain ⟨d, rfl⟩ : ∃ e, d = e + 1 := ⟨d - 1, by omega⟩
  refine go_X0_reckonAll rfl ?_
  conv => whnf
  obtain ⟨n, hm, hb⟩ := inr_nat (n := 60) rfl (xi_119 hX 7)
  repeat' first
    | (simp only [hb])
    | ((with_reducible refine ⟨vp_in_nI (by omega) (by decide), ?_⟩) <;> conv => whnf)
    | (refine ⟨Or.inl rfl, ?_⟩ <;> conv => whnf)
    | (refine ⟨Or.inr rfl, ?_⟩ <;> conv => whnf)
    | (refine ⟨Or.inl True.intro, ?_⟩ <;> conv => whnf)
    | (refine ⟨Or.inr True.intro, ?_⟩ <;> conv => whnf)
    | (refine ⟨fun c => ?_, fun c => ?_⟩ <;> first | ((have c9 : (1 : Int32) = 0 := by with_reducible exact c); exact absurd c9 (by decide)) | exact absurd (rfl : (0 : Int32) = 0) (by with_reducible exact c) | exact absurd True.intro (by with_reducible exact c) | exact False.elim (by with_reducible exact c) | (conv => whnf))
    | (refine sx_reckonV (by omega) hX hm (fun f1 g1 h1 k1 => ?_) <;> conv => whnf)
    | (refine ⟨by unfold vp_in; decide, ?_⟩ <;> conv => whnf)
    | fail
  all_goals exact H _ _ h1 k1
set_option maxRecDepth 100000 in
set_option maxHeartbeats 4000000 in
theorem sx_isStruck {d L : Nat} {f : Nat → Nat → Int32} {g : Nat → Nat → Int64} {w : Int32} {R : Option Value → mH → Prop} (hd : 1 ≤ d) (hX : XI f) (hw : vp_in w 40) (H : ∀ v, (v = 0 ∨ v = 1) → R (some (.int v)) (shF L, f, g)) : Run mtab d 80 [.ref 129, .int w] (shF L, f, g) R := by
  obtain ⟨d, rfl⟩ : ∃ e, d = e + 1 := ⟨d - 1, by omega⟩
  refine go_X9_isStruck rfl ?_
  conv => whnf
  repeat' first
    | ((with_reducible refine ⟨hw, ?_⟩) <;> conv => whnf)
    | ((with_reducible refine ⟨vp_in_nI (by omega) (by decide), ?_⟩) <;> conv => whnf)
    | (refine ⟨Or.inl rfl, ?_⟩ <;> conv => whnf)
    | (refine ⟨Or.inr rfl, ?_⟩ <;> conv => whnf)
    | (refine ⟨Or.inl True.intro, ?_⟩ <;> conv => whnf)
    | (refine ⟨Or.inr True.intro, ?_⟩ <;> conv => whnf)
    | (refine ⟨fun c => ?_, fun c => ?_⟩ <;> first | ((have c9 : (1 : Int32) = 0 := by with_reducible exact c); exact absurd c9 (by decide)) | exact absurd (rfl : (0 : Int32) = 0) (by with_reducible exact c) | exact absurd True.intro (by with_reducible exact c) | exact False.elim (by with_reducible exact c) | (conv => whnf))
    | (refine ⟨by unfold vp_in; decide, ?_⟩ <;> conv => whnf)
    | fail
  all_goals first | exact ⟨Or.inl rfl, H _ (Or.inl rfl)⟩ | exact ⟨Or.inr rfl, H _ (Or.inr rfl)⟩ | exact H _ (Or.inl rfl) | exact H _ (Or.inr rfl)
set_option maxRecDepth 100000 in
set_option maxHeartbeats 4000000 in
theorem sx_raiseI_lp {d L n : Nat} {f0 : Nat → Nat → Int32} {p : Nat} {R : Option Value → mH → Prop} (hd : 1 ≤ d) (hm : n ≤ 20) (h0 : f0 129 11 = nI n) (HO : ∀ (x' : Int32) (s2 s3 s4 s5 s6 : Option Value) (f' : Nat → Nat → Int32) (g' : Nat → Nat → Int64), x' = nI (p + 1) → XI f' → fx 134 135 f0 f' → WPe pg_X9_raiseLows none (Run mtab d) R (m_drop pg_X9_raiseLows 13) [some (.ref 129), some (.int x'), s2, s3, s4, s5, s6] [] (shF L, f', g')) (H : ∀ v f' g', (v = 0 ∨ v = 1) → XI f' → fx 134 135 f0 f' → R (some (.int v)) (shF L, f', g'))  :
    ∀ (k i : Nat) (x : Int32) (b : Int32) (s4 : Option Value) (s5 : Option Value) (s6 : Option Value) (f : Nat → Nat → Int32) (g : Nat → Nat → Int64), i + k = n → x = nI i → XI f → fx 134 135 f0 f → WPe pg_X9_raiseLows none (Run mtab d) R (m_drop pg_X9_raiseLows 21) [some (.ref 129), some (.int (nI p)), some (.int b), some (.int x), s4, s5, s6] [] (shF L, f, g)
  | 0, i, x, b, s4, s5, s6, f, g, he, hx, hX, hF => by
    have e : i = n := by omega
    subst hx
    have hc : f 129 11 = nI n := (hF 129 11 (by omega)).trans h0
    subst e
    refine at_X9_raiseLows ?_
    conv => whnf
    try simp only [hc, m_ui_ap, m_fil_ap, m_cpy_ap, Nat.reduceEqDiff, Nat.reduceLT, Nat.reduceLeDiff, eq_self, ↓reduceIte, false_and, and_false, true_and, and_true, and_self]
    refine ⟨fun c => ?_, fun c => absurd (nI_le (Nat.le_refl _) (by omega)) c⟩
    conv => whnf
    repeat' first
      | exact HO _ _ _ _ _ _ _ _ (nI_1 p) (by repeat' first | (with_reducible assumption) | (with_reducible refine XI_ui ?_ ?_) | (with_reducible refine XI_fil ?_ (fun _ => ?_)) | (with_reducible refine XI_cpy ?_ (fun _ _ => ?_)) | exact True.intro | ((show inr _ _ _); first | (with_reducible assumption) | (unfold inr; decide)) | fail) (by repeat' first | (with_reducible exact fx_refl _ _ _) | (with_reducible assumption) | (with_reducible refine fx_ui ?_ ?_ ?_) | (with_reducible refine fx_fil ?_ ?_ ?_) | (with_reducible refine fx_cpy ?_ ?_ ?_) | omega | decide | fail)
      | (simp only [hc, m_ui_ap, m_fil_ap, m_cpy_ap, Nat.reduceEqDiff, Nat.reduceLT, Nat.reduceLeDiff, eq_self, ↓reduceIte, false_and, and_false, true_and, and_true, and_self])
      | ((with_reducible refine ⟨vp_in_nI (by omega) (by decide), ?_⟩) <;> conv => whnf)
      | (refine ⟨Or.inl rfl, ?_⟩ <;> conv => whnf)
      | (refine ⟨Or.inr rfl, ?_⟩ <;> conv => whnf)
      | (refine ⟨Or.inl True.intro, ?_⟩ <;> conv => whnf)
      | (refine ⟨Or.inr True.intro, ?_⟩ <;> conv => whnf)
      | (refine ⟨fun c => ?_, fun c => ?_⟩ <;> first | ((have c9 : (1 : Int32) = 0 := by with_reducible exact c); exact absurd c9 (by decide)) | exact absurd (rfl : (0 : Int32) = 0) (by with_reducible exact c) | exact absurd True.intro (by with_reducible exact c) | exact False.elim (by with_reducible exact c) | (conv => whnf))
      | (refine ⟨by unfold vp_in; decide, ?_⟩ <;> conv => whnf)
      | fail
    all_goals first | exact H _ _ _ (Or.inl rfl) (by repeat' first | (with_reducible assumption) | (with_reducible refine XI_ui ?_ ?_) | (with_reducible refine XI_fil ?_ (fun _ => ?_)) | (with_reducible refine XI_cpy ?_ (fun _ _ => ?_)) | exact True.intro | ((show inr _ _ _); first | (with_reducible assumption) | (unfold inr; decide)) | fail) (by repeat' first | (with_reducible exact fx_refl _ _ _) | (with_reducible assumption) | (with_reducible refine fx_ui ?_ ?_ ?_) | (with_reducible refine fx_fil ?_ ?_ ?_) | (with_reducible refine fx_cpy ?_ ?_ ?_) | omega | decide | fail) | exact H _ _ _ (Or.inr rfl) (by repeat' first | (with_reducible assumption) | (with_reducible refine XI_ui ?_ ?_) | (with_reducible refine XI_fil ?_ (fun _ => ?_)) | (with_reducible refine XI_cpy ?_ (fun _ _ => ?_)) | exact True.intro | ((show inr _ _ _); first | (with_reducible assumption) | (unfold inr; decide)) | fail) (by repeat' first | (with_reducible exact fx_refl _ _ _) | (with_reducible assumption) | (with_reducible refine fx_ui ?_ ?_ ?_) | (with_reducible refine fx_fil ?_ ?_ ?_) | (with_reducible refine fx_cpy ?_ ?_ ?_) | omega | decide | fail)
  | k + 1, i, x, b, s4, s5, s6, f, g, he, hx, hX, hF => by
    subst hx
    have hc : f 129 11 = nI n := (hF 129 11 (by omega)).trans h0
    refine at_X9_raiseLows ?_
    conv => whnf
    try simp only [hc, m_ui_ap, m_fil_ap, m_cpy_ap, Nat.reduceEqDiff, Nat.reduceLT, Nat.reduceLeDiff, eq_self, ↓reduceIte, false_and, and_false, true_and, and_true, and_self]
    refine ⟨fun c => absurd c (nI_ge (b := n) (by omega) (by omega)), fun c => ?_⟩
    conv => whnf
    repeat' first
      | exact sx_raiseI_lp hd hm h0 HO H k (i + 1) _ _ _ _ _ _ _ (by omega) (nI_1 i) (by repeat' first | (with_reducible assumption) | (with_reducible refine XI_ui ?_ ?_) | (with_reducible refine XI_fil ?_ (fun _ => ?_)) | (with_reducible refine XI_cpy ?_ (fun _ _ => ?_)) | exact True.intro | ((show inr _ _ _); first | (with_reducible assumption) | (unfold inr; decide)) | fail) (by repeat' first | (with_reducible exact fx_refl _ _ _) | (with_reducible assumption) | (with_reducible refine fx_ui ?_ ?_ ?_) | (with_reducible refine fx_fil ?_ ?_ ?_) | (with_reducible refine fx_cpy ?_ ?_ ?_) | omega | decide | fail)
      | ((with_reducible refine ⟨vx_136 hX _, ?_⟩) <;> conv => whnf)
      | ((with_reducible refine ⟨vx_130 hX _, ?_⟩) <;> conv => whnf)
      | ((with_reducible refine ⟨vx_131 hX _, ?_⟩) <;> conv => whnf)
      | (simp only [hc, m_ui_ap, m_fil_ap, m_cpy_ap, Nat.reduceEqDiff, Nat.reduceLT, Nat.reduceLeDiff, eq_self, ↓reduceIte, false_and, and_false, true_and, and_true, and_self])
      | ((with_reducible refine ⟨vp_in_nI (by omega) (by decide), ?_⟩) <;> conv => whnf)
      | (refine ⟨Or.inl rfl, ?_⟩ <;> conv => whnf)
      | (refine ⟨Or.inr rfl, ?_⟩ <;> conv => whnf)
      | (refine ⟨Or.inl True.intro, ?_⟩ <;> conv => whnf)
      | (refine ⟨Or.inr True.intro, ?_⟩ <;> conv => whnf)
      | (refine ⟨fun c => ?_, fun c => ?_⟩ <;> first | ((have c9 : (1 : Int32) = 0 := by with_reducible exact c); exact absurd c9 (by decide)) | exact absurd (rfl : (0 : Int32) = 0) (by with_reducible exact c) | exact absurd True.intro (by with_reducible exact c) | exact False.elim (by with_reducible exact c) | (conv => whnf))
      | (refine ⟨by unfold vp_in; decide, ?_⟩ <;> conv => whnf)
      | fail
    all_goals first | exact H _ _ _ (Or.inl rfl) (by repeat' first | (with_reducible assumption) | (with_reducible refine XI_ui ?_ ?_) | (with_reducible refine XI_fil ?_ (fun _ => ?_)) | (with_reducible refine XI_cpy ?_ (fun _ _ => ?_)) | exact True.intro | ((show inr _ _ _); first | (with_reducible assumption) | (unfold inr; decide)) | fail) (by repeat' first | (with_reducible exact fx_refl _ _ _) | (with_reducible assumption) | (with_reducible refine fx_ui ?_ ?_ ?_) | (with_reducible refine fx_fil ?_ ?_ ?_) | (with_reducible refine fx_cpy ?_ ?_ ?_) | omega | decide | fail) | exact H _ _ _ (Or.inr rfl) (by repeat' first | (with_reducible assumption) | (with_reducible refine XI_ui ?_ ?_) | (with_reducible refine XI_fil ?_ (fun _ => ?_)) | (with_reducible refine XI_cpy ?_ (fun _ _ => ?_)) | exact True.intro | ((show inr _ _ _); first | (with_reducible assumption) | (unfold inr; decide)) | fail) (by repeat' first | (with_reducible exact fx_refl _ _ _) | (with_reducible assumption) | (with_reducible refine fx_ui ?_ ?_ ?_) | (with_reducible refine fx_fil ?_ ?_ ?_) | (with_reducible refine fx_cpy ?_ ?_ ?_) | omega | decide | fail)
set_option maxRecDepth 100000 in
set_option maxHeartbeats 4000000 in
theorem sx_raise_lp {d L n : Nat} {f0 : Nat → Nat → Int32}  {R : Option Value → mH → Prop} (hd : 1 ≤ d) (hm : n ≤ 20) (h0 : f0 129 11 = nI n) (H : ∀ v f' g', (v = 0 ∨ v = 1) → XI f' → fx 134 135 f0 f' → R (some (.int v)) (shF L, f', g'))  :
    ∀ (k i : Nat) (x : Int32) (s2 : Option Value) (s3 : Option Value) (s4 : Option Value) (s5 : Option Value) (s6 : Option Value) (f : Nat → Nat → Int32) (g : Nat → Nat → Int64), i + k = n + 1 → x = nI i → XI f → fx 134 135 f0 f → WPe pg_X9_raiseLows none (Run mtab d) R (m_drop pg_X9_raiseLows 13) [some (.ref 129), some (.int x), s2, s3, s4, s5, s6] [] (shF L, f, g)
  | 0, i, x, s2, s3, s4, s5, s6, f, g, he, hx, hX, hF => by
    have e : i = n + 1 := by omega
    subst hx
    have hc : f 129 11 = nI n := (hF 129 11 (by omega)).trans h0
    subst e
    refine at_X9_raiseLows ?_
    conv => whnf
    try simp only [hc]
    refine ⟨fun c => ?_, fun c => absurd (nI_lt (a := n) (b := n + 1) (by omega) (by omega)) c⟩
    conv => whnf
    repeat' first
      | (simp only [hc])
      | ((with_reducible refine ⟨vp_in_nI (by omega) (by decide), ?_⟩) <;> conv => whnf)
      | (refine ⟨Or.inl rfl, ?_⟩ <;> conv => whnf)
      | (refine ⟨Or.inr rfl, ?_⟩ <;> conv => whnf)
      | (refine ⟨Or.inl True.intro, ?_⟩ <;> conv => whnf)
      | (refine ⟨Or.inr True.intro, ?_⟩ <;> conv => whnf)
      | (refine ⟨fun c => ?_, fun c => ?_⟩ <;> first | ((have c9 : (1 : Int32) = 0 := by with_reducible exact c); exact absurd c9 (by decide)) | exact absurd (rfl : (0 : Int32) = 0) (by with_reducible exact c) | exact absurd True.intro (by with_reducible exact c) | exact False.elim (by with_reducible exact c) | (conv => whnf))
      | (refine ⟨by unfold vp_in; decide, ?_⟩ <;> conv => whnf)
      | fail
    all_goals first | exact H _ _ _ (Or.inl rfl) (by repeat' first | (with_reducible assumption) | (with_reducible refine XI_ui ?_ ?_) | (with_reducible refine XI_fil ?_ (fun _ => ?_)) | (with_reducible refine XI_cpy ?_ (fun _ _ => ?_)) | exact True.intro | ((show inr _ _ _); first | (with_reducible assumption) | (unfold inr; decide)) | fail) (by repeat' first | (with_reducible exact fx_refl _ _ _) | (with_reducible assumption) | (with_reducible refine fx_ui ?_ ?_ ?_) | (with_reducible refine fx_fil ?_ ?_ ?_) | (with_reducible refine fx_cpy ?_ ?_ ?_) | omega | decide | fail) | exact H _ _ _ (Or.inr rfl) (by repeat' first | (with_reducible assumption) | (with_reducible refine XI_ui ?_ ?_) | (with_reducible refine XI_fil ?_ (fun _ => ?_)) | (with_reducible refine XI_cpy ?_ (fun _ _ => ?_)) | exact True.intro | ((show inr _ _ _); first | (with_reducible assumption) | (unfold inr; decide)) | fail) (by repeat' first | (with_reducible exact fx_refl _ _ _) | (with_reducible assumption) | (with_reducible refine fx_ui ?_ ?_ ?_) | (with_reducible refine fx_fil ?_ ?_ ?_) | (with_reducible refine fx_cpy ?_ ?_ ?_) | omega | decide | fail)
  | k + 1, i, x, s2, s3, s4, s5, s6, f, g, he, hx, hX, hF => by
    subst hx
    have hc : f 129 11 = nI n := (hF 129 11 (by omega)).trans h0
    refine at_X9_raiseLows ?_
    conv => whnf
    try simp only [hc]
    refine ⟨fun c => absurd c (nI_nlt (a := n) (b := i) (by omega) (by omega)), fun c => ?_⟩
    conv => whnf
    repeat' first
      | exact sx_raise_lp hd hm h0 H k (i + 1) _ _ _ _ _ _ _ _ (by omega) (nI_1 i) (by repeat' first | (with_reducible assumption) | (with_reducible refine XI_ui ?_ ?_) | (with_reducible refine XI_fil ?_ (fun _ => ?_)) | (with_reducible refine XI_cpy ?_ (fun _ _ => ?_)) | exact True.intro | ((show inr _ _ _); first | (with_reducible assumption) | (unfold inr; decide)) | fail) (by repeat' first | (with_reducible exact fx_refl _ _ _) | (with_reducible assumption) | (with_reducible refine fx_ui ?_ ?_ ?_) | (with_reducible refine fx_fil ?_ ?_ ?_) | (with_reducible refine fx_cpy ?_ ?_ ?_) | omega | decide | fail)
      | exact sx_raiseI_lp (p := i) hd hm h0 (fun x' s2 s3 s4 s5 s6 f' g' hx' hX' hF' => sx_raise_lp hd hm h0 H k (i + 1) x' s2 s3 s4 s5 s6 f' g' (by omega) hx' hX' hF') H n 0 _ _ _ _ _ _ _ (by omega) rfl hX hF
      | (simp only [hc])
      | ((with_reducible refine ⟨vp_in_nI (by omega) (by decide), ?_⟩) <;> conv => whnf)
      | (refine ⟨Or.inl rfl, ?_⟩ <;> conv => whnf)
      | (refine ⟨Or.inr rfl, ?_⟩ <;> conv => whnf)
      | (refine ⟨Or.inl True.intro, ?_⟩ <;> conv => whnf)
      | (refine ⟨Or.inr True.intro, ?_⟩ <;> conv => whnf)
      | (refine ⟨fun c => ?_, fun c => ?_⟩ <;> first | ((have c9 : (1 : Int32) = 0 := by with_reducible exact c); exact absurd c9 (by decide)) | exact absurd (rfl : (0 : Int32) = 0) (by with_reducible exact c) | exact absurd True.intro (by with_reducible exact c) | exact False.elim (by with_reducible exact c) | (conv => whnf))
      | (refine ⟨by unfold vp_in; decide, ?_⟩ <;> conv => whnf)
      | fail
    all_goals first | exact H _ _ _ (Or.inl rfl) (by repeat' first | (with_reducible assumption) | (with_reducible refine XI_ui ?_ ?_) | (with_reducible refine XI_fil ?_ (fun _ => ?_)) | (with_reducible refine XI_cpy ?_ (fun _ _ => ?_)) | exact True.intro | ((show inr _ _ _); first | (with_reducible assumption) | (unfold inr; decide)) | fail) (by repeat' first | (with_reducible exact fx_refl _ _ _) | (with_reducible assumption) | (with_reducible refine fx_ui ?_ ?_ ?_) | (with_reducible refine fx_fil ?_ ?_ ?_) | (with_reducible refine fx_cpy ?_ ?_ ?_) | omega | decide | fail) | exact H _ _ _ (Or.inr rfl) (by repeat' first | (with_reducible assumption) | (with_reducible refine XI_ui ?_ ?_) | (with_reducible refine XI_fil ?_ (fun _ => ?_)) | (with_reducible refine XI_cpy ?_ (fun _ _ => ?_)) | exact True.intro | ((show inr _ _ _); first | (with_reducible assumption) | (unfold inr; decide)) | fail) (by repeat' first | (with_reducible exact fx_refl _ _ _) | (with_reducible assumption) | (with_reducible refine fx_ui ?_ ?_ ?_) | (with_reducible refine fx_fil ?_ ?_ ?_) | (with_reducible refine fx_cpy ?_ ?_ ?_) | omega | decide | fail)
set_option maxRecDepth 100000 in
set_option maxHeartbeats 4000000 in
theorem sx_raiseLows {d L : Nat} {f : Nat → Nat → Int32} {g : Nat → Nat → Int64}  {R : Option Value → mH → Prop} (hd : 2 ≤ d) (hX : XI f) (H : ∀ v f' g', (v = 0 ∨ v = 1) → XI f' → fx 134 135 f f' → R (some (.int v)) (shF L, f', g')) : Run mtab d 81 [.ref 129] (shF L, f, g) R := by
  obtain ⟨d, rfl⟩ : ∃ e, d = e + 1 := ⟨d - 1, by omega⟩
  refine go_X9_raiseLows rfl ?_
  conv => whnf
  obtain ⟨wn, hwm, hwb⟩ := inr_nat (n := 40) rfl (xi_6 hX 13)
  obtain ⟨n, hm, hc⟩ := inr_nat (n := 20) rfl (xi_129 hX 11)
  repeat' first
    | exact sx_raise_lp (by omega) hm hc H (n + 1) 0 _ _ _ _ _ _ _ _ (by omega) rfl (by repeat' first | (with_reducible assumption) | (with_reducible refine XI_ui ?_ ?_) | (with_reducible refine XI_fil ?_ (fun _ => ?_)) | (with_reducible refine XI_cpy ?_ (fun _ _ => ?_)) | exact True.intro | ((show inr _ _ _); first | (with_reducible assumption) | (unfold inr; decide)) | fail) (by repeat' first | (with_reducible exact fx_refl _ _ _) | (with_reducible assumption) | (with_reducible refine fx_ui ?_ ?_ ?_) | (with_reducible refine fx_fil ?_ ?_ ?_) | (with_reducible refine fx_cpy ?_ ?_ ?_) | omega | decide | fail)
    | (simp only [hwb])
    | ((with_reducible refine ⟨vp_in_nI (by omega) (by decide), ?_⟩) <;> conv => whnf)
    | (refine ⟨Or.inl rfl, ?_⟩ <;> conv => whnf)
    | (refine ⟨Or.inr rfl, ?_⟩ <;> conv => whnf)
    | (refine ⟨Or.inl True.intro, ?_⟩ <;> conv => whnf)
    | (refine ⟨Or.inr True.intro, ?_⟩ <;> conv => whnf)
    | (refine ⟨fun c => ?_, fun c => ?_⟩ <;> first | ((have c9 : (1 : Int32) = 0 := by with_reducible exact c); exact absurd c9 (by decide)) | exact absurd (rfl : (0 : Int32) = 0) (by with_reducible exact c) | exact absurd True.intro (by with_reducible exact c) | exact False.elim (by with_reducible exact c) | (conv => whnf))
    | ((refine rp_cpy (by omega) rfl rfl rfl ⟨by decide, by decide, nI_pos (by omega), ?_, ?_⟩ ?_) <;> first | (rw [nI_clamp (by omega)]; show 0 + wn ≤ 40; omega) | (conv => whnf))
    | (refine ⟨by unfold vp_in; decide, ?_⟩ <;> conv => whnf)
    | fail
set_option maxRecDepth 100000 in
set_option maxHeartbeats 4000000 in
theorem sx_lowerI_lp {d L n : Nat} {f0 : Nat → Nat → Int32} {p : Nat} {R : Option Value → mH → Prop} (hd : 1 ≤ d) (hm : n ≤ 20) (h0 : f0 129 11 = nI n) (HO : ∀ (x' : Int32) (s2 s3 s4 : Option Value) (f' : Nat → Nat → Int32) (g' : Nat → Nat → Int64), x' = nI (p + 1) → XI f' → fx 135 136 f0 f' → WPe pg_X9_lowerHighs none (Run mtab d) R (m_drop pg_X9_lowerHighs 2) [some (.ref 129), some (.int x'), s2, s3, s4] [] (shF L, f', g')) (H : ∀ f' g', XI f' → fx 135 136 f0 f' → R none (shF L, f', g'))  :
    ∀ (k i : Nat) (x : Int32) (s3 : Option Value) (s4 : Option Value) (f : Nat → Nat → Int32) (g : Nat → Nat → Int64), i + k = n → x = nI i → XI f → fx 135 136 f0 f → WPe pg_X9_lowerHighs none (Run mtab d) R (m_drop pg_X9_lowerHighs 8) [some (.ref 129), some (.int (nI p)), some (.int x), s3, s4] [] (shF L, f, g)
  | 0, i, x, s3, s4, f, g, he, hx, hX, hF => by
    have e : i = n := by omega
    subst hx
    have hc : f 129 11 = nI n := (hF 129 11 (by omega)).trans h0
    subst e
    refine at_X9_lowerHighs ?_
    conv => whnf
    try simp only [hc, m_ui_ap, m_fil_ap, m_cpy_ap, Nat.reduceEqDiff, Nat.reduceLT, Nat.reduceLeDiff, eq_self, ↓reduceIte, false_and, and_false, true_and, and_true, and_self]
    refine ⟨fun c => ?_, fun c => absurd (nI_le (Nat.le_refl _) (by omega)) c⟩
    conv => whnf
    repeat' first
      | exact HO _ _ _ _ _ _ (nI_1 p) (by repeat' first | (with_reducible assumption) | (with_reducible refine XI_ui ?_ ?_) | (with_reducible refine XI_fil ?_ (fun _ => ?_)) | (with_reducible refine XI_cpy ?_ (fun _ _ => ?_)) | exact True.intro | ((show inr _ _ _); first | (with_reducible assumption) | (unfold inr; decide)) | fail) (by repeat' first | (with_reducible exact fx_refl _ _ _) | (with_reducible assumption) | (with_reducible refine fx_ui ?_ ?_ ?_) | (with_reducible refine fx_fil ?_ ?_ ?_) | (with_reducible refine fx_cpy ?_ ?_ ?_) | omega | decide | fail)
      | (simp only [hc, m_ui_ap, m_fil_ap, m_cpy_ap, Nat.reduceEqDiff, Nat.reduceLT, Nat.reduceLeDiff, eq_self, ↓reduceIte, false_and, and_false, true_and, and_true, and_self])
      | ((with_reducible refine ⟨vp_in_nI (by omega) (by decide), ?_⟩) <;> conv => whnf)
      | (refine ⟨Or.inl rfl, ?_⟩ <;> conv => whnf)
      | (refine ⟨Or.inr rfl, ?_⟩ <;> conv => whnf)
      | (refine ⟨Or.inl True.intro, ?_⟩ <;> conv => whnf)
      | (refine ⟨Or.inr True.intro, ?_⟩ <;> conv => whnf)
      | (refine ⟨fun c => ?_, fun c => ?_⟩ <;> first | ((have c9 : (1 : Int32) = 0 := by with_reducible exact c); exact absurd c9 (by decide)) | exact absurd (rfl : (0 : Int32) = 0) (by with_reducible exact c) | exact absurd True.intro (by with_reducible exact c) | exact False.elim (by with_reducible exact c) | (conv => whnf))
      | (refine rq_min (by omega) (fun v => ?_) <;> conv => whnf)
      | (refine ⟨by unfold vp_in; decide, ?_⟩ <;> conv => whnf)
      | fail
    all_goals exact H _ _ (by repeat' first | (with_reducible assumption) | (with_reducible refine XI_ui ?_ ?_) | (with_reducible refine XI_fil ?_ (fun _ => ?_)) | (with_reducible refine XI_cpy ?_ (fun _ _ => ?_)) | exact True.intro | ((show inr _ _ _); first | (with_reducible assumption) | (unfold inr; decide)) | fail) (by repeat' first | (with_reducible exact fx_refl _ _ _) | (with_reducible assumption) | (with_reducible refine fx_ui ?_ ?_ ?_) | (with_reducible refine fx_fil ?_ ?_ ?_) | (with_reducible refine fx_cpy ?_ ?_ ?_) | omega | decide | fail)
  | k + 1, i, x, s3, s4, f, g, he, hx, hX, hF => by
    subst hx
    have hc : f 129 11 = nI n := (hF 129 11 (by omega)).trans h0
    refine at_X9_lowerHighs ?_
    conv => whnf
    try simp only [hc, m_ui_ap, m_fil_ap, m_cpy_ap, Nat.reduceEqDiff, Nat.reduceLT, Nat.reduceLeDiff, eq_self, ↓reduceIte, false_and, and_false, true_and, and_true, and_self]
    refine ⟨fun c => absurd c (nI_ge (b := n) (by omega) (by omega)), fun c => ?_⟩
    conv => whnf
    repeat' first
      | exact sx_lowerI_lp hd hm h0 HO H k (i + 1) _ _ _ _ _ (by omega) (nI_1 i) (by repeat' first | (with_reducible assumption) | (with_reducible refine XI_ui ?_ ?_) | (with_reducible refine XI_fil ?_ (fun _ => ?_)) | (with_reducible refine XI_cpy ?_ (fun _ _ => ?_)) | exact True.intro | ((show inr _ _ _); first | (with_reducible assumption) | (unfold inr; decide)) | fail) (by repeat' first | (with_reducible exact fx_refl _ _ _) | (with_reducible assumption) | (with_reducible refine fx_ui ?_ ?_ ?_) | (with_reducible refine fx_fil ?_ ?_ ?_) | (with_reducible refine fx_cpy ?_ ?_ ?_) | omega | decide | fail)
      | ((with_reducible refine ⟨vx_136 hX _, ?_⟩) <;> conv => whnf)
      | ((with_reducible refine ⟨vx_130 hX _, ?_⟩) <;> conv => whnf)
      | ((with_reducible refine ⟨vx_131 hX _, ?_⟩) <;> conv => whnf)
      | (simp only [hc, m_ui_ap, m_fil_ap, m_cpy_ap, Nat.reduceEqDiff, Nat.reduceLT, Nat.reduceLeDiff, eq_self, ↓reduceIte, false_and, and_false, true_and, and_true, and_self])
      | ((with_reducible refine ⟨vp_in_nI (by omega) (by decide), ?_⟩) <;> conv => whnf)
      | (refine ⟨Or.inl rfl, ?_⟩ <;> conv => whnf)
      | (refine ⟨Or.inr rfl, ?_⟩ <;> conv => whnf)
      | (refine ⟨Or.inl True.intro, ?_⟩ <;> conv => whnf)
      | (refine ⟨Or.inr True.intro, ?_⟩ <;> conv => whnf)
      | (refine ⟨fun c => ?_, fun c => ?_⟩ <;> first | ((have c9 : (1 : Int32) = 0 := by with_reducible exact c); exact absurd c9 (by decide)) | exact absurd (rfl : (0 : Int32) = 0) (by with_reducible exact c) | exact absurd True.intro (by with_reducible exact c) | exact False.elim (by with_reducible exact c) | (conv => whnf))
      | (refine rq_min (by omega) (fun v => ?_) <;> conv => whnf)
      | (refine ⟨by unfold vp_in; decide, ?_⟩ <;> conv => whnf)
      | fail
    all_goals exact H _ _ (by repeat' first | (with_reducible assumption) | (with_reducible refine XI_ui ?_ ?_) | (with_reducible refine XI_fil ?_ (fun _ => ?_)) | (with_reducible refine XI_cpy ?_ (fun _ _ => ?_)) | exact True.intro | ((show inr _ _ _); first | (with_reducible assumption) | (unfold inr; decide)) | fail) (by repeat' first | (with_reducible exact fx_refl _ _ _) | (with_reducible assumption) | (with_reducible refine fx_ui ?_ ?_ ?_) | (with_reducible refine fx_fil ?_ ?_ ?_) | (with_reducible refine fx_cpy ?_ ?_ ?_) | omega | decide | fail)
set_option maxRecDepth 100000 in
set_option maxHeartbeats 4000000 in
theorem sx_lower_lp {d L n : Nat} {f0 : Nat → Nat → Int32}  {R : Option Value → mH → Prop} (hd : 1 ≤ d) (hm : n ≤ 20) (h0 : f0 129 11 = nI n) (H : ∀ f' g', XI f' → fx 135 136 f0 f' → R none (shF L, f', g'))  :
    ∀ (k i : Nat) (x : Int32) (s2 : Option Value) (s3 : Option Value) (s4 : Option Value) (f : Nat → Nat → Int32) (g : Nat → Nat → Int64), i + k = n → x = nI i → XI f → fx 135 136 f0 f → WPe pg_X9_lowerHighs none (Run mtab d) R (m_drop pg_X9_lowerHighs 2) [some (.ref 129), some (.int x), s2, s3, s4] [] (shF L, f, g)
  | 0, i, x, s2, s3, s4, f, g, he, hx, hX, hF => by
    have e : i = n := by omega
    subst hx
    have hc : f 129 11 = nI n := (hF 129 11 (by omega)).trans h0
    subst e
    refine at_X9_lowerHighs ?_
    conv => whnf
    try simp only [hc]
    refine ⟨fun c => ?_, fun c => absurd (nI_le (Nat.le_refl _) (by omega)) c⟩
    conv => whnf
    repeat' first
      | (simp only [hc])
      | ((with_reducible refine ⟨vp_in_nI (by omega) (by decide), ?_⟩) <;> conv => whnf)
      | (refine ⟨Or.inl rfl, ?_⟩ <;> conv => whnf)
      | (refine ⟨Or.inr rfl, ?_⟩ <;> conv => whnf)
      | (refine ⟨Or.inl True.intro, ?_⟩ <;> conv => whnf)
      | (refine ⟨Or.inr True.intro, ?_⟩ <;> conv => whnf)
      | (refine ⟨fun c => ?_, fun c => ?_⟩ <;> first | ((have c9 : (1 : Int32) = 0 := by with_reducible exact c); exact absurd c9 (by decide)) | exact absurd (rfl : (0 : Int32) = 0) (by with_reducible exact c) | exact absurd True.intro (by with_reducible exact c) | exact False.elim (by with_reducible exact c) | (conv => whnf))
      | (refine ⟨by unfold vp_in; decide, ?_⟩ <;> conv => whnf)
      | fail
    all_goals exact H _ _ (by repeat' first | (with_reducible assumption) | (with_reducible refine XI_ui ?_ ?_) | (with_reducible refine XI_fil ?_ (fun _ => ?_)) | (with_reducible refine XI_cpy ?_ (fun _ _ => ?_)) | exact True.intro | ((show inr _ _ _); first | (with_reducible assumption) | (unfold inr; decide)) | fail) (by repeat' first | (with_reducible exact fx_refl _ _ _) | (with_reducible assumption) | (with_reducible refine fx_ui ?_ ?_ ?_) | (with_reducible refine fx_fil ?_ ?_ ?_) | (with_reducible refine fx_cpy ?_ ?_ ?_) | omega | decide | fail)
  | k + 1, i, x, s2, s3, s4, f, g, he, hx, hX, hF => by
    subst hx
    have hc : f 129 11 = nI n := (hF 129 11 (by omega)).trans h0
    refine at_X9_lowerHighs ?_
    conv => whnf
    try simp only [hc]
    refine ⟨fun c => absurd c (nI_ge (b := n) (by omega) (by omega)), fun c => ?_⟩
    conv => whnf
    repeat' first
      | exact sx_lower_lp hd hm h0 H k (i + 1) _ _ _ _ _ _ (by omega) (nI_1 i) (by repeat' first | (with_reducible assumption) | (with_reducible refine XI_ui ?_ ?_) | (with_reducible refine XI_fil ?_ (fun _ => ?_)) | (with_reducible refine XI_cpy ?_ (fun _ _ => ?_)) | exact True.intro | ((show inr _ _ _); first | (with_reducible assumption) | (unfold inr; decide)) | fail) (by repeat' first | (with_reducible exact fx_refl _ _ _) | (with_reducible assumption) | (with_reducible refine fx_ui ?_ ?_ ?_) | (with_reducible refine fx_fil ?_ ?_ ?_) | (with_reducible refine fx_cpy ?_ ?_ ?_) | omega | decide | fail)
      | exact sx_lowerI_lp (p := i) hd hm h0 (fun x' s2 s3 s4 f' g' hx' hX' hF' => sx_lower_lp hd hm h0 H k (i + 1) x' s2 s3 s4 f' g' (by omega) hx' hX' hF') H n 0 _ _ _ _ _ (by omega) rfl hX hF
      | (simp only [hc])
      | ((with_reducible refine ⟨vp_in_nI (by omega) (by decide), ?_⟩) <;> conv => whnf)
      | (refine ⟨Or.inl rfl, ?_⟩ <;> conv => whnf)
      | (refine ⟨Or.inr rfl, ?_⟩ <;> conv => whnf)
      | (refine ⟨Or.inl True.intro, ?_⟩ <;> conv => whnf)
      | (refine ⟨Or.inr True.intro, ?_⟩ <;> conv => whnf)
      | (refine ⟨fun c => ?_, fun c => ?_⟩ <;> first | ((have c9 : (1 : Int32) = 0 := by with_reducible exact c); exact absurd c9 (by decide)) | exact absurd (rfl : (0 : Int32) = 0) (by with_reducible exact c) | exact absurd True.intro (by with_reducible exact c) | exact False.elim (by with_reducible exact c) | (conv => whnf))
      | (refine ⟨by unfold vp_in; decide, ?_⟩ <;> conv => whnf)
      | fail
    all_goals exact H _ _ (by repeat' first | (with_reducible assumption) | (with_reducible refine XI_ui ?_ ?_) | (with_reducible refine XI_fil ?_ (fun _ => ?_)) | (with_reducible refine XI_cpy ?_ (fun _ _ => ?_)) | exact True.intro | ((show inr _ _ _); first | (with_reducible assumption) | (unfold inr; decide)) | fail) (by repeat' first | (with_reducible exact fx_refl _ _ _) | (with_reducible assumption) | (with_reducible refine fx_ui ?_ ?_ ?_) | (with_reducible refine fx_fil ?_ ?_ ?_) | (with_reducible refine fx_cpy ?_ ?_ ?_) | omega | decide | fail)
set_option maxRecDepth 100000 in
set_option maxHeartbeats 4000000 in
theorem sx_lowerHighs {d L : Nat} {f : Nat → Nat → Int32} {g : Nat → Nat → Int64}  {R : Option Value → mH → Prop} (hd : 2 ≤ d) (hX : XI f) (H : ∀ f' g', XI f' → fx 135 136 f f' → R none (shF L, f', g')) : Run mtab d 82 [.ref 129] (shF L, f, g) R := by
  obtain ⟨d, rfl⟩ : ∃ e, d = e + 1 := ⟨d - 1, by omega⟩
  refine go_X9_lowerHighs rfl ?_
  conv => whnf
  obtain ⟨n, hm, hc⟩ := inr_nat (n := 20) rfl (xi_129 hX 11)
  repeat' first
    | exact sx_lower_lp (by omega) hm hc H n 0 _ _ _ _ _ _ (by omega) rfl (by repeat' first | (with_reducible assumption) | (with_reducible refine XI_ui ?_ ?_) | (with_reducible refine XI_fil ?_ (fun _ => ?_)) | (with_reducible refine XI_cpy ?_ (fun _ _ => ?_)) | exact True.intro | ((show inr _ _ _); first | (with_reducible assumption) | (unfold inr; decide)) | fail) (by repeat' first | (with_reducible exact fx_refl _ _ _) | (with_reducible assumption) | (with_reducible refine fx_ui ?_ ?_ ?_) | (with_reducible refine fx_fil ?_ ?_ ?_) | (with_reducible refine fx_cpy ?_ ?_ ?_) | omega | decide | fail)
    | ((with_reducible refine ⟨vp_in_nI (by omega) (by decide), ?_⟩) <;> conv => whnf)
    | (refine ⟨Or.inl rfl, ?_⟩ <;> conv => whnf)
    | (refine ⟨Or.inr rfl, ?_⟩ <;> conv => whnf)
    | (refine ⟨Or.inl True.intro, ?_⟩ <;> conv => whnf)
    | (refine ⟨Or.inr True.intro, ?_⟩ <;> conv => whnf)
    | (refine ⟨fun c => ?_, fun c => ?_⟩ <;> first | ((have c9 : (1 : Int32) = 0 := by with_reducible exact c); exact absurd c9 (by decide)) | exact absurd (rfl : (0 : Int32) = 0) (by with_reducible exact c) | exact absurd True.intro (by with_reducible exact c) | exact False.elim (by with_reducible exact c) | (conv => whnf))
    | (refine ⟨by unfold vp_in; decide, ?_⟩ <;> conv => whnf)
    | fail
set_option maxRecDepth 100000 in
set_option maxHeartbeats 4000000 in
theorem sx_yr_lp {d L n : Nat} {f0 : Nat → Nat → Int32}  {R : Option Value → mH → Prop} (hd : 3 ≤ d) (hm : n ≤ 20) (H : ∀ f' g', XI f' → kp [0] f0 f' → R none (shF L, f', g'))  :
    ∀ (k i : Nat) (x : Int32) (f : Nat → Nat → Int32) (g : Nat → Nat → Int64), i + k = n → x = nI i → XI f → kp [0] f0 f → f 129 6 = nI n → (∃ q, q ≤ i ∧ f 129 11 = nI q) → WPe pg_X9_reckon none (Run mtab d) R (m_drop pg_X9_reckon 8) [some (.ref 129), some (.int x)] [] (shF L, f, g)
  | 0, i, x, f, g, he, hx, hX, hF, hcn, hq0 => by
    have e : i = n := by omega
    subst hx
    obtain ⟨q, hq1, hq⟩ := hq0
    obtain ⟨wn, hwm, hwb⟩ := inr_nat (n := 40) rfl (xi_6 hX 13)
    subst e
    refine at_X9_reckon ?_
    conv => whnf
    try simp only [hcn, hq, hwb, m_ui_ap, m_fil_ap, m_cpy_ap, Nat.reduceEqDiff, Nat.reduceLT, Nat.reduceLeDiff, eq_self, ↓reduceIte, false_and, and_false, true_and, and_true, and_self]
    refine ⟨fun c => ?_, fun c => absurd (nI_le (Nat.le_refl _) (by omega)) c⟩
    conv => whnf
    repeat' first
      | (simp only [hwb1])
      | (simp only [hcn, hq, hwb, m_ui_ap, m_fil_ap, m_cpy_ap, Nat.reduceEqDiff, Nat.reduceLT, Nat.reduceLeDiff, eq_self, ↓reduceIte, false_and, and_false, true_and, and_true, and_self])
      | ((with_reducible refine ⟨vp_in_nI (by omega) (by decide), ?_⟩) <;> conv => whnf)
      | (refine ⟨Or.inl rfl, ?_⟩ <;> conv => whnf)
      | (refine ⟨Or.inr rfl, ?_⟩ <;> conv => whnf)
      | (refine ⟨Or.inl True.intro, ?_⟩ <;> conv => whnf)
      | (refine ⟨Or.inr True.intro, ?_⟩ <;> conv => whnf)
      | (refine ⟨fun c => ?_, fun c => ?_⟩ <;> first | ((have c9 : (1 : Int32) = 0 := by with_reducible exact c); exact absurd c9 (by decide)) | exact absurd (rfl : (0 : Int32) = 0) (by with_reducible exact c) | exact absurd True.intro (by with_reducible exact c) | exact False.elim (by with_reducible exact c) | (conv => whnf))
      | ((refine rp_cpy (by omega) rfl rfl rfl ⟨by decide, by decide, nI_pos (by omega), ?_, ?_⟩ ?_) <;> first | (rw [nI_clamp (by omega)]; show 0 + wn ≤ 40; omega) | (conv => whnf))
      | (refine sx_raiseLows (by omega) (by repeat' first | (with_reducible assumption) | (with_reducible refine XI_ui ?_ ?_) | (with_reducible refine XI_fil ?_ (fun _ => ?_)) | (with_reducible refine XI_cpy ?_ (fun _ _ => ?_)) | exact True.intro | ((show inr _ _ _); first | (with_reducible assumption) | (unfold inr; decide)) | fail) (fun v f1 g1 hv h1 k1 => ?_) <;> (have hwb1 : f1 6 13 = nI wn := (k1 6 13 (by omega)).trans hwb) <;> conv => whnf)
      | (refine sx_lowerHighs (by omega) (by repeat' first | (with_reducible assumption) | (with_reducible refine XI_ui ?_ ?_) | (with_reducible refine XI_fil ?_ (fun _ => ?_)) | (with_reducible refine XI_cpy ?_ (fun _ _ => ?_)) | exact True.intro | ((show inr _ _ _); first | (with_reducible assumption) | (unfold inr; decide)) | fail) (fun f2 g2 h2 k2 => ?_) <;> conv => whnf)
      | (refine ⟨by unfold vp_in; decide, ?_⟩ <;> conv => whnf)
      | fail
    all_goals first | exact H _ _ (by repeat' first | (with_reducible assumption) | (with_reducible refine XI_ui ?_ ?_) | (with_reducible refine XI_fil ?_ (fun _ => ?_)) | (with_reducible refine XI_cpy ?_ (fun _ _ => ?_)) | exact True.intro | ((show inr _ _ _); first | (with_reducible assumption) | (unfold inr; decide)) | fail) (by repeat' first | (with_reducible exact kp_refl _ _) | (with_reducible assumption) | (with_reducible refine kp_ui ?_ ?_) | (with_reducible refine kp_fil ?_ ?_) | (with_reducible refine kp_cpy ?_ ?_) | (refine kp_trans ?_ (kp_wd k2 rfl)) | (refine kp_trans ?_ (kp_fx k2 rfl)) | (refine kp_trans ?_ (kp_wd k1 rfl)) | (refine kp_trans ?_ (kp_fx k1 rfl)) | rfl | fail) | exact H _ _ (by repeat' first | (with_reducible assumption) | (with_reducible refine XI_ui ?_ ?_) | (with_reducible refine XI_fil ?_ (fun _ => ?_)) | (with_reducible refine XI_cpy ?_ (fun _ _ => ?_)) | exact True.intro | ((show inr _ _ _); first | (with_reducible assumption) | (unfold inr; decide)) | fail) (by repeat' first | (with_reducible exact kp_refl _ _) | (with_reducible assumption) | (with_reducible refine kp_ui ?_ ?_) | (with_reducible refine kp_fil ?_ ?_) | (with_reducible refine kp_cpy ?_ ?_) | (refine kp_trans ?_ (kp_wd k1 rfl)) | (refine kp_trans ?_ (kp_fx k1 rfl)) | rfl | fail)
  | k + 1, i, x, f, g, he, hx, hX, hF, hcn, hq0 => by
    subst hx
    obtain ⟨q, hq1, hq⟩ := hq0
    obtain ⟨wn, hwm, hwb⟩ := inr_nat (n := 40) rfl (xi_6 hX 13)
    refine at_X9_reckon ?_
    conv => whnf
    try simp only [hcn, hq, hwb, m_ui_ap, m_fil_ap, m_cpy_ap, Nat.reduceEqDiff, Nat.reduceLT, Nat.reduceLeDiff, eq_self, ↓reduceIte, false_and, and_false, true_and, and_true, and_self]
    refine ⟨fun c => absurd c (nI_ge (b := n) (by omega) (by omega)), fun c => ?_⟩
    conv => whnf
    repeat' first
      | exact sx_yr_lp hd hm H k (i + 1) _  _ _ (by omega) (nI_1 i) (by repeat' first | (with_reducible assumption) | (with_reducible refine XI_ui ?_ ?_) | (with_reducible refine XI_fil ?_ (fun _ => ?_)) | (with_reducible refine XI_cpy ?_ (fun _ _ => ?_)) | exact True.intro | ((show inr _ _ _); first | (with_reducible assumption) | ((with_reducible refine inr_n1 (m := 19) ?_ ?_ ?_) <;> first | omega | rfl | decide) | ((with_reducible refine inr_n (m := 19) ?_ ?_ ?_) <;> first | omega | rfl | decide) | ((with_reducible refine inr_n1 (m := 20) ?_ ?_ ?_) <;> first | omega | rfl | decide) | ((with_reducible refine inr_n (m := 20) ?_ ?_ ?_) <;> first | omega | rfl | decide) | (unfold inr; decide)) | fail) (by repeat' first | (with_reducible exact kp_refl _ _) | (with_reducible assumption) | (with_reducible refine kp_ui ?_ ?_) | (with_reducible refine kp_fil ?_ ?_) | (with_reducible refine kp_cpy ?_ ?_) | rfl | fail) hcn (by first | exact ⟨q, by omega, hq⟩ | exact ⟨q + 1, by omega, nI_1 q⟩)
      | (simp only [hcn, hq, hwb, m_ui_ap, m_fil_ap, m_cpy_ap, Nat.reduceEqDiff, Nat.reduceLT, Nat.reduceLeDiff, eq_self, ↓reduceIte, false_and, and_false, true_and, and_true, and_self])
      | ((with_reducible refine ⟨vp_in_nI (by omega) (by decide), ?_⟩) <;> conv => whnf)
      | (refine ⟨Or.inl rfl, ?_⟩ <;> conv => whnf)
      | (refine ⟨Or.inr rfl, ?_⟩ <;> conv => whnf)
      | (refine ⟨Or.inl True.intro, ?_⟩ <;> conv => whnf)
      | (refine ⟨Or.inr True.intro, ?_⟩ <;> conv => whnf)
      | (refine ⟨fun c => ?_, fun c => ?_⟩ <;> first | ((have c9 : (1 : Int32) = 0 := by with_reducible exact c); exact absurd c9 (by decide)) | exact absurd (rfl : (0 : Int32) = 0) (by with_reducible exact c) | exact absurd True.intro (by with_reducible exact c) | exact False.elim (by with_reducible exact c) | (conv => whnf))
      | (refine sx_isStruck (by omega) hX (vx_130 hX _) (fun v hv => ?_) <;> conv => whnf)
      | (refine sx_isStruck (by omega) hX (vx_131 hX _) (fun v hv => ?_) <;> conv => whnf)
      | (refine ⟨by unfold vp_in; decide, ?_⟩ <;> conv => whnf)
      | fail
    all_goals first | exact H _ _ (by repeat' first | (with_reducible assumption) | (with_reducible refine XI_ui ?_ ?_) | (with_reducible refine XI_fil ?_ (fun _ => ?_)) | (with_reducible refine XI_cpy ?_ (fun _ _ => ?_)) | exact True.intro | ((show inr _ _ _); first | (with_reducible assumption) | (unfold inr; decide)) | fail) (by repeat' first | (with_reducible exact kp_refl _ _) | (with_reducible assumption) | (with_reducible refine kp_ui ?_ ?_) | (with_reducible refine kp_fil ?_ ?_) | (with_reducible refine kp_cpy ?_ ?_) | (refine kp_trans ?_ (kp_wd k2 rfl)) | (refine kp_trans ?_ (kp_fx k2 rfl)) | (refine kp_trans ?_ (kp_wd k1 rfl)) | (refine kp_trans ?_ (kp_fx k1 rfl)) | rfl | fail) | exact H _ _ (by repeat' first | (with_reducible assumption) | (with_reducible refine XI_ui ?_ ?_) | (with_reducible refine XI_fil ?_ (fun _ => ?_)) | (with_reducible refine XI_cpy ?_ (fun _ _ => ?_)) | exact True.intro | ((show inr _ _ _); first | (with_reducible assumption) | (unfold inr; decide)) | fail) (by repeat' first | (with_reducible exact kp_refl _ _) | (with_reducible assumption) | (with_reducible refine kp_ui ?_ ?_) | (with_reducible refine kp_fil ?_ ?_) | (with_reducible refine kp_cpy ?_ ?_) | (refine kp_trans ?_ (kp_wd k1 rfl)) | (refine kp_trans ?_ (kp_fx k1 rfl)) | rfl | fail)
set_option maxRecDepth 100000 in
set_option maxHeartbeats 4000000 in
theorem sx_reckon {d L : Nat} {f : Nat → Nat → Int32} {g : Nat → Nat → Int64}  {R : Option Value → mH → Prop} (hd : 5 ≤ d) (hX : XI f) (H : ∀ f' g', XI f' → kp [0] f f' → R none (shF L, f', g')) : Run mtab d 79 [.ref 129] (shF L, f, g) R := by
  obtain ⟨d, rfl⟩ : ∃ e, d = e + 1 := ⟨d - 1, by omega⟩
  refine go_X9_reckon rfl ?_
  conv => whnf
  obtain ⟨n, hm, hb⟩ := inr_nat (n := 20) rfl (xi_129 hX 6)
  refine sx_reckonAll (by omega) hX (fun f1 g1 h1 k1 => ?_)
  conv => whnf
  refine sx_yr_lp (f0 := f) (n := n) (by omega) hm H n 0 _ _ _ (by omega) rfl ?_ ?_ ((k1 129 6 (by omega)).trans hb) ⟨0, by omega, rfl⟩
  · exact XI_ui h1 (show inr _ _ _ by unfold inr; decide)
  · exact kp_ui rfl (kp_fx k1 rfl)
theorem nI_inr {j : Nat} (h : j < 40) : inr 0 39 (nI j) := inr_n (m := 39) (by omega) rfl (by decide)
set_option maxRecDepth 100000 in
set_option maxHeartbeats 4000000 in
theorem sx_isHoldingWell {d L : Nat} {f : Nat → Nat → Int32} {g : Nat → Nat → Int64} {x1 x2 x3 x4 x5 x6 : Int32} {R : Option Value → mH → Prop} (hd : 4 ≤ d) (hX : XI f) (H : ∀ v, (v = 0 ∨ v = 1) → R (some (.int v)) (shF L, f, g)) : Run mtab d 143 [.ref 5, .int x1, .int x2, .int x3, .int x4, .int x5, .int x6] (shF L, f, g) R := by
  obtain ⟨d, rfl⟩ : ∃ e, d = e + 1 := ⟨d - 1, by omega⟩
  refine go_X10_isHoldingWell rfl ?_
  conv => whnf
  obtain ⟨n, hm, hn⟩ := inr_nat (n := 40) rfl (xi_6 hX 13)
  repeat' first
    | ((with_reducible refine ⟨vp_in_nI (by omega) (by decide), ?_⟩) <;> conv => whnf)
    | (refine ⟨Or.inl rfl, ?_⟩ <;> conv => whnf)
    | (refine ⟨Or.inr rfl, ?_⟩ <;> conv => whnf)
    | (refine ⟨Or.inl True.intro, ?_⟩ <;> conv => whnf)
    | (refine ⟨Or.inr True.intro, ?_⟩ <;> conv => whnf)
    | (refine ⟨fun c => ?_, fun c => ?_⟩ <;> first | ((have c9 : (1 : Int32) = 0 := by with_reducible exact c); exact absurd c9 (by decide)) | exact absurd (rfl : (0 : Int32) = 0) (by with_reducible exact c) | exact absurd True.intro (by with_reducible exact c) | exact False.elim (by with_reducible exact c) | (conv => whnf))
    | (refine ct_has (by omega) hn hm (fun j hj e => ?_) (fun q => ?_) <;> (try subst e) <;> conv => whnf)
    | (refine ct_isWithin (by omega) (fun p => ?_) (fun p => ?_) <;> conv => whnf)
    | (refine ct_isYear (by omega) (fun p => ?_) (fun p => ?_) <;> conv => whnf)
    | (refine ct_isSide (by omega) (fun p => ?_) (fun p => ?_) <;> conv => whnf)
    | (refine ct_isTitle (by omega) (fun p => ?_) (fun p => ?_) <;> conv => whnf)
    | (refine ct_isBits8 (by omega) (fun p => ?_) (fun p => ?_) <;> conv => whnf)
    | (refine ct_isBits20 (by omega) (fun p => ?_) (fun p => ?_) <;> conv => whnf)
    | (refine ct_isBits30 (by omega) (fun p => ?_) (fun p => ?_) <;> conv => whnf)
    | (refine ct_isToldWell (by omega) (fun p => ?_) (fun p => ?_) <;> conv => whnf)
    | (refine ct_isSheet (by omega) (fun p => ?_) (fun p => ?_) <;> conv => whnf)
    | (refine ct_isLane (by omega) (fun p => ?_) (fun p => ?_) <;> conv => whnf)
    | (refine ⟨by unfold vp_in; decide, ?_⟩ <;> conv => whnf)
    | fail
  all_goals first | exact H _ (Or.inl rfl) | exact H _ (Or.inr rfl)
set_option maxRecDepth 100000 in
set_option maxHeartbeats 4000000 in
theorem sx_holding {d L : Nat} {f : Nat → Nat → Int32} {g : Nat → Nat → Int64} {x1 x2 x3 x4 x5 x6 : Int32} {R : Option Value → mH → Prop} (hd : 8 ≤ d) (hX : XI f) (H : ∀ v f' g', XI f' → kp [2] f f' → R (some (.int v)) (shF L, f', g')) : Run mtab d 98 [.ref 5, .int x1, .int x2, .int x3, .int x4, .int x5, .int x6] (shF L, f, g) R := by
  obtain ⟨d, rfl⟩ : ∃ e, d = e + 1 := ⟨d - 1, by omega⟩
  refine go_X10_holding rfl ?_
  conv => whnf
  obtain ⟨n, hm, hn⟩ := inr_nat (n := 40) rfl (xi_6 hX 13)
  repeat' first
    | ((with_reducible refine ⟨vp_in_nI (by omega) (by decide), ?_⟩) <;> conv => whnf)
    | (refine ⟨Or.inl rfl, ?_⟩ <;> conv => whnf)
    | (refine ⟨Or.inr rfl, ?_⟩ <;> conv => whnf)
    | (refine ⟨Or.inl True.intro, ?_⟩ <;> conv => whnf)
    | (refine ⟨Or.inr True.intro, ?_⟩ <;> conv => whnf)
    | (refine ⟨fun c => ?_, fun c => ?_⟩ <;> first | ((have c9 : (1 : Int32) = 0 := by with_reducible exact c); exact absurd c9 (by decide)) | exact absurd (rfl : (0 : Int32) = 0) (by with_reducible exact c) | exact absurd True.intro (by with_reducible exact c) | exact False.elim (by with_reducible exact c) | (conv => whnf))
    | (refine sx_isHoldingWell (by omega) hX (fun v hv => ?_) <;> conv => whnf)
    | (refine sx_Oadd (by omega) hX (fun v f1 g1 h1 k1 => ?_) <;> conv => whnf)
    | (refine ⟨by unfold vp_in; decide, ?_⟩ <;> conv => whnf)
    | fail
  all_goals exact H _ _ _ (by repeat' first | (with_reducible assumption) | (with_reducible refine XI_ui ?_ ?_) | (with_reducible refine XI_fil ?_ (fun _ => ?_)) | (with_reducible refine XI_cpy ?_ (fun _ _ => ?_)) | exact True.intro | ((show inr _ _ _); first | (with_reducible assumption) | (unfold inr; decide)) | fail) (by repeat' first | (with_reducible exact kp_refl _ _) | (with_reducible assumption) | (with_reducible refine kp_ui ?_ ?_) | (with_reducible refine kp_fil ?_ ?_) | (with_reducible refine kp_cpy ?_ ?_) | (refine kp_trans ?_ (kp_wd k1 rfl)) | (refine kp_trans ?_ (kp_fx k1 rfl)) | rfl | fail)
set_option maxRecDepth 100000 in
set_option maxHeartbeats 4000000 in
theorem sx_owner {d L : Nat} {f : Nat → Nat → Int32} {g : Nat → Nat → Int64} {x1 x2 : Int32} {R : Option Value → mH → Prop} (hd : 8 ≤ d) (hX : XI f) (H : ∀ v f' g', XI f' → kp [0] f f' → R (some (.int v)) (shF L, f', g')) : Run mtab d 100 [.ref 5, .int x1, .int x2] (shF L, f, g) R := by
  obtain ⟨d, rfl⟩ : ∃ e, d = e + 1 := ⟨d - 1, by omega⟩
  refine go_X10_owner rfl ?_
  conv => whnf
  obtain ⟨n, hm, hn⟩ := inr_nat (n := 40) rfl (xi_6 hX 13)
  repeat' first
    | ((with_reducible refine ⟨vp_in_nI (by omega) (by decide), ?_⟩) <;> conv => whnf)
    | (refine ⟨Or.inl rfl, ?_⟩ <;> conv => whnf)
    | (refine ⟨Or.inr rfl, ?_⟩ <;> conv => whnf)
    | (refine ⟨Or.inl True.intro, ?_⟩ <;> conv => whnf)
    | (refine ⟨Or.inr True.intro, ?_⟩ <;> conv => whnf)
    | (refine ⟨fun c => ?_, fun c => ?_⟩ <;> first | ((have c9 : (1 : Int32) = 0 := by with_reducible exact c); exact absurd c9 (by decide)) | exact absurd (rfl : (0 : Int32) = 0) (by with_reducible exact c) | exact absurd True.intro (by with_reducible exact c) | exact False.elim (by with_reducible exact c) | (conv => whnf))
    | (refine ct_has (by omega) hn hm (fun j hj e => ?_) (fun q => ?_) <;> (try subst e) <;> conv => whnf)
    | (refine ct_isWithin (by omega) (fun p => ?_) (fun p => ?_) <;> conv => whnf)
    | (refine ct_isYear (by omega) (fun p => ?_) (fun p => ?_) <;> conv => whnf)
    | (refine ct_isSide (by omega) (fun p => ?_) (fun p => ?_) <;> conv => whnf)
    | (refine ct_isTitle (by omega) (fun p => ?_) (fun p => ?_) <;> conv => whnf)
    | (refine ct_isBits8 (by omega) (fun p => ?_) (fun p => ?_) <;> conv => whnf)
    | (refine ct_isBits20 (by omega) (fun p => ?_) (fun p => ?_) <;> conv => whnf)
    | (refine ct_isBits30 (by omega) (fun p => ?_) (fun p => ?_) <;> conv => whnf)
    | (refine ct_isToldWell (by omega) (fun p => ?_) (fun p => ?_) <;> conv => whnf)
    | (refine ct_isSheet (by omega) (fun p => ?_) (fun p => ?_) <;> conv => whnf)
    | (refine ct_isLane (by omega) (fun p => ?_) (fun p => ?_) <;> conv => whnf)
    | (refine sx_theOwner (by omega) hX (fun v => ?_) <;> conv => whnf)
    | (refine ⟨by unfold vp_in; decide, ?_⟩ <;> conv => whnf)
    | fail
  all_goals exact H _ _ _ (by repeat' first | (with_reducible assumption) | (with_reducible refine XI_ui ?_ ?_) | (with_reducible refine XI_fil ?_ (fun _ => ?_)) | (with_reducible refine XI_cpy ?_ (fun _ _ => ?_)) | exact True.intro | ((show inr _ _ _); first | (with_reducible assumption) | (unfold inr; decide)) | fail) (by repeat' first | (with_reducible exact kp_refl _ _) | (with_reducible assumption) | (with_reducible refine kp_ui ?_ ?_) | (with_reducible refine kp_fil ?_ ?_) | (with_reducible refine kp_cpy ?_ ?_) | rfl | fail)
set_option maxRecDepth 100000 in
set_option maxHeartbeats 4000000 in
theorem sx_may {d L : Nat} {f : Nat → Nat → Int32} {g : Nat → Nat → Int64} {x1 x2 : Int32} {R : Option Value → mH → Prop} (hd : 8 ≤ d) (hX : XI f) (H : ∀ v f' g', XI f' → kp [0] f f' → R (some (.int v)) (shF L, f', g')) : Run mtab d 101 [.ref 5, .int x1, .int x2] (shF L, f, g) R := by
  obtain ⟨d, rfl⟩ : ∃ e, d = e + 1 := ⟨d - 1, by omega⟩
  refine go_X10_may rfl ?_
  conv => whnf
  obtain ⟨n, hm, hn⟩ := inr_nat (n := 40) rfl (xi_6 hX 13)
  repeat' first
    | ((with_reducible refine ⟨vp_in_nI (by omega) (by decide), ?_⟩) <;> conv => whnf)
    | (refine ⟨Or.inl rfl, ?_⟩ <;> conv => whnf)
    | (refine ⟨Or.inr rfl, ?_⟩ <;> conv => whnf)
    | (refine ⟨Or.inl True.intro, ?_⟩ <;> conv => whnf)
    | (refine ⟨Or.inr True.intro, ?_⟩ <;> conv => whnf)
    | (refine ⟨fun c => ?_, fun c => ?_⟩ <;> first | ((have c9 : (1 : Int32) = 0 := by with_reducible exact c); exact absurd c9 (by decide)) | exact absurd (rfl : (0 : Int32) = 0) (by with_reducible exact c) | exact absurd True.intro (by with_reducible exact c) | exact False.elim (by with_reducible exact c) | (conv => whnf))
    | (refine ct_has (by omega) hn hm (fun j hj e => ?_) (fun q => ?_) <;> (try subst e) <;> conv => whnf)
    | (refine ct_isWithin (by omega) (fun p => ?_) (fun p => ?_) <;> conv => whnf)
    | (refine ct_isYear (by omega) (fun p => ?_) (fun p => ?_) <;> conv => whnf)
    | (refine ct_isSide (by omega) (fun p => ?_) (fun p => ?_) <;> conv => whnf)
    | (refine ct_isTitle (by omega) (fun p => ?_) (fun p => ?_) <;> conv => whnf)
    | (refine ct_isBits8 (by omega) (fun p => ?_) (fun p => ?_) <;> conv => whnf)
    | (refine ct_isBits20 (by omega) (fun p => ?_) (fun p => ?_) <;> conv => whnf)
    | (refine ct_isBits30 (by omega) (fun p => ?_) (fun p => ?_) <;> conv => whnf)
    | (refine ct_isToldWell (by omega) (fun p => ?_) (fun p => ?_) <;> conv => whnf)
    | (refine ct_isSheet (by omega) (fun p => ?_) (fun p => ?_) <;> conv => whnf)
    | (refine ct_isLane (by omega) (fun p => ?_) (fun p => ?_) <;> conv => whnf)
    | (refine sx_whoMay (by omega) hX (fun v => ?_) <;> conv => whnf)
    | (refine ⟨by unfold vp_in; decide, ?_⟩ <;> conv => whnf)
    | fail
  all_goals exact H _ _ _ (by repeat' first | (with_reducible assumption) | (with_reducible refine XI_ui ?_ ?_) | (with_reducible refine XI_fil ?_ (fun _ => ?_)) | (with_reducible refine XI_cpy ?_ (fun _ _ => ?_)) | exact True.intro | ((show inr _ _ _); first | (with_reducible assumption) | (unfold inr; decide)) | fail) (by repeat' first | (with_reducible exact kp_refl _ _) | (with_reducible assumption) | (with_reducible refine kp_ui ?_ ?_) | (with_reducible refine kp_fil ?_ ?_) | (with_reducible refine kp_cpy ?_ ?_) | rfl | fail)
set_option maxRecDepth 100000 in
set_option maxHeartbeats 4000000 in
theorem sx_twice {d L : Nat} {f : Nat → Nat → Int32} {g : Nat → Nat → Int64} {x1 : Int32} {R : Option Value → mH → Prop} (hd : 8 ≤ d) (hX : XI f) (H : ∀ v f' g', XI f' → kp [0] f f' → R (some (.int v)) (shF L, f', g')) : Run mtab d 102 [.ref 5, .int x1] (shF L, f, g) R := by
  obtain ⟨d, rfl⟩ : ∃ e, d = e + 1 := ⟨d - 1, by omega⟩
  refine go_X10_twice rfl ?_
  conv => whnf
  obtain ⟨n, hm, hn⟩ := inr_nat (n := 40) rfl (xi_6 hX 13)
  repeat' first
    | ((with_reducible refine ⟨vp_in_nI (by omega) (by decide), ?_⟩) <;> conv => whnf)
    | (refine ⟨Or.inl rfl, ?_⟩ <;> conv => whnf)
    | (refine ⟨Or.inr rfl, ?_⟩ <;> conv => whnf)
    | (refine ⟨Or.inl True.intro, ?_⟩ <;> conv => whnf)
    | (refine ⟨Or.inr True.intro, ?_⟩ <;> conv => whnf)
    | (refine ⟨fun c => ?_, fun c => ?_⟩ <;> first | ((have c9 : (1 : Int32) = 0 := by with_reducible exact c); exact absurd c9 (by decide)) | exact absurd (rfl : (0 : Int32) = 0) (by with_reducible exact c) | exact absurd True.intro (by with_reducible exact c) | exact False.elim (by with_reducible exact c) | (conv => whnf))
    | (refine ct_has (by omega) hn hm (fun j hj e => ?_) (fun q => ?_) <;> (try subst e) <;> conv => whnf)
    | (refine sx_firstTwo (by omega) hX (fun v => ?_) <;> conv => whnf)
    | (refine ⟨by unfold vp_in; decide, ?_⟩ <;> conv => whnf)
    | fail
  all_goals exact H _ _ _ (by repeat' first | (with_reducible assumption) | (with_reducible refine XI_ui ?_ ?_) | (with_reducible refine XI_fil ?_ (fun _ => ?_)) | (with_reducible refine XI_cpy ?_ (fun _ _ => ?_)) | exact True.intro | ((show inr _ _ _); first | (with_reducible assumption) | (unfold inr; decide)) | fail) (by repeat' first | (with_reducible exact kp_refl _ _) | (with_reducible assumption) | (with_reducible refine kp_ui ?_ ?_) | (with_reducible refine kp_fil ?_ ?_) | (with_reducible refine kp_cpy ?_ ?_) | rfl | fail)
set_option maxRecDepth 100000 in
set_option maxHeartbeats 4000000 in
theorem sx_gap {d L : Nat} {f : Nat → Nat → Int32} {g : Nat → Nat → Int64} {x1 x2 : Int32} {R : Option Value → mH → Prop} (hd : 8 ≤ d) (hX : XI f) (H : ∀ v f' g', XI f' → kp [0] f f' → R (some (.int v)) (shF L, f', g')) : Run mtab d 103 [.ref 5, .int x1, .int x2] (shF L, f, g) R := by
  obtain ⟨d, rfl⟩ : ∃ e, d = e + 1 := ⟨d - 1, by omega⟩
  refine go_X10_gap rfl ?_
  conv => whnf
  obtain ⟨n, hm, hn⟩ := inr_nat (n := 40) rfl (xi_6 hX 13)
  repeat' first
    | ((with_reducible refine ⟨vp_in_nI (by omega) (by decide), ?_⟩) <;> conv => whnf)
    | (refine ⟨Or.inl rfl, ?_⟩ <;> conv => whnf)
    | (refine ⟨Or.inr rfl, ?_⟩ <;> conv => whnf)
    | (refine ⟨Or.inl True.intro, ?_⟩ <;> conv => whnf)
    | (refine ⟨Or.inr True.intro, ?_⟩ <;> conv => whnf)
    | (refine ⟨fun c => ?_, fun c => ?_⟩ <;> first | ((have c9 : (1 : Int32) = 0 := by with_reducible exact c); exact absurd c9 (by decide)) | exact absurd (rfl : (0 : Int32) = 0) (by with_reducible exact c) | exact absurd True.intro (by with_reducible exact c) | exact False.elim (by with_reducible exact c) | (conv => whnf))
    | (refine ct_has (by omega) hn hm (fun j hj e => ?_) (fun q => ?_) <;> (try subst e) <;> conv => whnf)
    | (refine ct_isWithin (by omega) (fun p => ?_) (fun p => ?_) <;> conv => whnf)
    | (refine ct_isYear (by omega) (fun p => ?_) (fun p => ?_) <;> conv => whnf)
    | (refine ct_isSide (by omega) (fun p => ?_) (fun p => ?_) <;> conv => whnf)
    | (refine ct_isTitle (by omega) (fun p => ?_) (fun p => ?_) <;> conv => whnf)
    | (refine ct_isBits8 (by omega) (fun p => ?_) (fun p => ?_) <;> conv => whnf)
    | (refine ct_isBits20 (by omega) (fun p => ?_) (fun p => ?_) <;> conv => whnf)
    | (refine ct_isBits30 (by omega) (fun p => ?_) (fun p => ?_) <;> conv => whnf)
    | (refine ct_isToldWell (by omega) (fun p => ?_) (fun p => ?_) <;> conv => whnf)
    | (refine ct_isSheet (by omega) (fun p => ?_) (fun p => ?_) <;> conv => whnf)
    | (refine ct_isLane (by omega) (fun p => ?_) (fun p => ?_) <;> conv => whnf)
    | (refine sx_firstGap (by omega) hX ‹inr 1800 1999 _› (fun v => ?_) <;> conv => whnf)
    | (refine ⟨by unfold vp_in; decide, ?_⟩ <;> conv => whnf)
    | fail
  all_goals exact H _ _ _ (by repeat' first | (with_reducible assumption) | (with_reducible refine XI_ui ?_ ?_) | (with_reducible refine XI_fil ?_ (fun _ => ?_)) | (with_reducible refine XI_cpy ?_ (fun _ _ => ?_)) | exact True.intro | ((show inr _ _ _); first | (with_reducible assumption) | (unfold inr; decide)) | fail) (by repeat' first | (with_reducible exact kp_refl _ _) | (with_reducible assumption) | (with_reducible refine kp_ui ?_ ?_) | (with_reducible refine kp_fil ?_ ?_) | (with_reducible refine kp_cpy ?_ ?_) | rfl | fail)
set_option maxRecDepth 100000 in
set_option maxHeartbeats 4000000 in
theorem sx_clue {d L : Nat} {f : Nat → Nat → Int32} {g : Nat → Nat → Int64} {x1 x2 x3 : Int32} {R : Option Value → mH → Prop} (hd : 8 ≤ d) (hX : XI f) (H : ∀ v f' g', XI f' → kp [5] f f' → R (some (.int v)) (shF L, f', g')) : Run mtab d 112 [.ref 5, .int x1, .int x2, .int x3] (shF L, f, g) R := by
  obtain ⟨d, rfl⟩ : ∃ e, d = e + 1 := ⟨d - 1, by omega⟩
  refine go_X10_clue rfl ?_
  conv => whnf
  obtain ⟨n, hm, hn⟩ := inr_nat (n := 40) rfl (xi_6 hX 13)
  repeat' first
    | ((with_reducible refine ⟨vp_in_nI (by omega) (by decide), ?_⟩) <;> conv => whnf)
    | (refine ⟨Or.inl rfl, ?_⟩ <;> conv => whnf)
    | (refine ⟨Or.inr rfl, ?_⟩ <;> conv => whnf)
    | (refine ⟨Or.inl True.intro, ?_⟩ <;> conv => whnf)
    | (refine ⟨Or.inr True.intro, ?_⟩ <;> conv => whnf)
    | (refine ⟨fun c => ?_, fun c => ?_⟩ <;> first | ((have c9 : (1 : Int32) = 0 := by with_reducible exact c); exact absurd c9 (by decide)) | exact absurd (rfl : (0 : Int32) = 0) (by with_reducible exact c) | exact absurd True.intro (by with_reducible exact c) | exact False.elim (by with_reducible exact c) | (conv => whnf))
    | (refine ct_has (by omega) hn hm (fun j hj e => ?_) (fun q => ?_) <;> (try subst e) <;> conv => whnf)
    | (refine ct_isWithin (by omega) (fun p => ?_) (fun p => ?_) <;> conv => whnf)
    | (refine ct_isYear (by omega) (fun p => ?_) (fun p => ?_) <;> conv => whnf)
    | (refine ct_isSide (by omega) (fun p => ?_) (fun p => ?_) <;> conv => whnf)
    | (refine ct_isTitle (by omega) (fun p => ?_) (fun p => ?_) <;> conv => whnf)
    | (refine ct_isBits8 (by omega) (fun p => ?_) (fun p => ?_) <;> conv => whnf)
    | (refine ct_isBits20 (by omega) (fun p => ?_) (fun p => ?_) <;> conv => whnf)
    | (refine ct_isBits30 (by omega) (fun p => ?_) (fun p => ?_) <;> conv => whnf)
    | (refine ct_isToldWell (by omega) (fun p => ?_) (fun p => ?_) <;> conv => whnf)
    | (refine ct_isSheet (by omega) (fun p => ?_) (fun p => ?_) <;> conv => whnf)
    | (refine ct_isLane (by omega) (fun p => ?_) (fun p => ?_) <;> conv => whnf)
    | (refine sx_Yadd (by omega) hX (nI_inr (by omega)) (nI_inr (by omega)) (fun v f1 g1 h1 k1 => ?_) <;> conv => whnf)
    | (refine ⟨by unfold vp_in; decide, ?_⟩ <;> conv => whnf)
    | fail
  all_goals exact H _ _ _ (by repeat' first | (with_reducible assumption) | (with_reducible refine XI_ui ?_ ?_) | (with_reducible refine XI_fil ?_ (fun _ => ?_)) | (with_reducible refine XI_cpy ?_ (fun _ _ => ?_)) | exact True.intro | ((show inr _ _ _); first | (with_reducible assumption) | (unfold inr; decide)) | fail) (by repeat' first | (with_reducible exact kp_refl _ _) | (with_reducible assumption) | (with_reducible refine kp_ui ?_ ?_) | (with_reducible refine kp_fil ?_ ?_) | (with_reducible refine kp_cpy ?_ ?_) | (refine kp_trans ?_ (kp_wd k1 rfl)) | (refine kp_trans ?_ (kp_fx k1 rfl)) | rfl | fail)
set_option maxRecDepth 100000 in
set_option maxHeartbeats 4000000 in
theorem sx_quarrel {d L : Nat} {f : Nat → Nat → Int32} {g : Nat → Nat → Int64}  {R : Option Value → mH → Prop} (hd : 8 ≤ d) (hX : XI f) (H : ∀ v f' g', XI f' → kp [0] f f' → R (some (.int v)) (shF L, f', g')) : Run mtab d 115 [.ref 5] (shF L, f, g) R := by
  obtain ⟨d, rfl⟩ : ∃ e, d = e + 1 := ⟨d - 1, by omega⟩
  refine go_X10_quarrel rfl ?_
  conv => whnf
  obtain ⟨n, hm, hn⟩ := inr_nat (n := 40) rfl (xi_6 hX 13)
  repeat' first
    | ((with_reducible refine ⟨vp_in_nI (by omega) (by decide), ?_⟩) <;> conv => whnf)
    | (refine ⟨Or.inl rfl, ?_⟩ <;> conv => whnf)
    | (refine ⟨Or.inr rfl, ?_⟩ <;> conv => whnf)
    | (refine ⟨Or.inl True.intro, ?_⟩ <;> conv => whnf)
    | (refine ⟨Or.inr True.intro, ?_⟩ <;> conv => whnf)
    | (refine ⟨fun c => ?_, fun c => ?_⟩ <;> first | ((have c9 : (1 : Int32) = 0 := by with_reducible exact c); exact absurd c9 (by decide)) | exact absurd (rfl : (0 : Int32) = 0) (by with_reducible exact c) | exact absurd True.intro (by with_reducible exact c) | exact False.elim (by with_reducible exact c) | (conv => whnf))
    | (refine sx_reckon (by omega) hX (fun f1 g1 h1 k1 => ?_) <;> conv => whnf)
    | (refine ct_bit (by omega) (fun p => ?_) (fun p => ?_) <;> conv => whnf)
    | (refine ⟨by unfold vp_in; decide, ?_⟩ <;> conv => whnf)
    | fail
  all_goals exact H _ _ _ (by repeat' first | (with_reducible assumption) | (with_reducible refine XI_ui ?_ ?_) | (with_reducible refine XI_fil ?_ (fun _ => ?_)) | (with_reducible refine XI_cpy ?_ (fun _ _ => ?_)) | exact True.intro | ((show inr _ _ _); first | (with_reducible assumption) | (unfold inr; decide)) | fail) (by repeat' first | (with_reducible exact kp_refl _ _) | (with_reducible assumption) | (with_reducible refine kp_ui ?_ ?_) | (with_reducible refine kp_fil ?_ ?_) | (with_reducible refine kp_cpy ?_ ?_) | (refine kp_trans ?_ (kp_wd k1 rfl)) | (refine kp_trans ?_ (kp_fx k1 rfl)) | rfl | fail)
set_option maxRecDepth 100000 in
set_option maxHeartbeats 4000000 in
theorem sx_made {d L : Nat} {f : Nat → Nat → Int32} {g : Nat → Nat → Int64} {x1 x2 : Int32} {R : Option Value → mH → Prop} (hd : 8 ≤ d) (hX : XI f) (H : ∀ v f' g', XI f' → kp [0] f f' → R (some (.int v)) (shF L, f', g')) : Run mtab d 114 [.ref 5, .int x1, .int x2] (shF L, f, g) R := by
  obtain ⟨d, rfl⟩ : ∃ e, d = e + 1 := ⟨d - 1, by omega⟩
  refine go_X10_made rfl ?_
  conv => whnf
  obtain ⟨n, hm, hn⟩ := inr_nat (n := 40) rfl (xi_6 hX 13)
  repeat' first
    | ((with_reducible refine ⟨vp_in_nI (by omega) (by decide), ?_⟩) <;> conv => whnf)
    | (refine ⟨Or.inl rfl, ?_⟩ <;> conv => whnf)
    | (refine ⟨Or.inr rfl, ?_⟩ <;> conv => whnf)
    | (refine ⟨Or.inl True.intro, ?_⟩ <;> conv => whnf)
    | (refine ⟨Or.inr True.intro, ?_⟩ <;> conv => whnf)
    | (refine ⟨fun c => ?_, fun c => ?_⟩ <;> first | ((have c9 : (1 : Int32) = 0 := by with_reducible exact c); exact absurd c9 (by decide)) | exact absurd (rfl : (0 : Int32) = 0) (by with_reducible exact c) | exact absurd True.intro (by with_reducible exact c) | exact False.elim (by with_reducible exact c) | (conv => whnf))
    | (refine ct_has (by omega) hn hm (fun j hj e => ?_) (fun q => ?_) <;> (try subst e) <;> conv => whnf)
    | (refine ct_isWithin (by omega) (fun p => ?_) (fun p => ?_) <;> conv => whnf)
    | (refine ct_isYear (by omega) (fun p => ?_) (fun p => ?_) <;> conv => whnf)
    | (refine ct_isSide (by omega) (fun p => ?_) (fun p => ?_) <;> conv => whnf)
    | (refine ct_isTitle (by omega) (fun p => ?_) (fun p => ?_) <;> conv => whnf)
    | (refine ct_isBits8 (by omega) (fun p => ?_) (fun p => ?_) <;> conv => whnf)
    | (refine ct_isBits20 (by omega) (fun p => ?_) (fun p => ?_) <;> conv => whnf)
    | (refine ct_isBits30 (by omega) (fun p => ?_) (fun p => ?_) <;> conv => whnf)
    | (refine ct_isToldWell (by omega) (fun p => ?_) (fun p => ?_) <;> conv => whnf)
    | (refine ct_isSheet (by omega) (fun p => ?_) (fun p => ?_) <;> conv => whnf)
    | (refine ct_isLane (by omega) (fun p => ?_) (fun p => ?_) <;> conv => whnf)
    | (refine sx_reckon (by omega) hX (fun f1 g1 h1 k1 => ?_) <;> conv => whnf)
    | (refine ⟨by unfold vp_in; decide, ?_⟩ <;> conv => whnf)
    | fail
  all_goals exact H _ _ _ (by repeat' first | (with_reducible assumption) | (with_reducible refine XI_ui ?_ ?_) | (with_reducible refine XI_fil ?_ (fun _ => ?_)) | (with_reducible refine XI_cpy ?_ (fun _ _ => ?_)) | exact True.intro | ((show inr _ _ _); first | (with_reducible assumption) | (unfold inr; decide)) | fail) (by repeat' first | (with_reducible exact kp_refl _ _) | (with_reducible assumption) | (with_reducible refine kp_ui ?_ ?_) | (with_reducible refine kp_fil ?_ ?_) | (with_reducible refine kp_cpy ?_ ?_) | (refine kp_trans ?_ (kp_wd k1 rfl)) | (refine kp_trans ?_ (kp_fx k1 rfl)) | rfl | fail)
