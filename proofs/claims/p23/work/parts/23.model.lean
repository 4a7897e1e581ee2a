theorem mdl_ini {f F : Nat → Nat → Int32} (hz : zr 182 f F) : zi 182 227 f (m_ui (m_ui (m_ui (m_ui (m_ui (m_ui (m_ui (m_ui (m_ui (m_ui (m_ui F 224 0 (-1)) 213 0 0) 224 1 (-1)) 213 1 0) 224 2 (-1)) 213 2 0) 224 3 (-1)) 213 3 0) 213 0 3) 214 0 2) 215 0 3) := by
  intro a i
  have hh := hz a i
  simp only [m_ui]
  clear hz
  by_cases q0 : a = 224
  · subst q0
    have e0 : inix 224 i = if i < 4 then -1 else 0 := by
      unfold inix
      by_cases q : i < 4
      · rw [if_neg (by omega), if_neg (by omega), if_neg (by omega), if_pos ⟨rfl, q⟩, if_pos q]
      · rw [if_neg (by omega), if_neg (by omega), if_neg (by omega), if_neg (by omega), if_neg (by omega), if_neg (by omega), if_neg (by omega), if_neg q]
    rw [if_neg (by decide), if_neg (by decide), if_neg (by decide), if_neg (by decide), e0]
    have hh' : F 224 i = 0 := hh
    grind
  · by_cases q1 : a = 213
    · subst q1
      have e0 : inix 213 i = if i = 0 then 3 else 0 := by
        unfold inix
        by_cases q : i = 0
        · rw [if_neg (by omega), if_neg (by omega), if_neg (by omega), if_neg (by omega), if_pos ⟨rfl, q⟩, if_pos q]
        · rw [if_neg (by omega), if_neg (by omega), if_neg (by omega), if_neg (by omega), if_neg (by omega), if_neg (by omega), if_neg (by omega), if_neg q]
      have hh' : F 213 i = 0 := hh
      rw [if_neg (by decide), if_neg (by decide), if_pos rfl, e0]
      grind
    · by_cases q2 : a = 214
      · subst q2
        have e0 : inix 214 i = if i = 0 then 2 else 0 := by
          unfold inix
          by_cases q : i = 0
          · rw [if_neg (by omega), if_neg (by omega), if_neg (by omega), if_neg (by omega), if_neg (by omega), if_pos ⟨rfl, q⟩, if_pos q]
          · rw [if_neg (by omega), if_neg (by omega), if_neg (by omega), if_neg (by omega), if_neg (by omega), if_neg (by omega), if_neg (by omega), if_neg q]
        have hh' : F 214 i = 0 := hh
        grind
      · by_cases q3 : a = 215
        · subst q3
          have e0 : inix 215 i = if i = 0 then 3 else 0 := by
            unfold inix
            by_cases q : i = 0
            · rw [if_neg (by omega), if_neg (by omega), if_neg (by omega), if_neg (by omega), if_neg (by omega), if_neg (by omega), if_pos ⟨rfl, q⟩, if_pos q]
            · rw [if_neg (by omega), if_neg (by omega), if_neg (by omega), if_neg (by omega), if_neg (by omega), if_neg (by omega), if_neg (by omega), if_neg q]
          have hh' : F 215 i = 0 := hh
          grind
        · simp only [if_neg q0, if_neg q1, if_neg q2, if_neg q3]
          rw [hh]
          split
          · rfl
          · split
            · unfold inix
              repeat rw [if_neg (by omega)]
            · rfl
def sa_Model (L : Nat) : List mS := [(200, L, []), (200, 3, []), (200, 3, []), (200, 4, []), (201, 0, []), (10, 9, [some 6, some 100, some 107, some 119, some 129, some 139, some 149, some 168, some 173]), (8, 14, [some 7, some 8, some 9, some 10, some 11, some 12, some 13, some 14, some 55, some 96, some 97, some 98, some 99, none]), (100, 40, []), (100, 40, []), (100, 40, []), (100, 40, []), (100, 40, []), (100, 40, []), (101, 40, []), (104, 40, [some 15, some 16, some 17, some 18, some 19, some 20, some 21, some 22, some 23, some 24, some 25, some 26, some 27, some 28, some 29, some 30, some 31, some 32, some 33, some 34, some 35, some 36, some 37, some 38, some 39, some 40, some 41, some 42, some 43, some 44, some 45, some 46, some 47, some 48, some 49, some 50, some 51, some 52, some 53, some 54]), (100, 4, []), (100, 4, []), (100, 4, []), (100, 4, []), (100, 4, []), (100, 4, []), (100, 4, []), (100, 4, []), (100, 4, []), (100, 4, []), (100, 4, []), (100, 4, []), (100, 4, []), (100, 4, []), (100, 4, []), (100, 4, []), (100, 4, []), (100, 4, []), (100, 4, []), (100, 4, []), (100, 4, []), (100, 4, []), (100, 4, []), (100, 4, []), (100, 4, []), (100, 4, []), (100, 4, []), (100, 4, []), (100, 4, []), (100, 4, []), (100, 4, []), (100, 4, []), (100, 4, []), (100, 4, []), (100, 4, []), (100, 4, []), (100, 4, []), (100, 4, []), (100, 4, []), (100, 4, []), (104, 40, [some 56, some 57, some 58, some 59, some 60, some 61, some 62, some 63, some 64, some 65, some 66, some 67, some 68, some 69, some 70, some 71, some 72, some 73, some 74, some 75, some 76, some 77, some 78, some 79, some 80, some 81, some 82, some 83, some 84, some 85, some 86, some 87, some 88, some 89, some 90, some 91, some 92, some 93, some 94, some 95]), (100, 4, []), (100, 4, []), (100, 4, []), (100, 4, []), (100, 4, []), (100, 4, []), (100, 4, []), (100, 4, []), (100, 4, []), (100, 4, []), (100, 4, []), (100, 4, []), (100, 4, []), (100, 4, []), (100, 4, []), (100, 4, []), (100, 4, []), (100, 4, []), (100, 4, []), (100, 4, []), (100, 4, []), (100, 4, []), (100, 4, []), (100, 4, []), (100, 4, []), (100, 4, []), (100, 4, []), (100, 4, []), (100, 4, []), (100, 4, []), (100, 4, []), (100, 4, []), (100, 4, []), (100, 4, []), (100, 4, []), (100, 4, []), (100, 4, []), (100, 4, []), (100, 4, []), (100, 4, []), (100, 40, []), (100, 40, []), (100, 40, []), (100, 40, []), (5, 7, [some 101, some 102, some 103, some 104, some 105, some 106, none]), (100, 60, []), (100, 60, []), (100, 60, []), (100, 60, []), (100, 60, []), (100, 60, []), (6, 6, [some 108, some 113, some 118, none, none, none]), (104, 4, [some 109, some 110, some 111, some 112]), (100, 3, []), (100, 3, []), (100, 3, []), (100, 3, []), (104, 4, [some 114, some 115, some 116, some 117]), (100, 3, []), (100, 3, []), (100, 3, []), (100, 3, []), (103, 50, []), (0, 10, [some 120, some 121, some 122, some 123, some 124, some 125, some 126, none, some 127, some 128]), (100, 8, []), (100, 60, []), (100, 60, []), (101, 60, []), (101, 60, []), (100, 60, []), (100, 60, []), (100, 40, []), (100, 40, []), (9, 14, [some 6, some 119, some 130, some 131, some 132, some 133, none, some 134, some 135, none, some 136, none, some 137, some 138]), (100, 20, []), (100, 20, []), (100, 20, []), (101, 20, []), (100, 40, []), (100, 40, []), (100, 20, []), (101, 20, []), (100, 3, []), (4, 14, [some 6, some 100, some 129, some 119, some 140, some 141, some 142, some 143, some 144, some 145, some 146, some 147, some 148, none]), (100, 50, []), (100, 50, []), (100, 50, []), (100, 50, []), (100, 50, []), (100, 50, []), (101, 50, []), (100, 50, []), (100, 50, []), (2, 6, [some 6, some 139, some 150, some 166, some 167, none]), (3, 9, [some 151, some 160, some 161, some 162, some 163, some 164, some 165, none, none]), (105, 8, [some 152, some 153, some 154, some 155, some 156, some 157, some 158, some 159]), (102, 48, []), (102, 48, []), (102, 48, []), (102, 48, []), (102, 48, []), (102, 48, []), (102, 48, []), (102, 48, []), (102, 9, []), (102, 49, []), (102, 49, []), (100, 49, []), (100, 49, []), (101, 49, []), (100, 8, []), (100, 8, []), (1, 8, [some 6, some 129, some 119, some 169, some 170, some 171, some 172, none]), (100, 40, []), (100, 40, []), (100, 41, []), (100, 40, []), (7, 3, [some 174, some 179, some 180]), (104, 4, [some 175, some 176, some 177, some 178]), (100, 60, []), (100, 60, []), (100, 60, []), (100, 60, []), (100, 4, []), (100, 4, []), (11, 59, [none, none, none, none, none, none, none, none, none, none, none, none, none, none, none, none, none, none, none, none, none, none, none, none, none, none, none, none, none, none, none, none, none, none, none, none, none, none, none, none, none, none, none, none, none, none, none, none, none, none, none, none, none, none, none, none, none, none, none])]
def sb_Model (L : Nat) : List mS := [(200, L, []), (200, 3, []), (200, 3, []), (200, 4, []), (201, 0, []), (10, 9, [some 6, some 100, some 107, some 119, some 129, some 139, some 149, some 168, some 173]), (8, 14, [some 7, some 8, some 9, some 10, some 11, some 12, some 13, some 14, some 55, some 96, some 97, some 98, some 99, none]), (100, 40, []), (100, 40, []), (100, 40, []), (100, 40, []), (100, 40, []), (100, 40, []), (101, 40, []), (104, 40, [some 15, some 16, some 17, some 18, some 19, some 20, some 21, some 22, some 23, some 24, some 25, some 26, some 27, some 28, some 29, some 30, some 31, some 32, some 33, some 34, some 35, some 36, some 37, some 38, some 39, some 40, some 41, some 42, some 43, some 44, some 45, some 46, some 47, some 48, some 49, some 50, some 51, some 52, some 53, some 54]), (100, 4, []), (100, 4, []), (100, 4, []), (100, 4, []), (100, 4, []), (100, 4, []), (100, 4, []), (100, 4, []), (100, 4, []), (100, 4, []), (100, 4, []), (100, 4, []), (100, 4, []), (100, 4, []), (100, 4, []), (100, 4, []), (100, 4, []), (100, 4, []), (100, 4, []), (100, 4, []), (100, 4, []), (100, 4, []), (100, 4, []), (100, 4, []), (100, 4, []), (100, 4, []), (100, 4, []), (100, 4, []), (100, 4, []), (100, 4, []), (100, 4, []), (100, 4, []), (100, 4, []), (100, 4, []), (100, 4, []), (100, 4, []), (100, 4, []), (100, 4, []), (100, 4, []), (100, 4, []), (104, 40, [some 56, some 57, some 58, some 59, some 60, some 61, some 62, some 63, some 64, some 65, some 66, some 67, some 68, some 69, some 70, some 71, some 72, some 73, some 74, some 75, some 76, some 77, some 78, some 79, some 80, some 81, some 82, some 83, some 84, some 85, some 86, some 87, some 88, some 89, some 90, some 91, some 92, some 93, some 94, some 95]), (100, 4, []), (100, 4, []), (100, 4, []), (100, 4, []), (100, 4, []), (100, 4, []), (100, 4, []), (100, 4, []), (100, 4, []), (100, 4, []), (100, 4, []), (100, 4, []), (100, 4, []), (100, 4, []), (100, 4, []), (100, 4, []), (100, 4, []), (100, 4, []), (100, 4, []), (100, 4, []), (100, 4, []), (100, 4, []), (100, 4, []), (100, 4, []), (100, 4, []), (100, 4, []), (100, 4, []), (100, 4, []), (100, 4, []), (100, 4, []), (100, 4, []), (100, 4, []), (100, 4, []), (100, 4, []), (100, 4, []), (100, 4, []), (100, 4, []), (100, 4, []), (100, 4, []), (100, 4, []), (100, 40, []), (100, 40, []), (100, 40, []), (100, 40, []), (5, 7, [some 101, some 102, some 103, some 104, some 105, some 106, none]), (100, 60, []), (100, 60, []), (100, 60, []), (100, 60, []), (100, 60, []), (100, 60, []), (6, 6, [some 108, some 113, some 118, none, none, none]), (104, 4, [some 109, some 110, some 111, some 112]), (100, 3, []), (100, 3, []), (100, 3, []), (100, 3, []), (104, 4, [some 114, some 115, some 116, some 117]), (100, 3, []), (100, 3, []), (100, 3, []), (100, 3, []), (103, 50, []), (0, 10, [some 120, some 121, some 122, some 123, some 124, some 125, some 126, none, some 127, some 128]), (100, 8, []), (100, 60, []), (100, 60, []), (101, 60, []), (101, 60, []), (100, 60, []), (100, 60, []), (100, 40, []), (100, 40, []), (9, 14, [some 6, some 119, some 130, some 131, some 132, some 133, none, some 134, some 135, none, some 136, none, some 137, some 138]), (100, 20, []), (100, 20, []), (100, 20, []), (101, 20, []), (100, 40, []), (100, 40, []), (100, 20, []), (101, 20, []), (100, 3, []), (4, 14, [some 6, some 100, some 129, some 119, some 140, some 141, some 142, some 143, some 144, some 145, some 146, some 147, some 148, none]), (100, 50, []), (100, 50, []), (100, 50, []), (100, 50, []), (100, 50, []), (100, 50, []), (101, 50, []), (100, 50, []), (100, 50, []), (2, 6, [some 6, some 139, some 150, some 166, some 167, none]), (3, 9, [some 151, some 160, some 161, some 162, some 163, some 164, some 165, none, none]), (105, 8, [some 152, some 153, some 154, some 155, some 156, some 157, some 158, some 159]), (102, 48, []), (102, 48, []), (102, 48, []), (102, 48, []), (102, 48, []), (102, 48, []), (102, 48, []), (102, 48, []), (102, 9, []), (102, 49, []), (102, 49, []), (100, 49, []), (100, 49, []), (101, 49, []), (100, 8, []), (100, 8, []), (1, 8, [some 6, some 129, some 119, some 169, some 170, some 171, some 172, none]), (100, 40, []), (100, 40, []), (100, 41, []), (100, 40, []), (7, 3, [some 174, some 179, some 180]), (104, 4, [some 175, some 176, some 177, some 178]), (100, 60, []), (100, 60, []), (100, 60, []), (100, 60, []), (100, 4, []), (100, 4, []), (11, 59, [none, some 182, some 183, some 184, some 185, some 186, some 187, some 188, some 189, some 190, some 191, some 192, some 193, some 194, none, some 195, none, some 196, some 197, some 198, some 199, none, some 200, some 201, none, none, some 202, none, some 203, none, some 204, some 205, some 206, some 207, none, some 208, some 209, some 210, some 211, none, some 212, some 213, some 214, some 215, some 216, some 217, none, none, none, some 218, none, some 219, some 220, some 221, some 222, some 223, some 224, some 225, some 226]), (100, 40, []), (100, 40, []), (101, 40, []), (100, 40, []), (100, 40, []), (100, 40, []), (100, 40, []), (100, 160, []), (100, 160, []), (100, 40, []), (100, 40, []), (100, 40, []), (100, 40, []), (100, 360, []), (100, 20, []), (100, 20, []), (100, 20, []), (101, 20, []), (100, 40, []), (100, 40, []), (100, 3, []), (100, 450, []), (100, 50, []), (101, 50, []), (100, 16, []), (100, 8, []), (100, 320, []), (100, 256, []), (100, 256, []), (100, 320, []), (100, 8, []), (100, 4, []), (100, 4, []), (100, 4, []), (100, 12, []), (100, 50, []), (100, 360, []), (100, 41, []), (101, 40, []), (100, 40, []), (100, 40, []), (100, 40, []), (100, 4, []), (100, 4, []), (100, 240, [])]
set_option maxHeartbeats 4000000 in
set_option maxRecDepth 100000 in
theorem ct_Model_init {d L : Nat} {f : Nat → Nat → Int32} {g : Nat → Nat → Int64} {R : Option Value → mH → Prop} (hd : 5 ≤ d) (hR : ∀ f' g', zi 182 227 f f' → R none (sb_Model L, f', g')) : Run mtab d 149 [.ref 181] (sa_Model L, f, g) R := by
  obtain ⟨d, rfl⟩ : ∃ e, d = e + 1 := ⟨d - 1, by omega⟩
  refine go_X11_init rfl ?_
  conv => whnf
  refine ⟨⟨Nat.le_of_ble_eq_true rfl, Nat.le_of_ble_eq_true rfl⟩, rp_obj (by omega) ?_⟩
  conv => whnf
  refine ⟨⟨by decide, by decide, Nat.le_of_ble_eq_true rfl, Nat.le_of_ble_eq_true rfl⟩, ?_⟩
  conv => whnf
  refine ⟨⟨by decide, by decide, Nat.le_of_ble_eq_true rfl, Nat.le_of_ble_eq_true rfl⟩, ?_⟩
  conv => whnf
  refine ⟨⟨by decide, by decide, Nat.le_of_ble_eq_true rfl, Nat.le_of_ble_eq_true rfl⟩, ?_⟩
  conv => whnf
  refine ⟨⟨by decide, by decide, Nat.le_of_ble_eq_true rfl, Nat.le_of_ble_eq_true rfl⟩, ?_⟩
  conv => whnf
  refine ⟨⟨by decide, by decide, Nat.le_of_ble_eq_true rfl, Nat.le_of_ble_eq_true rfl⟩, ?_⟩
  conv => whnf
  refine ⟨⟨by decide, by decide, Nat.le_of_ble_eq_true rfl, Nat.le_of_ble_eq_true rfl⟩, ?_⟩
  conv => whnf
  refine ⟨⟨by decide, by decide, Nat.le_of_ble_eq_true rfl, Nat.le_of_ble_eq_true rfl⟩, ?_⟩
  conv => whnf
  refine ⟨⟨by decide, by decide, Nat.le_of_ble_eq_true rfl, Nat.le_of_ble_eq_true rfl⟩, ?_⟩
  conv => whnf
  refine ⟨⟨by decide, by decide, Nat.le_of_ble_eq_true rfl, Nat.le_of_ble_eq_true rfl⟩, ?_⟩
  conv => whnf
  refine ⟨⟨by decide, by decide, Nat.le_of_ble_eq_true rfl, Nat.le_of_ble_eq_true rfl⟩, ?_⟩
  conv => whnf
  refine ⟨⟨by decide, by decide, Nat.le_of_ble_eq_true rfl, Nat.le_of_ble_eq_true rfl⟩, ?_⟩
  conv => whnf
  refine ⟨⟨by decide, by decide, Nat.le_of_ble_eq_true rfl, Nat.le_of_ble_eq_true rfl⟩, ?_⟩
  conv => whnf
  refine ⟨⟨by decide, by decide, Nat.le_of_ble_eq_true rfl, Nat.le_of_ble_eq_true rfl⟩, ?_⟩
  conv => whnf
  refine ⟨⟨by decide, by decide, Nat.le_of_ble_eq_true rfl, Nat.le_of_ble_eq_true rfl⟩, ?_⟩
  conv => whnf
  refine ⟨⟨by decide, by decide, Nat.le_of_ble_eq_true rfl, Nat.le_of_ble_eq_true rfl⟩, ?_⟩
  conv => whnf
  refine ⟨⟨by decide, by decide, Nat.le_of_ble_eq_true rfl, Nat.le_of_ble_eq_true rfl⟩, ?_⟩
  conv => whnf
  refine ⟨⟨by decide, by decide, Nat.le_of_ble_eq_true rfl, Nat.le_of_ble_eq_true rfl⟩, ?_⟩
  conv => whnf
  refine ⟨⟨by decide, by decide, Nat.le_of_ble_eq_true rfl, Nat.le_of_ble_eq_true rfl⟩, ?_⟩
  conv => whnf
  refine ⟨⟨by decide, by decide, Nat.le_of_ble_eq_true rfl, Nat.le_of_ble_eq_true rfl⟩, ?_⟩
  conv => whnf
  refine ⟨⟨by decide, by decide, Nat.le_of_ble_eq_true rfl, Nat.le_of_ble_eq_true rfl⟩, ?_⟩
  conv => whnf
  refine ⟨⟨by decide, by decide, Nat.le_of_ble_eq_true rfl, Nat.le_of_ble_eq_true rfl⟩, ?_⟩
  conv => whnf
  refine ⟨⟨by decide, by decide, Nat.le_of_ble_eq_true rfl, Nat.le_of_ble_eq_true rfl⟩, ?_⟩
  conv => whnf
  refine ⟨⟨by decide, by decide, Nat.le_of_ble_eq_true rfl, Nat.le_of_ble_eq_true rfl⟩, ?_⟩
  conv => whnf
  refine ⟨⟨by decide, by decide, Nat.le_of_ble_eq_true rfl, Nat.le_of_ble_eq_true rfl⟩, ?_⟩
  conv => whnf
  refine ⟨⟨by decide, by decide, Nat.le_of_ble_eq_true rfl, Nat.le_of_ble_eq_true rfl⟩, ?_⟩
  conv => whnf
  refine ⟨⟨by decide, by decide, Nat.le_of_ble_eq_true rfl, Nat.le_of_ble_eq_true rfl⟩, ?_⟩
  conv => whnf
  refine ⟨⟨by decide, by decide, Nat.le_of_ble_eq_true rfl, Nat.le_of_ble_eq_true rfl⟩, ?_⟩
  conv => whnf
  refine ⟨⟨by decide, by decide, Nat.le_of_ble_eq_true rfl, Nat.le_of_ble_eq_true rfl⟩, ?_⟩
  conv => whnf
  refine ⟨⟨by decide, by decide, Nat.le_of_ble_eq_true rfl, Nat.le_of_ble_eq_true rfl⟩, ?_⟩
  conv => whnf
  refine ⟨⟨by decide, by decide, Nat.le_of_ble_eq_true rfl, Nat.le_of_ble_eq_true rfl⟩, ?_⟩
  conv => whnf
  refine ⟨⟨by decide, by decide, Nat.le_of_ble_eq_true rfl, Nat.le_of_ble_eq_true rfl⟩, ?_⟩
  conv => whnf
  refine ⟨⟨by decide, by decide, Nat.le_of_ble_eq_true rfl, Nat.le_of_ble_eq_true rfl⟩, ?_⟩
  conv => whnf
  refine ⟨⟨by decide, by decide, Nat.le_of_ble_eq_true rfl, Nat.le_of_ble_eq_true rfl⟩, ?_⟩
  conv => whnf
  refine ⟨⟨by decide, by decide, Nat.le_of_ble_eq_true rfl, Nat.le_of_ble_eq_true rfl⟩, ?_⟩
  conv => whnf
  refine ⟨⟨by decide, by decide, Nat.le_of_ble_eq_true rfl, Nat.le_of_ble_eq_true rfl⟩, ?_⟩
  conv => whnf
  refine ⟨⟨by decide, by decide, Nat.le_of_ble_eq_true rfl, Nat.le_of_ble_eq_true rfl⟩, ?_⟩
  conv => whnf
  refine ⟨⟨by decide, by decide, Nat.le_of_ble_eq_true rfl, Nat.le_of_ble_eq_true rfl⟩, ?_⟩
  conv => whnf
  refine ⟨⟨by decide, by decide, Nat.le_of_ble_eq_true rfl, Nat.le_of_ble_eq_true rfl⟩, ?_⟩
  conv => whnf
  refine ⟨⟨by decide, by decide, Nat.le_of_ble_eq_true rfl, Nat.le_of_ble_eq_true rfl⟩, ?_⟩
  conv => whnf
  refine ⟨⟨by decide, by decide, Nat.le_of_ble_eq_true rfl, Nat.le_of_ble_eq_true rfl⟩, ?_⟩
  conv => whnf
  refine ⟨⟨by decide, by decide, Nat.le_of_ble_eq_true rfl, Nat.le_of_ble_eq_true rfl⟩, ?_⟩
  conv => whnf
  refine ⟨⟨by decide, by decide, Nat.le_of_ble_eq_true rfl, Nat.le_of_ble_eq_true rfl⟩, ?_⟩
  conv => whnf
  refine ⟨⟨by decide, by decide, Nat.le_of_ble_eq_true rfl, Nat.le_of_ble_eq_true rfl⟩, ?_⟩
  conv => whnf
  refine ⟨⟨by decide, by decide, Nat.le_of_ble_eq_true rfl, Nat.le_of_ble_eq_true rfl⟩, ?_⟩
  conv => whnf
  refine ⟨⟨by decide, by decide, Nat.le_of_ble_eq_true rfl, Nat.le_of_ble_eq_true rfl⟩, ?_⟩
  conv => whnf
  have hz : zr 182 f (m_ci 226 (m_ci 225 (m_ci 224 (m_ci 223 (m_ci 222 (m_ci 221 (m_ci 220 (m_ci 219 (m_ci 218 (m_ci 217 (m_ci 216 (m_ci 215 (m_ci 214 (m_ci 213 (m_ci 212 (m_ci 211 (m_ci 210 (m_ci 209 (m_ci 208 (m_ci 207 (m_ci 206 (m_ci 205 (m_ci 204 (m_ci 203 (m_ci 202 (m_ci 201 (m_ci 200 (m_ci 199 (m_ci 198 (m_ci 197 (m_ci 196 (m_ci 195 (m_ci 194 (m_ci 193 (m_ci 192 (m_ci 191 (m_ci 190 (m_ci 189 (m_ci 188 (m_ci 187 (m_ci 186 (m_ci 185 (m_ci 184 (m_ci 183 (m_ci 182 f))))))))))))))))))))))))))))))))))))))))))))) := by
    iterate 44 refine zr_up (Nat.le_of_ble_eq_true rfl) ?_
    exact zr_ci rfl
  generalize (m_ci 226 (m_ci 225 (m_ci 224 (m_ci 223 (m_ci 222 (m_ci 221 (m_ci 220 (m_ci 219 (m_ci 218 (m_ci 217 (m_ci 216 (m_ci 215 (m_ci 214 (m_ci 213 (m_ci 212 (m_ci 211 (m_ci 210 (m_ci 209 (m_ci 208 (m_ci 207 (m_ci 206 (m_ci 205 (m_ci 204 (m_ci 203 (m_ci 202 (m_ci 201 (m_ci 200 (m_ci 199 (m_ci 198 (m_ci 197 (m_ci 196 (m_ci 195 (m_ci 194 (m_ci 193 (m_ci 192 (m_ci 191 (m_ci 190 (m_ci 189 (m_ci 188 (m_ci 187 (m_ci 186 (m_ci 185 (m_ci 184 (m_ci 183 (m_ci 182 f))))))))))))))))))))))))))))))))))))))))))))) = F at hz ⊢
  refine at_X11_init ?_
  conv => whnf
  refine ⟨fun c => absurd c (by decide), fun _ => ?_⟩
  conv => whnf
  refine ⟨by unfold vp_in; decide, ?_⟩
  conv => whnf
  refine ⟨by unfold vp_in; decide, ?_⟩
  conv => whnf
  refine at_X11_init ?_
  conv => whnf
  refine ⟨fun c => absurd c (by decide), fun _ => ?_⟩
  conv => whnf
  refine ⟨by unfold vp_in; decide, ?_⟩
  conv => whnf
  refine ⟨by unfold vp_in; decide, ?_⟩
  conv => whnf
  refine at_X11_init ?_
  conv => whnf
  refine ⟨fun c => absurd c (by decide), fun _ => ?_⟩
  conv => whnf
  refine ⟨by unfold vp_in; decide, ?_⟩
  conv => whnf
  refine ⟨by unfold vp_in; decide, ?_⟩
  conv => whnf
  refine at_X11_init ?_
  conv => whnf
  refine ⟨fun c => absurd c (by decide), fun _ => ?_⟩
  conv => whnf
  refine ⟨by unfold vp_in; decide, ?_⟩
  conv => whnf
  refine ⟨by unfold vp_in; decide, ?_⟩
  conv => whnf
  refine at_X11_init ?_
  conv => whnf
  refine ⟨fun _ => ?_, fun c => absurd (by decide) c⟩
  conv => whnf
  refine ⟨by unfold vp_in; decide, ?_⟩
  conv => whnf
  refine ⟨by unfold vp_in; decide, ?_⟩
  conv => whnf
  refine ⟨by unfold vp_in; decide, ?_⟩
  conv => whnf
  refine ⟨⟨rfl, rfl⟩, hR (m_ui (m_ui (m_ui (m_ui (m_ui (m_ui (m_ui (m_ui (m_ui (m_ui (m_ui F 224 0 (-1)) 213 0 0) 224 1 (-1)) 213 1 0) 224 2 (-1)) 213 2 0) 224 3 (-1)) 213 3 0) 213 0 3) 214 0 2) 215 0 3) _ (mdl_ini hz)⟩
