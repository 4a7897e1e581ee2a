/-! ===== Arrays.fill ===== -/
def m_fil (f : Nat → Nat → Int32) (k n : Nat) (v : Int32) : Nat → Nat → Int32 := fun a i => if a = k ∧ i < n then v else f a i
theorem m_fil_0 (f : Nat → Nat → Int32) (k : Nat) (v : Int32) : m_fil f k 0 v = f := by
  funext a i
  simp [m_fil]
theorem m_fil_up (f : Nat → Nat → Int32) (k n : Nat) (v : Int32) : m_ui (m_fil f k n v) k n v = m_fil f k (n + 1) v := by
  funext a i
  unfold m_ui m_fil
  by_cases h1 : a = k
  · subst h1
    by_cases h2 : i = n
    · subst h2
      simp
    · rw [if_pos rfl, if_neg h2]
      by_cases h3 : i < n
      · rw [if_pos ⟨rfl, h3⟩, if_pos ⟨rfl, by omega⟩]
      · rw [if_neg (fun q => h3 q.2), if_neg (fun q => by omega)]
  · rw [if_neg h1, if_neg (fun q => h1 q.1), if_neg (fun q => h1 q.1)]
theorem fill_loop {d : Nat} {l : List mS} {f : Nat → Nat → Int32} {g : Nat → Nat → Int64} {k n : Nat} {r : List (Option Nat)} {v : Int32} {Q : Option Value → mH → Prop} (hk : m_nth l k = some (100, n, r)) (hn : n < 2 ^ 31) (hQ : Q none (l, m_fil f k n v, g)) :
    ∀ j i : Nat, i + j = n → WPe pg_J7_fill_53178 none (Run mtab d) Q (m_drop pg_J7_fill_53178 5) [some (.ref k), some (.int v), some (.int (nI i)), some (.int (nI n))] [] (l, m_fil f k i v, g)
  | 0, i, hi => by
    have e : i = n := by omega
    subst e
    refine at_J7_fill_53178 ?_
    conv => whnf
    refine ⟨fun c1 => ?_, fun c1 => ?_⟩
    · exact hQ
    · exact absurd (nI_le (Nat.le_refl i) hn) c1
  | j + 1, i, hi => by
    have ih := fill_loop (d := d) (f := f) (g := g) hk hn hQ j (i + 1) (by omega)
    rw [nI_succ, ← m_fil_up] at ih
    have hin : vp_in (nI i) n := nI_in (by omega) hn
    have hc : (nI i).toNatClampNeg = i := nI_clamp (by omega)
    refine at_J7_fill_53178 ?_
    conv => whnf
    refine ⟨fun c1 => ?_, fun c1 => ?_⟩
    · exact absurd c1 (nI_ge (by omega) hn)
    · conv => whnf
      simp only [m_act_eq, mi, mj, m_act0, m_alen, m_arr, hk]
      conv => whnf
      refine ⟨hin, ?_⟩
      rw [hc]
      exact ih
theorem ct_fill {d : Nat} {l : List mS} {f : Nat → Nat → Int32} {g : Nat → Nat → Int64} {k n : Nat} {r : List (Option Nat)} {v : Int32} {R : Option Value → mH → Prop} (hd : 1 ≤ d) (hk : m_nth l k = some (100, n, r)) (hn : n < 2 ^ 31) (hR : R none (l, m_fil f k n v, g)) : Run mtab d 244 [.ref k, .int v] (l, f, g) R := by
  obtain ⟨d, rfl⟩ : ∃ e, d = e + 1 := ⟨d - 1, by omega⟩
  refine go_J7_fill_53178 rfl ?_
  conv => whnf
  simp only [m_act_eq, mi, mj, m_act0, m_alen, m_arr, hk]
  conv => whnf
  have := fill_loop (d := d) (f := f) (g := g) hk hn hR n 0 (by omega)
  rw [m_fil_0] at this
  exact this
def sa_Joins (L : Nat) : List mS := [(200, L, []), (200, 3, []), (200, 3, []), (200, 4, []), (201, 0, []), (10, 9, [some 6, some 100, some 107, some 119, some 129, some 139, none, none, none]), (8, 14, [some 7, some 8, some 9, some 10, some 11, some 12, some 13, some 14, some 55, some 96, some 97, some 98, some 99, none]), (100, 40, []), (100, 40, []), (100, 40, []), (100, 40, []), (100, 40, []), (100, 40, []), (101, 40, []), (104, 40, [some 15, some 16, some 17, some 18, some 19, some 20, some 21, some 22, some 23, some 24, some 25, some 26, some 27, some 28, some 29, some 30, some 31, some 32, some 33, some 34, some 35, some 36, some 37, some 38, some 39, some 40, some 41, some 42, some 43, some 44, some 45, some 46, some 47, some 48, some 49, some 50, some 51, some 52, some 53, some 54]), (100, 4, []), (100, 4, []), (100, 4, []), (100, 4, []), (100, 4, []), (100, 4, []), (100, 4, []), (100, 4, []), (100, 4, []), (100, 4, []), (100, 4, []), (100, 4, []), (100, 4, []), (100, 4, []), (100, 4, []), (100, 4, []), (100, 4, []), (100, 4, []), (100, 4, []), (100, 4, []), (100, 4, []), (100, 4, []), (100, 4, []), (100, 4, []), (100, 4, []), (100, 4, []), (100, 4, []), (100, 4, []), (100, 4, []), (100, 4, []), (100, 4, []), (100, 4, []), (100, 4, []), (100, 4, []), (100, 4, []), (100, 4, []), (100, 4, []), (100, 4, []), (100, 4, []), (100, 4, []), (104, 40, [some 56, some 57, some 58, some 59, some 60, some 61, some 62, some 63, some 64, some 65, some 66, some 67, some 68, some 69, some 70, some 71, some 72, some 73, some 74, some 75, some 76, some 77, some 78, some 79, some 80, some 81, some 82, some 83, some 84, some 85, some 86, some 87, some 88, some 89, some 90, some 91, some 92, some 93, some 94, some 95]), (100, 4, []), (100, 4, []), (100, 4, []), (100, 4, []), (100, 4, []), (100, 4, []), (100, 4, []), (100, 4, []), (100, 4, []), (100, 4, []), (100, 4, []), (100, 4, []), (100, 4, []), (100, 4, []), (100, 4, []), (100, 4, []), (100, 4, []), (100, 4, []), (100, 4, []), (100, 4, []), (100, 4, []), (100, 4, []), (100, 4, []), (100, 4, []), (100, 4, []), (100, 4, []), (100, 4, []), (100, 4, []), (100, 4, []), (100, 4, []), (100, 4, []), (100, 4, []), (100, 4, []), (100, 4, []), (100, 4, []), (100, 4, []), (100, 4, []), (100, 4, []), (100, 4, []), (100, 4, []), (100, 40, []), (100, 40, []), (100, 40, []), (100, 40, []), (5, 7, [some 101, some 102, some 103, some 104, some 105, some 106, none]), (100, 60, []), (100, 60, []), (100, 60, []), (100, 60, []), (100, 60, []), (100, 60, []), (6, 6, [some 108, some 113, some 118, none, none, none]), (104, 4, [some 109, some 110, some 111, some 112]), (100, 3, []), (100, 3, []), (100, 3, []), (100, 3, []), (104, 4, [some 114, some 115, some 116, some 117]), (100, 3, []), (100, 3, []), (100, 3, []), (100, 3, []), (103, 50, []), (0, 10, [some 120, some 121, some 122, some 123, some 124, some 125, some 126, none, some 127, some 128]), (100, 8, []), (100, 60, []), (100, 60, []), (101, 60, []), (101, 60, []), (100, 60, []), (100, 60, []), (100, 40, []), (100, 40, []), (9, 14, [some 6, some 119, some 130, some 131, some 132, some 133, none, some 134, some 135, none, some 136, none, some 137, some 138]), (100, 20, []), (100, 20, []), (100, 20, []), (101, 20, []), (100, 40, []), (100, 40, []), (100, 20, []), (101, 20, []), (100, 3, []), (4, 14, [some 6, some 100, some 129, some 119, some 140, some 141, some 142, some 143, some 144, some 145, some 146, some 147, some 148, none]), (100, 50, []), (100, 50, []), (100, 50, []), (100, 50, []), (100, 50, []), (100, 50, []), (101, 50, []), (100, 50, []), (100, 50, []), (2, 6, [none, none, none, none, none, none])]
def sb_Joins (L : Nat) : List mS := [(200, L, []), (200, 3, []), (200, 3, []), (200, 4, []), (201, 0, []), (10, 9, [some 6, some 100, some 107, some 119, some 129, some 139, none, none, none]), (8, 14, [some 7, some 8, some 9, some 10, some 11, some 12, some 13, some 14, some 55, some 96, some 97, some 98, some 99, none]), (100, 40, []), (100, 40, []), (100, 40, []), (100, 40, []), (100, 40, []), (100, 40, []), (101, 40, []), (104, 40, [some 15, some 16, some 17, some 18, some 19, some 20, some 21, some 22, some 23, some 24, some 25, some 26, some 27, some 28, some 29, some 30, some 31, some 32, some 33, some 34, some 35, some 36, some 37, some 38, some 39, some 40, some 41, some 42, some 43, some 44, some 45, some 46, some 47, some 48, some 49, some 50, some 51, some 52, some 53, some 54]), (100, 4, []), (100, 4, []), (100, 4, []), (100, 4, []), (100, 4, []), (100, 4, []), (100, 4, []), (100, 4, []), (100, 4, []), (100, 4, []), (100, 4, []), (100, 4, []), (100, 4, []), (100, 4, []), (100, 4, []), (100, 4, []), (100, 4, []), (100, 4, []), (100, 4, []), (100, 4, []), (100, 4, []), (100, 4, []), (100, 4, []), (100, 4, []), (100, 4, []), (100, 4, []), (100, 4, []), (100, 4, []), (100, 4, []), (100, 4, []), (100, 4, []), (100, 4, []), (100, 4, []), (100, 4, []), (100, 4, []), (100, 4, []), (100, 4, []), (100, 4, []), (100, 4, []), (100, 4, []), (104, 40, [some 56, some 57, some 58, some 59, some 60, some 61, some 62, some 63, some 64, some 65, some 66, some 67, some 68, some 69, some 70, some 71, some 72, some 73, some 74, some 75, some 76, some 77, some 78, some 79, some 80, some 81, some 82, some 83, some 84, some 85, some 86, some 87, some 88, some 89, some 90, some 91, some 92, some 93, some 94, some 95]), (100, 4, []), (100, 4, []), (100, 4, []), (100, 4, []), (100, 4, []), (100, 4, []), (100, 4, []), (100, 4, []), (100, 4, []), (100, 4, []), (100, 4, []), (100, 4, []), (100, 4, []), (100, 4, []), (100, 4, []), (100, 4, []), (100, 4, []), (100, 4, []), (100, 4, []), (100, 4, []), (100, 4, []), (100, 4, []), (100, 4, []), (100, 4, []), (100, 4, []), (100, 4, []), (100, 4, []), (100, 4, []), (100, 4, []), (100, 4, []), (100, 4, []), (100, 4, []), (100, 4, []), (100, 4, []), (100, 4, []), (100, 4, []), (100, 4, []), (100, 4, []), (100, 4, []), (100, 4, []), (100, 40, []), (100, 40, []), (100, 40, []), (100, 40, []), (5, 7, [some 101, some 102, some 103, some 104, some 105, some 106, none]), (100, 60, []), (100, 60, []), (100, 60, []), (100, 60, []), (100, 60, []), (100, 60, []), (6, 6, [some 108, some 113, some 118, none, none, none]), (104, 4, [some 109, some 110, some 111, some 112]), (100, 3, []), (100, 3, []), (100, 3, []), (100, 3, []), (104, 4, [some 114, some 115, some 116, some 117]), (100, 3, []), (100, 3, []), (100, 3, []), (100, 3, []), (103, 50, []), (0, 10, [some 120, some 121, some 122, some 123, some 124, some 125, some 126, none, some 127, some 128]), (100, 8, []), (100, 60, []), (100, 60, []), (101, 60, []), (101, 60, []), (100, 60, []), (100, 60, []), (100, 40, []), (100, 40, []), (9, 14, [some 6, some 119, some 130, some 131, some 132, some 133, none, some 134, some 135, none, some 136, none, some 137, some 138]), (100, 20, []), (100, 20, []), (100, 20, []), (101, 20, []), (100, 40, []), (100, 40, []), (100, 20, []), (101, 20, []), (100, 3, []), (4, 14, [some 6, some 100, some 129, some 119, some 140, some 141, some 142, some 143, some 144, some 145, some 146, some 147, some 148, none]), (100, 50, []), (100, 50, []), (100, 50, []), (100, 50, []), (100, 50, []), (100, 50, []), (101, 50, []), (100, 50, []), (100, 50, []), (2, 6, [some 6, some 139, some 150, some 166, some 167, none]), (3, 9, [some 151, some 160, some 161, some 162, some 163, some 164, some 165, none, none]), (105, 8, [some 152, some 153, some 154, some 155, some 156, some 157, some 158, some 159]), (102, 48, []), (102, 48, []), (102, 48, []), (102, 48, []), (102, 48, []), (102, 48, []), (102, 48, []), (102, 48, []), (102, 9, []), (102, 49, []), (102, 49, []), (100, 49, []), (100, 49, []), (101, 49, []), (100, 8, []), (100, 8, [])]
set_option maxHeartbeats 4000000 in
set_option maxRecDepth 100000 in
theorem ct_Joins_init {d L : Nat} {f : Nat → Nat → Int32} {g : Nat → Nat → Int64} {R : Option Value → mH → Prop} (hd : 5 ≤ d) (hR : ∀ f' g', zi 150 168 f f' → R none (sb_Joins L, f', g')) : Run mtab d 18 [.ref 149, .ref 6, .ref 139] (sa_Joins L, f, g) R := by
  obtain ⟨d, rfl⟩ : ∃ e, d = e + 1 := ⟨d - 1, by omega⟩
  refine go_X2_init rfl ?_
  conv => whnf
  refine ⟨⟨Nat.le_of_ble_eq_true rfl, Nat.le_of_ble_eq_true rfl⟩, rp_obj (by omega) ?_⟩
  conv => whnf
  refine ⟨⟨Nat.le_of_ble_eq_true rfl, Nat.le_of_ble_eq_true rfl⟩, ?_⟩
  conv => whnf
  refine ⟨⟨Nat.le_of_ble_eq_true rfl, Nat.le_of_ble_eq_true rfl⟩, ct_Matching_init (by omega) (fun f1 g1 z1 => ?_)⟩
  conv => whnf
  refine ⟨⟨by decide, by decide, Nat.le_of_ble_eq_true rfl, Nat.le_of_ble_eq_true rfl⟩, ?_⟩
  conv => whnf
  refine ⟨⟨by decide, by decide, Nat.le_of_ble_eq_true rfl, Nat.le_of_ble_eq_true rfl⟩, ?_⟩
  conv => whnf
  refine ⟨⟨rfl, rfl⟩, hR _ _ ?_⟩
  have h0 : ni 166 168 := by
    intro a i h1 h2
    unfold inix
    repeat rw [if_neg (by omega)]
  refine zi_app (n1 := 166) (by decide) (by decide) (zi_new (fun i => ?_) (by decide) z1) (zi_of h0 (zr_up (Nat.le_of_ble_eq_true rfl) (zr_ci rfl)))
  unfold inix
  repeat rw [if_neg (by omega)]
def sa_Rules (L : Nat) : List mS := [(200, L, []), (200, 3, []), (200, 3, []), (200, 4, []), (201, 0, []), (10, 9, [some 6, some 100, none, none, none, none, none, none, none]), (8, 14, [some 7, some 8, some 9, some 10, some 11, some 12, some 13, some 14, some 55, some 96, some 97, some 98, some 99, none]), (100, 40, []), (100, 40, []), (100, 40, []), (100, 40, []), (100, 40, []), (100, 40, []), (101, 40, []), (104, 40, [some 15, some 16, some 17, some 18, some 19, some 20, some 21, some 22, some 23, some 24, some 25, some 26, some 27, some 28, some 29, some 30, some 31, some 32, some 33, some 34, some 35, some 36, some 37, some 38, some 39, some 40, some 41, some 42, some 43, some 44, some 45, some 46, some 47, some 48, some 49, some 50, some 51, some 52, some 53, some 54]), (100, 4, []), (100, 4, []), (100, 4, []), (100, 4, []), (100, 4, []), (100, 4, []), (100, 4, []), (100, 4, []), (100, 4, []), (100, 4, []), (100, 4, []), (100, 4, []), (100, 4, []), (100, 4, []), (100, 4, []), (100, 4, []), (100, 4, []), (100, 4, []), (100, 4, []), (100, 4, []), (100, 4, []), (100, 4, []), (100, 4, []), (100, 4, []), (100, 4, []), (100, 4, []), (100, 4, []), (100, 4, []), (100, 4, []), (100, 4, []), (100, 4, []), (100, 4, []), (100, 4, []), (100, 4, []), (100, 4, []), (100, 4, []), (100, 4, []), (100, 4, []), (100, 4, []), (100, 4, []), (104, 40, [some 56, some 57, some 58, some 59, some 60, some 61, some 62, some 63, some 64, some 65, some 66, some 67, some 68, some 69, some 70, some 71, some 72, some 73, some 74, some 75, some 76, some 77, some 78, some 79, some 80, some 81, some 82, some 83, some 84, some 85, some 86, some 87, some 88, some 89, some 90, some 91, some 92, some 93, some 94, some 95]), (100, 4, []), (100, 4, []), (100, 4, []), (100, 4, []), (100, 4, []), (100, 4, []), (100, 4, []), (100, 4, []), (100, 4, []), (100, 4, []), (100, 4, []), (100, 4, []), (100, 4, []), (100, 4, []), (100, 4, []), (100, 4, []), (100, 4, []), (100, 4, []), (100, 4, []), (100, 4, []), (100, 4, []), (100, 4, []), (100, 4, []), (100, 4, []), (100, 4, []), (100, 4, []), (100, 4, []), (100, 4, []), (100, 4, []), (100, 4, []), (100, 4, []), (100, 4, []), (100, 4, []), (100, 4, []), (100, 4, []), (100, 4, []), (100, 4, []), (100, 4, []), (100, 4, []), (100, 4, []), (100, 40, []), (100, 40, []), (100, 40, []), (100, 40, []), (5, 7, [some 101, some 102, some 103, some 104, some 105, some 106, none]), (100, 60, []), (100, 60, []), (100, 60, []), (100, 60, []), (100, 60, []), (100, 60, []), (6, 6, [none, none, none, none, none, none])]
def sb_Rules (L : Nat) : List mS := [(200, L, []), (200, 3, []), (200, 3, []), (200, 4, []), (201, 0, []), (10, 9, [some 6, some 100, none, none, none, none, none, none, none]), (8, 14, [some 7, some 8, some 9, some 10, some 11, some 12, some 13, some 14, some 55, some 96, some 97, some 98, some 99, none]), (100, 40, []), (100, 40, []), (100, 40, []), (100, 40, []), (100, 40, []), (100, 40, []), (101, 40, []), (104, 40, [some 15, some 16, some 17, some 18, some 19, some 20, some 21, some 22, some 23, some 24, some 25, some 26, some 27, some 28, some 29, some 30, some 31, some 32, some 33, some 34, some 35, some 36, some 37, some 38, some 39, some 40, some 41, some 42, some 43, some 44, some 45, some 46, some 47, some 48, some 49, some 50, some 51, some 52, some 53, some 54]), (100, 4, []), (100, 4, []), (100, 4, []), (100, 4, []), (100, 4, []), (100, 4, []), (100, 4, []), (100, 4, []), (100, 4, []), (100, 4, []), (100, 4, []), (100, 4, []), (100, 4, []), (100, 4, []), (100, 4, []), (100, 4, []), (100, 4, []), (100, 4, []), (100, 4, []), (100, 4, []), (100, 4, []), (100, 4, []), (100, 4, []), (100, 4, []), (100, 4, []), (100, 4, []), (100, 4, []), (100, 4, []), (100, 4, []), (100, 4, []), (100, 4, []), (100, 4, []), (100, 4, []), (100, 4, []), (100, 4, []), (100, 4, []), (100, 4, []), (100, 4, []), (100, 4, []), (100, 4, []), (104, 40, [some 56, some 57, some 58, some 59, some 60, some 61, some 62, some 63, some 64, some 65, some 66, some 67, some 68, some 69, some 70, some 71, some 72, some 73, some 74, some 75, some 76, some 77, some 78, some 79, some 80, some 81, some 82, some 83, some 84, some 85, some 86, some 87, some 88, some 89, some 90, some 91, some 92, some 93, some 94, some 95]), (100, 4, []), (100, 4, []), (100, 4, []), (100, 4, []), (100, 4, []), (100, 4, []), (100, 4, []), (100, 4, []), (100, 4, []), (100, 4, []), (100, 4, []), (100, 4, []), (100, 4, []), (100, 4, []), (100, 4, []), (100, 4, []), (100, 4, []), (100, 4, []), (100, 4, []), (100, 4, []), (100, 4, []), (100, 4, []), (100, 4, []), (100, 4, []), (100, 4, []), (100, 4, []), (100, 4, []), (100, 4, []), (100, 4, []), (100, 4, []), (100, 4, []), (100, 4, []), (100, 4, []), (100, 4, []), (100, 4, []), (100, 4, []), (100, 4, []), (100, 4, []), (100, 4, []), (100, 4, []), (100, 40, []), (100, 40, []), (100, 40, []), (100, 40, []), (5, 7, [some 101, some 102, some 103, some 104, some 105, some 106, none]), (100, 60, []), (100, 60, []), (100, 60, []), (100, 60, []), (100, 60, []), (100, 60, []), (6, 6, [some 108, some 113, some 118, none, none, none]), (104, 4, [some 109, some 110, some 111, some 112]), (100, 3, []), (100, 3, []), (100, 3, []), (100, 3, []), (104, 4, [some 114, some 115, some 116, some 117]), (100, 3, []), (100, 3, []), (100, 3, []), (100, 3, []), (103, 50, [])]
set_option maxHeartbeats 4000000 in
set_option maxRecDepth 100000 in
theorem ct_Rules_init {d L : Nat} {f : Nat → Nat → Int32} {g : Nat → Nat → Int64} {R : Option Value → mH → Prop} (hd : 5 ≤ d) (h1 : f 1 0 = 3 ∧ f 1 1 = 2 ∧ f 1 2 = 3) (hR : ∀ f' g', zi 108 119 f f' → R none (sb_Rules L, f', g')) : Run mtab d 49 [.ref 107] (sa_Rules L, f, g) R := by
  obtain ⟨d, rfl⟩ : ∃ e, d = e + 1 := ⟨d - 1, by omega⟩
  refine go_X6_init rfl ?_
  conv => whnf
  refine ⟨⟨Nat.le_of_ble_eq_true rfl, Nat.le_of_ble_eq_true rfl⟩, rp_obj (by omega) ?_⟩
  conv => whnf
  refine ⟨⟨by decide, by decide, by decide, by decide, Nat.le_of_ble_eq_true rfl, Nat.le_of_ble_eq_true rfl⟩, ?_⟩
  conv => whnf
  refine ⟨⟨by decide, by decide, by decide, by decide, Nat.le_of_ble_eq_true rfl, Nat.le_of_ble_eq_true rfl⟩, ?_⟩
  conv => whnf
  refine ⟨⟨by decide, by decide, Nat.le_of_ble_eq_true rfl, Nat.le_of_ble_eq_true rfl⟩, ?_⟩
  conv => whnf
  refine at_X6_init ?_
  conv => whnf
  refine ⟨fun c => absurd c (by decide), fun _ => ?_⟩
  conv => whnf
  refine ⟨⟨by unfold vp_in; decide, by decide, by decide⟩, ?_⟩
  conv => whnf
  refine ⟨⟨Nat.le_of_ble_eq_true rfl, Nat.le_of_ble_eq_true rfl⟩, rp_cpy (a := 1) (b := 109) (by omega) rfl rfl rfl (by decide) ?_⟩
  conv => whnf
  refine at_X6_init ?_
  conv => whnf
  refine ⟨fun c => absurd c (by decide), fun _ => ?_⟩
  conv => whnf
  refine ⟨⟨by unfold vp_in; decide, by decide, by decide⟩, ?_⟩
  conv => whnf
  refine ⟨⟨Nat.le_of_ble_eq_true rfl, Nat.le_of_ble_eq_true rfl⟩, rp_cpy (a := 1) (b := 110) (by omega) rfl rfl rfl (by decide) ?_⟩
  conv => whnf
  refine at_X6_init ?_
  conv => whnf
  refine ⟨fun c => absurd c (by decide), fun _ => ?_⟩
  conv => whnf
  refine ⟨⟨by unfold vp_in; decide, by decide, by decide⟩, ?_⟩
  conv => whnf
  refine ⟨⟨Nat.le_of_ble_eq_true rfl, Nat.le_of_ble_eq_true rfl⟩, rp_cpy (a := 1) (b := 111) (by omega) rfl rfl rfl (by decide) ?_⟩
  conv => whnf
  refine at_X6_init ?_
  conv => whnf
  refine ⟨fun c => absurd c (by decide), fun _ => ?_⟩
  conv => whnf
  refine ⟨⟨by unfold vp_in; decide, by decide, by decide⟩, ?_⟩
  conv => whnf
  refine ⟨⟨Nat.le_of_ble_eq_true rfl, Nat.le_of_ble_eq_true rfl⟩, rp_cpy (a := 1) (b := 112) (by omega) rfl rfl rfl (by decide) ?_⟩
  conv => whnf
  refine at_X6_init ?_
  conv => whnf
  refine ⟨fun _ => ?_, fun c => absurd (by decide) c⟩
  conv => whnf
  refine ⟨⟨rfl, rfl⟩, hR _ _ ?_⟩
  have hz : zr 108 f (m_ci 118 (m_ci 113 (m_ci 108 f))) := by
    refine zr_up (Nat.le_of_ble_eq_true rfl) (zr_up (Nat.le_of_ble_eq_true rfl) (zr_ci rfl))
  generalize (m_ci 118 (m_ci 113 (m_ci 108 f))) = F at hz ⊢
  have e0 : (0 : Int32).toNatClampNeg = 0 := rfl
  have e3 : (3 : Int32).toNatClampNeg = 3 := rfl
  have w : ∀ i, i < 3 → F 1 i = if i = 1 then 2 else 3 := by
    intro i hi
    rw [hz 1 i, if_pos (by decide)]
    match i, hi with
    | 0, _ => exact h1.1
    | 1, _ => exact h1.2.1
    | 2, _ => exact h1.2.2
  intro a i
  simp only [m_cpy, e0, e3]
  have hh := hz a i
  by_cases q : 109 ≤ a ∧ a ≤ 112
  · rw [if_neg (show ¬ a < 108 by omega), if_pos (show a < 119 by omega)]
    unfold inix
    rw [if_pos q]
    have hF : F a i = 0 := by rw [hh, if_neg (by omega)]
    have w' := w i
    grind
  · rw [if_neg (by omega), if_neg (by omega), if_neg (by omega), if_neg (by omega), hh]
    split
    · rfl
    · split
      · unfold inix
        rw [if_neg q]
        repeat rw [if_neg (by omega)]
      · rfl
def sa_Editions (L : Nat) : List mS := [(200, L, []), (200, 3, []), (200, 3, []), (200, 4, []), (201, 0, []), (10, 9, [some 6, some 100, some 107, some 119, some 129, some 139, some 149, none, none]), (8, 14, [some 7, some 8, some 9, some 10, some 11, some 12, some 13, some 14, some 55, some 96, some 97, some 98, some 99, none]), (100, 40, []), (100, 40, []), (100, 40, []), (100, 40, []), (100, 40, []), (100, 40, []), (101, 40, []), (104, 40, [some 15, some 16, some 17, some 18, some 19, some 20, some 21, some 22, some 23, some 24, some 25, some 26, some 27, some 28, some 29, some 30, some 31, some 32, some 33, some 34, some 35, some 36, some 37, some 38, some 39, some 40, some 41, some 42, some 43, some 44, some 45, some 46, some 47, some 48, some 49, some 50, some 51, some 52, some 53, some 54]), (100, 4, []), (100, 4, []), (100, 4, []), (100, 4, []), (100, 4, []), (100, 4, []), (100, 4, []), (100, 4, []), (100, 4, []), (100, 4, []), (100, 4, []), (100, 4, []), (100, 4, []), (100, 4, []), (100, 4, []), (100, 4, []), (100, 4, []), (100, 4, []), (100, 4, []), (100, 4, []), (100, 4, []), (100, 4, []), (100, 4, []), (100, 4, []), (100, 4, []), (100, 4, []), (100, 4, []), (100, 4, []), (100, 4, []), (100, 4, []), (100, 4, []), (100, 4, []), (100, 4, []), (100, 4, []), (100, 4, []), (100, 4, []), (100, 4, []), (100, 4, []), (100, 4, []), (100, 4, []), (104, 40, [some 56, some 57, some 58, some 59, some 60, some 61, some 62, some 63, some 64, some 65, some 66, some 67, some 68, some 69, some 70, some 71, some 72, some 73, some 74, some 75, some 76, some 77, some 78, some 79, some 80, some 81, some 82, some 83, some 84, some 85, some 86, some 87, some 88, some 89, some 90, some 91, some 92, some 93, some 94, some 95]), (100, 4, []), (100, 4, []), (100, 4, []), (100, 4, []), (100, 4, []), (100, 4, []), (100, 4, []), (100, 4, []), (100, 4, []), (100, 4, []), (100, 4, []), (100, 4, []), (100, 4, []), (100, 4, []), (100, 4, []), (100, 4, []), (100, 4, []), (100, 4, []), (100, 4, []), (100, 4, []), (100, 4, []), (100, 4, []), (100, 4, []), (100, 4, []), (100, 4, []), (100, 4, []), (100, 4, []), (100, 4, []), (100, 4, []), (100, 4, []), (100, 4, []), (100, 4, []), (100, 4, []), (100, 4, []), (100, 4, []), (100, 4, []), (100, 4, []), (100, 4, []), (100, 4, []), (100, 4, []), (100, 40, []), (100, 40, []), (100, 40, []), (100, 40, []), (5, 7, [some 101, some 102, some 103, some 104, some 105, some 106, none]), (100, 60, []), (100, 60, []), (100, 60, []), (100, 60, []), (100, 60, []), (100, 60, []), (6, 6, [some 108, some 113, some 118, none, none, none]), (104, 4, [some 109, some 110, some 111, some 112]), (100, 3, []), (100, 3, []), (100, 3, []), (100, 3, []), (104, 4, [some 114, some 115, some 116, some 117]), (100, 3, []), (100, 3, []), (100, 3, []), (100, 3, []), (103, 50, []), (0, 10, [some 120, some 121, some 122, some 123, some 124, some 125, some 126, none, some 127, some 128]), (100, 8, []), (100, 60, []), (100, 60, []), (101, 60, []), (101, 60, []), (100, 60, []), (100, 60, []), (100, 40, []), (100, 40, []), (9, 14, [some 6, some 119, some 130, some 131, some 132, some 133, none, some 134, some 135, none, some 136, none, some 137, some 138]), (100, 20, []), (100, 20, []), (100, 20, []), (101, 20, []), (100, 40, []), (100, 40, []), (100, 20, []), (101, 20, []), (100, 3, []), (4, 14, [some 6, some 100, some 129, some 119, some 140, some 141, some 142, some 143, some 144, some 145, some 146, some 147, some 148, none]), (100, 50, []), (100, 50, []), (100, 50, []), (100, 50, []), (100, 50, []), (100, 50, []), (101, 50, []), (100, 50, []), (100, 50, []), (2, 6, [some 6, some 139, some 150, some 166, some 167, none]), (3, 9, [some 151, some 160, some 161, some 162, some 163, some 164, some 165, none, none]), (105, 8, [some 152, some 153, some 154, some 155, some 156, some 157, some 158, some 159]), (102, 48, []), (102, 48, []), (102, 48, []), (102, 48, []), (102, 48, []), (102, 48, []), (102, 48, []), (102, 48, []), (102, 9, []), (102, 49, []), (102, 49, []), (100, 49, []), (100, 49, []), (101, 49, []), (100, 8, []), (100, 8, []), (1, 8, [none, none, none, none, none, none, none, none])]
def sb_Editions (L : Nat) : List mS := [(200, L, []), (200, 3, []), (200, 3, []), (200, 4, []), (201, 0, []), (10, 9, [some 6, some 100, some 107, some 119, some 129, some 139, some 149, none, none]), (8, 14, [some 7, some 8, some 9, some 10, some 11, some 12, some 13, some 14, some 55, some 96, some 97, some 98, some 99, none]), (100, 40, []), (100, 40, []), (100, 40, []), (100, 40, []), (100, 40, []), (100, 40, []), (101, 40, []), (104, 40, [some 15, some 16, some 17, some 18, some 19, some 20, some 21, some 22, some 23, some 24, some 25, some 26, some 27, some 28, some 29, some 30, some 31, some 32, some 33, some 34, some 35, some 36, some 37, some 38, some 39, some 40, some 41, some 42, some 43, some 44, some 45, some 46, some 47, some 48, some 49, some 50, some 51, some 52, some 53, some 54]), (100, 4, []), (100, 4, []), (100, 4, []), (100, 4, []), (100, 4, []), (100, 4, []), (100, 4, []), (100, 4, []), (100, 4, []), (100, 4, []), (100, 4, []), (100, 4, []), (100, 4, []), (100, 4, []), (100, 4, []), (100, 4, []), (100, 4, []), (100, 4, []), (100, 4, []), (100, 4, []), (100, 4, []), (100, 4, []), (100, 4, []), (100, 4, []), (100, 4, []), (100, 4, []), (100, 4, []), (100, 4, []), (100, 4, []), (100, 4, []), (100, 4, []), (100, 4, []), (100, 4, []), (100, 4, []), (100, 4, []), (100, 4, []), (100, 4, []), (100, 4, []), (100, 4, []), (100, 4, []), (104, 40, [some 56, some 57, some 58, some 59, some 60, some 61, some 62, some 63, some 64, some 65, some 66, some 67, some 68, some 69, some 70, some 71, some 72, some 73, some 74, some 75, some 76, some 77, some 78, some 79, some 80, some 81, some 82, some 83, some 84, some 85, some 86, some 87, some 88, some 89, some 90, some 91, some 92, some 93, some 94, some 95]), (100, 4, []), (100, 4, []), (100, 4, []), (100, 4, []), (100, 4, []), (100, 4, []), (100, 4, []), (100, 4, []), (100, 4, []), (100, 4, []), (100, 4, []), (100, 4, []), (100, 4, []), (100, 4, []), (100, 4, []), (100, 4, []), (100, 4, []), (100, 4, []), (100, 4, []), (100, 4, []), (100, 4, []), (100, 4, []), (100, 4, []), (100, 4, []), (100, 4, []), (100, 4, []), (100, 4, []), (100, 4, []), (100, 4, []), (100, 4, []), (100, 4, []), (100, 4, []), (100, 4, []), (100, 4, []), (100, 4, []), (100, 4, []), (100, 4, []), (100, 4, []), (100, 4, []), (100, 4, []), (100, 40, []), (100, 40, []), (100, 40, []), (100, 40, []), (5, 7, [some 101, some 102, some 103, some 104, some 105, some 106, none]), (100, 60, []), (100, 60, []), (100, 60, []), (100, 60, []), (100, 60, []), (100, 60, []), (6, 6, [some 108, some 113, some 118, none, none, none]), (104, 4, [some 109, some 110, some 111, some 112]), (100, 3, []), (100, 3, []), (100, 3, []), (100, 3, []), (104, 4, [some 114, some 115, some 116, some 117]), (100, 3, []), (100, 3, []), (100, 3, []), (100, 3, []), (103, 50, []), (0, 10, [some 120, some 121, some 122, some 123, some 124, some 125, some 126, none, some 127, some 128]), (100, 8, []), (100, 60, []), (100, 60, []), (101, 60, []), (101, 60, []), (100, 60, []), (100, 60, []), (100, 40, []), (100, 40, []), (9, 14, [some 6, some 119, some 130, some 131, some 132, some 133, none, some 134, some 135, none, some 136, none, some 137, some 138]), (100, 20, []), (100, 20, []), (100, 20, []), (101, 20, []), (100, 40, []), (100, 40, []), (100, 20, []), (101, 20, []), (100, 3, []), (4, 14, [some 6, some 100, some 129, some 119, some 140, some 141, some 142, some 143, some 144, some 145, some 146, some 147, some 148, none]), (100, 50, []), (100, 50, []), (100, 50, []), (100, 50, []), (100, 50, []), (100, 50, []), (101, 50, []), (100, 50, []), (100, 50, []), (2, 6, [some 6, some 139, some 150, some 166, some 167, none]), (3, 9, [some 151, some 160, some 161, some 162, some 163, some 164, some 165, none, none]), (105, 8, [some 152, some 153, some 154, some 155, some 156, some 157, some 158, some 159]), (102, 48, []), (102, 48, []), (102, 48, []), (102, 48, []), (102, 48, []), (102, 48, []), (102, 48, []), (102, 48, []), (102, 9, []), (102, 49, []), (102, 49, []), (100, 49, []), (100, 49, []), (101, 49, []), (100, 8, []), (100, 8, []), (1, 8, [some 6, some 129, some 119, some 169, some 170, some 171, some 172, none]), (100, 40, []), (100, 40, []), (100, 41, []), (100, 40, [])]
set_option maxHeartbeats 4000000 in
set_option maxRecDepth 100000 in
theorem ct_Editions_init {d L : Nat} {f : Nat → Nat → Int32} {g : Nat → Nat → Int64} {R : Option Value → mH → Prop} (hd : 5 ≤ d) (hR : ∀ f' g', zi 169 173 f f' → R none (sb_Editions L, f', g')) : Run mtab d 12 [.ref 168, .ref 6, .ref 129, .ref 119] (sa_Editions L, f, g) R := by
  obtain ⟨d, rfl⟩ : ∃ e, d = e + 1 := ⟨d - 1, by omega⟩
  refine go_X1_init rfl ?_
  conv => whnf
  refine ⟨⟨Nat.le_of_ble_eq_true rfl, Nat.le_of_ble_eq_true rfl⟩, rp_obj (by omega) ?_⟩
  conv => whnf
  refine ⟨⟨by decide, by decide, Nat.le_of_ble_eq_true rfl, Nat.le_of_ble_eq_true rfl⟩, ?_⟩
  conv => whnf
  refine ⟨⟨by decide, by decide, Nat.le_of_ble_eq_true rfl, Nat.le_of_ble_eq_true rfl⟩, ?_⟩
  conv => whnf
  refine ⟨⟨by decide, by decide, Nat.le_of_ble_eq_true rfl, Nat.le_of_ble_eq_true rfl⟩, ?_⟩
  conv => whnf
  refine ⟨⟨by decide, by decide, Nat.le_of_ble_eq_true rfl, Nat.le_of_ble_eq_true rfl⟩, ?_⟩
  conv => whnf
  refine ⟨⟨Nat.le_of_ble_eq_true rfl, Nat.le_of_ble_eq_true rfl⟩, ct_fill (n := 40) (by omega) rfl (by decide) ?_⟩
  conv => whnf
  refine ⟨⟨rfl, rfl⟩, hR _ _ ?_⟩
  have hz : zr 169 f (m_ci 172 (m_ci 171 (m_ci 170 (m_ci 169 f)))) := by
    refine zr_up (Nat.le_of_ble_eq_true rfl) (zr_up (Nat.le_of_ble_eq_true rfl) (zr_up (Nat.le_of_ble_eq_true rfl) (zr_ci rfl)))
  generalize (m_ci 172 (m_ci 171 (m_ci 170 (m_ci 169 f)))) = F at hz ⊢
  intro a i
  have hh := hz a i
  unfold m_fil
  by_cases q : a = 169 ∧ i < 40
  · rw [if_pos q, if_neg (show ¬ a < 169 by omega), if_pos (show a < 173 by omega)]
    unfold inix
    rw [if_neg (by omega), if_pos q]
  · rw [if_neg q, hh]
    split
    · rfl
    · split
      · unfold inix
        rw [if_neg (by omega), if_neg q]
        repeat rw [if_neg (by omega)]
      · rfl
def sa_Sheets (L : Nat) : List mS := [(200, L, []), (200, 3, []), (200, 3, []), (200, 4, []), (201, 0, []), (10, 9, [some 6, some 100, some 107, some 119, some 129, some 139, some 149, some 168, none]), (8, 14, [some 7, some 8, some 9, some 10, some 11, some 12, some 13, some 14, some 55, some 96, some 97, some 98, some 99, none]), (100, 40, []), (100, 40, []), (100, 40, []), (100, 40, []), (100, 40, []), (100, 40, []), (101, 40, []), (104, 40, [some 15, some 16, some 17, some 18, some 19, some 20, some 21, some 22, some 23, some 24, some 25, some 26, some 27, some 28, some 29, some 30, some 31, some 32, some 33, some 34, some 35, some 36, some 37, some 38, some 39, some 40, some 41, some 42, some 43, some 44, some 45, some 46, some 47, some 48, some 49, some 50, some 51, some 52, some 53, some 54]), (100, 4, []), (100, 4, []), (100, 4, []), (100, 4, []), (100, 4, []), (100, 4, []), (100, 4, []), (100, 4, []), (100, 4, []), (100, 4, []), (100, 4, []), (100, 4, []), (100, 4, []), (100, 4, []), (100, 4, []), (100, 4, []), (100, 4, []), (100, 4, []), (100, 4, []), (100, 4, []), (100, 4, []), (100, 4, []), (100, 4, []), (100, 4, []), (100, 4, []), (100, 4, []), (100, 4, []), (100, 4, []), (100, 4, []), (100, 4, []), (100, 4, []), (100, 4, []), (100, 4, []), (100, 4, []), (100, 4, []), (100, 4, []), (100, 4, []), (100, 4, []), (100, 4, []), (100, 4, []), (104, 40, [some 56, some 57, some 58, some 59, some 60, some 61, some 62, some 63, some 64, some 65, some 66, some 67, some 68, some 69, some 70, some 71, some 72, some 73, some 74, some 75, some 76, some 77, some 78, some 79, some 80, some 81, some 82, some 83, some 84, some 85, some 86, some 87, some 88, some 89, some 90, some 91, some 92, some 93, some 94, some 95]), (100, 4, []), (100, 4, []), (100, 4, []), (100, 4, []), (100, 4, []), (100, 4, []), (100, 4, []), (100, 4, []), (100, 4, []), (100, 4, []), (100, 4, []), (100, 4, []), (100, 4, []), (100, 4, []), (100, 4, []), (100, 4, []), (100, 4, []), (100, 4, []), (100, 4, []), (100, 4, []), (100, 4, []), (100, 4, []), (100, 4, []), (100, 4, []), (100, 4, []), (100, 4, []), (100, 4, []), (100, 4, []), (100, 4, []), (100, 4, []), (100, 4, []), (100, 4, []), (100, 4, []), (100, 4, []), (100, 4, []), (100, 4, []), (100, 4, []), (100, 4, []), (100, 4, []), (100, 4, []), (100, 40, []), (100, 40, []), (100, 40, []), (100, 40, []), (5, 7, [some 101, some 102, some 103, some 104, some 105, some 106, none]), (100, 60, []), (100, 60, []), (100, 60, []), (100, 60, []), (100, 60, []), (100, 60, []), (6, 6, [some 108, some 113, some 118, none, none, none]), (104, 4, [some 109, some 110, some 111, some 112]), (100, 3, []), (100, 3, []), (100, 3, []), (100, 3, []), (104, 4, [some 114, some 115, some 116, some 117]), (100, 3, []), (100, 3, []), (100, 3, []), (100, 3, []), (103, 50, []), (0, 10, [some 120, some 121, some 122, some 123, some 124, some 125, some 126, none, some 127, some 128]), (100, 8, []), (100, 60, []), (100, 60, []), (101, 60, []), (101, 60, []), (100, 60, []), (100, 60, []), (100, 40, []), (100, 40, []), (9, 14, [some 6, some 119, some 130, some 131, some 132, some 133, none, some 134, some 135, none, some 136, none, some 137, some 138]), (100, 20, []), (100, 20, []), (100, 20, []), (101, 20, []), (100, 40, []), (100, 40, []), (100, 20, []), (101, 20, []), (100, 3, []), (4, 14, [some 6, some 100, some 129, some 119, some 140, some 141, some 142, some 143, some 144, some 145, some 146, some 147, some 148, none]), (100, 50, []), (100, 50, []), (100, 50, []), (100, 50, []), (100, 50, []), (100, 50, []), (101, 50, []), (100, 50, []), (100, 50, []), (2, 6, [some 6, some 139, some 150, some 166, some 167, none]), (3, 9, [some 151, some 160, some 161, some 162, some 163, some 164, some 165, none, none]), (105, 8, [some 152, some 153, some 154, some 155, some 156, some 157, some 158, some 159]), (102, 48, []), (102, 48, []), (102, 48, []), (102, 48, []), (102, 48, []), (102, 48, []), (102, 48, []), (102, 48, []), (102, 9, []), (102, 49, []), (102, 49, []), (100, 49, []), (100, 49, []), (101, 49, []), (100, 8, []), (100, 8, []), (1, 8, [some 6, some 129, some 119, some 169, some 170, some 171, some 172, none]), (100, 40, []), (100, 40, []), (100, 41, []), (100, 40, []), (7, 3, [none, none, none])]
def sb_Sheets (L : Nat) : List mS := [(200, L, []), (200, 3, []), (200, 3, []), (200, 4, []), (201, 0, []), (10, 9, [some 6, some 100, some 107, some 119, some 129, some 139, some 149, some 168, none]), (8, 14, [some 7, some 8, some 9, some 10, some 11, some 12, some 13, some 14, some 55, some 96, some 97, some 98, some 99, none]), (100, 40, []), (100, 40, []), (100, 40, []), (100, 40, []), (100, 40, []), (100, 40, []), (101, 40, []), (104, 40, [some 15, some 16, some 17, some 18, some 19, some 20, some 21, some 22, some 23, some 24, some 25, some 26, some 27, some 28, some 29, some 30, some 31, some 32, some 33, some 34, some 35, some 36, some 37, some 38, some 39, some 40, some 41, some 42, some 43, some 44, some 45, some 46, some 47, some 48, some 49, some 50, some 51, some 52, some 53, some 54]), (100, 4, []), (100, 4, []), (100, 4, []), (100, 4, []), (100, 4, []), (100, 4, []), (100, 4, []), (100, 4, []), (100, 4, []), (100, 4, []), (100, 4, []), (100, 4, []), (100, 4, []), (100, 4, []), (100, 4, []), (100, 4, []), (100, 4, []), (100, 4, []), (100, 4, []), (100, 4, []), (100, 4, []), (100, 4, []), (100, 4, []), (100, 4, []), (100, 4, []), (100, 4, []), (100, 4, []), (100, 4, []), (100, 4, []), (100, 4, []), (100, 4, []), (100, 4, []), (100, 4, []), (100, 4, []), (100, 4, []), (100, 4, []), (100, 4, []), (100, 4, []), (100, 4, []), (100, 4, []), (104, 40, [some 56, some 57, some 58, some 59, some 60, some 61, some 62, some 63, some 64, some 65, some 66, some 67, some 68, some 69, some 70, some 71, some 72, some 73, some 74, some 75, some 76, some 77, some 78, some 79, some 80, some 81, some 82, some 83, some 84, some 85, some 86, some 87, some 88, some 89, some 90, some 91, some 92, some 93, some 94, some 95]), (100, 4, []), (100, 4, []), (100, 4, []), (100, 4, []), (100, 4, []), (100, 4, []), (100, 4, []), (100, 4, []), (100, 4, []), (100, 4, []), (100, 4, []), (100, 4, []), (100, 4, []), (100, 4, []), (100, 4, []), (100, 4, []), (100, 4, []), (100, 4, []), (100, 4, []), (100, 4, []), (100, 4, []), (100, 4, []), (100, 4, []), (100, 4, []), (100, 4, []), (100, 4, []), (100, 4, []), (100, 4, []), (100, 4, []), (100, 4, []), (100, 4, []), (100, 4, []), (100, 4, []), (100, 4, []), (100, 4, []), (100, 4, []), (100, 4, []), (100, 4, []), (100, 4, []), (100, 4, []), (100, 40, []), (100, 40, []), (100, 40, []), (100, 40, []), (5, 7, [some 101, some 102, some 103, some 104, some 105, some 106, none]), (100, 60, []), (100, 60, []), (100, 60, []), (100, 60, []), (100, 60, []), (100, 60, []), (6, 6, [some 108, some 113, some 118, none, none, none]), (104, 4, [some 109, some 110, some 111, some 112]), (100, 3, []), (100, 3, []), (100, 3, []), (100, 3, []), (104, 4, [some 114, some 115, some 116, some 117]), (100, 3, []), (100, 3, []), (100, 3, []), (100, 3, []), (103, 50, []), (0, 10, [some 120, some 121, some 122, some 123, some 124, some 125, some 126, none, some 127, some 128]), (100, 8, []), (100, 60, []), (100, 60, []), (101, 60, []), (101, 60, []), (100, 60, []), (100, 60, []), (100, 40, []), (100, 40, []), (9, 14, [some 6, some 119, some 130, some 131, some 132, some 133, none, some 134, some 135, none, some 136, none, some 137, some 138]), (100, 20, []), (100, 20, []), (100, 20, []), (101, 20, []), (100, 40, []), (100, 40, []), (100, 20, []), (101, 20, []), (100, 3, []), (4, 14, [some 6, some 100, some 129, some 119, some 140, some 141, some 142, some 143, some 144, some 145, some 146, some 147, some 148, none]), (100, 50, []), (100, 50, []), (100, 50, []), (100, 50, []), (100, 50, []), (100, 50, []), (101, 50, []), (100, 50, []), (100, 50, []), (2, 6, [some 6, some 139, some 150, some 166, some 167, none]), (3, 9, [some 151, some 160, some 161, some 162, some 163, some 164, some 165, none, none]), (105, 8, [some 152, some 153, some 154, some 155, some 156, some 157, some 158, some 159]), (102, 48, []), (102, 48, []), (102, 48, []), (102, 48, []), (102, 48, []), (102, 48, []), (102, 48, []), (102, 48, []), (102, 9, []), (102, 49, []), (102, 49, []), (100, 49, []), (100, 49, []), (101, 49, []), (100, 8, []), (100, 8, []), (1, 8, [some 6, some 129, some 119, some 169, some 170, some 171, some 172, none]), (100, 40, []), (100, 40, []), (100, 41, []), (100, 40, []), (7, 3, [some 174, some 179, some 180]), (104, 4, [some 175, some 176, some 177, some 178]), (100, 60, []), (100, 60, []), (100, 60, []), (100, 60, []), (100, 4, []), (100, 4, [])]
set_option maxHeartbeats 4000000 in
set_option maxRecDepth 100000 in
theorem ct_Sheets_init {d L : Nat} {f : Nat → Nat → Int32} {g : Nat → Nat → Int64} {R : Option Value → mH → Prop} (hd : 5 ≤ d) (hR : ∀ f' g', zi 174 181 f f' → R none (sb_Sheets L, f', g')) : Run mtab d 63 [.ref 173] (sa_Sheets L, f, g) R := by
  obtain ⟨d, rfl⟩ : ∃ e, d = e + 1 := ⟨d - 1, by omega⟩
  refine go_X7_init rfl ?_
  conv => whnf
  refine ⟨⟨Nat.le_of_ble_eq_true rfl, Nat.le_of_ble_eq_true rfl⟩, rp_obj (by omega) ?_⟩
  conv => whnf
  refine ⟨⟨by decide, by decide, by decide, by decide, Nat.le_of_ble_eq_true rfl, Nat.le_of_ble_eq_true rfl⟩, ?_⟩
  conv => whnf
  refine ⟨⟨by decide, by decide, Nat.le_of_ble_eq_true rfl, Nat.le_of_ble_eq_true rfl⟩, ?_⟩
  conv => whnf
  refine ⟨⟨by decide, by decide, Nat.le_of_ble_eq_true rfl, Nat.le_of_ble_eq_true rfl⟩, ?_⟩
  conv => whnf
  refine ⟨⟨Nat.le_of_ble_eq_true rfl, Nat.le_of_ble_eq_true rfl⟩, ct_fill (n := 4) (by omega) rfl (by decide) ?_⟩
  conv => whnf
  refine ⟨⟨rfl, rfl⟩, hR _ _ ?_⟩
  have hz : zr 174 f (m_ci 180 (m_ci 179 (m_ci 174 f))) := by
    refine zr_up (Nat.le_of_ble_eq_true rfl) (zr_up (Nat.le_of_ble_eq_true rfl) (zr_ci rfl))
  generalize (m_ci 180 (m_ci 179 (m_ci 174 f))) = F at hz ⊢
  intro a i
  have hh := hz a i
  unfold m_fil
  by_cases q : a = 180 ∧ i < 4
  · rw [if_pos q, if_neg (show ¬ a < 174 by omega), if_pos (show a < 181 by omega)]
    unfold inix
    rw [if_neg (by omega), if_neg (by omega), if_pos q]
  · rw [if_neg q, hh]
    split
    · rfl
    · split
      · unfold inix
        rw [if_neg (by omega), if_neg (by omega), if_neg q]
        repeat rw [if_neg (by omega)]
      · rfl
def sa_LifeList (L : Nat) : List mS := [(200, L, []), (200, 3, []), (200, 3, []), (200, 4, []), (201, 0, []), (10, 9, [none, none, none, none, none, none, none, none, none])]
def sb_LifeList (L : Nat) : List mS := [(200, L, []), (200, 3, []), (200, 3, []), (200, 4, []), (201, 0, []), (10, 9, [some 6, some 100, some 107, some 119, some 129, some 139, some 149, some 168, some 173]), (8, 14, [some 7, some 8, some 9, some 10, some 11, some 12, some 13, some 14, some 55, some 96, some 97, some 98, some 99, none]), (100, 40, []), (100, 40, []), (100, 40, []), (100, 40, []), (100, 40, []), (100, 40, []), (101, 40, []), (104, 40, [some 15, some 16, some 17, some 18, some 19, some 20, some 21, some 22, some 23, some 24, some 25, some 26, some 27, some 28, some 29, some 30, some 31, some 32, some 33, some 34, some 35, some 36, some 37, some 38, some 39, some 40, some 41, some 42, some 43, some 44, some 45, some 46, some 47, some 48, some 49, some 50, some 51, some 52, some 53, some 54]), (100, 4, []), (100, 4, []), (100, 4, []), (100, 4, []), (100, 4, []), (100, 4, []), (100, 4, []), (100, 4, []), (100, 4, []), (100, 4, []), (100, 4, []), (100, 4, []), (100, 4, []), (100, 4, []), (100, 4, []), (100, 4, []), (100, 4, []), (100, 4, []), (100, 4, []), (100, 4, []), (100, 4, []), (100, 4, []), (100, 4, []), (100, 4, []), (100, 4, []), (100, 4, []), (100, 4, []), (100, 4, []), (100, 4, []), (100, 4, []), (100, 4, []), (100, 4, []), (100, 4, []), (100, 4, []), (100, 4, []), (100, 4, []), (100, 4, []), (100, 4, []), (100, 4, []), (100, 4, []), (104, 40, [some 56, some 57, some 58, some 59, some 60, some 61, some 62, some 63, some 64, some 65, some 66, some 67, some 68, some 69, some 70, some 71, some 72, some 73, some 74, some 75, some 76, some 77, some 78, some 79, some 80, some 81, some 82, some 83, some 84, some 85, some 86, some 87, some 88, some 89, some 90, some 91, some 92, some 93, some 94, some 95]), (100, 4, []), (100, 4, []), (100, 4, []), (100, 4, []), (100, 4, []), (100, 4, []), (100, 4, []), (100, 4, []), (100, 4, []), (100, 4, []), (100, 4, []), (100, 4, []), (100, 4, []), (100, 4, []), (100, 4, []), (100, 4, []), (100, 4, []), (100, 4, []), (100, 4, []), (100, 4, []), (100, 4, []), (100, 4, []), (100, 4, []), (100, 4, []), (100, 4, []), (100, 4, []), (100, 4, []), (100, 4, []), (100, 4, []), (100, 4, []), (100, 4, []), (100, 4, []), (100, 4, []), (100, 4, []), (100, 4, []), (100, 4, []), (100, 4, []), (100, 4, []), (100, 4, []), (100, 4, []), (100, 40, []), (100, 40, []), (100, 40, []), (100, 40, []), (5, 7, [some 101, some 102, some 103, some 104, some 105, some 106, none]), (100, 60, []), (100, 60, []), (100, 60, []), (100, 60, []), (100, 60, []), (100, 60, []), (6, 6, [some 108, some 113, some 118, none, none, none]), (104, 4, [some 109, some 110, some 111, some 112]), (100, 3, []), (100, 3, []), (100, 3, []), (100, 3, []), (104, 4, [some 114, some 115, some 116, some 117]), (100, 3, []), (100, 3, []), (100, 3, []), (100, 3, []), (103, 50, []), (0, 10, [some 120, some 121, some 122, some 123, some 124, some 125, some 126, none, some 127, some 128]), (100, 8, []), (100, 60, []), (100, 60, []), (101, 60, []), (101, 60, []), (100, 60, []), (100, 60, []), (100, 40, []), (100, 40, []), (9, 14, [some 6, some 119, some 130, some 131, some 132, some 133, none, some 134, some 135, none, some 136, none, some 137, some 138]), (100, 20, []), (100, 20, []), (100, 20, []), (101, 20, []), (100, 40, []), (100, 40, []), (100, 20, []), (101, 20, []), (100, 3, []), (4, 14, [some 6, some 100, some 129, some 119, some 140, some 141, some 142, some 143, some 144, some 145, some 146, some 147, some 148, none]), (100, 50, []), (100, 50, []), (100, 50, []), (100, 50, []), (100, 50, []), (100, 50, []), (101, 50, []), (100, 50, []), (100, 50, []), (2, 6, [some 6, some 139, some 150, some 166, some 167, none]), (3, 9, [some 151, some 160, some 161, some 162, some 163, some 164, some 165, none, none]), (105, 8, [some 152, some 153, some 154, some 155, some 156, some 157, some 158, some 159]), (102, 48, []), (102, 48, []), (102, 48, []), (102, 48, []), (102, 48, []), (102, 48, []), (102, 48, []), (102, 48, []), (102, 9, []), (102, 49, []), (102, 49, []), (100, 49, []), (100, 49, []), (101, 49, []), (100, 8, []), (100, 8, []), (1, 8, [some 6, some 129, some 119, some 169, some 170, some 171, some 172, none]), (100, 40, []), (100, 40, []), (100, 41, []), (100, 40, []), (7, 3, [some 174, some 179, some 180]), (104, 4, [some 175, some 176, some 177, some 178]), (100, 60, []), (100, 60, []), (100, 60, []), (100, 60, []), (100, 4, []), (100, 4, [])]
set_option maxHeartbeats 4000000 in
set_option maxRecDepth 100000 in
theorem ct_LifeList_init {d L : Nat} {f : Nat → Nat → Int32} {g : Nat → Nat → Int64} {R : Option Value → mH → Prop} (hd : 6 ≤ d) (h1 : f 1 0 = 3 ∧ f 1 1 = 2 ∧ f 1 2 = 3) (hR : ∀ f' g', zi 6 181 f f' → R none (sb_LifeList L, f', g')) : Run mtab d 89 [.ref 5] (sa_LifeList L, f, g) R := by
  obtain ⟨d, rfl⟩ : ∃ e, d = e + 1 := ⟨d - 1, by omega⟩
  refine go_X10_init rfl ?_
  conv => whnf
  refine ⟨⟨Nat.le_of_ble_eq_true rfl, Nat.le_of_ble_eq_true rfl⟩, rp_obj (by omega) ?_⟩
  conv => whnf
  refine ⟨⟨Nat.le_of_ble_eq_true rfl, Nat.le_of_ble_eq_true rfl⟩, ?_⟩
  conv => whnf
  refine ⟨⟨Nat.le_of_ble_eq_true rfl, Nat.le_of_ble_eq_true rfl⟩, ct_Works_init (by omega) (fun f1 g1 z1 => ?_)⟩
  have x1 : zi 6 100 f f1 := zi_new (fun i => by unfold inix; repeat rw [if_neg (by omega)]) (by decide) z1
  have y1 := x1
  conv => whnf
  refine ⟨⟨Nat.le_of_ble_eq_true rfl, Nat.le_of_ble_eq_true rfl⟩, ?_⟩
  conv => whnf
  refine ⟨⟨Nat.le_of_ble_eq_true rfl, Nat.le_of_ble_eq_true rfl⟩, ct_Owners_init (by omega) (fun f2 g2 z2 => ?_)⟩
  have x2 : zi 100 107 f1 f2 := zi_new (fun i => by unfold inix; repeat rw [if_neg (by omega)]) (by decide) z2
  have y2 : zi 6 107 f f2 := zi_app (n1 := 100) (by decide) (by decide) y1 x2
  conv => whnf
  refine ⟨⟨Nat.le_of_ble_eq_true rfl, Nat.le_of_ble_eq_true rfl⟩, ?_⟩
  conv => whnf
  have h1q : m_ci 107 f2 1 0 = 3 ∧ m_ci 107 f2 1 1 = 2 ∧ m_ci 107 f2 1 2 = 3 := by
    have e : ∀ i, m_ci 107 f2 1 i = f 1 i := fun i => by
      show (if 1 < 107 then f2 1 i else 0) = _
      rw [if_pos (by decide), y2 1 i, if_pos (by decide)]
    rw [e, e, e]
    exact h1
  refine ⟨⟨Nat.le_of_ble_eq_true rfl, Nat.le_of_ble_eq_true rfl⟩, ct_Rules_init (by omega) h1q (fun f3 g3 z3 => ?_)⟩
  have x3 : zi 107 119 f2 f3 := zi_new (fun i => by unfold inix; repeat rw [if_neg (by omega)]) (by decide) z3
  have y3 : zi 6 119 f f3 := zi_app (n1 := 107) (by decide) (by decide) y2 x3
  conv => whnf
  refine ⟨⟨Nat.le_of_ble_eq_true rfl, Nat.le_of_ble_eq_true rfl⟩, ?_⟩
  conv => whnf
  refine ⟨⟨Nat.le_of_ble_eq_true rfl, Nat.le_of_ble_eq_true rfl⟩, ct_Committee_init (by omega) (fun f4 g4 z4 => ?_)⟩
  have x4 : zi 119 129 f3 f4 := zi_new (fun i => by unfold inix; repeat rw [if_neg (by omega)]) (by decide) z4
  have y4 : zi 6 129 f f4 := zi_app (n1 := 119) (by decide) (by decide) y3 x4
  conv => whnf
  refine ⟨⟨Nat.le_of_ble_eq_true rfl, Nat.le_of_ble_eq_true rfl⟩, ?_⟩
  conv => whnf
  refine ⟨⟨Nat.le_of_ble_eq_true rfl, Nat.le_of_ble_eq_true rfl⟩, ct_Years_init (by omega) (fun f5 g5 z5 => ?_)⟩
  have x5 : zi 129 139 f4 f5 := zi_new (fun i => by unfold inix; repeat rw [if_neg (by omega)]) (by decide) z5
  have y5 : zi 6 139 f f5 := zi_app (n1 := 129) (by decide) (by decide) y4 x5
  conv => whnf
  refine ⟨⟨Nat.le_of_ble_eq_true rfl, Nat.le_of_ble_eq_true rfl⟩, ?_⟩
  conv => whnf
  refine ⟨⟨Nat.le_of_ble_eq_true rfl, Nat.le_of_ble_eq_true rfl⟩, ct_Mentions_init (by omega) (fun f6 g6 z6 => ?_)⟩
  have x6 : zi 139 149 f5 f6 := zi_new (fun i => by unfold inix; repeat rw [if_neg (by omega)]) (by decide) z6
  have y6 : zi 6 149 f f6 := zi_app (n1 := 139) (by decide) (by decide) y5 x6
  conv => whnf
  refine ⟨⟨Nat.le_of_ble_eq_true rfl, Nat.le_of_ble_eq_true rfl⟩, ?_⟩
  conv => whnf
  refine ⟨⟨Nat.le_of_ble_eq_true rfl, Nat.le_of_ble_eq_true rfl⟩, ct_Joins_init (by omega) (fun f7 g7 z7 => ?_)⟩
  have x7 : zi 149 168 f6 f7 := zi_new (fun i => by unfold inix; repeat rw [if_neg (by omega)]) (by decide) z7
  have y7 : zi 6 168 f f7 := zi_app (n1 := 149) (by decide) (by decide) y6 x7
  conv => whnf
  refine ⟨⟨Nat.le_of_ble_eq_true rfl, Nat.le_of_ble_eq_true rfl⟩, ?_⟩
  conv => whnf
  refine ⟨⟨Nat.le_of_ble_eq_true rfl, Nat.le_of_ble_eq_true rfl⟩, ct_Editions_init (by omega) (fun f8 g8 z8 => ?_)⟩
  have x8 : zi 168 173 f7 f8 := zi_new (fun i => by unfold inix; repeat rw [if_neg (by omega)]) (by decide) z8
  have y8 : zi 6 173 f f8 := zi_app (n1 := 168) (by decide) (by decide) y7 x8
  conv => whnf
  refine ⟨⟨Nat.le_of_ble_eq_true rfl, Nat.le_of_ble_eq_true rfl⟩, ?_⟩
  conv => whnf
  refine ⟨⟨Nat.le_of_ble_eq_true rfl, Nat.le_of_ble_eq_true rfl⟩, ct_Sheets_init (by omega) (fun f9 g9 z9 => ?_)⟩
  have x9 : zi 173 181 f8 f9 := zi_new (fun i => by unfold inix; repeat rw [if_neg (by omega)]) (by decide) z9
  have y9 : zi 6 181 f f9 := zi_app (n1 := 173) (by decide) (by decide) y8 x9
  conv => whnf
  refine ⟨⟨rfl, rfl⟩, hR _ _ y9⟩
