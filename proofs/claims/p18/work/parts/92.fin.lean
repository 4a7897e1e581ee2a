/-- what holds between calls -/
def GI (f : Nat → Nat → Int32) : Prop := XI f ∧ EI f ∧ ab3 f ∧ ∃ n, RW n f
def okl (l : List Nat) : Bool := !hasN l 1 && (!hasN l 7 && (!hasN l 11 && !hasN l 20))
theorem ab3_kp {l : List Nat} {f f' : Nat → Nat → Int32} (h : ab3 f) (k : kp l f f') (hl : hasN l 20 = false) : ab3 f' := by
  unfold ab3
  rw [k 3 0 (by exact hl), k 3 1 (by exact hl), k 3 2 (by exact hl), k 3 3 (by exact hl)]
  exact h
theorem okl_of {l : List Nat} (h : okl l = true) : hasN l 1 = false ∧ hasN l 7 = false ∧ hasN l 11 = false ∧ hasN l 20 = false := by
  unfold okl at h
  simp only [Bool.and_eq_true, Bool.not_eq_true'] at h
  exact h
theorem GI_x {l : List Nat} {f f' : Nat → Nat → Int32} (h : GI f) (x : XI f') (k : kp l f f') (hl : okl l = true) : GI f' := by
  obtain ⟨a, b, c, n, d⟩ := h
  obtain ⟨l1, l7, l11, l20⟩ := okl_of hl
  exact ⟨x, EI_kp b k l7, ab3_kp c k l20, n, RW_kp k l1 l11 d⟩
theorem GI_xE {f f' : Nat → Nat → Int32} (h : GI f) (x : XI f') (k : kp [0, 7] f f') (e : EI f') : GI f' := by
  obtain ⟨a, b, c, n, d⟩ := h
  exact ⟨x, e, ab3_kp c k rfl, n, RW_kp k rfl rfl d⟩
theorem GI_MI {f : Nat → Nat → Int32} (h : GI f) : MI f := by
  obtain ⟨a, b, c, n, d⟩ := h
  exact RW_MI d
theorem GI_w {f f1 f2 : Nat → Nat → Int32} {n : Nat} (h : GI f) (k1 : kp [1] f f1) (k2 : kp [10, 11, 22] f1 f2) (x2 : XI f2) (r : RW n f2) : GI f2 := by
  obtain ⟨a, b, c, _, d⟩ := h
  exact ⟨x2, EI_kp (EI_kp b k1 rfl) k2 rfl, ab3_kp (ab3_kp c k1 rfl) k2 rfl, n, r⟩
theorem has_w {a i : Nat} (h : 6 ≤ a) (h' : a ≤ 99) : hasN [1] (cmp a i) = true := by
  rw [cmp_w h h']
  rfl
theorem kp_wadd {f : Nat → Nat → Int32} {n : Nat} {kind of h w t lo hi : Int32} (hn : n < 40) : kp [1] f (wadd f n kind of h w t lo hi) := by
  unfold wadd
  exact kp_ui rfl (kp_ui rfl (kp_ui rfl (kp_ui (has_w (by omega) (by omega)) (kp_ui rfl (kp_ui rfl (kp_ui rfl (kp_ui rfl (kp_ui rfl (kp_ui rfl (kp_refl _ _))))))))))
theorem kp_wtit {f : Nat → Nat → Int32} {j q : Nat} {y t : Int32} (hn : j < 40) : kp [1] f (wtit f j q y t) := by
  unfold wtit
  exact kp_ui rfl (kp_ui (has_w (by omega) (by omega)) (kp_ui (has_w (by omega) (by omega)) (kp_refl _ _)))
theorem kp_wcut {f : Nat → Nat → Int32} {j : Nat} {y h w : Int32} : kp [1] f (wcut f j y h w) := by
  unfold wcut
  exact kp_ui rfl (kp_ui rfl (kp_ui rfl (kp_refl _ _)))
theorem kp_madd {f : Nat → Nat → Int32} {n : Nat} {kind of tu h w t lo hi : Int32} : kp [10, 11, 22] f (madd f n kind of tu h w t lo hi) := by
  unfold madd
  exact kp_ui rfl (kp_ui rfl (kp_ui rfl (kp_ui rfl (kp_ui rfl (kp_ui rfl (kp_ui rfl (kp_ui rfl (kp_ui rfl (kp_ui rfl (kp_ui rfl (kp_refl _ _)))))))))))
theorem kp_mtit {f : Nat → Nat → Int32} {j q : Nat} {y t : Int32} : kp [10, 11, 22] f (mtit f j q y t) := by
  unfold mtit
  exact kp_ui rfl (kp_ui rfl (kp_ui rfl (kp_ui rfl (kp_refl _ _))))
theorem kp_mcut {f : Nat → Nat → Int32} {j : Nat} {y h w : Int32} : kp [10, 11, 22] f (mcut f j y h w) := by
  unfold mcut
  exact kp_ui rfl (kp_ui rfl (kp_ui rfl (kp_ui rfl (kp_refl _ _))))
theorem XI_wadd {f : Nat → Nat → Int32} {n : Nat} {kind of h w t lo hi : Int32} (hX : XI f) (hn : n < 40) (hk : inr 0 3 kind) (ho : inr (-4) 39 of) : XI (wadd f n kind of h w t lo hi) := by
  unfold wadd
  exact XI_ui (XI_ui (XI_ui (XI_ui (XI_ui (XI_ui (XI_ui (XI_ui (XI_ui (XI_ui hX hk) ho) True.intro) True.intro) True.intro) True.intro) (okv_r (by omega) (by omega))) (show inr 0 4 1 by unfold inr; decide)) True.intro) (show inr 0 40 _ from inr_n1 (m := 40) (by omega) rfl (by decide))
theorem XI_wtit {f : Nat → Nat → Int32} {j q : Nat} {y t : Int32} (hX : XI f) (hj : j < 40) (hq : q < 4) : XI (wtit f j q y t) := by
  unfold wtit
  exact XI_ui (XI_ui (XI_ui hX (okv_r (by omega) (by omega))) (okv_r (by omega) (by omega))) (show inr 0 4 _ from inr_n1 (m := 4) (by omega) rfl (by decide))
theorem XI_wcut {f : Nat → Nat → Int32} {j : Nat} {y h w : Int32} (hX : XI f) : XI (wcut f j y h w) := by
  unfold wcut
  exact XI_ui (XI_ui (XI_ui hX True.intro) True.intro) True.intro
theorem XI_madd {f : Nat → Nat → Int32} {n : Nat} {kind of tu h w t lo hi : Int32} (hX : XI f) (hn : n < 40) (hk : inr 0 3 kind) (ho : inr (-1) 39 of) : XI (madd f n kind of tu h w t lo hi) := by
  unfold madd
  exact XI_ui (XI_ui (XI_ui (XI_ui (XI_ui (XI_ui (XI_ui (XI_ui (XI_ui (XI_ui (XI_ui hX hk) ho) True.intro) True.intro) True.intro) True.intro) True.intro) True.intro) (show inr 0 4 1 by unfold inr; decide)) (show inr 0 40 _ from inr_n1 (m := 40) (by omega) rfl (by decide))) True.intro
theorem XI_mtit {f : Nat → Nat → Int32} {j q : Nat} {y t : Int32} (hX : XI f) (hq : q < 4) : XI (mtit f j q y t) := by
  unfold mtit
  exact XI_ui (XI_ui (XI_ui (XI_ui hX True.intro) True.intro) (show inr 0 4 _ from inr_n1 (m := 4) (by omega) rfl (by decide))) True.intro
theorem XI_mcut {f : Nat → Nat → Int32} {j : Nat} {y h w : Int32} (hX : XI f) : XI (mcut f j y h w) := by
  unfold mcut
  exact XI_ui (XI_ui (XI_ui (XI_ui hX True.intro) True.intro) True.intro) True.intro
theorem inr_low {lo : Int32} {j : Nat} (h : j < 40) (hl : lo.toInt ≤ 0) : inr lo 39 (nI j) := by
  refine ⟨?_, (inr_n (n := j) (m := 39) (hi := 39) (by omega) rfl (by decide)).2⟩
  rw [Int32.le_iff_toInt_le, nI_toInt (by omega)]
  omega
theorem kx_work {n : Nat} {f f1 : Nat → Nat → Int32} {x1 x2 x3 x4 x5 x6 v : Int32} (s : SX_work n f f1 x1 x2 x3 x4 x5 x6 v) : kp [1] f f1 := by
  rcases s with ⟨_, _, rfl⟩ | ⟨_, ⟨_, _, rfl⟩ | ⟨hn, _, rfl⟩⟩
  · exact kp_refl _ _
  · exact kp_refl _ _
  · exact kp_wadd hn
theorem fin_work {n : Nat} {f f1 f2 : Nat → Nat → Int32} {x1 x2 x3 x4 x5 x6 v1 v2 : Int32} (hG : GI f) (hR : RW n f) (s1 : SX_work n f f1 x1 x2 x3 x4 x5 x6 v1) (s2 : SM_work n f1 f2 x1 x2 x3 x4 x5 x6 v2) : GI f2 ∧ v1 = v2 := by
  rcases s1 with ⟨q1, rfl, rfl⟩ | ⟨p1, s1⟩
  · rcases s2 with ⟨q2, rfl, rfl⟩ | ⟨p2, s2⟩
    · exact ⟨hG, rfl⟩
    · exact absurd p2 q1
  · rcases s2 with ⟨q2, rfl, rfl⟩ | ⟨p2, s2⟩
    · exact absurd p1 q2
    · rcases s1 with ⟨e1, rfl, rfl⟩ | ⟨e1, rfl, rfl⟩
      · rcases s2 with ⟨e2, rfl, rfl⟩ | ⟨e2, rfl, rfl⟩
        · exact ⟨hG, rfl⟩
        · omega
      · rcases s2 with ⟨e2, rfl, rfl⟩ | ⟨e2, rfl, rfl⟩
        · omega
        · have hk : inr 0 3 x1 := by
            rcases p1.1 with e | e <;> (rw [e]; unfold inr; decide)
          have hx1 := XI_wadd (h := x2) (w := x3) (t := x4) (lo := x5) (hi := x6) hG.1 e1 hk (show inr (-4) 39 (-4) by unfold inr; decide)
          refine ⟨GI_w hG (kp_wadd e1) kp_madd (XI_madd hx1 e1 hk (show inr (-1) 39 (-1) by unfold inr; decide)) (RW_add hR e1 (Or.inl ⟨rfl, rfl⟩) (fun a i h1 h2 h3 => wadd_o h1 (by omega) h3) (wadd_6 e1) (wadd_7 e1) (wadd_8 e1) (wadd_9 e1) (wadd_10 e1) (wadd_11 e1) (wadd_12 e1) (wadd_15 e1) (wadd_96 e1) (wadd_97 e1) (fun e => ?_)), rfl⟩
          rcases p1.1 with e3 | e3 <;> (rw [e] at e3; exact absurd e3 (by decide))
theorem kx_version {n : Nat} {f f1 : Nat → Nat → Int32} {x1 x2 x3 x4 x5 x6 v : Int32} (s : SX_version n f f1 x1 x2 x3 x4 x5 x6 v) : kp [1] f f1 := by
  rcases s with ⟨_, _, rfl⟩ | ⟨j, _, _, _, ⟨_, _, rfl⟩ | ⟨_, ⟨_, _, rfl⟩ | ⟨hn, _, rfl⟩⟩⟩
  · exact kp_refl _ _
  · exact kp_refl _ _
  · exact kp_refl _ _
  · exact kp_wadd hn
theorem k_01 {k : Int32} (h : inr 0 3 k) : (k = 0 ∨ k = 1) ↔ k ≤ 1 := by
  rcases inr_c3 h with rfl | rfl | rfl | rfl <;> decide
theorem k_23 {k : Int32} (h : inr 0 3 k) : (k = 2 ∨ k = 3) ↔ 2 ≤ k := by
  rcases inr_c3 h with rfl | rfl | rfl | rfl <;> decide
theorem fin_version {n : Nat} {f f1 f2 : Nat → Nat → Int32} {x1 x2 x3 x4 x5 x6 v1 v2 : Int32} (hG : GI f) (hR : RW n f) (s1 : SX_version n f f1 x1 x2 x3 x4 x5 x6 v1) (s2 : SM_version n f1 f2 x1 x2 x3 x4 x5 x6 v2) : GI f2 ∧ v1 = v2 := by
  have k1 := kx_version s1
  have hn40 := hR.1
  rcases s1 with ⟨q1, rfl, rfl⟩ | ⟨j, hj, ej, p1, s1⟩
  · rcases s2 with ⟨q2, rfl, rfl⟩ | ⟨j2, hj2, ej2, p2, s2⟩
    · exact ⟨hG, rfl⟩
    · exact absurd ⟨⟨j2, hj2, ej2⟩, p2⟩ q1
  · rcases s2 with ⟨q2, rfl, rfl⟩ | ⟨j2, hj2, ej2, p2, s2⟩
    · exact absurd ⟨⟨j, hj, ej⟩, p1⟩ q2
    · have ejj : j = j2 := (nI_eq (by omega) (by omega)).mp (ej.symm.trans ej2)
      subst ejj
      have hk := k_01 (xi_7 hG.1 j)
      have hkk : f1 182 j = f 7 j := (k1 182 j rfl).trans (hR.2.2.2.1 j hj).1.symm
      rw [hkk] at s2
      rcases s1 with ⟨c1, rfl, rfl⟩ | ⟨c1, s1⟩
      · rcases s2 with ⟨c2, rfl, rfl⟩ | ⟨c2, s2⟩
        · exact ⟨hG, rfl⟩
        · exact absurd (hk.mpr c2) c1
      · rcases s2 with ⟨c2, rfl, rfl⟩ | ⟨c2, s2⟩
        · exact absurd (hk.mp c1) (i32_nle.mpr c2)
        · rcases s1 with ⟨e1, rfl, rfl⟩ | ⟨e1, rfl, rfl⟩
          · rcases s2 with ⟨e2, rfl, rfl⟩ | ⟨e2, rfl, rfl⟩
            · exact ⟨hG, rfl⟩
            · omega
          · rcases s2 with ⟨e2, rfl, rfl⟩ | ⟨e2, rfl, rfl⟩
            · omega
            · have h1k : inr 0 3 (1 : Int32) := by unfold inr; decide
              subst ej
              have hx1 := XI_wadd (h := x2) (w := x3) (t := x4) (lo := x5) (hi := x6) hG.1 e1 h1k (inr_low (lo := -4) (j := j) (by omega) (by decide))
              exact ⟨GI_w hG k1 kp_madd (XI_madd hx1 e1 h1k (inr_low (lo := -1) (by omega) (by decide))) (RW_add hR e1 (Or.inr ⟨rfl, nI_pos (by omega), nI_lt hj (by omega)⟩) (fun a i h1 h2 h3 => wadd_o h1 (by omega) h3) (wadd_6 e1) (wadd_7 e1) (wadd_8 e1) (wadd_9 e1) (wadd_10 e1) (wadd_11 e1) (wadd_12 e1) (wadd_15 e1) (wadd_96 e1) (wadd_97 e1) (fun e => absurd e (by decide))), rfl⟩
theorem kx_print {n : Nat} {f f1 : Nat → Nat → Int32} {x1 x2 x3 x4 x5 x6 x7 v : Int32} (s : SX_print n f f1 x1 x2 x3 x4 x5 x6 x7 v) : kp [1] f f1 := by
  rcases s with ⟨_, _, rfl⟩ | ⟨j, _, _, _, ⟨_, _, rfl⟩ | ⟨hn, _, rfl⟩⟩
  · exact kp_refl _ _
  · exact kp_refl _ _
  · exact kp_ui rfl (kp_wadd hn)
theorem fin_print {n : Nat} {f f1 f2 : Nat → Nat → Int32} {x1 x2 x3 x4 x5 x6 x7 v1 v2 : Int32} (hG : GI f) (hR : RW n f) (s1 : SX_print n f f1 x1 x2 x3 x4 x5 x6 x7 v1) (s2 : SM_print n f1 f2 x1 x2 x3 x4 x5 x6 x7 v2) : GI f2 ∧ v1 = v2 := by
  have k1 := kx_print s1
  have hn40 := hR.1
  rcases s1 with ⟨q1, rfl, rfl⟩ | ⟨j, hj, ej, p1, s1⟩
  · rcases s2 with ⟨q2, rfl, rfl⟩ | ⟨j2, hj2, ej2, p2, s2⟩
    · exact ⟨hG, rfl⟩
    · exact absurd ⟨⟨j2, hj2, ej2⟩, p2⟩ q1
  · rcases s2 with ⟨q2, rfl, rfl⟩ | ⟨j2, hj2, ej2, p2, s2⟩
    · exact absurd ⟨⟨j, hj, ej⟩, p1⟩ q2
    · rcases s1 with ⟨e1, rfl, rfl⟩ | ⟨e1, rfl, rfl⟩
      · rcases s2 with ⟨e2, rfl, rfl⟩ | ⟨e2, rfl, rfl⟩
        · exact ⟨hG, rfl⟩
        · omega
      · rcases s2 with ⟨e2, rfl, rfl⟩ | ⟨e2, rfl, rfl⟩
        · omega
        · have h3k : inr 0 3 (3 : Int32) := by unfold inr; decide
          subst ej
          have hx1 := XI_ui (k := 13) (j := n) (v := vp_nar .boolean x2) (XI_wadd (h := x3) (w := x4) (t := x5) (lo := x6) (hi := x7) hG.1 e1 h3k (inr_low (lo := -4) (j := j) (by omega) (by decide))) True.intro
          exact ⟨GI_w hG k1 kp_madd (XI_madd hx1 e1 h3k (inr_low (lo := -1) (by omega) (by decide))) (RW_add hR e1 (Or.inr ⟨rfl, nI_pos (by omega), nI_lt hj (by omega)⟩) (fun a i h1 h2 h3 => by rw [m_ui_o (by omega)]; exact wadd_o h1 (by omega) h3)
            (by rw [m_ui_o (by omega)]; exact wadd_6 e1) (by rw [m_ui_o (by omega)]; exact wadd_7 e1) (by rw [m_ui_o (by omega)]; exact wadd_8 e1) (by rw [m_ui_o (by omega)]; exact wadd_9 e1) (by rw [m_ui_o (by omega)]; exact wadd_10 e1) (by rw [m_ui_o (by omega)]; exact wadd_11 e1) (by rw [m_ui_o (by omega)]; exact wadd_12 e1) (by rw [m_ui_o (by omega)]; exact wadd_15 e1) (by rw [m_ui_o (by omega)]; exact wadd_96 e1) (by rw [m_ui_o (by omega)]; exact wadd_97 e1) (fun _ => m_ui_s)), rfl⟩
theorem kx_retitle {n : Nat} {f f1 : Nat → Nat → Int32} {x1 x2 x3 v : Int32} (hn : n ≤ 40) (s : SX_retitle n f f1 x1 x2 x3 v) : kp [1] f f1 := by
  rcases s with ⟨_, _, rfl⟩ | ⟨j, q, hj, _, _, _, _, _, _, ⟨_, _, rfl⟩ | ⟨_, _, _, rfl⟩ | ⟨_, _, _, rfl⟩⟩
  · exact kp_refl _ _
  · exact kp_refl _ _
  · exact kp_refl _ _
  · exact kp_wtit (by omega)
theorem tit_o {f : Nat → Nat → Int32} {j q a i : Nat} {y t : Int32} (h1 : ¬ (a = 15 + j ∧ i = q)) (h2 : ¬ (a = 56 + j ∧ i = q)) (h3 : ¬ (a = 96 ∧ i = j)) : wtit f j q y t a i = f a i := by
  unfold wtit
  rw [m_ui_o (by omega), m_ui_o (by omega), m_ui_o (by omega)]
theorem mtit_o {f : Nat → Nat → Int32} {j q a i : Nat} {y t : Int32} (h1 : ¬ (a = 189 ∧ i = 4 * j + q)) (h2 : ¬ (a = 190 ∧ i = 4 * j + q)) (h3 : ¬ (a = 191 ∧ i = j)) (h4 : ¬ (a = 181 ∧ i = 29)) : mtit f j q y t a i = f a i := by
  unfold mtit
  rw [m_ui_o (by omega), m_ui_o (by omega), m_ui_o (by omega), m_ui_o (by omega)]
theorem RW_tit {f : Nat → Nat → Int32} {n j q : Nat} {y t : Int32} (h : RW n f) (hj : j < n) (hT : TI f j q) (hq : q < 4) : RW n (mtit (wtit f j q y t) j q y t) := by
  obtain ⟨a1, a2, a3, a4, a5, a6⟩ := h
  obtain ⟨b1, b2, b3, b4, b5, b6⟩ := hT
  have hX : ∀ a i, a < 181 → mtit (wtit f j q y t) j q y t a i = wtit f j q y t a i := fun a i ha => mtit_o (by omega) (by omega) (by omega) (by omega)
  have hM : ∀ a i, 181 ≤ a → ¬ (a = 189 ∧ i = 4 * j + q) → ¬ (a = 190 ∧ i = 4 * j + q) → ¬ (a = 191 ∧ i = j) → ¬ (a = 181 ∧ i = 29) → mtit (wtit f j q y t) j q y t a i = f a i := fun a i ha h1 h2 h3 h4 => by
    rw [mtit_o h1 h2 h3 h4, tit_o (by omega) (by omega) (by omega)]
  refine ⟨a1, ?_, ?_, fun k hk => ?_, fun k hk => ?_, fun k hk => ?_⟩
  · rw [hX 6 13 (by omega), tit_o (by omega) (by omega) (by omega), a2]
  · rw [hM 181 0 (by omega) (by omega) (by omega) (by omega) (by omega), a3]
  · by_cases e : k = j
    · subst e
      obtain ⟨c1, c2, c3, c4, c5, c6, c7, _, c9⟩ := a4 k hk
      unfold RJ CU
      have w : ∀ a, a < 15 ∨ 97 ≤ a → a < 181 → mtit (wtit f k q y t) k q y t a k = f a k := fun a h1 h2 => by
        rw [hX a k (by omega), tit_o (by omega) (by omega) (by omega)]
      have m : ∀ a, 182 ≤ a → ¬ a = 189 → ¬ a = 190 → ¬ a = 191 → mtit (wtit f k q y t) k q y t a k = f a k := fun a h1 h2 h3 h4 => hM a k (by omega) (by omega) (by omega) (by omega) (by omega)
      rw [w 7 (by omega) (by omega), w 8 (by omega) (by omega), w 9 (by omega) (by omega), w 10 (by omega) (by omega), w 11 (by omega) (by omega), w 12 (by omega) (by omega), w 13 (by omega) (by omega), w 97 (by omega) (by omega), w 98 (by omega) (by omega), w 99 (by omega) (by omega), m 182 (by omega) (by omega) (by omega) (by omega), m 183 (by omega) (by omega) (by omega) (by omega), m 184 (by omega) (by omega) (by omega) (by omega), m 185 (by omega) (by omega) (by omega) (by omega), m 186 (by omega) (by omega) (by omega) (by omega), m 187 (by omega) (by omega) (by omega) (by omega), m 188 (by omega) (by omega) (by omega) (by omega), m 192 (by omega) (by omega) (by omega) (by omega), m 193 (by omega) (by omega) (by omega) (by omega), m 194 (by omega) (by omega) (by omega) (by omega)]
      refine ⟨c1, c2, c3, c4, c5, c6, c7, ⟨q + 1, by omega, by omega, ?_, ?_, fun s hs => ?_, fun s h1 hs => ?_⟩, c9⟩
      · rw [hX 96 k (by omega)]
        unfold wtit
        rw [m_ui_s, nI_1]
      · unfold mtit
        rw [m_ui_o (by omega), m_ui_s, nI_1]
      · by_cases es : s = q
        · subst es
          rw [hX (15 + k) s (by omega)]
          unfold wtit mtit
          rw [m_ui_o (by omega), m_ui_o (by omega), m_ui_s, m_ui_o (by omega), m_ui_o (by omega), m_ui_o (by omega), m_ui_s]
        · rw [hX (15 + k) s (by omega), tit_o (by omega) (by omega) (by omega), hM 189 _ (by omega) (by omega) (by omega) (by omega) (by omega), b5 s (by omega)]
      · by_cases es : s = q
        · subst es
          rw [hX (56 + k) s (by omega)]
          unfold wtit mtit
          rw [m_ui_o (by omega), m_ui_s, m_ui_o (by omega), m_ui_o (by omega), m_ui_s]
        · rw [hX (56 + k) s (by omega), tit_o (by omega) (by omega) (by omega), hM 190 _ (by omega) (by omega) (by omega) (by omega) (by omega), b6 s h1 (by omega)]
    · refine RJ_congr (f := f) (by omega) (fun a i p r s => ?_) (fun a p r r1 r2 => ?_) (fun s hs => ⟨?_, ?_⟩) (a4 k hk)
      · rw [hX a i (by omega), tit_o (by omega) (by omega) (by omega)]
      · exact hM a k (by omega) (by omega) (by omega) (by omega) (by omega)
      · exact hM 189 _ (by omega) (by omega) (by omega) (by omega) (by omega)
      · exact hM 190 _ (by omega) (by omega) (by omega) (by omega) (by omega)
  · rw [hX (56 + k) 0 (by omega), tit_o (by omega) (by omega) (by omega), a5 k hk]
  · rw [hM 192 k (by omega) (by omega) (by omega) (by omega) (by omega), a6 k hk]
theorem fin_retitle {n : Nat} {f f1 f2 : Nat → Nat → Int32} {x1 x2 x3 v1 v2 : Int32} (hG : GI f) (hR : RW n f) (s1 : SX_retitle n f f1 x1 x2 x3 v1) (s2 : SM_retitle n f1 f2 x1 x2 x3 v2) : GI f2 ∧ v1 = v2 := by
  have hn40 := hR.1
  have k1 := kx_retitle hn40 s1
  rcases s1 with ⟨q1, rfl, rfl⟩ | ⟨j, q, hj, ej, p1, p2, eq, hq1, hq4, s1⟩
  · rcases s2 with ⟨q2, rfl, rfl⟩ | ⟨j2, q2, hj2, ej2, r1, r2, _⟩
    · exact ⟨hG, rfl⟩
    · exact absurd ⟨⟨j2, hj2, ej2⟩, r1, r2⟩ q1
  · rcases s2 with ⟨q2, rfl, rfl⟩ | ⟨j2, q2, hj2, ej2, r1, r2, eq2, hq12, hq42, s2⟩
    · exact absurd ⟨⟨j, hj, ej⟩, p1, p2⟩ q2
    · have ejj : j = j2 := (nI_eq (by omega) (by omega)).mp (ej.symm.trans ej2)
      subst ejj
      obtain ⟨_, _, _, _, _, _, _, ⟨q9, T9⟩, _⟩ := hR.2.2.2.1 j hj
      have e9 : q9 = q := (nI_eq (by have := T9.2.1; omega) (by omega)).mp (T9.2.2.1.symm.trans eq)
      subst e9
      have e8 : q9 = q2 := (nI_eq (by omega) (by omega)).mp (T9.2.2.2.1.symm.trans ((k1 191 j rfl).symm.trans eq2))
      subst e8
      have hiff : titno f1 j q9 x2 ↔ x2 ≤ f (56 + j) (q9 - 1) := by
        unfold titno
        rw [k1 190 _ rfl]
        by_cases hh : 1 < q9
        · rw [T9.2.2.2.2.2 (q9 - 1) (by omega) (by omega), show 4 * j + (q9 - 1) = 4 * j + q9 - 1 by omega]
          exact ⟨fun x => x.2, fun x => ⟨hh, x⟩⟩
        · have h1 : q9 = 1 := by omega
          subst h1
          rw [hR.2.2.2.2.1 j (by omega)]
          constructor
          · exact fun x => absurd x.1 hh
          · intro x
            have a := Int32.le_iff_toInt_le.mp x
            have b := Int32.le_iff_toInt_le.mp p1.1
            have e0 : (0 : Int32).toInt = 0 := rfl
            have e1 : (1800 : Int32).toInt = 1800 := rfl
            omega
      rw [hiff] at s2
      rcases s1 with ⟨c1, rfl, rfl⟩ | ⟨c1, d1, rfl, rfl⟩ | ⟨c1, d1, rfl, rfl⟩
      · rcases s2 with ⟨c2, rfl, rfl⟩ | ⟨c2, d2, rfl, rfl⟩ | ⟨c2, d2, rfl, rfl⟩
        · exact ⟨hG, rfl⟩
        · exact absurd c1 c2
        · exact absurd c1 c2
      · rcases s2 with ⟨c2, rfl, rfl⟩ | ⟨c2, d2, rfl, rfl⟩ | ⟨c2, d2, rfl, rfl⟩
        · exact absurd c2 c1
        · exact ⟨hG, rfl⟩
        · omega
      · rcases s2 with ⟨c2, rfl, rfl⟩ | ⟨c2, d2, rfl, rfl⟩ | ⟨c2, d2, rfl, rfl⟩
        · exact absurd c2 c1
        · omega
        · exact ⟨GI_w hG k1 kp_mtit (XI_mtit (XI_wtit hG.1 (by omega) d1) d1) (RW_tit hR hj T9 d1), rfl⟩
theorem kx_cut {n : Nat} {f f1 : Nat → Nat → Int32} {x1 x2 x3 x4 v : Int32} (s : SX_cut n f f1 x1 x2 x3 x4 v) : kp [1] f f1 := by
  rcases s with ⟨_, _, rfl⟩ | ⟨j, hj, _, _, _, _, ⟨_, _, rfl⟩ | ⟨_, _, _, rfl⟩ | ⟨_, _, _, rfl⟩⟩
  · exact kp_refl _ _
  · exact kp_refl _ _
  · exact kp_refl _ _
  · exact kp_wcut
theorem wcut_o {f : Nat → Nat → Int32} {j a i : Nat} {y h w : Int32} (h1 : ¬ (97 ≤ a ∧ a ≤ 99 ∧ i = j)) : wcut f j y h w a i = f a i := by
  unfold wcut
  rw [m_ui_o (by omega), m_ui_o (by omega), m_ui_o (by omega)]
theorem mcut_o {f : Nat → Nat → Int32} {j a i : Nat} {y h w : Int32} (h1 : ¬ (192 ≤ a ∧ a ≤ 194 ∧ i = j)) (h4 : ¬ (a = 181 ∧ i = 29)) : mcut f j y h w a i = f a i := by
  unfold mcut
  rw [m_ui_o (by omega), m_ui_o (by omega), m_ui_o (by omega), m_ui_o (by omega)]
theorem RW_cut {f : Nat → Nat → Int32} {n j : Nat} {y h w : Int32} (hR : RW n f) (hj : j < n) (hy : inr 1800 1999 y) : RW n (mcut (wcut f j y h w) j y h w) := by
  obtain ⟨a1, a2, a3, a4, a5, a6⟩ := hR
  have hX : ∀ a i, a < 181 → ¬ (97 ≤ a ∧ a ≤ 99 ∧ i = j) → mcut (wcut f j y h w) j y h w a i = f a i := fun a i ha h1 => by
    rw [mcut_o (by omega) (by omega), wcut_o h1]
  have hM : ∀ a i, 181 ≤ a → ¬ (192 ≤ a ∧ a ≤ 194 ∧ i = j) → ¬ (a = 181 ∧ i = 29) → mcut (wcut f j y h w) j y h w a i = f a i := fun a i ha h1 h2 => by
    rw [mcut_o h1 h2, wcut_o (by omega)]
  refine ⟨a1, ?_, ?_, fun k hk => ?_, fun k hk => ?_, fun k hk => ?_⟩
  · rw [hX 6 13 (by omega) (by omega), a2]
  · rw [hM 181 0 (by omega) (by omega) (by omega), a3]
  · by_cases e : k = j
    · subst e
      obtain ⟨c1, c2, c3, c4, c5, c6, c7, ⟨q, b1, b2, b3, b4, b5, b6⟩, c9⟩ := a4 k hk
      unfold RJ
      rw [hX 7 k (by omega) (by omega), hX 8 k (by omega) (by omega), hX 9 k (by omega) (by omega), hX 10 k (by omega) (by omega), hX 11 k (by omega) (by omega), hX 12 k (by omega) (by omega), hX 13 k (by omega) (by omega), hM 182 k (by omega) (by omega) (by omega), hM 183 k (by omega) (by omega) (by omega), hM 184 k (by omega) (by omega) (by omega), hM 185 k (by omega) (by omega) (by omega), hM 186 k (by omega) (by omega) (by omega), hM 187 k (by omega) (by omega) (by omega), hM 188 k (by omega) (by omega) (by omega)]
      refine ⟨c1, c2, c3, c4, c5, c6, c7, ⟨q, b1, b2, ?_, ?_, fun s hs => ?_, fun s h1 hs => ?_⟩, Or.inr ?_⟩
      · rw [hX 96 k (by omega) (by omega), b3]
      · rw [hM 191 k (by omega) (by omega) (by omega), b4]
      · rw [hX (15 + k) s (by omega) (by omega), hM 189 _ (by omega) (by omega) (by omega), b5 s hs]
      · rw [hX (56 + k) s (by omega) (by omega), hM 190 _ (by omega) (by omega) (by omega), b6 s h1 hs]
      · unfold mcut wcut
        rw [m_ui_o (by omega), m_ui_o (by omega), m_ui_o (by omega), m_ui_o (by omega), m_ui_o (by omega), m_ui_o (by omega), m_ui_s, m_ui_o (by omega), m_ui_o (by omega), m_ui_o (by omega), m_ui_s, m_ui_o (by omega), m_ui_o (by omega), m_ui_o (by omega), m_ui_o (by omega), m_ui_o (by omega), m_ui_s, m_ui_o (by omega), m_ui_o (by omega), m_ui_s, m_ui_o (by omega), m_ui_o (by omega), m_ui_o (by omega), m_ui_o (by omega), m_ui_s, m_ui_o (by omega), m_ui_s]
        exact ⟨rfl, hy, rfl, rfl⟩
    · refine RJ_congr (f := f) (by omega) (fun a i p r s => ?_) (fun a p r r1 r2 => ?_) (fun s hs => ⟨?_, ?_⟩) (a4 k hk)
      · exact hX a i (by omega) (by omega)
      · exact hM a k (by omega) (by omega) (by omega)
      · exact hM 189 _ (by omega) (by omega) (by omega)
      · exact hM 190 _ (by omega) (by omega) (by omega)
  · rw [hX (56 + k) 0 (by omega) (by omega), a5 k hk]
  · rw [hM 192 k (by omega) (by omega) (by omega), a6 k hk]
theorem fin_cut {n : Nat} {f f1 f2 : Nat → Nat → Int32} {x1 x2 x3 x4 v1 v2 : Int32} (hG : GI f) (hR : RW n f) (s1 : SX_cut n f f1 x1 x2 x3 x4 v1) (s2 : SM_cut n f1 f2 x1 x2 x3 x4 v2) : GI f2 ∧ v1 = v2 := by
  have hn40 := hR.1
  have k1 := kx_cut s1
  rcases s1 with ⟨q1, rfl, rfl⟩ | ⟨j, hj, ej, p1, p2, p3, s1⟩
  · rcases s2 with ⟨q2, rfl, rfl⟩ | ⟨j2, hj2, ej2, r1, r2, r3, _⟩
    · exact ⟨hG, rfl⟩
    · exact absurd ⟨⟨j2, hj2, ej2⟩, r1, r2, r3⟩ q1
  · rcases s2 with ⟨q2, rfl, rfl⟩ | ⟨j2, hj2, ej2, r1, r2, r3, s2⟩
    · exact absurd ⟨⟨j, hj, ej⟩, p1, p2, p3⟩ q2
    · have ejj : j = j2 := (nI_eq (by omega) (by omega)).mp (ej.symm.trans ej2)
      subst ejj
      obtain ⟨c1, _, c3, c4, _, _, _, _, c9⟩ := hR.2.2.2.1 j hj
      have hk := k_23 (xi_7 hG.1 j)
      have hkk : f1 182 j = f 7 j := (k1 182 j rfl).trans c1.symm
      have hiff : cutokm f1 j x3 x4 ↔ cutok f j x3 x4 := by
        unfold cutokm cutok
        rw [k1 192 j rfl, k1 185 j rfl, k1 186 j rfl, ← c3, ← c4]
        rcases c9 with ⟨u1, u2⟩ | ⟨u1, u2, _⟩
        · rw [u1, u2]
          exact ⟨fun x => ⟨rfl, x.2⟩, fun x => ⟨by decide, x.2⟩⟩
        · rw [u1]
          have a := Int32.le_iff_toInt_le.mp u2.1
          have b := Int32.le_iff_toInt_le.mp u2.2
          have e0 : (0 : Int32).toInt = 0 := rfl
          have e1 : (1800 : Int32).toInt = 1800 := rfl
          have e2 : (1999 : Int32).toInt = 1999 := rfl
          have e3 : (2000 : Int32).toInt = 2000 := rfl
          constructor
          · intro x
            refine absurd ?_ x.1
            rw [Int32.lt_iff_toInt_lt]
            omega
          · intro x
            have := congrArg Int32.toInt x.1
            omega
      rw [hkk, hiff] at s2
      rcases s1 with ⟨d1, rfl, rfl⟩ | ⟨d1, g1, rfl, rfl⟩ | ⟨d1, g1, rfl, rfl⟩
      · rcases s2 with ⟨d2, rfl, rfl⟩ | ⟨d2, g2, rfl, rfl⟩ | ⟨d2, g2, rfl, rfl⟩
        · exact ⟨hG, rfl⟩
        · exact absurd (hk.mpr d2) d1
        · exact absurd (hk.mpr d2) d1
      · rcases s2 with ⟨d2, rfl, rfl⟩ | ⟨d2, g2, rfl, rfl⟩ | ⟨d2, g2, rfl, rfl⟩
        · exact absurd (hk.mp d1) (i32_nle.mpr d2)
        · exact ⟨hG, rfl⟩
        · exact absurd g2 g1
      · rcases s2 with ⟨d2, rfl, rfl⟩ | ⟨d2, g2, rfl, rfl⟩ | ⟨d2, g2, rfl, rfl⟩
        · exact absurd (hk.mp d1) (i32_nle.mpr d2)
        · exact absurd g1 g2
        · exact ⟨GI_w hG k1 kp_mcut (XI_mcut (XI_wcut hG.1)) (RW_cut hR hj p1), rfl⟩
