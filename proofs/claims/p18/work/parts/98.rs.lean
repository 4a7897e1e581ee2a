theorem m_z_o {f : Nat → Nat → Int32} {b k a i : Nat} (h : ¬ (a = 226 ∧ b ≤ i ∧ i < b + k)) : m_z f b k a i = f a i := if_neg h
theorem m_fil_o {f : Nat → Nat → Int32} {k n a i : Nat} {v : Int32} (h : ¬ (a = k ∧ i < n)) : m_fil f k n v a i = f a i := by
  rw [m_fil_ap, if_neg h]
theorem lay_180 {f : Nat → Nat → Int32} {s i : Nat} {l n : Int32} (hs : s < 4) : lay f s l n 180 i = if i = s then n else f 180 i := by
  unfold lay
  by_cases e : i = s
  · rw [if_pos e, m_ui_s' e]
  · rw [if_neg e, m_ui_o (by omega), m_ui_o (by omega), m_fil_o (by omega)]
theorem lay_179 {f : Nat → Nat → Int32} {s i : Nat} {l n : Int32} (hs : s < 4) : lay f s l n 179 i = if i = s then l else f 179 i := by
  unfold lay
  by_cases e : i = s
  · rw [if_pos e, m_ui_o (by omega), m_ui_s' e]
  · rw [if_neg e, m_ui_o (by omega), m_ui_o (by omega), m_fil_o (by omega)]
theorem lay_row {f : Nat → Nat → Int32} {s t k : Nat} {l n : Int32} (hs : s < 4) (ht : t < 4) (hk : k < 60) : lay f s l n (175 + t) k = if t = s then 0 else f (175 + t) k := by
  unfold lay
  by_cases e : t = s
  · subst e
    rw [if_pos rfl, m_ui_o (by omega), m_ui_o (by omega), m_fil_ap, if_pos ⟨rfl, hk⟩]
  · rw [if_neg e, m_ui_o (by omega), m_ui_o (by omega), m_fil_o (by omega)]
theorem kp_lay {f : Nat → Nat → Int32} {s : Nat} {l n : Int32} (hs : s < 4) : kp [8] f (lay f s l n) := by
  unfold lay
  refine kp_ui rfl (kp_ui rfl (kp_fil ?_ (kp_refl _ _)))
  have h4 : s = 0 ∨ s = 1 ∨ s = 2 ∨ s = 3 := by omega
  rcases h4 with rfl | rfl | rfl | rfl <;> rfl
theorem okv_173 {a i : Nat} {v : Int32} (h : 173 ≤ a) (h' : a < 180) : okv a i v := by
  unfold okv
  repeat rw [if_neg (by omega)]
  trivial
theorem XI_lay {f : Nat → Nat → Int32} {s : Nat} {l n : Int32} (hX : XI f) (hs : s < 4) (hn : inr 0 60 n) : XI (lay f s l n) := by
  unfold lay
  refine XI_ui (XI_ui (XI_fil hX (fun i => okv_173 (by omega) (by omega))) True.intro) (show inr (-1) 60 n from ⟨?_, hn.2⟩)
  have a := Int32.le_iff_toInt_le.mp hn.1
  rw [Int32.le_iff_toInt_le]
  have e0 : (0 : Int32).toInt = 0 := rfl
  have e1 : (-1 : Int32).toInt = -1 := rfl
  omega
theorem mlay_224 {f : Nat → Nat → Int32} {s i : Nat} {l n : Int32} : mlay f s l n 224 i = if i = s then l else f 224 i := by
  unfold mlay
  rw [m_z_o (by omega)]
  by_cases e : i = s
  · rw [if_pos e, m_ui_o (by omega), m_ui_s' e]
  · rw [if_neg e, m_ui_o (by omega), m_ui_o (by omega)]
theorem mlay_225 {f : Nat → Nat → Int32} {s i : Nat} {l n : Int32} : mlay f s l n 225 i = if i = s then n else f 225 i := by
  unfold mlay
  rw [m_z_o (by omega)]
  by_cases e : i = s
  · rw [if_pos e, m_ui_s' e]
  · rw [if_neg e, m_ui_o (by omega), m_ui_o (by omega)]
theorem mlay_226 {f : Nat → Nat → Int32} {s t k : Nat} {l n : Int32} (hk : k < 60) : mlay f s l n 226 (60 * t + k) = if t = s then 0 else f 226 (60 * t + k) := by
  show (if 226 = 226 ∧ 60 * s ≤ 60 * t + k ∧ 60 * t + k < 60 * s + 60 then 0 else m_ui (m_ui f 224 s l) 225 s n 226 (60 * t + k)) = _
  by_cases e : t = s
  · rw [if_pos (by omega), if_pos e]
  · rw [if_neg (by omega), if_neg e, m_ui_o (by omega), m_ui_o (by omega)]
theorem kp_mlay {f : Nat → Nat → Int32} {s : Nat} {l n : Int32} : kp [18] f (mlay f s l n) := fun a i q => by
  unfold mlay
  by_cases e : a = 226
  · subst e
    exact absurd (show true = false from q) (by decide)
  · rw [m_z_o (fun z => e z.1)]
    exact kp_ui (l := [18]) rfl (kp_ui rfl (kp_refl _ _)) a i q
theorem XI_mlay {f : Nat → Nat → Int32} {s : Nat} {l n : Int32} (hX : XI f) (hn : inr 0 60 n) : XI (mlay f s l n) := fun a i => by
  unfold mlay
  by_cases e : a = 226
  · subst e
    exact True.intro
  · rw [m_z_o (fun z => e z.1)]
    have h9 := XI_ui (k := 225) (j := s) (v := n) (XI_ui (k := 224) (j := s) (v := l) hX True.intro) (show inr 0 60 n from hn)
    exact h9 a i
theorem kx_sheet {f f1 : Nat → Nat → Int32} {x1 x2 x3 v : Int32} (s : SX_sheet f f1 x1 x2 x3 v) : kp [8] f f1 := by
  rcases s with ⟨_, _, rfl⟩ | ⟨_, _, _, rfl⟩ | ⟨t, ht, _, _, _, _, rfl⟩
  · exact kp_refl _ _
  · exact kp_refl _ _
  · exact kp_lay ht
theorem km_sheet {f f1 : Nat → Nat → Int32} {x1 x2 x3 v : Int32} (s : SM_sheet f f1 x1 x2 x3 v) : kp [18] f f1 := by
  rcases s with ⟨_, _, rfl⟩ | ⟨_, _, _, rfl⟩ | ⟨t, ht, _, _, _, _, rfl⟩
  · exact kp_refl _ _
  · exact kp_refl _ _
  · exact kp_mlay
theorem fin_sheet {f f1 f2 : Nat → Nat → Int32} {x1 x2 x3 v1 v2 : Int32} (hX : XI f) (hS : RS f) (s1 : SX_sheet f f1 x1 x2 x3 v1) (s2 : SM_sheet f1 f2 x1 x2 x3 v2) : XI f2 ∧ RS f2 ∧ v1 = v2 := by
  rcases s1 with ⟨q1, rfl, rfl⟩ | ⟨q1, r1, rfl, rfl⟩ | ⟨s, hs, e1, p2, p3, ev1, rfl⟩
  · rcases s2 with ⟨q2, rfl, rfl⟩ | ⟨q2, r2, rfl, rfl⟩ | ⟨t, ht, e2, u2, u3, ev2, rfl⟩
    · exact ⟨hX, hS, rfl⟩
    · exact absurd q2 q1
    · exact absurd ⟨⟨by rw [e2]; exact inr_n (m := 3) (by omega) rfl (by decide), u2⟩, u3.2⟩ q1
  · rcases s2 with ⟨q2, rfl, rfl⟩ | ⟨q2, r2, rfl, rfl⟩ | ⟨t, ht, e2, u2, u3, ev2, rfl⟩
    · exact absurd q1 q2
    · exact ⟨hX, hS, rfl⟩
    · exact absurd r1 (i32_nlt.mpr u3.1)
  · rcases s2 with ⟨q2, rfl, rfl⟩ | ⟨q2, r2, rfl, rfl⟩ | ⟨t, ht, e2, u2, u3, ev2, rfl⟩
    · exact absurd ⟨⟨by rw [e1]; exact inr_n (m := 3) (by omega) rfl (by decide), p2⟩, p3.2⟩ q2
    · exact absurd r2 (i32_nlt.mpr p3.1)
    · have est : s = t := (nI_eq (by omega) (by omega)).mp (e1.symm.trans e2)
      subst est
      refine ⟨XI_mlay (XI_lay hX hs p3) p3, fun t ht => ?_, ev1.trans ev2.symm⟩
      have k2 := kp_mlay (f := lay f s x2 x3) (s := s) (l := x2) (n := x3)
      have k1 := kp_lay (f := f) (l := x2) (n := x3) hs
      rw [k2 180 t rfl, k2 179 t rfl, mlay_224, mlay_225, lay_180 hs, lay_179 hs, k1 224 t rfl, k1 225 t rfl]
      by_cases e : t = s
      · simp only [if_pos e]
        refine Or.inr ⟨trivial, p2, trivial, p3, fun k hk => ?_⟩
        rw [k2 (175 + t) k (by rw [cmp_8 _ (by omega) (by omega)]; rfl), mlay_226 hk, lay_row hs ht hk, if_pos e, if_pos e]
      · simp only [if_neg e]
        rcases hS t ht with q | ⟨a, b, c, d, g⟩
        · exact Or.inl q
        · refine Or.inr ⟨a, b, c, d, fun k hk => ?_⟩
          rw [k2 (175 + t) k (by rw [cmp_8 _ (by omega) (by omega)]; rfl), mlay_226 hk, lay_row hs ht hk, if_neg e, if_neg e, k1 226 _ rfl, g k hk]
theorem kx_drop {f f1 : Nat → Nat → Int32} {x1 v : Int32} (s : SX_drop f f1 x1 v) : kp [8] f f1 := by
  rcases s with ⟨_, _, rfl⟩ | ⟨t, ht, _, ⟨_, _, rfl⟩ | ⟨_, _, rfl⟩⟩
  · exact kp_refl _ _
  · exact kp_refl _ _
  · exact kp_ui rfl (kp_refl _ _)
theorem km_drop {f f1 : Nat → Nat → Int32} {x1 v : Int32} (s : SM_drop f f1 x1 v) : kp [18] f f1 := by
  rcases s with ⟨_, _, rfl⟩ | ⟨t, ht, _, ⟨_, _, rfl⟩ | ⟨_, _, rfl⟩⟩
  · exact kp_refl _ _
  · exact kp_refl _ _
  · exact kp_ui rfl (kp_refl _ _)
theorem n1_lt : (-1 : Int32) < 0 := by decide
theorem fin_drop {f f1 f2 : Nat → Nat → Int32} {x1 v1 v2 : Int32} (hX : XI f) (hS : RS f) (s1 : SX_drop f f1 x1 v1) (s2 : SM_drop f1 f2 x1 v2) : XI f2 ∧ RS f2 ∧ v1 = v2 := by
  have k1 := kx_drop s1
  rcases s1 with ⟨q1, rfl, rfl⟩ | ⟨s, hs, e1, s1⟩
  · rcases s2 with ⟨q2, rfl, rfl⟩ | ⟨t, ht, e2, _⟩
    · exact ⟨hX, hS, rfl⟩
    · exact absurd (by rw [e2]; exact inr_n (m := 3) (by omega) rfl (by decide)) q1
  · rcases s2 with ⟨q2, rfl, rfl⟩ | ⟨t, ht, e2, s2⟩
    · exact absurd (by rw [e1]; exact inr_n (m := 3) (by omega) rfl (by decide)) q2
    · have est : s = t := (nI_eq (by omega) (by omega)).mp (e1.symm.trans e2)
      subst est
      rw [k1 224 s rfl, k1 225 s rfl] at s2
      rcases hS s hs with ⟨u1, u2⟩ | ⟨a, b, c, d, g⟩
      · rcases s1 with ⟨r1, rfl, rfl⟩ | ⟨r1, rfl, rfl⟩
        · rcases s2 with ⟨r2, rfl, rfl⟩ | ⟨r2, rfl, rfl⟩
          · exact ⟨hX, hS, rfl⟩
          · exact absurd (by rw [u2]; exact n1_lt) r2
        · exact absurd u1 r1
      · have hne : ¬ f 180 s = -1 := fun z => by
          have := d.1
          rw [← c, z] at this
          exact absurd this (by decide)
        rcases s1 with ⟨r1, rfl, rfl⟩ | ⟨r1, rfl, rfl⟩
        · exact absurd r1 hne
        · rcases s2 with ⟨r2, rfl, rfl⟩ | ⟨r2, rfl, rfl⟩
          · exact absurd r2 (i32_nlt.mpr b.1)
          · refine ⟨XI_ui (XI_ui hX (show inr (-1) 60 (-1) by unfold inr; decide)) True.intro, fun t ht => ?_, c⟩
            by_cases e : t = s
            · subst e
              refine Or.inl ⟨?_, m_ui_s⟩
              rw [m_ui_o (by omega), m_ui_s]
            · rw [m_ui_o (by omega), m_ui_o (by omega), m_ui_o (by omega), m_ui_o (by omega), m_ui_o (by omega), m_ui_o (by omega), m_ui_o (by omega), m_ui_o (by omega)]
              rcases hS t ht with q | ⟨a', b', c', d', g'⟩
              · exact Or.inl q
              · exact Or.inr ⟨a', b', c', d', fun k hk => by rw [m_ui_o (by omega), m_ui_o (by omega), m_ui_o (by omega), m_ui_o (by omega), g' k hk]⟩
theorem kx_item {f f1 : Nat → Nat → Int32} {x1 x2 x3 x4 v : Int32} (s : SX_item f f1 x1 x2 x3 x4 v) : kp [8] f f1 := by
  rcases s with ⟨_, _, rfl⟩ | ⟨t, ht, _, _, ⟨_, _, rfl⟩ | ⟨_, _, _, rfl⟩ | ⟨_, _, _, _, rfl⟩ | ⟨_, _, _, k, _, _, _, rfl⟩⟩
  · exact kp_refl _ _
  · exact kp_refl _ _
  · exact kp_refl _ _
  · exact kp_refl _ _
  · exact kp_ui (by rw [cmp_8 _ (by omega) (by omega)]; rfl) (kp_refl _ _)
theorem km_item {f f1 : Nat → Nat → Int32} {x1 x2 x3 x4 v : Int32} (s : SM_item f f1 x1 x2 x3 x4 v) : kp [18] f f1 := by
  rcases s with ⟨_, _, rfl⟩ | ⟨t, ht, _, _, ⟨_, _, _, rfl⟩ | ⟨_, _, _, rfl⟩ | ⟨_, _, _, rfl⟩ | ⟨_, _, k, _, _, _, rfl⟩⟩
  · exact kp_refl _ _
  · exact kp_refl _ _
  · exact kp_refl _ _
  · exact kp_refl _ _
  · exact kp_ui rfl (kp_refl _ _)
theorem fin_item {f f1 f2 : Nat → Nat → Int32} {x1 x2 x3 x4 v1 v2 : Int32} (hX : XI f) (hS : RS f) (s1 : SX_item f f1 x1 x2 x3 x4 v1) (s2 : SM_item f1 f2 x1 x2 x3 x4 v2) : XI f2 ∧ RS f2 ∧ v1 = v2 := by
  have k1 := kx_item s1
  rcases s1 with ⟨q1, rfl, rfl⟩ | ⟨s, hs, e1, p2, s1⟩
  · rcases s2 with ⟨q2, rfl, rfl⟩ | ⟨t, ht, e2, p2, _⟩
    · exact ⟨hX, hS, rfl⟩
    · exact absurd ⟨by rw [e2]; exact inr_n (m := 3) (by omega) rfl (by decide), p2⟩ q1
  · rcases s2 with ⟨q2, rfl, rfl⟩ | ⟨t, ht, e2, _, s2⟩
    · exact absurd ⟨by rw [e1]; exact inr_n (m := 3) (by omega) rfl (by decide), p2⟩ q2
    · have est : s = t := (nI_eq (by omega) (by omega)).mp (e1.symm.trans e2)
      subst est
      rw [k1 224 s rfl, k1 225 s rfl] at s2
      rcases hS s hs with ⟨u1, u2⟩ | ⟨a, b, c, d, g⟩
      · have hn : ¬ f 224 s = x2 := fun z => by
          have := p2.1
          rw [← z, u2] at this
          exact absurd this (by decide)
        have hl : f 224 s < 0 := by rw [u2]; exact n1_lt
        rcases s1 with ⟨_, rfl, rfl⟩ | ⟨r1, _⟩ | ⟨r1, _⟩ | ⟨r1, _⟩
        · rcases s2 with ⟨_, _, rfl, rfl⟩ | ⟨_, r2, _⟩ | ⟨r2, _⟩ | ⟨r2, _⟩
          · exact ⟨hX, hS, rfl⟩
          · exact absurd hl r2
          · exact absurd r2 hn
          · exact absurd r2 hn
        · exact absurd u1 r1
        · exact absurd u1 r1
        · exact absurd u1 r1
      · have hne : ¬ f 180 s = -1 := fun z => by
          have := d.1
          rw [← c, z] at this
          exact absurd this (by decide)
        have hnl : ¬ f 224 s < 0 := i32_nlt.mpr b.1
        have hix : inr 0 (f 225 s - 1) x3 ↔ ¬ (x3 < 0 ∨ f 180 s - 1 < x3) := by
          rw [c]
          constructor
          · exact fun z q => q.elim (fun w => absurd w (i32_nlt.mpr z.1)) (fun w => absurd w (i32_nlt.mpr z.2))
          · exact fun z => ⟨i32_nlt.mp (fun w => z (Or.inl w)), i32_nlt.mp (fun w => z (Or.inr w))⟩
        rw [a] at s1
        rcases s1 with ⟨r1, _⟩ | ⟨_, r1, rfl, rfl⟩ | ⟨_, r1, r1', rfl, rfl⟩ | ⟨_, r1, r1', k, hk, ek, rfl, rfl⟩
        · exact absurd r1 hne
        · rcases s2 with ⟨_, r2, _⟩ | ⟨_, _, rfl, rfl⟩ | ⟨r2, _⟩ | ⟨r2, _⟩
          · exact absurd r2 hnl
          · exact ⟨hX, hS, rfl⟩
          · exact absurd r2 r1
          · exact absurd r2 r1
        · rcases s2 with ⟨r2, _⟩ | ⟨r2, _⟩ | ⟨_, _, rfl, rfl⟩ | ⟨_, r2, _⟩
          · exact absurd r1 r2
          · exact absurd r1 r2
          · exact ⟨hX, hS, rfl⟩
          · exact absurd r1' (hix.mp r2)
        · rcases s2 with ⟨r2, _⟩ | ⟨r2, _⟩ | ⟨_, r2, _⟩ | ⟨_, _, k', hk', ek', rfl, rfl⟩
          · exact absurd r1 r2
          · exact absurd r1 r2
          · exact absurd (hix.mpr r1') r2
          · have ekk : k = k' := (nI_eq (by omega) (by omega)).mp (ek.symm.trans ek')
            subst ekk
            rw [← sx16]
            refine ⟨XI_ui (XI_ui hX (okv_173 (by omega) (by omega))) True.intro, fun t ht => ?_, rfl⟩
            rw [m_ui_o (by omega), m_ui_o (by omega), m_ui_o (by omega), m_ui_o (by omega), m_ui_o (by omega), m_ui_o (by omega), m_ui_o (by omega), m_ui_o (by omega)]
            rcases hS t ht with q | ⟨a', b', c', d', g'⟩
            · exact Or.inl q
            · refine Or.inr ⟨a', b', c', d', fun i hi => ?_⟩
              by_cases e : t = s ∧ i = k
              · obtain ⟨rfl, rfl⟩ := e
                rw [m_ui_o (by omega), m_ui_s, m_ui_s]
              · rw [m_ui_o (by omega), m_ui_o (by omega), m_ui_o (by omega), m_ui_o (by omega), g' i hi]
