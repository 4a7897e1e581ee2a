theorem inr_03 {x : Int32} (h : inr 0 3 x) : ∃ m : Nat, m ≤ 3 ∧ x = nI m ∧ 60 * x = nI (60 * m) := by
  rcases inr_c3 h with rfl | rfl | rfl | rfl
  · exact ⟨0, by decide, rfl, rfl⟩
  · exact ⟨1, by decide, rfl, rfl⟩
  · exact ⟨2, by decide, rfl, rfl⟩
  · exact ⟨3, by decide, rfl, rfl⟩
set_option maxRecDepth 100000 in
theorem sh_loop {d L m : Nat} {x y w : Int32} {g : Nat → Nat → Int64} {R : Option Value → mH → Prop} (hm : m ≤ 3) (hx : 60 * x = nI (60 * m)) (H : ∀ f' g', R (some (.int w)) (shF L, f', g')) :
    ∀ (k i : Nat) (f : Nat → Nat → Int32), i + k = 60 → WPe pg_X11_sheet none (Run mtab d) R (m_drop pg_X11_sheet 25) [some (.ref 181), some (.int x), some (.int y), some (.int w), some (.int (nI i))] [] (shF L, f, g)
  | 0, i, f, hi => by
    have e : i = 60 := by omega
    subst e
    refine at_X11_sheet ?_
    conv => whnf
    refine ⟨fun c => ?_, fun c => absurd (by decide) c⟩
    conv => whnf
    exact H _ _
  | k + 1, i, f, hi => by
    refine at_X11_sheet ?_
    conv => whnf
    refine ⟨fun c => absurd c (nI_ge (b := 60) (by omega) (by decide)), fun c => ?_⟩
    conv => whnf
    refine ⟨?_, ?_⟩
    · show vp_in (60 * x + nI i) _
      rw [hx, nI_add]
      exact vp_in_nI (by omega) (by decide)
    · conv => whnf
      have ih := fun a => sh_loop (d := d) (L := L) (y := y) (g := g) hm hx H k (i + 1) (m_ui f 226 a 0) (by omega)
      rw [nI_succ] at ih
      exact ih _
set_option maxRecDepth 100000 in
set_option maxHeartbeats 4000000 in
theorem m_sheet {d L : Nat} {f : Nat → Nat → Int32} {g : Nat → Nat → Int64} {x y w : Int32} {R : Option Value → mH → Prop} (hd : 4 ≤ d) (H : ∀ v f' g', v3 (inr 0 3 x ∧ inr 0 2 y ∧ ¬ 60 < w) (w < 0) (-1) (-14) w v → R (some (.int v)) (shF L, f', g')) : Run mtab d 237 [.ref 181, .int x, .int y, .int w] (shF L, f, g) R := by
  obtain ⟨d, rfl⟩ : ∃ e, d = e + 1 := ⟨d - 1, by omega⟩
  refine go_X11_sheet rfl ?_
  conv => whnf
  repeat' first
    | (refine ⟨vpi (And.left ‹inr 0 3 x ∧ inr 0 2 y›) (by decide), ?_⟩ <;> conv => whnf)
    | (obtain ⟨mm, m1, m2, m3⟩ := inr_03 (And.left ‹inr 0 3 x ∧ inr 0 2 y›); exact sh_loop m1 m3 (fun f' g' => H _ f' g' (v3_z (by simp only [← i32_nle] at *; grind) (by simp only [← i32_nle] at *; grind))) 60 0 _ (by omega))
    | (refine ⟨by decide, ?_⟩ <;> conv => whnf)
    | (refine ⟨by unfold vp_in; decide, ?_⟩ <;> conv => whnf)
    | (refine ⟨fun c => ?_, fun c => ?_⟩ <;> first | exact absurd c (by decide) | exact absurd (by decide) c | (conv => whnf))
    | (refine ct_mIsSheet (by omega) (fun p => ?_) (fun p => ?_) <;> conv => whnf)
    | fail
  all_goals first | exact H _ _ _ (v3_n (by simp only [← i32_nle] at *; grind)) | exact H _ _ _ (v3_y (by simp only [← i32_nle] at *; grind) (by simp only [← i32_nle] at *; grind)) | exact H _ _ _ (v3_z (by simp only [← i32_nle] at *; grind) (by simp only [← i32_nle] at *; grind))
set_option maxRecDepth 100000 in
set_option maxHeartbeats 4000000 in
theorem m_drop_ {d L : Nat} {f : Nat → Nat → Int32} {g : Nat → Nat → Int64} {x : Int32} {R : Option Value → mH → Prop} (hd : 3 ≤ d) (hl : ∀ i, i < 4 → f 224 i = -1) (H1 : inr 0 3 x → R (some (.int (-11))) (shF L, f, g)) (H0 : ¬ inr 0 3 x → R (some (.int (-1))) (shF L, f, g)) : Run mtab d 238 [.ref 181, .int x] (shF L, f, g) R := by
  obtain ⟨d, rfl⟩ : ∃ e, d = e + 1 := ⟨d - 1, by omega⟩
  refine go_X11_drop rfl ?_
  conv => whnf
  have l0 : f 224 (Int32.toNatClampNeg 0) = -1 := hl 0 (by decide)
  have l1 : f 224 (Int32.toNatClampNeg 1) = -1 := hl 1 (by decide)
  have l2 : f 224 (Int32.toNatClampNeg 2) = -1 := hl 2 (by decide)
  have l3 : f 224 (Int32.toNatClampNeg 3) = -1 := hl 3 (by decide)
  by_cases q : inr 0 3 x
  · have H := H1 q
    rcases inr_c3 q with rfl | rfl | rfl | rfl
    all_goals
      repeat' first
        | exact absurd (by unfold inr; decide) p
        | (simp only [l0, l1, l2, l3])
        | (refine ⟨by decide, ?_⟩ <;> conv => whnf)
        | (refine ⟨by unfold vp_in; decide, ?_⟩ <;> conv => whnf)
        | (refine ⟨fun c => ?_, fun c => ?_⟩ <;> first | exact absurd c (by decide) | exact absurd (by decide) c | (conv => whnf))
        | (refine ct_in (by omega) rfl (lo := 0) rfl (hi := 3) rfl (fun p => ?_) (fun p => ?_) <;> conv => whnf)
        | fail
    all_goals exact H
  · have H := H0 q
    repeat' first
      | (exact absurd ‹inr 0 3 x› q)
      | (refine ⟨by decide, ?_⟩ <;> conv => whnf)
      | (refine ⟨by unfold vp_in; decide, ?_⟩ <;> conv => whnf)
      | (refine ⟨fun c => ?_, fun c => ?_⟩ <;> first | exact absurd c (by decide) | exact absurd (by decide) c | (conv => whnf))
      | (refine ct_in (by omega) rfl (lo := 0) rfl (hi := 3) rfl (fun p => ?_) (fun p => ?_) <;> conv => whnf)
      | fail
    all_goals exact H
set_option maxRecDepth 100000 in
set_option maxHeartbeats 4000000 in
theorem m_item {d L : Nat} {f : Nat → Nat → Int32} {g : Nat → Nat → Int64} {x y w u : Int32} {R : Option Value → mH → Prop} (hd : 3 ≤ d) (hl : ∀ i, i < 4 → f 224 i = -1) (H1 : inr 0 3 x ∧ inr 0 2 y → R (some (.int (-11))) (shF L, f, g)) (H0 : ¬ (inr 0 3 x ∧ inr 0 2 y) → R (some (.int (-1))) (shF L, f, g)) : Run mtab d 239 [.ref 181, .int x, .int y, .int w, .int u] (shF L, f, g) R := by
  obtain ⟨d, rfl⟩ : ∃ e, d = e + 1 := ⟨d - 1, by omega⟩
  refine go_X11_item rfl ?_
  conv => whnf
  have l0 : f 224 (Int32.toNatClampNeg 0) = -1 := hl 0 (by decide)
  have l1 : f 224 (Int32.toNatClampNeg 1) = -1 := hl 1 (by decide)
  have l2 : f 224 (Int32.toNatClampNeg 2) = -1 := hl 2 (by decide)
  have l3 : f 224 (Int32.toNatClampNeg 3) = -1 := hl 3 (by decide)
  by_cases q : inr 0 3 x ∧ inr 0 2 y
  · have H := H1 q
    obtain ⟨q1, q2⟩ := q
    rcases inr_c3 q1 with rfl | rfl | rfl | rfl
    all_goals
      repeat' first
        | exact absurd ⟨by unfold inr; decide, by grind⟩ ‹¬ (inr 0 3 _ ∧ inr 0 2 y)›
        | exact absurd (by grind) ‹¬ (inr 0 10 u)›
        | exact absurd (show inr 0 2 (-1) from ‹-1 = y› ▸ (by grind : inr 0 2 y)) (by unfold inr; decide)
        | (simp only [l0, l1, l2, l3])
        | (refine ⟨by decide, ?_⟩ <;> conv => whnf)
        | (refine ⟨by unfold vp_in; decide, ?_⟩ <;> conv => whnf)
        | (refine ⟨fun c => ?_, fun c => ?_⟩ <;> first | exact absurd c (by decide) | exact absurd (by decide) c | (conv => whnf))
        | (refine ct_mIsSheet (by omega) (fun p => ?_) (fun p => ?_) <;> conv => whnf)
        | fail
    all_goals exact H
  · have H := H0 q
    repeat' first
      | (exact absurd (by grind) q)
      | (refine ⟨by decide, ?_⟩ <;> conv => whnf)
      | (refine ⟨by unfold vp_in; decide, ?_⟩ <;> conv => whnf)
      | (refine ⟨fun c => ?_, fun c => ?_⟩ <;> first | exact absurd c (by decide) | exact absurd (by decide) c | (conv => whnf))
      | (refine ct_mIsSheet (by omega) (fun p => ?_) (fun p => ?_) <;> conv => whnf)
      | fail
    all_goals exact H
set_option maxRecDepth 100000 in
set_option maxHeartbeats 4000000 in
theorem m_holdings {d L : Nat} {f : Nat → Nat → Int32} {g : Nat → Nat → Int64} {x y w u : Int32} {R : Option Value → mH → Prop} (hd : 3 ≤ d) (hl : ∀ i, i < 4 → f 224 i = -1) (H1 : inr 0 3 x ∧ inr 0 2 y ∧ inr 0 10 u → R (some (.int (-11))) (shF L, f, g)) (H0 : ¬ (inr 0 3 x ∧ inr 0 2 y ∧ inr 0 10 u) → R (some (.int (-1))) (shF L, f, g)) : Run mtab d 240 [.ref 181, .int x, .int y, .int w, .int u] (shF L, f, g) R := by
  obtain ⟨d, rfl⟩ : ∃ e, d = e + 1 := ⟨d - 1, by omega⟩
  refine go_X11_holdings rfl ?_
  conv => whnf
  have l0 : f 224 (Int32.toNatClampNeg 0) = -1 := hl 0 (by decide)
  have l1 : f 224 (Int32.toNatClampNeg 1) = -1 := hl 1 (by decide)
  have l2 : f 224 (Int32.toNatClampNeg 2) = -1 := hl 2 (by decide)
  have l3 : f 224 (Int32.toNatClampNeg 3) = -1 := hl 3 (by decide)
  by_cases q : inr 0 3 x ∧ inr 0 2 y ∧ inr 0 10 u
  · have H := H1 q
    obtain ⟨q1, q2⟩ := q
    rcases inr_c3 q1 with rfl | rfl | rfl | rfl
    all_goals
      repeat' first
        | exact absurd ⟨by unfold inr; decide, by grind⟩ ‹¬ (inr 0 3 _ ∧ inr 0 2 y)›
        | exact absurd (by grind) ‹¬ (inr 0 10 u)›
        | exact absurd (show inr 0 2 (-1) from ‹-1 = y› ▸ (by grind : inr 0 2 y)) (by unfold inr; decide)
        | (simp only [l0, l1, l2, l3])
        | (refine ⟨by decide, ?_⟩ <;> conv => whnf)
        | (refine ⟨by unfold vp_in; decide, ?_⟩ <;> conv => whnf)
        | (refine ⟨fun c => ?_, fun c => ?_⟩ <;> first | exact absurd c (by decide) | exact absurd (by decide) c | (conv => whnf))
        | (refine ct_mIsSheet (by omega) (fun p => ?_) (fun p => ?_) <;> conv => whnf)
        | (refine ct_in (by omega) rfl (lo := 0) rfl (hi := 10) rfl (fun p => ?_) (fun p => ?_) <;> conv => whnf)
        | fail
    all_goals exact H
  · have H := H0 q
    repeat' first
      | (exact absurd (by grind) q)
      | (refine ⟨by decide, ?_⟩ <;> conv => whnf)
      | (refine ⟨by unfold vp_in; decide, ?_⟩ <;> conv => whnf)
      | (refine ⟨fun c => ?_, fun c => ?_⟩ <;> first | exact absurd c (by decide) | exact absurd (by decide) c | (conv => whnf))
      | (refine ct_mIsSheet (by omega) (fun p => ?_) (fun p => ?_) <;> conv => whnf)
      | (refine ct_in (by omega) rfl (lo := 0) rfl (hi := 10) rfl (fun p => ?_) (fun p => ?_) <;> conv => whnf)
      | fail
    all_goals exact H
