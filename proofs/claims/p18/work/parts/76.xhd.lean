theorem nI_m6 (m : Nat) : nI m * 6 = nI (m * 6) := (Int32.ofNat_mul m 6).symm
theorem nI_k (a k : Nat) (c : Int32) (hc : c = nI k) : nI a + c = nI (a + k) := by rw [hc, nI_add]
theorem hd_at {l w : Int32} {m : Nat} (hm : m ≤ 10) (hl : inr (-1) 60 l) (h1 : ¬ w < 0) (h2 : ¬ l - nI (m * 6) < w) : ∃ a, w = nI a ∧ a + 6 * m ≤ 60 := by
  obtain ⟨a, ha, rfl⟩ := nI_of h1
  have p := Int32.le_iff_toInt_le.mp hl.1
  have q := Int32.le_iff_toInt_le.mp hl.2
  have e1 : (-1 : Int32).toInt = -1 := rfl
  have e2 : (60 : Int32).toInt = 60 := rfl
  have hs : (l - nI (m * 6)).toInt = l.toInt - (m * 6 : Nat) := by
    rw [Int32.toInt_sub, nI_toInt (by omega)]
    exact Int.bmod_eq_of_le (by omega) (by omega)
  rw [Int32.lt_iff_toInt_lt, hs, nI_toInt ha] at h2
  exact ⟨a, rfl, by omega⟩
set_option maxRecDepth 100000 in
set_option maxHeartbeats 4000000 in
theorem hd2_lp {d L m a s : Nat} {f0 : Nat → Nat → Int32} {x1 x2 x3 x4 x5 e : Int32} {R : Option Value → mH → Prop} (hd : 5 ≤ d) (hs : s < 4) (ha : a + 6 * m ≤ 60) (he : e = nI (a + 6 * m)) (HF : ∀ v f' g', XI f' → fx 100 107 f0 f' → R (some (.int v)) (shF L, f', g')) :
    ∀ (k i : Nat) (x : Int32) (f : Nat → Nat → Int32) (g : Nat → Nat → Int64), i + k = m → x = nI (a + 6 * i) → XI f → fx 100 107 f0 f → WPe pg_X10_holdings none (Run mtab d) R (m_drop pg_X10_holdings 90) [some (.ref 5), some (.int x1), some (.int x2), some (.int x3), some (.int x4), some (.int x5), some (.ref (175 + s)), some (.int e), some (.int x)] [] (shF L, f, g)
  | 0, i, x, f, g, hi, hx, hX, hF => by
    have e9 : i = m := by omega
    subst hx
    subst e9
    subst he
    refine at_X10_holdings ?_
    conv => whnf
    refine ⟨fun c => ?_, fun c => absurd (nI_le (Nat.le_refl _) (by omega)) c⟩
    conv => whnf
    repeat' first
      | ((with_reducible refine ⟨vp_in_nI (by omega) (by decide), ?_⟩) <;> conv => whnf)
      | (refine ⟨Or.inl rfl, ?_⟩ <;> conv => whnf)
      | (refine ⟨Or.inr rfl, ?_⟩ <;> conv => whnf)
      | (refine ⟨Or.inl True.intro, ?_⟩ <;> conv => whnf)
      | (refine ⟨Or.inr True.intro, ?_⟩ <;> conv => whnf)
      | (refine ⟨fun c => ?_, fun c => ?_⟩ <;> first | ((have c9 : (1 : Int32) = 0 := by with_reducible exact c); exact absurd c9 (by decide)) | exact absurd (rfl : (0 : Int32) = 0) (by with_reducible exact c) | exact absurd True.intro (by with_reducible exact c) | exact False.elim (by with_reducible exact c) | (conv => whnf))
      | (refine ⟨by unfold vp_in; decide, ?_⟩ <;> conv => whnf)
      | fail
    all_goals exact HF _ _ _ hX hF
  | k + 1, i, x, f, g, hi, hx, hX, hF => by
    subst hx
    subst he
    have hshp := shp_174 L s hs
    refine at_X10_holdings ?_
    conv => whnf
    refine ⟨fun c => absurd c (nI_ge (by omega) (by omega)), fun c => ?_⟩
    conv => whnf
    repeat' first
      | exact hd2_lp hd hs ha rfl HF k (i + 1) _ _ _ (by omega) (congrArg nI (by omega)) h1 (fx_trans hF k1)
      | ((with_reducible refine ⟨vp_in_nI (by omega) (by decide), ?_⟩) <;> conv => whnf)
      | (simp only [nI_1, nI_k _ 2 2 rfl, nI_k _ 3 3 rfl, nI_k _ 4 4 rfl, nI_k _ 5 5 rfl, nI_k _ 6 6 rfl])
      | ((with_reducible refine ⟨vp_in_nI (by omega) (by decide), ?_⟩) <;> conv => whnf)
      | (refine ⟨Or.inl rfl, ?_⟩ <;> conv => whnf)
      | (refine ⟨Or.inr rfl, ?_⟩ <;> conv => whnf)
      | (refine ⟨Or.inl True.intro, ?_⟩ <;> conv => whnf)
      | (refine ⟨Or.inr True.intro, ?_⟩ <;> conv => whnf)
      | (refine ⟨fun c => ?_, fun c => ?_⟩ <;> first | ((have c9 : (1 : Int32) = 0 := by with_reducible exact c); exact absurd c9 (by decide)) | exact absurd (rfl : (0 : Int32) = 0) (by with_reducible exact c) | exact absurd True.intro (by with_reducible exact c) | exact False.elim (by with_reducible exact c) | (conv => whnf))
      | (refine sx_Oadd (by omega) hX (fun v f1 g1 h1 k1 => ?_) <;> conv => whnf)
      | ((simp only [m_act_eq, mi, mj, m_act0, m_arr2, m_arr, hshp]) <;> conv => whnf)
      | (refine ⟨by unfold vp_in; decide, ?_⟩ <;> conv => whnf)
      | fail
    all_goals fail
set_option maxRecDepth 100000 in
set_option maxHeartbeats 4000000 in
theorem hd1_lp {d L m a s : Nat} {f : Nat → Nat → Int32} {g : Nat → Nat → Int64} {x1 x2 x3 x4 x5 e : Int32} {R : Option Value → mH → Prop} (hd : 5 ≤ d) (hX : XI f) (hs : s < 4) (ha : a + 6 * m ≤ 60) (he : e = nI (a + 6 * m)) (HR : ∀ v, R (some (.int v)) (shF L, f, g)) (HE : WPe pg_X10_holdings none (Run mtab d) R (m_drop pg_X10_holdings 90) [some (.ref 5), some (.int x1), some (.int x2), some (.int x3), some (.int x4), some (.int x5), some (.ref (175 + s)), some (.int e), some (.int x3)] [] (shF L, f, g)) :
    ∀ (k i : Nat) (x : Int32), i + k = m → x = nI (a + 6 * i) → WPe pg_X10_holdings none (Run mtab d) R (m_drop pg_X10_holdings 41) [some (.ref 5), some (.int x1), some (.int x2), some (.int x3), some (.int x4), some (.int x5), some (.ref (175 + s)), some (.int e), some (.int x)] [] (shF L, f, g)
  | 0, i, x, hi, hx => by
    have e9 : i = m := by omega
    subst hx
    subst e9
    subst he
    refine at_X10_holdings ?_
    conv => whnf
    refine ⟨fun c => ?_, fun c => absurd (nI_le (Nat.le_refl _) (by omega)) c⟩
    conv => whnf
    repeat' first
      | exact HE
      | ((with_reducible refine ⟨vp_in_nI (by omega) (by decide), ?_⟩) <;> conv => whnf)
      | (refine ⟨Or.inl rfl, ?_⟩ <;> conv => whnf)
      | (refine ⟨Or.inr rfl, ?_⟩ <;> conv => whnf)
      | (refine ⟨Or.inl True.intro, ?_⟩ <;> conv => whnf)
      | (refine ⟨Or.inr True.intro, ?_⟩ <;> conv => whnf)
      | (refine ⟨fun c => ?_, fun c => ?_⟩ <;> first | ((have c9 : (1 : Int32) = 0 := by with_reducible exact c); exact absurd c9 (by decide)) | exact absurd (rfl : (0 : Int32) = 0) (by with_reducible exact c) | exact absurd True.intro (by with_reducible exact c) | exact False.elim (by with_reducible exact c) | (conv => whnf))
      | (refine ⟨by unfold vp_in; decide, ?_⟩ <;> conv => whnf)
      | fail
    all_goals exact HR _
  | k + 1, i, x, hi, hx => by
    subst hx
    subst he
    have hshp := shp_174 L s hs
    refine at_X10_holdings ?_
    conv => whnf
    refine ⟨fun c => absurd c (nI_ge (by omega) (by omega)), fun c => ?_⟩
    conv => whnf
    repeat' first
      | exact hd1_lp hd hX hs ha rfl HR HE k (i + 1) _ (by omega) (congrArg nI (by omega))
      | ((with_reducible refine ⟨vp_in_nI (by omega) (by decide), ?_⟩) <;> conv => whnf)
      | (simp only [nI_1, nI_k _ 2 2 rfl, nI_k _ 3 3 rfl, nI_k _ 4 4 rfl, nI_k _ 5 5 rfl, nI_k _ 6 6 rfl])
      | ((with_reducible refine ⟨vp_in_nI (by omega) (by decide), ?_⟩) <;> conv => whnf)
      | (refine ⟨Or.inl rfl, ?_⟩ <;> conv => whnf)
      | (refine ⟨Or.inr rfl, ?_⟩ <;> conv => whnf)
      | (refine ⟨Or.inl True.intro, ?_⟩ <;> conv => whnf)
      | (refine ⟨Or.inr True.intro, ?_⟩ <;> conv => whnf)
      | (refine ⟨fun c => ?_, fun c => ?_⟩ <;> first | ((have c9 : (1 : Int32) = 0 := by with_reducible exact c); exact absurd c9 (by decide)) | exact absurd (rfl : (0 : Int32) = 0) (by with_reducible exact c) | exact absurd True.intro (by with_reducible exact c) | exact False.elim (by with_reducible exact c) | (conv => whnf))
      | (refine sx_isHoldingWell (by omega) hX (fun v hv => ?_) <;> conv => whnf)
      | ((simp only [m_act_eq, mi, mj, m_act0, m_arr2, m_arr, hshp]) <;> conv => whnf)
      | (refine ⟨by unfold vp_in; decide, ?_⟩ <;> conv => whnf)
      | fail
    all_goals first | exact HR _ | fail
set_option maxRecDepth 100000 in
set_option maxHeartbeats 4000000 in
theorem sx_holdings {d L : Nat} {f : Nat → Nat → Int32} {g : Nat → Nat → Int64} {x1 x2 x3 x4 : Int32} {R : Option Value → mH → Prop} (hd : 8 ≤ d) (hX : XI f) (H : ∀ v f' g', XI f' → kp [2] f f' → R (some (.int v)) (shF L, f', g')) : Run mtab d 133 [.ref 5, .int x1, .int x2, .int x3, .int x4] (shF L, f, g) R := by
  obtain ⟨d, rfl⟩ : ∃ e, d = e + 1 := ⟨d - 1, by omega⟩
  refine go_X10_holdings rfl ?_
  conv => whnf
  by_cases q : inr 0 3 x1
  · by_cases q2 : inr 0 10 x4
    · obtain ⟨m, hm, rfl⟩ := inr_nat (n := 10) rfl q2
      refine ct_isSheet (by omega) (fun _ => ?_) (fun p => absurd q p)
      conv => whnf
      refine ⟨fun c => absurd c (by decide), fun _ => ?_⟩
      conv => whnf
      refine ct_isLane (by omega) (fun p => ?_) (fun p => ?_)
      · conv => whnf
        refine ⟨fun c => absurd c (by decide), fun _ => ?_⟩
        conv => whnf
        refine ct_isWithin (by omega) (fun _ => ?_) (fun p => absurd q2 p)
        conv => whnf
        refine ⟨fun _ => ?_, fun c => absurd c (by decide)⟩
        conv => whnf
        simp only [nI_m6]
        refine sx_refuse (by omega) hX q (fun v hv => ?_) (fun r1 r2 => ?_)
        · conv => whnf
          refine ⟨fun c => absurd c hv, fun _ => ?_⟩
          conv => whnf
          exact H _ _ _ hX (kp_refl _ _)
        · conv => whnf
          refine ⟨fun _ => ?_, fun c => absurd (by decide) c⟩
          obtain ⟨a, rfl, ha⟩ := hd_at hm (xi_180 hX _) r1 r2
          have fin : ∀ s, s < 4 → WPe pg_X10_holdings none (Run mtab d) R (m_drop pg_X10_holdings 41) [some (.ref 5), some (.int x1), some (.int x2), some (.int (nI a)), some (.int (nI m)), some (.int 0), some (.ref (175 + s)), some (.int (nI a + nI m * 6)), some (.int (nI a))] [] (shF L, f, g) := fun s hs => by
            refine hd1_lp (m := m) (a := a) (by omega) hX hs ha (by rw [nI_m6, nI_add]; congr 1; omega) (fun v => H v f g hX (kp_refl _ _)) ?_ m 0 _ (by omega) rfl
            exact hd2_lp (m := m) (a := a) (by omega) hs ha (by rw [nI_m6, nI_add]; congr 1; omega) (fun v f' g' h1 h2 => H v f' g' h1 (kp_fx h2 rfl)) m 0 _ _ _ (by omega) rfl hX (fx_refl _ _ _)
          rcases inr_c3 q with rfl | rfl | rfl | rfl
          · conv => whnf
            refine ⟨⟨by unfold vp_in; decide, by decide, by decide⟩, ?_⟩
            exact fin 0 (by decide)
          · conv => whnf
            refine ⟨⟨by unfold vp_in; decide, by decide, by decide⟩, ?_⟩
            exact fin 1 (by decide)
          · conv => whnf
            refine ⟨⟨by unfold vp_in; decide, by decide, by decide⟩, ?_⟩
            exact fin 2 (by decide)
          · conv => whnf
            refine ⟨⟨by unfold vp_in; decide, by decide, by decide⟩, ?_⟩
            exact fin 3 (by decide)
      · conv => whnf
        refine ⟨fun _ => ?_, fun c => absurd (by decide) c⟩
        conv => whnf
        exact H _ _ _ hX (kp_refl _ _)
    · repeat' first
        | exact absurd ‹inr 0 10 x4› q2
        | ((with_reducible refine ⟨vp_in_nI (by omega) (by decide), ?_⟩) <;> conv => whnf)
        | (refine ⟨Or.inl rfl, ?_⟩ <;> conv => whnf)
        | (refine ⟨Or.inr rfl, ?_⟩ <;> conv => whnf)
        | (refine ⟨Or.inl True.intro, ?_⟩ <;> conv => whnf)
        | (refine ⟨Or.inr True.intro, ?_⟩ <;> conv => whnf)
        | (refine ⟨fun c => ?_, fun c => ?_⟩ <;> first | ((have c9 : (1 : Int32) = 0 := by with_reducible exact c); exact absurd c9 (by decide)) | exact absurd (rfl : (0 : Int32) = 0) (by with_reducible exact c) | exact absurd True.intro (by with_reducible exact c) | exact False.elim (by with_reducible exact c) | (conv => whnf))
        | (refine ct_isWithin (by omega) (fun p => ?_) (fun p => ?_) <;> conv => whnf)
        | (refine ct_isYear (by omega) (fun p => ?_) (fun p => ?_) <;> conv => whnf)
        | (refine ct_isSide (by omega) (fun p => ?_) (fun p => ?_) <;> conv => whnf)
        | (refine ct_isTitle (by omega) (fun p => ?_) (fun p => ?_) <;> conv => whnf)
        | (refine ct_isBits8 (by omega) (fun p => ?_) (fun p => ?_) <;> conv => whnf)
        | (refine ct_isBits20 (by omega) (fun p => ?_) (fun p => ?_) <;> conv => whnf)
        | (refine ct_isBits30 (by omega) (fun p => ?_) (fun p => ?_) <;> conv => whnf)
        | (refine ct_isToldWell (by omega) (fun p => ?_) (fun p => ?_) <;> conv => whnf)
        | (refine ct_isSheet (by omega) (fun p => ?_) (fun p => ?_) <;> conv => whnf)
        | (refine ct_isLane (by omega) (fun p => ?_) (fun p => ?_) <;> conv => whnf)
        | (refine ⟨by unfold vp_in; decide, ?_⟩ <;> conv => whnf)
        | fail
      all_goals exact H _ _ _ hX (kp_refl _ _)
  · repeat' first
      | exact absurd ‹inr 0 3 x1› q
      | ((with_reducible refine ⟨vp_in_nI (by omega) (by decide), ?_⟩) <;> conv => whnf)
      | (refine ⟨Or.inl rfl, ?_⟩ <;> conv => whnf)
      | (refine ⟨Or.inr rfl, ?_⟩ <;> conv => whnf)
      | (refine ⟨Or.inl True.intro, ?_⟩ <;> conv => whnf)
      | (refine ⟨Or.inr True.intro, ?_⟩ <;> conv => whnf)
      | (refine ⟨fun c => ?_, fun c => ?_⟩ <;> first | ((have c9 : (1 : Int32) = 0 := by with_reducible exact c); exact absurd c9 (by decide)) | exact absurd (rfl : (0 : Int32) = 0) (by with_reducible exact c) | exact absurd True.intro (by with_reducible exact c) | exact False.elim (by with_reducible exact c) | (conv => whnf))
      | (refine ct_isWithin (by omega) (fun p => ?_) (fun p => ?_) <;> conv => whnf)
      | (refine ct_isYear (by omega) (fun p => ?_) (fun p => ?_) <;> conv => whnf)
      | (refine ct_isSide (by omega) (fun p => ?_) (fun p => ?_) <;> conv => whnf)
      | (refine ct_isTitle (by omega) (fun p => ?_) (fun p => ?_) <;> conv => whnf)
      | (refine ct_isBits8 (by omega) (fun p => ?_) (fun p => ?_) <;> conv => whnf)
      | (refine ct_isBits20 (by omega) (fun p => ?_) (fun p => ?_) <;> conv => whnf)
      | (refine ct_isBits30 (by omega) (fun p => ?_) (fun p => ?_) <;> conv => whnf)
      | (refine ct_isToldWell (by omega) (fun p => ?_) (fun p => ?_) <;> conv => whnf)
      | (refine ct_isSheet (by omega) (fun p => ?_) (fun p => ?_) <;> conv => whnf)
      | (refine ct_isLane (by omega) (fun p => ?_) (fun p => ?_) <;> conv => whnf)
      | (refine ⟨by unfold vp_in; decide, ?_⟩ <;> conv => whnf)
      | fail
    all_goals exact H _ _ _ hX (kp_refl _ _)
