set_option maxRecDepth 100000 in
set_option maxHeartbeats 4000000 in
theorem sx_isSure {d L : Nat} {f : Nat → Nat → Int32} {g : Nat → Nat → Int64} {w : Int32} {R : Option Value → mH → Prop} (hd : 7 ≤ d) (hX : XI f) (H : ∀ v f' g', (v = 0 ∨ v = 1) → XI f' → fx 160 166 f f' → R (some (.int v)) (shF L, f', g')) : Run mtab d 24 [.ref 149, .int w] (shF L, f, g) R := by
  obtain ⟨d, rfl⟩ : ∃ e, d = e + 1 := ⟨d - 1, by omega⟩
  obtain ⟨n, hm, hb⟩ := inr_nat (n := 8) rfl (xi_150_7 hX)
  refine go_X2_isSure rfl ?_
  conv => whnf
  simp only [hb]
  refine ct_isWithin (by omega) (fun pp => ?_) (fun pp => ?_)
  · obtain ⟨p, hp, rfl⟩ := inr_cnt (by omega) pp
    have hcl : (nI p).toNatClampNeg = p := nI_clamp (by omega)
    have hrow := row_151 p (by omega)
    have hshp := shp_151 L p (by omega)
    conv => whnf
    (refine ⟨fun c => ?_, fun c => ?_⟩ <;> first | ((have c9 : (1 : Int32) = 0 := by with_reducible exact c); exact absurd c9 (by decide)) | exact absurd (rfl : (0 : Int32) = 0) (by with_reducible exact c) | exact absurd True.intro (by with_reducible exact c) | exact False.elim (by with_reducible exact c) | (conv => whnf))
    refine ⟨vp_in_nI (by omega) (by decide), ?_⟩
    conv => whnf
    refine ⟨fun c => ?_, fun c => ?_⟩
    · conv => whnf
      refine ⟨⟨vp_in_nI (by omega) (by decide), by rw [hcl]; show p < 8; omega, by rw [hcl, hrow]; rfl⟩, ?_⟩
      simp only [hcl, hrow, Option.getD_some]
      conv => whnf
      refine ⟨vp_in_nI (by omega) (by decide), ?_⟩
      conv => whnf
      simp only [m_act_eq, mi, mj, m_act0, m_arr, hshp]
      conv => whnf
      refine ⟨vpi2 (xi_167 hX _) (by first | exact i32_nlt.mpr c | exact c) (by decide), ?_⟩
      conv => whnf
      refine ⟨vp_in_nI (by omega) (by decide), ?_⟩
      conv => whnf
      simp only [m_act_eq, mi, mj, m_act0, m_arr, hshp]
      conv => whnf
      refine ⟨vpi2 (xi_167 hX _) (by first | exact i32_nlt.mpr c | exact c) (by decide), ?_⟩
      conv => whnf
      refine sx_solve (by omega) hX (fun v f1 g1 h1 k1 => ?_)
      have hk7 : f1 167 (nI p).toNatClampNeg = f 167 (nI p).toNatClampNeg := k1 167 _ (by omega)
      conv => whnf
      refine ⟨show ¬ (7984925229121 : Int64) = 0 by decide, ?_⟩
      conv => whnf
      refine ⟨vp_in_nI (by omega) (by decide), ?_⟩
      conv => whnf
      simp only [hk7]
      simp only [m_act_eq, mi, mj, m_act0, m_arr, hshp]
      conv => whnf
      refine ⟨vpi2 (xi_167 hX _) (by first | exact i32_nlt.mpr c | exact c) (by decide), ?_⟩
      conv => whnf
      refine ⟨fun c2 => ?_, fun c2 => ?_⟩
      · conv => whnf
        exact ⟨Or.inl rfl, H _ _ _ (Or.inl rfl) h1 k1⟩
      · conv => whnf
        exact ⟨Or.inr rfl, H _ _ _ (Or.inr rfl) h1 k1⟩
    · conv => whnf
      exact ⟨Or.inl rfl, H _ _ _ (Or.inl rfl) hX (fx_refl _ _ _)⟩
  · conv => whnf
    refine ⟨fun _ => ?_, fun c => absurd (by decide) c⟩
    conv => whnf
    exact ⟨Or.inl rfl, H _ _ _ (Or.inl rfl) hX (fx_refl _ _ _)⟩
