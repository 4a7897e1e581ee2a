def oaddn (f : Nat → Nat → Int32) (h : Nat) (r : Nat → Nat → Int32) : Nat → Nat → Nat → Int32
  | 0 => f
  | k + 1 => oadd (oaddn f h r k) (h + k) (r k 0) (r k 1) (r k 2) (r k 3) (r k 4) (r k 5)
def kaddn (f : Nat → Nat → Int32) (h : Nat) (r : Nat → Nat → Int32) : Nat → Nat → Nat → Int32
  | 0 => f
  | k + 1 => kadd (kaddn f h r k) (h + k) (r k 0) (r k 1) (r k 2) (r k 3) (r k 4) (r k 5)
def allw (n m : Nat) (r : Nat → Nat → Int32) : Prop := ∀ k, k < m → holdw n (r k 0) (r k 1) (r k 2) (r k 3) (r k 4) (r k 5)
def SH (n h m : Nat) (r : Nat → Nat → Int32) (f f1 g1 : Nat → Nat → Int32) (v : Int32) : Prop := (¬ allw n m r ∧ v = -2 ∧ f1 = f) ∨ (allw n m r ∧ 60 < h + m ∧ v = -3 ∧ f1 = f) ∨ (allw n m r ∧ h + m ≤ 60 ∧ v = nI (h + m) ∧ f1 = g1)
theorem fx_oadd {f : Nat → Nat → Int32} {h : Nat} {x1 x2 x3 x4 x5 x6 : Int32} : fx 100 107 f (oadd f h x1 x2 x3 x4 x5 x6) := by
  unfold oadd
  exact fx_ui (by decide) (by decide) (fx_ui (by decide) (by decide) (fx_ui (by decide) (by decide) (fx_ui (by decide) (by decide) (fx_ui (by decide) (by decide) (fx_ui (by decide) (by decide) (fx_ui (by decide) (by decide) (fx_refl _ _ _)))))))
theorem fx_oaddn {f : Nat → Nat → Int32} {h : Nat} {r : Nat → Nat → Int32} : ∀ k, fx 100 107 f (oaddn f h r k)
  | 0 => fx_refl _ _ _
  | k + 1 => fx_trans (fx_oaddn k) fx_oadd
theorem kp_kadd {f : Nat → Nat → Int32} {h : Nat} {x1 x2 x3 x4 x5 x6 : Int32} : kp [10, 12, 22] f (kadd f h x1 x2 x3 x4 x5 x6) := by
  unfold kadd
  exact kp_ui rfl (kp_ui rfl (kp_ui rfl (kp_ui rfl (kp_ui rfl (kp_ui rfl (kp_ui rfl (kp_ui rfl (kp_refl _ _))))))))
theorem kp_kaddn {f : Nat → Nat → Int32} {h : Nat} {r : Nat → Nat → Int32} : ∀ k, kp [10, 12, 22] f (kaddn f h r k)
  | 0 => kp_refl _ _
  | k + 1 => kp_trans (kp_kaddn k) kp_kadd
theorem oaddn_c {f : Nat → Nat → Int32} {h : Nat} {r : Nat → Nat → Int32} (h0 : f 100 6 = nI h) : ∀ k, oaddn f h r k 100 6 = nI (h + k)
  | 0 => h0
  | k + 1 => by
    show nI (h + k) + 1 = _
    rw [nI_1]
    rfl
theorem kaddn_c {f : Nat → Nat → Int32} {h : Nat} {r : Nat → Nat → Int32} (h0 : f 181 14 = nI h) : ∀ k, kaddn f h r k 181 14 = nI (h + k)
  | 0 => h0
  | k + 1 => rfl
def SX_holdings (n h : Nat) (f f1 : Nat → Nat → Int32) (x1 x2 x3 x4 v : Int32) : Prop :=
  (¬ ((inr 0 3 x1 ∧ inr 0 2 x2) ∧ inr 0 10 x4) ∧ v = -1 ∧ f1 = f) ∨ (∃ s m, s < 4 ∧ x1 = nI s ∧ inr 0 2 x2 ∧ m ≤ 10 ∧ x4 = nI m ∧ ((f 180 s = -1 ∧ v = -11 ∧ f1 = f) ∨ (¬ f 180 s = -1 ∧ ¬ f 179 s = x2 ∧ v = -12 ∧ f1 = f) ∨ (¬ f 180 s = -1 ∧ f 179 s = x2 ∧ (x3 < 0 ∨ f 180 s - nI (m * 6) < x3) ∧ v = -13 ∧ f1 = f) ∨ (¬ f 180 s = -1 ∧ f 179 s = x2 ∧ ¬ (x3 < 0 ∨ f 180 s - nI (m * 6) < x3) ∧ ∃ a, x3 = nI a ∧ a + 6 * m ≤ 60 ∧ SH n h m (fun k t => f (175 + s) (a + 6 * k + t)) f f1 (oaddn f h (fun k t => f (175 + s) (a + 6 * k + t)) m) v)))
def SM_holdings (n h : Nat) (f f1 : Nat → Nat → Int32) (x1 x2 x3 x4 v : Int32) : Prop :=
  (¬ ((inr 0 3 x1 ∧ inr 0 2 x2) ∧ inr 0 10 x4) ∧ v = -1 ∧ f1 = f) ∨ (∃ s m, s < 4 ∧ x1 = nI s ∧ inr 0 2 x2 ∧ m ≤ 10 ∧ x4 = nI m ∧ ((¬ f 224 s = x2 ∧ f 224 s < 0 ∧ v = -11 ∧ f1 = f) ∨ (¬ f 224 s = x2 ∧ ¬ f 224 s < 0 ∧ v = -12 ∧ f1 = f) ∨ (f 224 s = x2 ∧ ¬ inr 0 (f 225 s - nI (6 * m)) x3 ∧ v = -13 ∧ f1 = f) ∨ (f 224 s = x2 ∧ inr 0 (f 225 s - nI (6 * m)) x3 ∧ ∃ a, x3 = nI a ∧ a + 6 * m ≤ 60 ∧ SH n h m (fun k t => f 226 (60 * s + a + 6 * k + t)) f f1 (kaddn f h (fun k t => f 226 (60 * s + a + 6 * k + t)) m) v)))
set_option maxRecDepth 100000 in
set_option maxHeartbeats 4000000 in
theorem hf2_lp {d L m a s h : Nat} {f : Nat → Nat → Int32} {g : Nat → Nat → Int64} {x1 x2 x5 : Int32} {R : Option Value → mH → Prop} (hd : 5 ≤ d) (hs : s < 4) (ha : a + 6 * m ≤ 60) (hh : h + m ≤ 60) (h0 : f 100 6 = nI h) (H : R (some (.int (nI (h + m)))) (shF L, oaddn f h (fun k t => f (175 + s) (a + 6 * k + t)) m, g)) :
    ∀ (k i : Nat) (x : Int32), i + k = m → x = nI (a + 6 * i) → WPe pg_X10_holdings none (Run mtab d) R (m_drop pg_X10_holdings 90) [some (.ref 5), some (.int x1), some (.int x2), some (.int (nI a)), some (.int (nI m)), some (.int x5), some (.ref (175 + s)), some (.int (nI (a + 6 * m))), some (.int x)] [] (shF L, oaddn f h (fun k t => f (175 + s) (a + 6 * k + t)) i, g)
  | 0, i, x, hi, hx => by
    have e9 : i = m := by omega
    subst hx
    subst e9
    have hcn := oaddn_c (r := (fun k t => f (175 + s) (a + 6 * k + t))) h0 i
    refine at_X10_holdings ?_
    conv => whnf
    refine ⟨fun c => ?_, fun c => absurd (nI_le (Nat.le_refl _) (by omega)) c⟩
    conv => whnf
    simp only [hcn]
    exact H
  | k + 1, i, x, hi, hx => by
    subst hx
    have hshp := shp_174 L s hs
    have hcn := oaddn_c (r := (fun k t => f (175 + s) (a + 6 * k + t))) h0 i
    have hrow : ∀ j, oaddn f h (fun k t => f (175 + s) (a + 6 * k + t)) i (175 + s) j = f (175 + s) j := fun j => fx_oaddn i (175 + s) j (by omega)
    have hc0 : (nI (a + 6 * i)).toNatClampNeg = a + 6 * i := nI_clamp (by omega)
    have hc1 : (nI (a + 6 * i + 1)).toNatClampNeg = a + 6 * i + 1 := nI_clamp (by omega)
    have hc2 : (nI (a + 6 * i + 2)).toNatClampNeg = a + 6 * i + 2 := nI_clamp (by omega)
    have hc3 : (nI (a + 6 * i + 3)).toNatClampNeg = a + 6 * i + 3 := nI_clamp (by omega)
    have hc4 : (nI (a + 6 * i + 4)).toNatClampNeg = a + 6 * i + 4 := nI_clamp (by omega)
    have hc5 : (nI (a + 6 * i + 5)).toNatClampNeg = a + 6 * i + 5 := nI_clamp (by omega)
    refine at_X10_holdings ?_
    conv => whnf
    refine ⟨fun c => absurd c (nI_ge (by omega) (by omega)), fun c => ?_⟩
    conv => whnf
    repeat' first
      | exact hf2_lp hd hs ha hh h0 H k (i + 1) _ (by omega) (congrArg nI (by omega))
      | exact absurd z (by omega)
      | ((with_reducible refine ⟨vp_in_nI (by omega) (by decide), ?_⟩) <;> conv => whnf)
      | (simp only [nI_1, nI_k _ 2 2 rfl, nI_k _ 3 3 rfl, nI_k _ 4 4 rfl, nI_k _ 5 5 rfl, nI_k _ 6 6 rfl, hrow, hc0, hc1, hc2, hc3, hc4, hc5])
      | ((with_reducible refine ⟨vp_in_nI (by omega) (by decide), ?_⟩) <;> conv => whnf)
      | (refine ⟨Or.inl rfl, ?_⟩ <;> conv => whnf)
      | (refine ⟨Or.inr rfl, ?_⟩ <;> conv => whnf)
      | (refine ⟨Or.inl True.intro, ?_⟩ <;> conv => whnf)
      | (refine ⟨Or.inr True.intro, ?_⟩ <;> conv => whnf)
      | (refine ⟨fun c => ?_, fun c => ?_⟩ <;> first | ((have c9 : (1 : Int32) = 0 := by with_reducible exact c); exact absurd c9 (by decide)) | exact absurd (rfl : (0 : Int32) = 0) (by with_reducible exact c) | exact absurd True.intro (by with_reducible exact c) | exact False.elim (by with_reducible exact c) | (conv => whnf))
      | (refine sf_Oadd (h := h + i) (by omega) hcn (by omega) (fun z => ?_) (fun z => ?_) <;> conv => whnf)
      | ((simp only [m_act_eq, mi, mj, m_act0, m_arr2, m_arr, hshp]) <;> conv => whnf)
      | (refine ⟨by unfold vp_in; decide, ?_⟩ <;> conv => whnf)
      | fail
set_option maxRecDepth 100000 in
set_option maxHeartbeats 4000000 in
theorem hf1_lp {d L n m a s : Nat} {f : Nat → Nat → Int32} {g : Nat → Nat → Int64} {x1 x2 x5 : Int32} {R : Option Value → mH → Prop} (hd : 5 ≤ d) (hb : f 6 13 = nI n) (hm : n ≤ 40) (hs : s < 4) (ha : a + 6 * m ≤ 60) (HN : ¬ allw n m (fun k t => f (175 + s) (a + 6 * k + t)) → R (some (.int (-2))) (shF L, f, g)) (HF : allw n m (fun k t => f (175 + s) (a + 6 * k + t)) → 60 < (f 100 6 + nI m) → R (some (.int (-3))) (shF L, f, g)) (HE : allw n m (fun k t => f (175 + s) (a + 6 * k + t)) → ¬ 60 < (f 100 6 + nI m) → WPe pg_X10_holdings none (Run mtab d) R (m_drop pg_X10_holdings 90) [some (.ref 5), some (.int x1), some (.int x2), some (.int (nI a)), some (.int (nI m)), some (.int x5), some (.ref (175 + s)), some (.int (nI (a + 6 * m))), some (.int (nI a))] [] (shF L, f, g)) :
    ∀ (k i : Nat) (x : Int32), i + k = m → x = nI (a + 6 * i) → (∀ j, j < i → holdw n ((fun k t => f (175 + s) (a + 6 * k + t)) j 0) ((fun k t => f (175 + s) (a + 6 * k + t)) j 1) ((fun k t => f (175 + s) (a + 6 * k + t)) j 2) ((fun k t => f (175 + s) (a + 6 * k + t)) j 3) ((fun k t => f (175 + s) (a + 6 * k + t)) j 4) ((fun k t => f (175 + s) (a + 6 * k + t)) j 5)) → WPe pg_X10_holdings none (Run mtab d) R (m_drop pg_X10_holdings 41) [some (.ref 5), some (.int x1), some (.int x2), some (.int (nI a)), some (.int (nI m)), some (.int x5), some (.ref (175 + s)), some (.int (nI (a + 6 * m))), some (.int x)] [] (shF L, f, g)
  | 0, i, x, hi, hx, hw => by
    have e9 : i = m := by omega
    subst hx
    subst e9
    refine at_X10_holdings ?_
    conv => whnf
    refine ⟨fun c => ?_, fun c => absurd (nI_le (Nat.le_refl _) (by omega)) c⟩
    conv => whnf
    refine ⟨fun c => ?_, fun c => ?_⟩
    · conv => whnf
      exact HE hw (i32_nlt.mpr c)
    · conv => whnf
      exact HF hw (i32_nle.mp c)
  | k + 1, i, x, hi, hx, hw => by
    subst hx
    have hshp := shp_174 L s hs
    have hc0 : (nI (a + 6 * i)).toNatClampNeg = a + 6 * i := nI_clamp (by omega)
    have hc1 : (nI (a + 6 * i + 1)).toNatClampNeg = a + 6 * i + 1 := nI_clamp (by omega)
    have hc2 : (nI (a + 6 * i + 2)).toNatClampNeg = a + 6 * i + 2 := nI_clamp (by omega)
    have hc3 : (nI (a + 6 * i + 3)).toNatClampNeg = a + 6 * i + 3 := nI_clamp (by omega)
    have hc4 : (nI (a + 6 * i + 4)).toNatClampNeg = a + 6 * i + 4 := nI_clamp (by omega)
    have hc5 : (nI (a + 6 * i + 5)).toNatClampNeg = a + 6 * i + 5 := nI_clamp (by omega)
    refine at_X10_holdings ?_
    conv => whnf
    refine ⟨fun c => absurd c (nI_ge (by omega) (by omega)), fun c => ?_⟩
    conv => whnf
    repeat' first
      | exact hf1_lp hd hb hm hs ha HN HF HE k (i + 1) _ (by omega) (congrArg nI (by omega)) (fun j hj => by by_cases e : j = i; (subst e; exact z); exact hw j (by omega))
      | exact HN (fun q => z (q i (by omega)))
      | ((with_reducible refine ⟨vp_in_nI (by omega) (by decide), ?_⟩) <;> conv => whnf)
      | (simp only [nI_1, nI_k _ 2 2 rfl, nI_k _ 3 3 rfl, nI_k _ 4 4 rfl, nI_k _ 5 5 rfl, nI_k _ 6 6 rfl, hc0, hc1, hc2, hc3, hc4, hc5])
      | ((with_reducible refine ⟨vp_in_nI (by omega) (by decide), ?_⟩) <;> conv => whnf)
      | (refine ⟨Or.inl rfl, ?_⟩ <;> conv => whnf)
      | (refine ⟨Or.inr rfl, ?_⟩ <;> conv => whnf)
      | (refine ⟨Or.inl True.intro, ?_⟩ <;> conv => whnf)
      | (refine ⟨Or.inr True.intro, ?_⟩ <;> conv => whnf)
      | (refine ⟨fun c => ?_, fun c => ?_⟩ <;> first | ((have c9 : (1 : Int32) = 0 := by with_reducible exact c); exact absurd c9 (by decide)) | exact absurd (rfl : (0 : Int32) = 0) (by with_reducible exact c) | exact absurd True.intro (by with_reducible exact c) | exact False.elim (by with_reducible exact c) | (conv => whnf))
      | (refine sf_isHoldingWell (by omega) hb hm (fun z => ?_) (fun z => ?_) <;> conv => whnf)
      | ((simp only [m_act_eq, mi, mj, m_act0, m_arr2, m_arr, hshp]) <;> conv => whnf)
      | (refine ⟨by unfold vp_in; decide, ?_⟩ <;> conv => whnf)
      | fail
set_option maxRecDepth 100000 in
set_option maxHeartbeats 4000000 in
theorem sf_holdings {d L : Nat} {f : Nat → Nat → Int32} {g : Nat → Nat → Int64} {n h : Nat} {x1 x2 x3 x4 : Int32} {R : Option Value → mH → Prop} (hd : 7 ≤ d) (hX : XI f) (hb : f 6 13 = nI n) (hm : n ≤ 40) (hhb : f 100 6 = nI h) (hhm : h ≤ 60) (H : ∀ v f1, SX_holdings n h f f1 x1 x2 x3 x4 v → R (some (.int v)) (shF L, f1, g)) : Run mtab d 133 [.ref 5, .int x1, .int x2, .int x3, .int x4] (shF L, f, g) R := by
  obtain ⟨d, rfl⟩ : ∃ e, d = e + 1 := ⟨d - 1, by omega⟩
  refine go_X10_holdings rfl ?_
  conv => whnf
  refine ct_isSheet (by omega) (fun p1 => ?_) (fun p1 => ?_)
  · obtain ⟨s, hs, rfl⟩ := inr_nat (n := 3) rfl p1
    conv => whnf
    refine ⟨fun c => absurd c (by decide), fun _ => ?_⟩
    conv => whnf
    refine ct_isLane (by omega) (fun p2 => ?_) (fun p2 => ?_)
    · conv => whnf
      refine ⟨fun c => absurd c (by decide), fun _ => ?_⟩
      conv => whnf
      refine ct_isWithin (by omega) (fun p4 => ?_) (fun p4 => ?_)
      · obtain ⟨m, hm10, rfl⟩ := inr_nat (n := 10) rfl p4
        have W : ∀ v f1, _ → R (some (.int v)) (shF L, f1, g) := fun v f1 z => H v f1 (Or.inr ⟨s, m, by omega, rfl, p2, hm10, rfl, z⟩)
        conv => whnf
        refine ⟨fun _ => ?_, fun c => absurd c (by decide)⟩
        conv => whnf
        simp only [nI_m6]
        refine sf_refuse (by omega) (by omega) (fun z1 => ?_) (fun z1 z2 => ?_) (fun z1 z2 z3 => ?_) (fun z1 z2 z3 => ?_)
        · conv => whnf
          refine ⟨fun c => absurd c (by decide), fun _ => ?_⟩
          conv => whnf
          exact W _ _ (Or.inl ⟨z1, rfl, rfl⟩)
        · conv => whnf
          refine ⟨fun c => absurd c (by decide), fun _ => ?_⟩
          conv => whnf
          exact W _ _ (Or.inr (Or.inl ⟨z1, z2, rfl, rfl⟩))
        · conv => whnf
          refine ⟨fun c => absurd c (by decide), fun _ => ?_⟩
          conv => whnf
          exact W _ _ (Or.inr (Or.inr (Or.inl ⟨z1, z2, z3, rfl, rfl⟩)))
        · obtain ⟨a, rfl, ha⟩ := hd_at hm10 (xi_180 hX s) (fun q => z3 (Or.inl q)) (fun q => z3 (Or.inr q))
          have W2 : ∀ v f1, SH n h m (fun k t => f (175 + s) (a + 6 * k + t)) f f1 (oaddn f h (fun k t => f (175 + s) (a + 6 * k + t)) m) v → R (some (.int v)) (shF L, f1, g) := fun v f1 z => W v f1 (Or.inr (Or.inr (Or.inr ⟨z1, z2, z3, a, rfl, ha, z⟩)))
          have hE : nI a + nI m * 6 = nI (a + 6 * m) := by
            rw [nI_m6, nI_add]
            congr 1
            omega
          have hsum : ∀ q : Prop, (60 < (f 100 6 + nI m) ↔ 60 < h + m) := fun _ => by
            rw [hhb, nI_add]
            exact nI_ltI (a := 60) (by decide) (by omega)
          have fin : WPe pg_X10_holdings none (Run mtab d) R (m_drop pg_X10_holdings 41) [some (.ref 5), some (.int (nI s)), some (.int x2), some (.int (nI a)), some (.int (nI m)), some (.int 0), some (.ref (175 + s)), some (.int (nI a + nI m * 6)), some (.int (nI a))] [] (shF L, f, g) := by
            rw [hE]
            refine hf1_lp (by omega) hb hm (by omega) ha (fun z => W2 _ _ (Or.inl ⟨z, rfl, rfl⟩)) (fun z z' => W2 _ _ (Or.inr (Or.inl ⟨z, (hsum True).mp z', rfl, rfl⟩))) (fun z z' => ?_) m 0 _ (by omega) rfl (fun j hj => absurd hj (by omega))
            have hle : h + m ≤ 60 := by
              rw [hsum True] at z'
              omega
            exact hf2_lp (by omega) (by omega) ha hle hhb (W2 _ _ (Or.inr (Or.inr ⟨z, hle, rfl, rfl⟩))) m 0 _ (by omega) rfl
          clear W2 W H hsum hE
          conv => whnf
          refine ⟨fun _ => ?_, fun c => absurd rfl c⟩
          have h4 : s = 0 ∨ s = 1 ∨ s = 2 ∨ s = 3 := by omega
          rcases h4 with rfl | rfl | rfl | rfl
          all_goals
            conv => whnf
            refine ⟨⟨by unfold vp_in; decide, by decide, by decide⟩, ?_⟩
            exact fin
      · conv => whnf
        refine ⟨fun c => absurd rfl c, fun _ => ?_⟩
        conv => whnf
        exact H _ _ (Or.inl ⟨fun hh => p4 hh.2, rfl, rfl⟩)
    · conv => whnf
      refine ⟨fun _ => ?_, fun c => absurd rfl c⟩
      conv => whnf
      exact H _ _ (Or.inl ⟨fun hh => p2 hh.1.2, rfl, rfl⟩)
  · conv => whnf
    refine ⟨fun _ => ?_, fun c => absurd rfl c⟩
    conv => whnf
    exact H _ _ (Or.inl ⟨fun hh => p1 hh.1.1, rfl, rfl⟩)
set_option maxRecDepth 100000 in
set_option maxHeartbeats 4000000 in
theorem mf2_lp {d L m b h : Nat} {f : Nat → Nat → Int32} {g : Nat → Nat → Int64} {x1 x2 x3 : Int32} {R : Option Value → mH → Prop} (hd : 1 ≤ d) (hbm : b + 6 * m ≤ 240) (hh : h + m ≤ 60) (h0 : f 181 14 = nI h) (H : R (some (.int (nI (h + m)))) (shF L, kaddn f h (fun k t => f 226 (b + 6 * k + t)) m, g)) :
    ∀ (k i : Nat) (x : Int32), i + k = m → x = nI (b + 6 * i) → WPe pg_X11_holdings none (Run mtab d) R (m_drop pg_X11_holdings 109) [some (.ref 181), some (.int x1), some (.int x2), some (.int x3), some (.int (nI m)), some (.int (nI b)), some (.int x)] [] (shF L, kaddn f h (fun k t => f 226 (b + 6 * k + t)) i, g)
  | 0, i, x, hi, hx => by
    have e9 : i = m := by omega
    subst hx
    subst e9
    have hcn := kaddn_c (r := (fun k t => f 226 (b + 6 * k + t))) h0 i
    refine at_X11_holdings ?_
    conv => whnf
    simp only [nI_6m, nI_add]
    refine ⟨fun c => ?_, fun c => absurd (nI_le (Nat.le_refl _) (by omega)) c⟩
    conv => whnf
    simp only [hcn]
    exact H
  | k + 1, i, x, hi, hx => by
    subst hx
    have hcn := kaddn_c (r := (fun k t => f 226 (b + 6 * k + t))) h0 i
    have hrow : ∀ j, kaddn f h (fun k t => f 226 (b + 6 * k + t)) i 226 j = f 226 j := fun j => kp_kaddn i 226 j rfl
    have hc0 : (nI (b + 6 * i)).toNatClampNeg = b + 6 * i := nI_clamp (by omega)
    have hc1 : (nI (b + 6 * i + 1)).toNatClampNeg = b + 6 * i + 1 := nI_clamp (by omega)
    have hc2 : (nI (b + 6 * i + 2)).toNatClampNeg = b + 6 * i + 2 := nI_clamp (by omega)
    have hc3 : (nI (b + 6 * i + 3)).toNatClampNeg = b + 6 * i + 3 := nI_clamp (by omega)
    have hc4 : (nI (b + 6 * i + 4)).toNatClampNeg = b + 6 * i + 4 := nI_clamp (by omega)
    have hc5 : (nI (b + 6 * i + 5)).toNatClampNeg = b + 6 * i + 5 := nI_clamp (by omega)
    refine at_X11_holdings ?_
    conv => whnf
    simp only [nI_6m, nI_add]
    refine ⟨fun c => absurd c (nI_ge (by omega) (by omega)), fun c => ?_⟩
    conv => whnf
    repeat' first
      | exact mf2_lp hd hbm hh h0 H k (i + 1) _ (by omega) (congrArg nI (by omega))
      | (simp only [nI_6m, nI_add, nI_1, nI_k _ 2 2 rfl, nI_k _ 3 3 rfl, nI_k _ 4 4 rfl, nI_k _ 5 5 rfl, nI_k _ 6 6 rfl, hrow, hc0, hc1, hc2, hc3, hc4, hc5])
      | ((with_reducible refine ⟨vp_in_nI (by omega) (by decide), ?_⟩) <;> conv => whnf)
      | (refine ⟨Or.inl rfl, ?_⟩ <;> conv => whnf)
      | (refine ⟨Or.inr rfl, ?_⟩ <;> conv => whnf)
      | (refine ⟨Or.inl True.intro, ?_⟩ <;> conv => whnf)
      | (refine ⟨Or.inr True.intro, ?_⟩ <;> conv => whnf)
      | (refine ⟨fun c => ?_, fun c => ?_⟩ <;> first | ((have c9 : (1 : Int32) = 0 := by with_reducible exact c); exact absurd c9 (by decide)) | exact absurd (rfl : (0 : Int32) = 0) (by with_reducible exact c) | exact absurd True.intro (by with_reducible exact c) | exact False.elim (by with_reducible exact c) | (conv => whnf))
      | (refine smf_keep (h := h + i) (by omega) hcn (by omega) ?_ <;> conv => whnf)
      | (refine ⟨by unfold vp_in; decide, ?_⟩ <;> conv => whnf)
      | fail
set_option maxRecDepth 100000 in
set_option maxHeartbeats 4000000 in
theorem mf1_lp {d L n m b h : Nat} {f : Nat → Nat → Int32} {g : Nat → Nat → Int64} {x1 x2 x3 : Int32} {R : Option Value → mH → Prop} (hd : 4 ≤ d) (hb : f 181 0 = nI n) (hm : n ≤ 40) (hm10 : m ≤ 10) (hbm : b + 6 * m ≤ 240) (hhb : f 181 14 = nI h) (hhm : h ≤ 60) (H : ∀ v f1, SH n h m (fun k t => f 226 (b + 6 * k + t)) f f1 (kaddn f h (fun k t => f 226 (b + 6 * k + t)) m) v → R (some (.int v)) (shF L, f1, g)) :
    ∀ (k i : Nat) (x : Int32), i + k = m → x = nI (b + 6 * i) → (∀ j, j < i → holdw n ((fun k t => f 226 (b + 6 * k + t)) j 0) ((fun k t => f 226 (b + 6 * k + t)) j 1) ((fun k t => f 226 (b + 6 * k + t)) j 2) ((fun k t => f 226 (b + 6 * k + t)) j 3) ((fun k t => f 226 (b + 6 * k + t)) j 4) ((fun k t => f 226 (b + 6 * k + t)) j 5)) → WPe pg_X11_holdings none (Run mtab d) R (m_drop pg_X11_holdings 51) [some (.ref 181), some (.int x1), some (.int x2), some (.int x3), some (.int (nI m)), some (.int (nI b)), some (.int x)] [] (shF L, f, g)
  | 0, i, x, hi, hx, hw => by
    have e9 : i = m := by omega
    subst hx
    subst e9
    refine at_X11_holdings ?_
    conv => whnf
    simp only [nI_6m, nI_add]
    refine ⟨fun c => ?_, fun c => absurd (nI_le (Nat.le_refl _) (by omega)) c⟩
    conv => whnf
    simp only [hhb, nI_add]
    refine ⟨fun c2 => ?_, fun c2 => ?_⟩
    · conv => whnf
      have c3 : nI (h + i) ≤ nI 60 := c2
      rw [nI_leI (by omega) (by decide)] at c3
      exact mf2_lp (by omega) hbm c3 hhb (H _ _ (Or.inr (Or.inr ⟨hw, c3, rfl, rfl⟩))) i 0 _ (by omega) rfl
    · conv => whnf
      have c3 : ¬ nI (h + i) ≤ nI 60 := c2
      rw [nI_leI (by omega) (by decide)] at c3
      exact H _ _ (Or.inr (Or.inl ⟨hw, by omega, rfl, rfl⟩))
  | k + 1, i, x, hi, hx, hw => by
    subst hx
    have hc0 : (nI (b + 6 * i)).toNatClampNeg = b + 6 * i := nI_clamp (by omega)
    have hc1 : (nI (b + 6 * i + 1)).toNatClampNeg = b + 6 * i + 1 := nI_clamp (by omega)
    have hc2 : (nI (b + 6 * i + 2)).toNatClampNeg = b + 6 * i + 2 := nI_clamp (by omega)
    have hc3 : (nI (b + 6 * i + 3)).toNatClampNeg = b + 6 * i + 3 := nI_clamp (by omega)
    have hc4 : (nI (b + 6 * i + 4)).toNatClampNeg = b + 6 * i + 4 := nI_clamp (by omega)
    have hc5 : (nI (b + 6 * i + 5)).toNatClampNeg = b + 6 * i + 5 := nI_clamp (by omega)
    refine at_X11_holdings ?_
    conv => whnf
    simp only [nI_6m, nI_add]
    refine ⟨fun c => absurd c (nI_ge (by omega) (by omega)), fun c => ?_⟩
    conv => whnf
    repeat' first
      | exact mf1_lp hd hb hm hm10 hbm hhb hhm H k (i + 1) _ (by omega) (congrArg nI (by omega)) (fun j hj => by by_cases e : j = i; (subst e; exact z); exact hw j (by omega))
      | exact H _ _ (Or.inl ⟨fun q => z (q i (by omega)), rfl, rfl⟩)
      | (simp only [nI_6m, nI_add, nI_1, nI_k _ 2 2 rfl, nI_k _ 3 3 rfl, nI_k _ 4 4 rfl, nI_k _ 5 5 rfl, nI_k _ 6 6 rfl, hc0, hc1, hc2, hc3, hc4, hc5])
      | ((with_reducible refine ⟨vp_in_nI (by omega) (by decide), ?_⟩) <;> conv => whnf)
      | (refine ⟨Or.inl rfl, ?_⟩ <;> conv => whnf)
      | (refine ⟨Or.inr rfl, ?_⟩ <;> conv => whnf)
      | (refine ⟨Or.inl True.intro, ?_⟩ <;> conv => whnf)
      | (refine ⟨Or.inr True.intro, ?_⟩ <;> conv => whnf)
      | (refine ⟨fun c => ?_, fun c => ?_⟩ <;> first | ((have c9 : (1 : Int32) = 0 := by with_reducible exact c); exact absurd c9 (by decide)) | exact absurd (rfl : (0 : Int32) = 0) (by with_reducible exact c) | exact absurd True.intro (by with_reducible exact c) | exact False.elim (by with_reducible exact c) | (conv => whnf))
      | (refine smf_isHolding (by omega) hb hm (fun z => ?_) (fun z => ?_) <;> conv => whnf)
      | (refine ⟨by unfold vp_in; decide, ?_⟩ <;> conv => whnf)
      | fail
set_option maxRecDepth 100000 in
set_option maxHeartbeats 4000000 in
theorem smf_holdings {d L : Nat} {f : Nat → Nat → Int32} {g : Nat → Nat → Int64} {n h : Nat} {x1 x2 x3 x4 : Int32} {R : Option Value → mH → Prop} (hd : 6 ≤ d) (hz : ∀ s, inr 0 60 (f 225 s)) (hb : f 181 0 = nI n) (hm : n ≤ 40) (hhb : f 181 14 = nI h) (hhm : h ≤ 60) (H : ∀ v f1, SM_holdings n h f f1 x1 x2 x3 x4 v → R (some (.int v)) (shF L, f1, g)) : Run mtab d 240 [.ref 181, .int x1, .int x2, .int x3, .int x4] (shF L, f, g) R := by
  obtain ⟨d, rfl⟩ : ∃ e, d = e + 1 := ⟨d - 1, by omega⟩
  refine go_X11_holdings rfl ?_
  conv => whnf
  refine ct_mIsSheet (by omega) (fun pp => ?_) (fun pp => ?_)
  · obtain ⟨s, hs, rfl⟩ := inr_nat (n := 3) rfl pp.1
    have hcl := cl_s (s := s) (by omega)
    conv => whnf
    refine ⟨fun c => absurd c (by decide), fun _ => ?_⟩
    conv => whnf
    refine ct_i_0_10 (by omega) (fun p2 => ?_) (fun p2 => ?_)
    · obtain ⟨m, hm10, rfl⟩ := inr_nat (n := 10) rfl p2
      have W : ∀ v f1, _ → R (some (.int v)) (shF L, f1, g) := fun v f1 z => H v f1 (Or.inr ⟨s, m, by omega, rfl, pp.2, hm10, rfl, z⟩)
      conv => whnf
      refine ⟨fun _ => ?_, fun c => absurd c (by decide)⟩
      conv => whnf
      refine ⟨vp_in_nI (by omega) (by decide), ?_⟩
      conv => whnf
      simp only [hcl]
      refine ⟨fun c1 => ?_, fun c1 => ?_⟩
      · conv => whnf
        refine ⟨vp_in_nI (by omega) (by decide), ?_⟩
        conv => whnf
        simp only [nI_6m, hcl]
        refine ct_i_0_v (by omega) (fun p3 => ?_) (fun p3 => ?_)
        · obtain ⟨a, rfl, ha⟩ := hd_am hm10 (hz _) p3
          conv => whnf
          refine ⟨fun _ => ?_, fun c => absurd c (by decide)⟩
          conv => whnf
          simp only [nI_60m, nI_add]
          exact mf1_lp (by omega) hb hm hm10 (by omega) hhb hhm (fun v f1 z => W v f1 (Or.inr (Or.inr (Or.inr ⟨c1, p3, a, rfl, ha, z⟩)))) m 0 _ (by omega) rfl (fun j hj => absurd hj (by omega))
        · conv => whnf
          refine ⟨fun c => absurd rfl c, fun _ => ?_⟩
          conv => whnf
          exact W _ _ (Or.inr (Or.inr (Or.inl ⟨c1, p3, rfl, rfl⟩)))
      · conv => whnf
        refine ⟨vp_in_nI (by omega) (by decide), ?_⟩
        conv => whnf
        simp only [hcl]
        refine ⟨fun c => ?_, fun c => ?_⟩
        · conv => whnf
          exact W _ _ (Or.inr (Or.inl ⟨c1, i32_nlt.mpr c, rfl, rfl⟩))
        · conv => whnf
          exact W _ _ (Or.inl ⟨c1, i32_nle.mp c, rfl, rfl⟩)
    · conv => whnf
      refine ⟨fun c => absurd rfl c, fun _ => ?_⟩
      conv => whnf
      exact H _ _ (Or.inl ⟨fun hh => p2 hh.2, rfl, rfl⟩)
  · conv => whnf
    refine ⟨fun _ => ?_, fun c => absurd rfl c⟩
    conv => whnf
    exact H _ _ (Or.inl ⟨fun hh => pp hh.1, rfl, rfl⟩)
