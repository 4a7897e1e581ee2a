def lay (f : Nat → Nat → Int32) (s : Nat) (lane n : Int32) : Nat → Nat → Int32 := m_ui (m_ui (m_fil f (175 + s) 60 0) 179 s lane) 180 s n
/-- the items b .. b + k - 1 of the model's sheets are 0 -/
def m_z (f : Nat → Nat → Int32) (b k : Nat) : Nat → Nat → Int32 := fun a i => if a = 226 ∧ b ≤ i ∧ i < b + k then 0 else f a i
def mlay (f : Nat → Nat → Int32) (s : Nat) (lane n : Int32) : Nat → Nat → Int32 := m_z (m_ui (m_ui f 224 s lane) 225 s n) (60 * s) 60
theorem m_z_0 (f : Nat → Nat → Int32) (b : Nat) : m_z f b 0 = f := by
  funext a i
  show (if a = 226 ∧ b ≤ i ∧ i < b + 0 then 0 else f a i) = f a i
  rw [if_neg (by omega)]
theorem m_z_up (f : Nat → Nat → Int32) (b k : Nat) : m_ui (m_z f b k) 226 (b + k) 0 = m_z f b (k + 1) := by
  funext a i
  show (if a = 226 then (if i = b + k then 0 else m_z f b k a i) else m_z f b k a i) = m_z f b (k + 1) a i
  show (if a = 226 then (if i = b + k then 0 else (if a = 226 ∧ b ≤ i ∧ i < b + k then 0 else f a i)) else (if a = 226 ∧ b ≤ i ∧ i < b + k then 0 else f a i)) = (if a = 226 ∧ b ≤ i ∧ i < b + (k + 1) then 0 else f a i)
  by_cases h1 : a = 226
  · rw [if_pos h1]
    by_cases h2 : i = b + k
    · rw [if_pos h2, if_pos (by omega)]
    · rw [if_neg h2]
      by_cases h3 : a = 226 ∧ b ≤ i ∧ i < b + k
      · rw [if_pos h3, if_pos (by omega)]
      · rw [if_neg h3, if_neg (by omega)]
  · rw [if_neg h1, if_neg (by omega), if_neg (by omega)]
def SX_sheet (f f1 : Nat → Nat → Int32) (x1 x2 x3 v : Int32) : Prop :=
  (¬ ((inr 0 3 x1 ∧ inr 0 2 x2) ∧ x3 ≤ 60) ∧ v = -1 ∧ f1 = f) ∨ (((inr 0 3 x1 ∧ inr 0 2 x2) ∧ x3 ≤ 60) ∧ x3 < 0 ∧ v = -14 ∧ f1 = f) ∨ (∃ s, s < 4 ∧ x1 = nI s ∧ inr 0 2 x2 ∧ inr 0 60 x3 ∧ v = x3 ∧ f1 = lay f s x2 x3)
def SM_sheet (f f1 : Nat → Nat → Int32) (x1 x2 x3 v : Int32) : Prop :=
  (¬ ((inr 0 3 x1 ∧ inr 0 2 x2) ∧ x3 ≤ 60) ∧ v = -1 ∧ f1 = f) ∨ (((inr 0 3 x1 ∧ inr 0 2 x2) ∧ x3 ≤ 60) ∧ x3 < 0 ∧ v = -14 ∧ f1 = f) ∨ (∃ s, s < 4 ∧ x1 = nI s ∧ inr 0 2 x2 ∧ inr 0 60 x3 ∧ v = x3 ∧ f1 = mlay f s x2 x3)
def SX_drop (f f1 : Nat → Nat → Int32) (x1 v : Int32) : Prop :=
  (¬ inr 0 3 x1 ∧ v = -1 ∧ f1 = f) ∨ (∃ s, s < 4 ∧ x1 = nI s ∧ ((f 180 s = -1 ∧ v = -11 ∧ f1 = f) ∨ (¬ f 180 s = -1 ∧ v = f 180 s ∧ f1 = m_ui f 180 s (-1))))
def SM_drop (f f1 : Nat → Nat → Int32) (x1 v : Int32) : Prop :=
  (¬ inr 0 3 x1 ∧ v = -1 ∧ f1 = f) ∨ (∃ s, s < 4 ∧ x1 = nI s ∧ ((f 224 s < 0 ∧ v = -11 ∧ f1 = f) ∨ (¬ f 224 s < 0 ∧ v = f 225 s ∧ f1 = m_ui f 224 s (-1))))
def SX_item (f f1 : Nat → Nat → Int32) (x1 x2 x3 x4 v : Int32) : Prop :=
  (¬ (inr 0 3 x1 ∧ inr 0 2 x2) ∧ v = -1 ∧ f1 = f) ∨ (∃ s, s < 4 ∧ x1 = nI s ∧ inr 0 2 x2 ∧ ((f 180 s = -1 ∧ v = -11 ∧ f1 = f) ∨ (¬ f 180 s = -1 ∧ ¬ f 179 s = x2 ∧ v = -12 ∧ f1 = f) ∨ (¬ f 180 s = -1 ∧ f 179 s = x2 ∧ (x3 < 0 ∨ f 180 s - 1 < x3) ∧ v = -13 ∧ f1 = f) ∨ (¬ f 180 s = -1 ∧ f 179 s = x2 ∧ ¬ (x3 < 0 ∨ f 180 s - 1 < x3) ∧ ∃ k, k < 60 ∧ x3 = nI k ∧ v = 1 ∧ f1 = m_ui f (175 + s) k (if x2 = 0 then x4.toInt16.toInt32 else x4))))
def SM_item (f f1 : Nat → Nat → Int32) (x1 x2 x3 x4 v : Int32) : Prop :=
  (¬ (inr 0 3 x1 ∧ inr 0 2 x2) ∧ v = -1 ∧ f1 = f) ∨ (∃ s, s < 4 ∧ x1 = nI s ∧ inr 0 2 x2 ∧ ((¬ f 224 s = x2 ∧ f 224 s < 0 ∧ v = -11 ∧ f1 = f) ∨ (¬ f 224 s = x2 ∧ ¬ f 224 s < 0 ∧ v = -12 ∧ f1 = f) ∨ (f 224 s = x2 ∧ ¬ inr 0 (f 225 s - 1) x3 ∧ v = -13 ∧ f1 = f) ∨ (f 224 s = x2 ∧ inr 0 (f 225 s - 1) x3 ∧ ∃ k, k < 60 ∧ x3 = nI k ∧ v = 1 ∧ f1 = m_ui f 226 (60 * s + k) (if x2 = 0 then (x4 <<< (16 &&& 31)) >>> (16 &&& 31) else x4))))
theorem cl_s {s : Nat} (h : s < 4) : (nI s).toNatClampNeg = s := nI_clamp (by omega)
set_option maxRecDepth 100000 in
set_option maxHeartbeats 4000000 in
theorem sf_refuse {d L : Nat} {f : Nat → Nat → Int32} {g : Nat → Nat → Int64} {s : Nat} {y w u : Int32} {R : Option Value → mH → Prop} (hd : 1 ≤ d) (hs : s < 4) (HN : f 180 s = -1 → R (some (.int (-11))) (shF L, f, g)) (HC : ¬ f 180 s = -1 → ¬ f 179 s = y → R (some (.int (-12))) (shF L, f, g)) (HI : ¬ f 180 s = -1 → f 179 s = y → (w < 0 ∨ f 180 s - u < w) → R (some (.int (-13))) (shF L, f, g)) (H0 : ¬ f 180 s = -1 → f 179 s = y → ¬ (w < 0 ∨ f 180 s - u < w) → R (some (.int 0)) (shF L, f, g)) : Run mtab d 65 [.ref 173, .int (nI s), .int y, .int w, .int u] (shF L, f, g) R := by
  obtain ⟨d, rfl⟩ : ∃ e, d = e + 1 := ⟨d - 1, by omega⟩
  refine go_X7_refuse rfl ?_
  conv => whnf
  have hcl := cl_s hs
  refine ⟨vp_in_nI (by omega) (by decide), ?_⟩
  conv => whnf
  simp only [hcl]
  refine ⟨fun c1 => ?_, fun c1 => ?_⟩
  · conv => whnf
    refine ⟨vp_in_nI (by omega) (by decide), ?_⟩
    conv => whnf
    simp only [hcl]
    refine ⟨fun c2 => ?_, fun c2 => ?_⟩
    · conv => whnf
      refine ⟨fun c3 => ?_, fun c3 => ?_⟩
      · conv => whnf
        exact HI c1 c2 (Or.inl c3)
      · conv => whnf
        refine ⟨vp_in_nI (by omega) (by decide), ?_⟩
        conv => whnf
        simp only [hcl]
        refine ⟨fun c4 => ?_, fun c4 => ?_⟩
        · conv => whnf
          exact H0 c1 c2 (fun q => q.elim c3 (fun z => absurd c4 (i32_nle.mpr z)))
        · conv => whnf
          exact HI c1 c2 (Or.inr (i32_nle.mp c4))
    · conv => whnf
      exact HC c1 c2
  · conv => whnf
    exact HN c1
set_option maxRecDepth 100000 in
set_option maxHeartbeats 4000000 in
theorem sf_lay {d L : Nat} {f : Nat → Nat → Int32} {g : Nat → Nat → Int64} {s : Nat} {y w : Int32} {R : Option Value → mH → Prop} (hd : 2 ≤ d) (hs : s < 4) (H : R none (shF L, lay f s y w, g)) : Run mtab d 64 [.ref 173, .int (nI s), .int y, .int w] (shF L, f, g) R := by
  obtain ⟨d, rfl⟩ : ∃ e, d = e + 1 := ⟨d - 1, by omega⟩
  refine go_X7_lay rfl ?_
  conv => whnf
  have h4 : s = 0 ∨ s = 1 ∨ s = 2 ∨ s = 3 := by omega
  rcases h4 with rfl | rfl | rfl | rfl
  all_goals
    refine ⟨⟨by unfold vp_in; decide, by decide, by decide⟩, ?_⟩
    conv => whnf
    refine ct_fill (n := 60) (by omega) rfl (by decide) ?_
    conv => whnf
    refine ⟨by unfold vp_in; decide, ?_⟩
    conv => whnf
    refine ⟨by unfold vp_in; decide, ?_⟩
    conv => whnf
    exact H
set_option maxRecDepth 100000 in
set_option maxHeartbeats 4000000 in
theorem sf_sheet {d L : Nat} {f : Nat → Nat → Int32} {g : Nat → Nat → Int64} {x1 x2 x3 : Int32} {R : Option Value → mH → Prop} (hd : 5 ≤ d) (H : ∀ v f1, SX_sheet f f1 x1 x2 x3 v → R (some (.int v)) (shF L, f1, g)) : Run mtab d 130 [.ref 5, .int x1, .int x2, .int x3] (shF L, f, g) R := by
  obtain ⟨d, rfl⟩ : ∃ e, d = e + 1 := ⟨d - 1, by omega⟩
  refine go_X10_sheet rfl ?_
  conv => whnf
  refine ct_isSheet (by omega) (fun p1 => ?_) (fun p1 => ?_)
  · conv => whnf
    refine ⟨fun c => absurd c (by decide), fun _ => ?_⟩
    conv => whnf
    refine ct_isLane (by omega) (fun p2 => ?_) (fun p2 => ?_)
    · conv => whnf
      refine ⟨fun c => absurd c (by decide), fun _ => ?_⟩
      conv => whnf
      refine ⟨fun c1 => ?_, fun c1 => ?_⟩
      · conv => whnf
        refine ⟨fun c2 => ?_, fun c2 => ?_⟩
        · obtain ⟨s, hs, rfl⟩ := inr_nat (n := 3) rfl p1
          conv => whnf
          refine sf_lay (by omega) (by omega) ?_
          conv => whnf
          exact H _ _ (Or.inr (Or.inr ⟨s, by omega, rfl, p2, ⟨c2, c1⟩, rfl, rfl⟩))
        · conv => whnf
          exact H _ _ (Or.inr (Or.inl ⟨⟨⟨p1, p2⟩, c1⟩, i32_nle.mp c2, rfl, rfl⟩))
      · conv => whnf
        exact H _ _ (Or.inl ⟨fun hh => by first | exact absurd hh.1.1 (by with_reducible assumption) | exact absurd hh.1.2 (by with_reducible assumption) | exact absurd hh.2 (by with_reducible assumption) | exact absurd hh.1 (by with_reducible assumption), rfl, rfl⟩)
    · conv => whnf
      refine ⟨fun _ => ?_, fun c => absurd rfl c⟩
      conv => whnf
      exact H _ _ (Or.inl ⟨fun hh => by first | exact absurd hh.1.1 (by with_reducible assumption) | exact absurd hh.1.2 (by with_reducible assumption) | exact absurd hh.2 (by with_reducible assumption) | exact absurd hh.1 (by with_reducible assumption), rfl, rfl⟩)
  · conv => whnf
    refine ⟨fun _ => ?_, fun c => absurd rfl c⟩
    conv => whnf
    exact H _ _ (Or.inl ⟨fun hh => by first | exact absurd hh.1.1 (by with_reducible assumption) | exact absurd hh.1.2 (by with_reducible assumption) | exact absurd hh.2 (by with_reducible assumption) | exact absurd hh.1 (by with_reducible assumption), rfl, rfl⟩)
set_option maxRecDepth 100000 in
set_option maxHeartbeats 4000000 in
theorem sf_drop {d L : Nat} {f : Nat → Nat → Int32} {g : Nat → Nat → Int64} {x1 : Int32} {R : Option Value → mH → Prop} (hd : 4 ≤ d) (H : ∀ v f1, SX_drop f f1 x1 v → R (some (.int v)) (shF L, f1, g)) : Run mtab d 131 [.ref 5, .int x1] (shF L, f, g) R := by
  obtain ⟨d, rfl⟩ : ∃ e, d = e + 1 := ⟨d - 1, by omega⟩
  refine go_X10_drop rfl ?_
  conv => whnf
  refine ct_isSheet (by omega) (fun p1 => ?_) (fun p1 => ?_)
  · obtain ⟨s, hs, rfl⟩ := inr_nat (n := 3) rfl p1
    have hcl := cl_s (s := s) (by omega)
    conv => whnf
    refine ⟨fun _ => ?_, fun c => absurd c (by decide)⟩
    conv => whnf
    refine ⟨vp_in_nI (by omega) (by decide), ?_⟩
    conv => whnf
    simp only [hcl]
    refine ⟨fun c1 => ?_, fun c1 => ?_⟩
    · conv => whnf
      refine ⟨vp_in_nI (by omega) (by decide), ?_⟩
      conv => whnf
      refine ⟨vp_in_nI (by omega) (by decide), ?_⟩
      conv => whnf
      simp only [hcl]
      exact H _ _ (Or.inr ⟨s, by omega, rfl, Or.inr ⟨c1, rfl, rfl⟩⟩)
    · conv => whnf
      exact H _ _ (Or.inr ⟨s, by omega, rfl, Or.inl ⟨c1, rfl, rfl⟩⟩)
  · conv => whnf
    refine ⟨fun c => absurd rfl c, fun _ => ?_⟩
    conv => whnf
    exact H _ _ (Or.inl ⟨p1, rfl, rfl⟩)
theorem it_k {l w : Int32} (hl : inr (-1) 60 l) (h : ¬ (w < 0 ∨ l - 1 < w)) : ∃ k, k < 60 ∧ w = nI k := by
  have hv := vp_sheet hl (fun q => h (Or.inl q)) (fun q => h (Or.inr q))
  obtain ⟨k, hk, rfl⟩ := nI_of (fun q => h (Or.inl q))
  exact ⟨k, by have := vp_lt hv; rw [nI_clamp hk] at this; exact this, rfl⟩
set_option maxRecDepth 100000 in
set_option maxHeartbeats 4000000 in
theorem sf_item {d L : Nat} {f : Nat → Nat → Int32} {g : Nat → Nat → Int64} {x1 x2 x3 x4 : Int32} {R : Option Value → mH → Prop} (hd : 5 ≤ d) (hX : XI f) (H : ∀ v f1, SX_item f f1 x1 x2 x3 x4 v → R (some (.int v)) (shF L, f1, g)) : Run mtab d 132 [.ref 5, .int x1, .int x2, .int x3, .int x4] (shF L, f, g) R := by
  obtain ⟨d, rfl⟩ : ∃ e, d = e + 1 := ⟨d - 1, by omega⟩
  refine go_X10_item rfl ?_
  conv => whnf
  refine ct_isSheet (by omega) (fun p1 => ?_) (fun p1 => ?_)
  · obtain ⟨s, hs, rfl⟩ := inr_nat (n := 3) rfl p1
    conv => whnf
    refine ⟨fun c => absurd c (by decide), fun _ => ?_⟩
    conv => whnf
    refine ct_isLane (by omega) (fun p2 => ?_) (fun p2 => ?_)
    · conv => whnf
      refine ⟨fun _ => ?_, fun c => absurd c (by decide)⟩
      conv => whnf
      have W : ∀ v f1, ((f 180 s = -1 ∧ v = -11 ∧ f1 = f) ∨ (¬ f 180 s = -1 ∧ ¬ f 179 s = x2 ∧ v = -12 ∧ f1 = f) ∨ (¬ f 180 s = -1 ∧ f 179 s = x2 ∧ (x3 < 0 ∨ f 180 s - 1 < x3) ∧ v = -13 ∧ f1 = f) ∨ (¬ f 180 s = -1 ∧ f 179 s = x2 ∧ ¬ (x3 < 0 ∨ f 180 s - 1 < x3) ∧ ∃ k, k < 60 ∧ x3 = nI k ∧ v = 1 ∧ f1 = m_ui f (175 + s) k (if x2 = 0 then x4.toInt16.toInt32 else x4))) → R (some (.int v)) (shF L, f1, g) := fun v f1 z => H v f1 (Or.inr ⟨s, by omega, rfl, p2, z⟩)
      refine sf_refuse (by omega) (by omega) (fun z1 => ?_) (fun z1 z2 => ?_) (fun z1 z2 z3 => ?_) (fun z1 z2 z3 => ?_)
      · conv => whnf
        refine ⟨fun c => absurd c (by decide), fun _ => ?_⟩
        conv => whnf
        exact W _ _ (Or.inl ⟨z1, rfl, rfl⟩)
      · conv => whnf
        refine ⟨fun c => absurd c (by decide), fun _ => ?_⟩
        conv => whnf
        exact W _ _ (Or.inr (Or.inl ⟨z1, z2, rfl, rfl⟩))
      · conv => whnf
        refine ⟨fun c => absurd c (by decide), fun _ => ?_⟩
        conv => whnf
        exact W _ _ (Or.inr (Or.inr (Or.inl ⟨z1, z2, z3, rfl, rfl⟩)))
      · obtain ⟨k, hk, rfl⟩ := it_k (xi_180 hX s) z3
        have hck : (nI k).toNatClampNeg = k := nI_clamp (by omega)
        conv => whnf
        refine ⟨fun _ => ?_, fun c => absurd rfl c⟩
        have h4 : s = 0 ∨ s = 1 ∨ s = 2 ∨ s = 3 := by omega
        have W2 := W 1 _ (Or.inr (Or.inr (Or.inr ⟨z1, z2, z3, k, hk, rfl, rfl, rfl⟩)))
        clear W H
        rcases h4 with rfl | rfl | rfl | rfl
        all_goals
          conv => whnf
          refine ⟨⟨by unfold vp_in; decide, by decide, by decide⟩, ?_⟩
          conv => whnf
          refine ⟨fun c => ?_, fun c => ?_⟩
          · conv => whnf
            refine ⟨vp_in_nI (by omega) (by decide), ?_⟩
            conv => whnf
            simp only [hck]
            rw [if_neg c] at W2
            exact W2
          · conv => whnf
            refine ⟨vp_in_nI (by omega) (by decide), ?_⟩
            conv => whnf
            simp only [hck]
            rw [if_pos c] at W2
            exact W2
    · conv => whnf
      refine ⟨fun c => absurd rfl c, fun _ => ?_⟩
      conv => whnf
      exact H _ _ (Or.inl ⟨fun hh => p2 hh.2, rfl, rfl⟩)
  · conv => whnf
    refine ⟨fun _ => ?_, fun c => absurd rfl c⟩
    conv => whnf
    exact H _ _ (Or.inl ⟨fun hh => p1 hh.1, rfl, rfl⟩)
set_option maxRecDepth 100000 in
theorem mz_lp {d L s : Nat} {f : Nat → Nat → Int32} {g : Nat → Nat → Int64} {w y : Int32} {R : Option Value → mH → Prop} (hs : s < 4) (H : R (some (.int y)) (shF L, m_z f (60 * s) 60, g)) :
    ∀ (k i : Nat) (x : Int32), i + k = 60 → x = nI i → WPe pg_X11_sheet none (Run mtab d) R (m_drop pg_X11_sheet 25) [some (.ref 181), some (.int (nI s)), some (.int w), some (.int y), some (.int x)] [] (shF L, m_z f (60 * s) i, g)
  | 0, i, x, hi, hx => by
    have e : i = 60 := by omega
    subst e
    subst hx
    refine at_X11_sheet ?_
    conv => whnf
    refine ⟨fun _ => ?_, fun c => absurd (by decide) c⟩
    conv => whnf
    exact H
  | k + 1, i, x, hi, hx => by
    subst hx
    have hc : (nI (60 * s + i)).toNatClampNeg = 60 * s + i := nI_clamp (by omega)
    refine at_X11_sheet ?_
    conv => whnf
    refine ⟨fun c => absurd c (nI_ge (b := 60) (by omega) (by omega)), fun c => ?_⟩
    conv => whnf
    simp only [nI_60m, nI_60a]
    refine ⟨vp_in_nI (by omega) (by decide), ?_⟩
    conv => whnf
    simp only [hc, m_z_up]
    exact mz_lp hs H k (i + 1) _ (by omega) (nI_1 i)
set_option maxRecDepth 100000 in
set_option maxHeartbeats 4000000 in
theorem smf_sheet {d L : Nat} {f : Nat → Nat → Int32} {g : Nat → Nat → Int64} {x1 x2 x3 : Int32} {R : Option Value → mH → Prop} (hd : 4 ≤ d) (H : ∀ v f1, SM_sheet f f1 x1 x2 x3 v → R (some (.int v)) (shF L, f1, g)) : Run mtab d 237 [.ref 181, .int x1, .int x2, .int x3] (shF L, f, g) R := by
  obtain ⟨d, rfl⟩ : ∃ e, d = e + 1 := ⟨d - 1, by omega⟩
  refine go_X11_sheet rfl ?_
  conv => whnf
  refine ct_mIsSheet (by omega) (fun p1 => ?_) (fun p1 => ?_)
  · conv => whnf
    refine ⟨fun c => absurd c (by decide), fun _ => ?_⟩
    conv => whnf
    refine ⟨fun c1 => ?_, fun c1 => ?_⟩
    · conv => whnf
      refine ⟨fun c2 => ?_, fun c2 => ?_⟩
      · obtain ⟨s, hs, rfl⟩ := inr_nat (n := 3) rfl p1.1
        have hcl := cl_s (s := s) (by omega)
        conv => whnf
        refine ⟨vp_in_nI (by omega) (by decide), ?_⟩
        conv => whnf
        refine ⟨vp_in_nI (by omega) (by decide), ?_⟩
        conv => whnf
        simp only [hcl]
        have := mz_lp (d := d) (L := L) (g := g) (w := x2) (by omega) (H x3 _ (Or.inr (Or.inr ⟨s, by omega, rfl, p1.2, ⟨c2, c1⟩, rfl, rfl⟩))) 60 0 _ (by omega) rfl
        rw [m_z_0] at this
        exact this
      · conv => whnf
        exact H _ _ (Or.inr (Or.inl ⟨⟨p1, c1⟩, i32_nle.mp c2, rfl, rfl⟩))
    · conv => whnf
      exact H _ _ (Or.inl ⟨fun hh => c1 hh.2, rfl, rfl⟩)
  · conv => whnf
    refine ⟨fun _ => ?_, fun c => absurd rfl c⟩
    conv => whnf
    exact H _ _ (Or.inl ⟨fun hh => p1 hh.1, rfl, rfl⟩)
set_option maxRecDepth 100000 in
set_option maxHeartbeats 4000000 in
theorem smf_drop {d L : Nat} {f : Nat → Nat → Int32} {g : Nat → Nat → Int64} {x1 : Int32} {R : Option Value → mH → Prop} (hd : 4 ≤ d) (H : ∀ v f1, SM_drop f f1 x1 v → R (some (.int v)) (shF L, f1, g)) : Run mtab d 238 [.ref 181, .int x1] (shF L, f, g) R := by
  obtain ⟨d, rfl⟩ : ∃ e, d = e + 1 := ⟨d - 1, by omega⟩
  refine go_X11_drop rfl ?_
  conv => whnf
  refine ct_i_0_3 (by omega) (fun p1 => ?_) (fun p1 => ?_)
  · obtain ⟨s, hs, rfl⟩ := inr_nat (n := 3) rfl p1
    have hcl := cl_s (s := s) (by omega)
    conv => whnf
    refine ⟨fun _ => ?_, fun c => absurd c (by decide)⟩
    conv => whnf
    refine ⟨vp_in_nI (by omega) (by decide), ?_⟩
    conv => whnf
    simp only [hcl]
    refine ⟨fun c1 => ?_, fun c1 => ?_⟩
    · conv => whnf
      refine ⟨vp_in_nI (by omega) (by decide), ?_⟩
      conv => whnf
      refine ⟨vp_in_nI (by omega) (by decide), ?_⟩
      conv => whnf
      simp only [hcl]
      exact H _ _ (Or.inr ⟨s, by omega, rfl, Or.inr ⟨i32_nlt.mpr c1, rfl, rfl⟩⟩)
    · conv => whnf
      exact H _ _ (Or.inr ⟨s, by omega, rfl, Or.inl ⟨i32_nle.mp c1, rfl, rfl⟩⟩)
  · conv => whnf
    refine ⟨fun c => absurd rfl c, fun _ => ?_⟩
    conv => whnf
    exact H _ _ (Or.inl ⟨p1, rfl, rfl⟩)
set_option maxRecDepth 100000 in
set_option maxHeartbeats 4000000 in
theorem smf_item {d L : Nat} {f : Nat → Nat → Int32} {g : Nat → Nat → Int64} {x1 x2 x3 x4 : Int32} {R : Option Value → mH → Prop} (hd : 4 ≤ d) (hz : ∀ s, inr 0 60 (f 225 s)) (H : ∀ v f1, SM_item f f1 x1 x2 x3 x4 v → R (some (.int v)) (shF L, f1, g)) : Run mtab d 239 [.ref 181, .int x1, .int x2, .int x3, .int x4] (shF L, f, g) R := by
  obtain ⟨d, rfl⟩ : ∃ e, d = e + 1 := ⟨d - 1, by omega⟩
  refine go_X11_item rfl ?_
  conv => whnf
  refine ct_mIsSheet (by omega) (fun p1 => ?_) (fun p1 => ?_)
  · obtain ⟨s, hs, rfl⟩ := inr_nat (n := 3) rfl p1.1
    have hcl := cl_s (s := s) (by omega)
    have W : ∀ v f1, _ → R (some (.int v)) (shF L, f1, g) := fun v f1 z => H v f1 (Or.inr ⟨s, by omega, rfl, p1.2, z⟩)
    conv => whnf
    refine ⟨fun _ => ?_, fun c => absurd c (by decide)⟩
    conv => whnf
    refine ⟨vp_in_nI (by omega) (by decide), ?_⟩
    conv => whnf
    simp only [hcl]
    refine ⟨fun c1 => ?_, fun c1 => ?_⟩
    · conv => whnf
      refine ⟨vp_in_nI (by omega) (by decide), ?_⟩
      conv => whnf
      simp only [hcl]
      refine ct_i_0_v (by omega) (fun p3 => ?_) (fun p3 => ?_)
      · obtain ⟨z, hz, ez⟩ := inr_nat (n := 60) rfl (hz s)
        have p4 := p3
        rw [ez] at p4
        obtain ⟨k, hk, rfl⟩ := inr_cnt (by omega) p4
        have hck : (nI (60 * s + k)).toNatClampNeg = 60 * s + k := nI_clamp (by omega)
        have W2 := W 1 _ (Or.inr (Or.inr (Or.inr ⟨c1, p3, k, by omega, rfl, rfl, rfl⟩)))
        conv => whnf
        refine ⟨fun _ => ?_, fun c => absurd c (by decide)⟩
        conv => whnf
        refine ⟨fun c => ?_, fun c => ?_⟩
        · conv => whnf
          simp only [nI_60m, nI_60a]
          refine ⟨vp_in_nI (by omega) (by decide), ?_⟩
          conv => whnf
          simp only [hck]
          rw [if_neg c] at W2
          exact W2
        · conv => whnf
          simp only [nI_60m, nI_60a]
          refine ⟨vp_in_nI (by omega) (by decide), ?_⟩
          conv => whnf
          simp only [hck]
          rw [if_pos c] at W2
          exact W2
      · conv => whnf
        refine ⟨fun c => absurd rfl c, fun _ => ?_⟩
        conv => whnf
        exact W _ _ (Or.inr (Or.inr (Or.inl ⟨c1, p3, rfl, rfl⟩)))
    · conv => whnf
      refine ⟨vp_in_nI (by omega) (by decide), ?_⟩
      conv => whnf
      simp only [hcl]
      refine ⟨fun c2 => ?_, fun c2 => ?_⟩
      · conv => whnf
        exact W _ _ (Or.inr (Or.inl ⟨c1, i32_nlt.mpr c2, rfl, rfl⟩))
      · conv => whnf
        exact W _ _ (Or.inl ⟨c1, i32_nle.mp c2, rfl, rfl⟩)
  · conv => whnf
    refine ⟨fun c => absurd rfl c, fun _ => ?_⟩
    conv => whnf
    exact H _ _ (Or.inl ⟨fun hh => p1 hh, rfl, rfl⟩)
