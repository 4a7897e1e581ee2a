def lay (f : Nat → Nat → Int32) (s : Nat) (lane n : Int32) : Nat → Nat → Int32 := m_ui (m_ui (m_fil f (175 + s) 60 0) 179 s lane) 180 s n
/-- the items b .. b + k - 1 of the model's sheets are 0 -/
def m_z (f : Nat → Nat → Int32) (b k : Nat) : Nat → Nat → Int32 := fun a i => if a = 226 ∧ b ≤ i ∧ i < b + k then 0 else f a i
def mlay (f : Nat → Nat → Int32) (s : Nat) (lane n : Int32) : Nat → Nat → Int32 := m_z (m_ui (m_ui f 224 s lane) 225 s n) (60 * s) 60
theorem m_z_0 (f : Nat → Nat → Int32) (b : Nat) : m_z f b 0 = f := by
  funext a i
  show (if a = 226 ∧ b ≤ i ∧ i < b + 0 then 0 else f a i) = f a i
  rw [if_neg (by omega)]
theorem m_z_up (f : Nat → Nat → Int32) (b k : Nat) : m_ui (m_z f b k) 226 (b + k) 0 = m_z f b (k + 1) := by
  funext a i
  show (if a = 226 then (if i = b + k then 0 else m_z f b k a i) else m_z f b k a i) = m_z f b (k + 1) a i
  show (if a = 226 then (if i = b + k then 0 else (if a = 226 ∧ b ≤ i ∧ i < b + k then 0 else f a i)) else (if a = 226 ∧ b ≤ i ∧ i < b + k then 0 else f a i)) = (if a = 226 ∧ b ≤ i ∧ i < b + (k + 1) then 0 else f a i)
  by_cases h1 : a = 226
  · rw [if_pos h1]
    by_cases h2 : i = b + k
    · rw [if_pos h2, if_pos (by omega)]
    · rw [if_neg h2]
      by_cases h3 : a = 226 ∧ b ≤ i ∧ i < b + k
      · rw [if_pos h3, if_pos (by omega)]
      · rw [if_neg h3, if_neg (by omega)]
  · rw [if_neg h1, if_neg (by omega), if_neg (by omega)]
def SX_sheet (f f1 : Nat → Nat → Int32) (x1 x2 x3 v : Int32) : Prop :=
  (¬ ((inr 0 3 x1 ∧ inr 0 2 x2) ∧ x3 ≤ 60) ∧ v = -1 ∧ f1 = f) ∨ (((inr 0 3 x1 ∧ inr 0 2 x2) ∧ x3 ≤ 60) ∧ x3 < 0 ∧ v = -14 ∧ f1 = f) ∨ (∃ s, s < 4 ∧ x1 = nI s ∧ inr 0 2 x2 ∧ inr 0 60 x3 ∧ v = x3 ∧ f1 = lay f s x2 x3)
def SM_sheet (f f1 : Nat → Nat → Int32) (x1 x2 x3 v : Int32) : Prop :=
  (¬ ((inr 0 3 x1 ∧ inr 0 2 x2) ∧ x3 ≤ 60) ∧ v = -1 ∧ f1 = f) ∨ (((inr 0 3 x1 ∧ inr 0 2 x2) ∧ x3 ≤ 60) ∧ x3 < 0 ∧ v = -14 ∧ f1 = f) ∨ (∃ s, s < 4 ∧ x1 = nI s ∧ inr 0 2 x2 ∧ inr 0 60 x3 ∧ v = x3 ∧ f1 = mlay f s x2 x3)
def SX_drop (f f1 : Nat → Nat → Int32) (x1 v : Int32) : Prop :=
  (¬ inr 0 3 x1 ∧ v = -1 ∧ f1 = f) ∨ (∃ s, s < 4 ∧ x1 = nI s ∧ ((f 180 s = -1 ∧ v = -11 ∧ f1 = f) ∨ (¬ f 180 s = -1 ∧ v = f 180 s ∧ f1 = m_ui f 180 s (-1))))
def SM_drop (f f1 : Nat → Nat → Int32) (x1 v : Int32) : Prop :=
  (¬ inr 0 3 x1 ∧ v = -1 ∧ f1 = f) ∨ (∃ s, s < 4 ∧ x1 = nI s ∧ ((f 224 s < 0 ∧ v = -11 ∧ f1 = f) ∨ (¬ f 224 s < 0 ∧ v = f 225 s ∧ f1 = m_ui f 224 s (-1))))
def SX_item (f f1 : Nat → Nat → Int32) (x1 x2 x3 x4 v : Int32) : Prop :=
  (¬ (inr 0 3 x1 ∧ inr 0 2 x2) ∧ v = -1 ∧ f1 = f) ∨ (∃ s, s < 4 ∧ x1 = nI s ∧ inr 0 2 x2 ∧ ((f 180 s = -1 ∧ v = -11 ∧ f1 = f) ∨ (¬ f 180 s = -1 ∧ ¬ f 179 s = x2 ∧ v = -12 ∧ f1 = f) ∨ (¬ f 180 s = -1 ∧ f 179 s = x2 ∧ (x3 < 0 ∨ f 180 s - 1 < x3) ∧ v = -13 ∧ f1 = f) ∨ (¬ f 180 s = -1 ∧ f 179 s = x2 ∧ ¬ (x3 < 0 ∨ f 180 s - 1 < x3) ∧ ∃ k, k < 60 ∧ x3 = nI k ∧ v = 1 ∧ f1 = m_ui f (175 + s) k (if x2 = 0 then x4.toInt16.toInt32 else x4))))
def SM_item (f f1 : Nat → Nat → Int32) (x1 x2 x3 x4 v : Int32) : Prop :=
  (¬ (inr 0 3 x1 ∧ inr 0 2 x2) ∧ v = -1 ∧ f1 = f) ∨ (∃ s, s < 4 ∧ x1 = nI s ∧ inr 0 2 x2 ∧ ((¬ f 224 s = x2 ∧ f 224 s < 0 ∧ v = -11 ∧ f1 = f) ∨ (¬ f 224 s = x2 ∧ ¬ f 224 s < 0 ∧ v = -12 ∧ f1 = f) ∨ (f 224 s = x2 ∧ ¬ inr 0 (f 225 s - 1) x3 ∧ v = -13 ∧ f1 = f) ∨ (f 224 s = x2 ∧ inr 0 (f 225 s - 1) x3 ∧ ∃ k, k < 60 ∧ x3 = nI k ∧ v = 1 ∧ f1 = m_ui f 226 (60 * s + k) (if x2 = 0 then (x4 <<< (16 &&& 31)) >>> (16 &&& 31) else x4))))
theorem cl_s {s : Nat} (h : s < 4) : (nI s).toNatClampNeg = s := nI_clamp (by omega)
set_option maxRecDepth 100000 in
set_option maxHeartbeats 4000000 in
theorem sf_refuse {d L : Nat} {f : Nat → Nat → Int32} {g : Nat → Nat → Int64} {s : Nat} {y w u : Int32} {R : Option Value → mH → Prop} (hd : 1 ≤ d) (hs : s < 4) (HN : f 180 s = -1 → R (some (.int (-11))) (shF L, f, g)) (HC : ¬ f 180 s = -1 → ¬ f 179 s = y → R (some (.int (-12))) (shF L, f, g)) (HI : ¬ f 180 s = -1 → f 179 s = y → (w < 0 ∨ f 180 s - u < w) → R (some (.int (-13))) (shF L, f, g)) (H0 : ¬ f 180 s = -1 → f 179 s = y → ¬ (w < 0 ∨ f 180 s - u < w) → R (some (.int 0)) (shF L, f, g)) : Run mtab d 65 [.ref 173, .int (nI s), .int y, .int w, .int u] (shF L, f, g) R := by
  obtain ⟨d, rfl⟩ : ∃ e, d = e + 1 := ⟨d - 1, by omega⟩
  refine go_X7_refuse rfl ?_
  conv => whnf
  have hcl := cl_s hs
  refine ⟨vp_in_nI (by omega) (by decide), ?_⟩
  conv => whnf
  simp only [hcl]
  refine ⟨fun c1 => ?_, fun c1 => ?_⟩
  · conv => whnf
    refine ⟨vp_in_nI (by omega) (by decide), ?_⟩
    conv => whnf
    simp only [hcl]
    refine ⟨fun c2 => ?_, fun c2 => ?_⟩
    · conv => whnf
      refine ⟨fun c3 => ?_, fun c3 => ?_⟩
      · conv => whnf
        exact HI c1 c2 (Or.inl c3)
      · conv => whnf
        refine ⟨vp_in_nI (by omega) (by decide), ?_⟩
        conv => whnf
        simp only [hcl]
        refine ⟨fun c4 => ?_, fun c4 => ?_⟩
        · conv => whnf
          exact H0 c1 c2 (fun q => q.elim c3 (fun z => absurd c4 (i32_nle.mpr z)))
        · conv => whnf
          exact HI c1 c2 (Or.inr (i32_nle.mp c4))
    · conv => whnf
      exact HC c1 c2
  · conv => whnf
    exact HN c1
set_option maxRecDepth 100000 in
set_option maxHeartbeats 4000000 in
theorem sf_lay {d L : Nat} {f : Nat → Nat → Int32} {g : Nat → Nat → Int64} {s : Nat} {y w : Int32} {R : Option Value → mH → Prop} (hd : 2 ≤ d) (hs : s < 4) (H : R none (shF L, lay f s y w, g)) : Run mtab d 64 [.ref 173, .int (nI s), .int y, .int w] (shF L, f, g) R := by
  obtain ⟨d, rfl⟩ : ∃ e, d = e + 1 := ⟨d - 1, by omega⟩
  refine go_X7_lay rfl ?_
  conv => whnf
  have h4 : s = 0 ∨ s = 1 ∨ s = 2 ∨ s = 3 := by omega
  rcases h4 with rfl | rfl | rfl | rfl
  all_goals
    refine ⟨⟨by unfold vp_in; decide, by decide, by decide⟩, ?_⟩
    conv => whnf
    refine ct_fill (n := 60) (by omega) rfl (by decide) ?_
    conv => whnf
    refine ⟨by unfold vp_in; decide, ?_⟩
    conv => whnf
    refine ⟨by unfold vp_in; decide, ?_⟩
    conv => whnf
    exact H
set_option maxRecDepth 100000 in
set_option maxHeartbeats 4000000 in
theorem sf_sheet {d L : Nat} {f : Nat → Nat → Int32} {g : Nat → Nat → Int64} {x1 x2 x3 : Int32} {R : Option Value → mH → Prop} (hd : 5 ≤ d) (H : ∀ v f1, SX_sheet f f1 x1 x2 x3 v → R (some (.int v)) (shF L, f1, g)) : Run mtab d 130 [.ref 5, .int x1, .int x2, .int x3] (shF L, f, g) R := by
  obtain ⟨d, rfl⟩ : ∃ e, d = e + 1 := ⟨d - 1, by omega⟩
  refine go_X10_sheet rfl ?_
  conv => whnf
  refine ct_isSheet (by omega) (fun p1 => ?_) (fun p1 => ?_)
  · conv => whnf
    refine ⟨fun c => absurd c (by decide), fun _ => ?_⟩
    conv => whnf
    refine ct_isLane (by omega) (fun p2 => ?_) (fun p2 => ?_)
    · conv => whnf
      refine ⟨fun c => absurd c (by decide), fun _ => ?_⟩
      conv => whnf
      refine ⟨fun c1 => ?_, fun c1 => ?_⟩
      · conv => whnf
        refine ⟨fun c2 => ?_, fun c2 => ?_⟩
        · obtain ⟨s, hs, rfl⟩ := inr_nat (n := 3) rfl p1
          conv => whnf
          refine sf_lay (by omega) (by omega) ?_
          conv => whnf
          exact H _ _ (Or.inr (Or.inr ⟨s, by omega, rfl, p2, ⟨c2, c1⟩, rfl, rfl⟩))
        · conv => whnf
          exact H _ _ (Or.inr (Or.inl ⟨⟨⟨p1, p2⟩, c1⟩, i32_nle.mp c2, rfl, rfl⟩))
      · conv => whnf
        exact H _ _ (Or.inl ⟨fun hh => by first | exact absurd hh.1.1 (by with_reducible assumption) | exact absurd hh.1.2 (by with_reducible assumption) | exact absurd hh.2 (by with_reducible assumption) | exact absurd hh.1 (by with_reducible assumption), rfl, rfl⟩)
    · conv => whnf
      refine ⟨fun _ => ?_, fun c => absurd rfl c⟩
      conv => whnf
      exact H _ _ (Or.inl ⟨fun hh => by first | exact absurd hh.1.1 (by with_reducible assumption) | exact absurd hh.1.2 (by with_reducible assumption) | exact absurd hh.2 (by with_reducible assumption) | exact absurd hh.1 (by with_reducible assumption), rfl, rfl⟩)
  · conv => whnf
    refine ⟨fun _ => ?_, fun c => absurd rfl c⟩
    conv => whnf
    exact H _ _ (Or.inl ⟨fun hh => by first | exact absurd hh.1.1 (by with_reducible assumption) | exact absurd hh.1.2 (by with_reducible assumption) | exact absurd hh.2 (by with_reducible assumption) | exact absurd hh.1 (by with_reducible assumption), rfl, rfl⟩)
set_option maxRecDepth 100000 in
set_option maxHeartbeats 4000000 in
theorem sf_drop {d L : Nat} {f : Nat → Nat → Int32} {g : Nat → Nat → Int64} {x1 : Int32} {R : Option Value → mH → Prop} (hd : 4 ≤ d) (H : ∀ v f1, SX_drop f f1 x1 v → R (some (.int v)) (shF L, f1, g)) : Run mtab d 131 [.ref 5, .int x1] (shF L, f, g) R := by
  obtain ⟨d, rfl⟩ : ∃ e, d = e + 1 := ⟨d - 1, by omega⟩
  refine go_X10_drop rfl ?_
  conv => whnf
  refine ct_isSheet (by omega) (fun p1 => ?_) (fun p1 => ?_)
  · obtain ⟨s, hs, rfl⟩ := inr_nat (n := 3) rfl p1
    have hcl := cl_s (s := s) (by omega)
    conv => whnf
    refine ⟨fun _ => ?_, fun c => absurd c (by decide)⟩
    conv => whnf
    refine ⟨vp_in_nI (by omega) (by decide), ?_⟩
    conv => whnf
    simp only [hcl]
    refine ⟨fun c1 => ?_, fun c1 => ?_⟩
    · conv => whnf
      refine ⟨vp_in_nI (by omega) (by decide), ?_⟩
      conv => whnf
      refine ⟨vp_in_nI (by omega) (by decide), ?_⟩
      conv => whnf
      simp only [hcl]
      exact H _ _ (Or.inr ⟨s, by omega, rfl, Or.inr ⟨c1, rfl, rfl⟩⟩)
    · conv => whnf
      exact H _ _ (Or.inr ⟨s, by omega, rfl, Or.inl ⟨c1, rfl, rfl⟩⟩)
  · conv => whnf
    refine ⟨fun c => absurd rfl c, fun _ => ?_⟩
    conv => whnf
    exact H _ _ (Or.inl ⟨p1, rfl, rfl⟩)
theorem it_k {l w : Int32} (hl : inr (-1) 60 l) (h : ¬ (w < 0 ∨ l - 1 < w)) : ∃ k, k < 60 ∧ w = nI k := by
  have hv := vp_sheet hl (fun q => h (Or.inl q)) (fun q => h (Or.inr q))
  obtain ⟨k, hk, rfl⟩ := nI_of (fun q => h (Or.inl q))
  exact ⟨k, by have := vp_lt hv; rw [nI_clamp hk] at this; exact this, rfl⟩
set_option maxRecDepth 100000 in
set_option maxHeartbeats 4000000 in
theorem sf_item {d L : Nat} {f : Nat → Nat → Int32} {g : Nat → Nat → Int64} {x1 x2 x3 x4 : Int32} {R : Option Value → mH → Prop} (hd : 5 ≤ d) (hX : XI f) (H : ∀ v f1, SX_item f f1 x1 x2 x3 x4 v → R (some (.int v)) (shF L, f1, g)) : Run mtab d 132 [.ref 5, .int x1, .int x2, .int x3, .int x4] (shF L, f, g) R := by
  obtain ⟨d, rfl⟩ : ∃ e, d = e + 1 := ⟨d - 1, by omega⟩
  refine go_X10_item rfl ?_
  conv => whnf
  refine ct_isSheet (by omega) (fun p1 => ?_) (fun p1 => ?_)
  · obtain ⟨s, hs, rfl⟩ := inr_nat (n := 3) rfl p1
    conv => whnf
    refine ⟨fun c => absurd c (by decide), fun _ => ?_⟩
    conv => whnf
    refine ct_isLane (by omega) (fun p2 => ?_) (fun p2 => ?_)
    · conv => whnf
      refine ⟨fun _ => ?_, fun c => absurd c (by decide)⟩
      conv => whnf
      have W : ∀ v f1, ((f 180 s = -1 ∧ v = -11 ∧ f1 = f) ∨ (¬ f 180 s = -1 ∧ ¬ f 179 s = x2 ∧ v = -12 ∧ f1 = f) ∨ (¬ f 180 s = -1 ∧ f 179 s = x2 ∧ (x3 < 0 ∨ f 180 s - 1 < x3) ∧ v = -13 ∧ f1 = f) ∨ (¬ f 180 s = -1 ∧ f 179 s = x2 ∧ ¬ (x3 < 0 ∨ f 180 s - 1 < x3) ∧ ∃ k, k < 60 ∧ x3 = nI k ∧ v = 1 ∧ f1 = m_ui f (175 + s) k (if x2 = 0 then x4.toInt16.toInt32 else x4))) → R (some (.int v)) (shF L, f1, g) := fun v f1 z => H v f1 (Or.inr ⟨s, by omega, rfl, p2, z⟩)
      refine sf_refuse (by omega) (by omega) (fun z1 => ?_) (fun z1 z2 => ?_) (fun z1 z2 z3 => ?_) (fun z1 z2 z3 => ?_)
      · conv => whnf
        refine ⟨fun c => absurd c (by decide), fun _ => ?_⟩
        conv => whnf
        exact W _ _ (Or.inl ⟨z1, rfl, rfl⟩)
      · conv => whnf
        refine ⟨fun c => absurd c (by decide), fun _ => ?_⟩
        conv => whnf
        exact W _ _ (Or.inr (Or.inl ⟨z1, z2, rfl, rfl⟩))
      · conv => whnf
        refine ⟨fun c => absurd c (by decide), fun _ => ?_⟩
        conv => whnf
        exact W _ _ (Or.inr (Or.inr (Or.inl ⟨z1, z2, z3, rfl, rfl⟩)))
      · obtain ⟨k, hk, rfl⟩ := it_k (xi_180 hX s) z3
        have hck : (nI k).toNatClampNeg = k := nI_clamp (by omega)
        conv => whnf
        refine ⟨fun _ => ?_, fun c => absurd rfl c⟩
        have h4 : s = 0 ∨ s = 1 ∨ s = 2 ∨ s = 3 := by omega
        have W2 := W 1 _ (Or.inr (Or.inr (Or.inr ⟨z1, z2, z3, k, hk, rfl, rfl, rfl⟩)))
        clear W H
        rcases h4 with rfl | rfl | rfl | rfl
        all_goals
          conv => whnf
          refine ⟨⟨by unfold vp_in; decide, by decide, by decide⟩, ?_⟩
          conv => whnf
          refine ⟨fun c => ?_, fun c => ?_⟩
          · conv => whnf
            refine ⟨vp_in_nI (by omega) (by decide), ?_⟩
            conv => whnf
            simp only [hck]
            rw [if_neg c] at W2
            exact W2
          · conv => whnf
            refine ⟨vp_in_nI (by omega) (by decide), ?_⟩
            conv => whnf
            simp only [hck]
            rw [if_pos c] at W2
            exact W2
    · conv => whnf
      refine ⟨fun c => absurd rfl c, fun _ => ?_⟩
      conv => whnf
      exact H _ _ (Or.inl ⟨fun hh => p2 hh.2, rfl, rfl⟩)
  · conv => whnf
    refine ⟨fun _ => ?_, fun c => absurd rfl c⟩
    conv => whnf
    exact H _ _ (Or.inl ⟨fun hh => p1 hh.1, rfl, rfl⟩)
set_option maxRecDepth 100000 in
theorem mz_lp {d L s : Nat} {f : Nat → Nat → Int32} {g : Nat → Nat → Int64} {w y : Int32} {R : Option Value → mH → Prop} (hs : s < 4) (H : R (some (.int y)) (shF L, m_z f (60 * s) 60, g)) :
    ∀ (k i : Nat) (x : Int32), i + k = 60 → x = nI i → WPe pg_X11_sheet none (Run mtab d) R (m_drop pg_X11_sheet 25) [some (.ref 181), some (.int (nI s)), some (.int w), some (.int y), some (.int x)] [] (shF L, m_z f (60 * s) i, g)
  | 0, i, x, hi, hx => by
    have e : i = 60 := by omega
    subst e
    subst hx
    refine at_X11_sheet ?_
    conv => whnf
    refine ⟨fun _ => ?_, fun c => absurd (by decide) c⟩
    conv => whnf
    exact H
  | k + 1, i, x, hi, hx => by
    subst hx
    have hc : (nI (60 * s + i)).toNatClampNeg = 60 * s + i := nI_clamp (by omega)
    refine at_X11_sheet ?_
    conv => whnf
    refine ⟨fun c => absurd c (nI_ge (b := 60) (by omega) (by omega)), fun c => ?_⟩
    conv => whnf
    simp only [nI_60m, nI_60a]
    refine ⟨vp_in_nI (by omega) (by decide), ?_⟩
    conv => whnf
    simp only [hc, m_z_up]
    exact mz_lp hs H k (i + 1) _ (by omega) (nI_1 i)
set_option maxRecDepth 100000 in
set_option maxHeartbeats 4000000 in
theorem smf_sheet {d L : Nat} {f : Nat → Nat → Int32} {g : Nat → Nat → Int64} {x1 x2 x3 : Int32} {R : Option Value → mH → Prop} (hd : 4 ≤ d) (H : ∀ v f1, SM_sheet f f1 x1 x2 x3 v → R (some (.int v)) (shF L, f1, g)) : Run mtab d 237 [.ref 181, .int x1, .int x2, .int x3] (shF L, f, g) R := by
  obtain ⟨d, rfl⟩ : ∃ e, d = e + 1 := ⟨d - 1, by omega⟩
  refine go_X11_sheet rfl ?_
  conv => whnf
  refine ct_mIsSheet (by omega) (fun p1 => ?_) (fun p1 => ?_)
  · conv => whnf
    refine ⟨fun c => absurd c (by decide), fun _ => ?_⟩
    conv => whnf
    refine ⟨fun c1 => ?_, fun c1 => ?_⟩
    · conv => whnf
      refine ⟨fun c2 => ?_, fun c2 => ?_⟩
      · obtain ⟨s, hs, rfl⟩ := inr_nat (n := 3) rfl p1.1
        have hcl := cl_s (s := s) (by omega)
        conv => whnf
        refine ⟨vp_in_nI (by omega) (by decide), ?_⟩
        conv => whnf
        refine ⟨vp_in_nI (by omega) (by decide), ?_⟩
        conv => whnf
        simp only [hcl]
        have := mz_lp (d := d) (L := L) (g := g) (w := x2) (by omega) (H x3 _ (Or.inr (Or.inr ⟨s, by omega, rfl, p1.2, ⟨c2, c1⟩, rfl, rfl⟩))) 60 0 _ (by omega) rfl
        rw [m_z_0] at this
        exact this
      · conv => whnf
        exact H _ _ (Or.inr (Or.inl ⟨⟨p1, c1⟩, i32_nle.mp c2, rfl, rfl⟩))
    · conv => whnf
      exact H _ _ (Or.inl ⟨fun hh => c1 hh.2, rfl, rfl⟩)
  · conv => whnf
    refine ⟨fun _ => ?_, fun c => absurd rfl c⟩
    conv => whnf
    exact H _ _ (Or.inl ⟨fun hh => p1 hh.1, rfl, rfl⟩)
set_option maxRecDepth 100000 in
set_option maxHeartbeats 4000000 in
theorem smf_drop {d L : Nat} {f : Nat → Nat → Int32} {g : Nat → Nat → Int64} {x1 : Int32} {R : Option Value → mH → Prop} (hd : 4 ≤ d) (H : ∀ v f1, SM_drop f f1 x1 v → R (some (.int v)) (shF L, f1, g)) : Run mtab d 238 [.ref 181, .int x1] (shF L, f, g) R := by
  obtain ⟨d, rfl⟩ : ∃ e, d = e + 1 := ⟨d - 1, by omega⟩
  refine go_X11_drop rfl ?_
  conv => whnf
  refine ct_i_0_3 (by omega) (fun p1 => ?_) (fun p1 => ?_)
  · obtain ⟨s, hs, rfl⟩ := inr_nat (n := 3) rfl p1
    have hcl := cl_s (s := s) (by omega)
    conv => whnf
    refine ⟨fun _ => ?_, fun c => absurd c (by decide)⟩
    conv => whnf
    refine ⟨vp_in_nI (by omega) (by decide), ?_⟩
    conv => whnf
    simp only [hcl]
    refine ⟨fun c1 => ?_, fun c1 => ?_⟩
    · conv => whnf
      refine ⟨vp_in_nI (by omega) (by decide), ?_⟩
      conv => whnf
      refine ⟨vp_in_nI (by omega) (by decide), ?_⟩
      conv => whnf
      simp only [hcl]
      exact H _ _ (Or.inr ⟨s, by omega, rfl, Or.inr ⟨i32_nlt.mpr c1, rfl, rfl⟩⟩)
    · conv => whnf
      exact H _ _ (Or.inr ⟨s, by omega, rfl, Or.inl ⟨i32_nle.mp c1, rfl, rfl⟩⟩)
  · conv => whnf
    refine ⟨fun c => absurd rfl c, fun _ => ?_⟩
    conv => whnf
    exact H _ _ (Or.inl ⟨p1, rfl, rfl⟩)
set_option maxRecDepth 100000 in
set_option maxHeartbeats 4000000 in
theorem smf_item {d L : Nat} {f : Nat → Nat → Int32} {g : Nat → Nat → Int64} {x1 x2 x3 x4 : Int32} {R : Option Value → mH → Prop} (hd : 4 ≤ d) (hz : ∀ s, inr 0 60 (f 225 s)) (H : ∀ v f1, SM_item f f1 x1 x2 x3 x4 v → R (some (.int v)) (shF L, f1, g)) : Run mtab d 239 [.ref 181, .int x1, .int x2, .int x3, .int x4] (shF L, f, g) R := by
  obtain ⟨d, rfl⟩ : ∃ e, d = e + 1 := ⟨d - 1, by omega⟩
  refine go_X11_item rfl ?_
  conv => whnf
  refine ct_mIsSheet (by omega) (fun p1 => ?_) (fun p1 => ?_)
  · obtain ⟨s, hs, rfl⟩ := inr_nat (n := 3) rfl p1.1
    have hcl := cl_s (s := s) (by omega)
    have W : ∀ v f1, _ → R (some (.int v)) (shF L, f1, g) := fun v f1 z => H v f1 (Or.inr ⟨s, by omega, rfl, p1.2, z⟩)
    conv => whnf
    refine ⟨fun _ => ?_, fun c => absurd c (by decide)⟩
    conv => whnf
    refine ⟨vp_in_nI (by omega) (by decide), ?_⟩
    conv => whnf
    simp only [hcl]
    refine ⟨fun c1 => ?_, fun c1 => ?_⟩
    · conv => whnf
      refine ⟨vp_in_nI (by omega) (by decide), ?_⟩
      conv => whnf
      simp only [hcl]
      refine ct_i_0_v (by omega) (fun p3 => ?_) (fun p3 => ?_)
      · obtain ⟨z, hz, ez⟩ := inr_nat (n := 60) rfl (hz s)
        have p4 := p3
        rw [ez] at p4
        obtain ⟨k, hk, rfl⟩ := inr_cnt (by omega) p4
        have hck : (nI (60 * s + k)).toNatClampNeg = 60 * s + k := nI_clamp (by omega)
        have W2 := W 1 _ (Or.inr (Or.inr (Or.inr ⟨c1, p3, k, by omega, rfl, rfl, rfl⟩)))
        conv => whnf
        refine ⟨fun _ => ?_, fun c => absurd c (by decide)⟩
        conv => whnf
        refine ⟨fun c => ?_, fun c => ?_⟩
        · conv => whnf
          simp only [nI_60m, nI_60a]
          refine ⟨vp_in_nI (by omega) (by decide), ?_⟩
          conv => whnf
          simp only [hck]
          rw [if_neg c] at W2
          exact W2
        · conv => whnf
          simp only [nI_60m, nI_60a]
          refine ⟨vp_in_nI (by omega) (by decide), ?_⟩
          conv => whnf
          simp only [hck]
          rw [if_pos c] at W2
          exact W2
      · conv => whnf
        refine ⟨fun c => absurd rfl c, fun _ => ?_⟩
        conv => whnf
        exact W _ _ (Or.inr (Or.inr (Or.inl ⟨c1, p3, rfl, rfl⟩)))
    · conv => whnf
      refine ⟨vp_in_nI (by omega) (by decide), ?_⟩
      conv => whnf
      simp only [hcl]
      refine ⟨fun c2 => ?_, fun c2 => ?_⟩
      · conv => whnf
        exact W _ _ (Or.inr (Or.inl ⟨c1, i32_nlt.mpr c2, rfl, rfl⟩))
      · conv => whnf
        exact W _ _ (Or.inl ⟨c1, i32_nle.mp c2, rfl, rfl⟩)
  · conv => whnf
    refine ⟨fun c => absurd rfl c, fun _ => ?_⟩
    conv => whnf
    exact H _ _ (Or.inl ⟨fun hh => p1 hh, rfl, rfl⟩)
def oaddn (f : Nat → Nat → Int32) (h : Nat) (r : Nat → Nat → Int32) : Nat → Nat → Nat → Int32
  | 0 => f
  | k + 1 => oadd (oaddn f h r k) (h + k) (r k 0) (r k 1) (r k 2) (r k 3) (r k 4) (r k 5)
def kaddn (f : Nat → Nat → Int32) (h : Nat) (r : Nat → Nat → Int32) : Nat → Nat → Nat → Int32
  | 0 => f
  | k + 1 => kadd (kaddn f h r k) (h + k) (r k 0) (r k 1) (r k 2) (r k 3) (r k 4) (r k 5)
def allw (n m : Nat) (r : Nat → Nat → Int32) : Prop := ∀ k, k < m → holdw n (r k 0) (r k 1) (r k 2) (r k 3) (r k 4) (r k 5)
def SH (n h m : Nat) (r : Nat → Nat → Int32) (f f1 g1 : Nat → Nat → Int32) (v : Int32) : Prop := (¬ allw n m r ∧ v = -2 ∧ f1 = f) ∨ (allw n m r ∧ 60 < h + m ∧ v = -3 ∧ f1 = f) ∨ (allw n m r ∧ h + m ≤ 60 ∧ v = nI (h + m) ∧ f1 = g1)
theorem fx_oadd {f : Nat → Nat → Int32} {h : Nat} {x1 x2 x3 x4 x5 x6 : Int32} : fx 100 107 f (oadd f h x1 x2 x3 x4 x5 x6) := by
  unfold oadd
  exact fx_ui (by decide) (by decide) (fx_ui (by decide) (by decide) (fx_ui (by decide) (by decide) (fx_ui (by decide) (by decide) (fx_ui (by decide) (by decide) (fx_ui (by decide) (by decide) (fx_ui (by decide) (by decide) (fx_refl _ _ _)))))))
theorem fx_oaddn {f : Nat → Nat → Int32} {h : Nat} {r : Nat → Nat → Int32} : ∀ k, fx 100 107 f (oaddn f h r k)
  | 0 => fx_refl _ _ _
  | k + 1 => fx_trans (fx_oaddn k) fx_oadd
theorem kp_kadd {f : Nat → Nat → Int32} {h : Nat} {x1 x2 x3 x4 x5 x6 : Int32} : kp [10, 12, 22] f (kadd f h x1 x2 x3 x4 x5 x6) := by
  unfold kadd
  exact kp_ui rfl (kp_ui rfl (kp_ui rfl (kp_ui rfl (kp_ui rfl (kp_ui rfl (kp_ui rfl (kp_ui rfl (kp_refl _ _))))))))
theorem kp_kaddn {f : Nat → Nat → Int32} {h : Nat} {r : Nat → Nat → Int32} : ∀ k, kp [10, 12, 22] f (kaddn f h r k)
  | 0 => kp_refl _ _
  | k + 1 => kp_trans (kp_kaddn k) kp_kadd
theorem oaddn_c {f : Nat → Nat → Int32} {h : Nat} {r : Nat → Nat → Int32} (h0 : f 100 6 = nI h) : ∀ k, oaddn f h r k 100 6 = nI (h + k)
  | 0 => h0
  | k + 1 => by
    show nI (h + k) + 1 = _
    rw [nI_1]
    rfl
theorem kaddn_c {f : Nat → Nat → Int32} {h : Nat} {r : Nat → Nat → Int32} (h0 : f 181 14 = nI h) : ∀ k, kaddn f h r k 181 14 = nI (h + k)
  | 0 => h0
  | k + 1 => rfl
def SX_holdings (n h : Nat) (f f1 : Nat → Nat → Int32) (x1 x2 x3 x4 v : Int32) : Prop :=
  (¬ ((inr 0 3 x1 ∧ inr 0 2 x2) ∧ inr 0 10 x4) ∧ v = -1 ∧ f1 = f) ∨ (∃ s m, s < 4 ∧ x1 = nI s ∧ inr 0 2 x2 ∧ m ≤ 10 ∧ x4 = nI m ∧ ((f 180 s = -1 ∧ v = -11 ∧ f1 = f) ∨ (¬ f 180 s = -1 ∧ ¬ f 179 s = x2 ∧ v = -12 ∧ f1 = f) ∨ (¬ f 180 s = -1 ∧ f 179 s = x2 ∧ (x3 < 0 ∨ f 180 s - nI (m * 6) < x3) ∧ v = -13 ∧ f1 = f) ∨ (¬ f 180 s = -1 ∧ f 179 s = x2 ∧ ¬ (x3 < 0 ∨ f 180 s - nI (m * 6) < x3) ∧ ∃ a, x3 = nI a ∧ a + 6 * m ≤ 60 ∧ SH n h m (fun k t => f (175 + s) (a + 6 * k + t)) f f1 (oaddn f h (fun k t => f (175 + s) (a + 6 * k + t)) m) v)))
def SM_holdings (n h : Nat) (f f1 : Nat → Nat → Int32) (x1 x2 x3 x4 v : Int32) : Prop :=
  (¬ ((inr 0 3 x1 ∧ inr 0 2 x2) ∧ inr 0 10 x4) ∧ v = -1 ∧ f1 = f) ∨ (∃ s m, s < 4 ∧ x1 = nI s ∧ inr 0 2 x2 ∧ m ≤ 10 ∧ x4 = nI m ∧ ((¬ f 224 s = x2 ∧ f 224 s < 0 ∧ v = -11 ∧ f1 = f) ∨ (¬ f 224 s = x2 ∧ ¬ f 224 s < 0 ∧ v = -12 ∧ f1 = f) ∨ (f 224 s = x2 ∧ ¬ inr 0 (f 225 s - nI (6 * m)) x3 ∧ v = -13 ∧ f1 = f) ∨ (f 224 s = x2 ∧ inr 0 (f 225 s - nI (6 * m)) x3 ∧ ∃ a, x3 = nI a ∧ a + 6 * m ≤ 60 ∧ SH n h m (fun k t => f 226 (60 * s + a + 6 * k + t)) f f1 (kaddn f h (fun k t => f 226 (60 * s + a + 6 * k + t)) m) v)))
set_option maxRecDepth 100000 in
set_option maxHeartbeats 4000000 in
theorem hf2_lp {d L m a s h : Nat} {f : Nat → Nat → Int32} {g : Nat → Nat → Int64} {x1 x2 x5 : Int32} {R : Option Value → mH → Prop} (hd : 5 ≤ d) (hs : s < 4) (ha : a + 6 * m ≤ 60) (hh : h + m ≤ 60) (h0 : f 100 6 = nI h) (H : R (some (.int (nI (h + m)))) (shF L, oaddn f h (fun k t => f (175 + s) (a + 6 * k + t)) m, g)) :
    ∀ (k i : Nat) (x : Int32), i + k = m → x = nI (a + 6 * i) → WPe pg_X10_holdings none (Run mtab d) R (m_drop pg_X10_holdings 90) [some (.ref 5), some (.int x1), some (.int x2), some (.int (nI a)), some (.int (nI m)), some (.int x5), some (.ref (175 + s)), some (.int (nI (a + 6 * m))), some (.int x)] [] (shF L, oaddn f h (fun k t => f (175 + s) (a + 6 * k + t)) i, g)
  | 0, i, x, hi, hx => by
    have e9 : i = m := by omega
    subst hx
    subst e9
    have hcn := oaddn_c (r := (fun k t => f (175 + s) (a + 6 * k + t))) h0 i
    refine at_X10_holdings ?_
    conv => whnf
    refine ⟨fun c => ?_, fun c => absurd (nI_le (Nat.le_refl _) (by omega)) c⟩
    conv => whnf
    simp only [hcn]
    exact H
  | k + 1, i, x, hi, hx => by
    subst hx
    have hshp := shp_174 L s hs
    have hcn := oaddn_c (r := (fun k t => f (175 + s) (a + 6 * k + t))) h0 i
    have hrow : ∀ j, oaddn f h (fun k t => f (175 + s) (a + 6 * k + t)) i (175 + s) j = f (175 + s) j := fun j => fx_oaddn i (175 + s) j (by omega)
    have hc0 : (nI (a + 6 * i)).toNatClampNeg = a + 6 * i := nI_clamp (by omega)
    have hc1 : (nI (a + 6 * i + 1)).toNatClampNeg = a + 6 * i + 1 := nI_clamp (by omega)
    have hc2 : (nI (a + 6 * i + 2)).toNatClampNeg = a + 6 * i + 2 := nI_clamp (by omega)
    have hc3 : (nI (a + 6 * i + 3)).toNatClampNeg = a + 6 * i + 3 := nI_clamp (by omega)
    have hc4 : (nI (a + 6 * i + 4)).toNatClampNeg = a + 6 * i + 4 := nI_clamp (by omega)
    have hc5 : (nI (a + 6 * i + 5)).toNatClampNeg = a + 6 * i + 5 := nI_clamp (by omega)
    refine at_X10_holdings ?_
    conv => whnf
    refine ⟨fun c => absurd c (nI_ge (by omega) (by omega)), fun c => ?_⟩
    conv => whnf
    repeat' first
      | exact hf2_lp hd hs ha hh h0 H k (i + 1) _ (by omega) (congrArg nI (by omega))
      | exact absurd z (by omega)
      | ((with_reducible refine ⟨vp_in_nI (by omega) (by decide), ?_⟩) <;> conv => whnf)
      | (simp only [nI_1, nI_k _ 2 2 rfl, nI_k _ 3 3 rfl, nI_k _ 4 4 rfl, nI_k _ 5 5 rfl, nI_k _ 6 6 rfl, hrow, hc0, hc1, hc2, hc3, hc4, hc5])
      | ((with_reducible refine ⟨vp_in_nI (by omega) (by decide), ?_⟩) <;> conv => whnf)
      | (refine ⟨Or.inl rfl, ?_⟩ <;> conv => whnf)
      | (refine ⟨Or.inr rfl, ?_⟩ <;> conv => whnf)
      | (refine ⟨Or.inl True.intro, ?_⟩ <;> conv => whnf)
      | (refine ⟨Or.inr True.intro, ?_⟩ <;> conv => whnf)
      | (refine ⟨fun c => ?_, fun c => ?_⟩ <;> first | ((have c9 : (1 : Int32) = 0 := by with_reducible exact c); exact absurd c9 (by decide)) | exact absurd (rfl : (0 : Int32) = 0) (by with_reducible exact c) | exact absurd True.intro (by with_reducible exact c) | exact False.elim (by with_reducible exact c) | (conv => whnf))
      | (refine sf_Oadd (h := h + i) (by omega) hcn (by omega) (fun z => ?_) (fun z => ?_) <;> conv => whnf)
      | ((simp only [m_act_eq, mi, mj, m_act0, m_arr2, m_arr, hshp]) <;> conv => whnf)
      | (refine ⟨by unfold vp_in; decide, ?_⟩ <;> conv => whnf)
      | fail
set_option maxRecDepth 100000 in
set_option maxHeartbeats 4000000 in
theorem hf1_lp {d L n m a s : Nat} {f : Nat → Nat → Int32} {g : Nat → Nat → Int64} {x1 x2 x5 : Int32} {R : Option Value → mH → Prop} (hd : 5 ≤ d) (hb : f 6 13 = nI n) (hm : n ≤ 40) (hs : s < 4) (ha : a + 6 * m ≤ 60) (HN : ¬ allw n m (fun k t => f (175 + s) (a + 6 * k + t)) → R (some (.int (-2))) (shF L, f, g)) (HF : allw n m (fun k t => f (175 + s) (a + 6 * k + t)) → 60 < (f 100 6 + nI m) → R (some (.int (-3))) (shF L, f, g)) (HE : allw n m (fun k t => f (175 + s) (a + 6 * k + t)) → ¬ 60 < (f 100 6 + nI m) → WPe pg_X10_holdings none (Run mtab d) R (m_drop pg_X10_holdings 90) [some (.ref 5), some (.int x1), some (.int x2), some (.int (nI a)), some (.int (nI m)), some (.int x5), some (.ref (175 + s)), some (.int (nI (a + 6 * m))), some (.int (nI a))] [] (shF L, f, g)) :
    ∀ (k i : Nat) (x : Int32), i + k = m → x = nI (a + 6 * i) → (∀ j, j < i → holdw n ((fun k t => f (175 + s) (a + 6 * k + t)) j 0) ((fun k t => f (175 + s) (a + 6 * k + t)) j 1) ((fun k t => f (175 + s) (a + 6 * k + t)) j 2) ((fun k t => f (175 + s) (a + 6 * k + t)) j 3) ((fun k t => f (175 + s) (a + 6 * k + t)) j 4) ((fun k t => f (175 + s) (a + 6 * k + t)) j 5)) → WPe pg_X10_holdings none (Run mtab d) R (m_drop pg_X10_holdings 41) [some (.ref 5), some (.int x1), some (.int x2), some (.int (nI a)), some (.int (nI m)), some (.int x5), some (.ref (175 + s)), some (.int (nI (a + 6 * m))), some (.int x)] [] (shF L, f, g)
  | 0, i, x, hi, hx, hw => by
    have e9 : i = m := by omega
    subst hx
    subst e9
    refine at_X10_holdings ?_
    conv => whnf
    refine ⟨fun c => ?_, fun c => absurd (nI_le (Nat.le_refl _) (by omega)) c⟩
    conv => whnf
    refine ⟨fun c => ?_, fun c => ?_⟩
    · conv => whnf
      exact HE hw (i32_nlt.mpr c)
    · conv => whnf
      exact HF hw (i32_nle.mp c)
  | k + 1, i, x, hi, hx, hw => by
    subst hx
    have hshp := shp_174 L s hs
    have hc0 : (nI (a + 6 * i)).toNatClampNeg = a + 6 * i := nI_clamp (by omega)
    have hc1 : (nI (a + 6 * i + 1)).toNatClampNeg = a + 6 * i + 1 := nI_clamp (by omega)
    have hc2 : (nI (a + 6 * i + 2)).toNatClampNeg = a + 6 * i + 2 := nI_clamp (by omega)
    have hc3 : (nI (a + 6 * i + 3)).toNatClampNeg = a + 6 * i + 3 := nI_clamp (by omega)
    have hc4 : (nI (a + 6 * i + 4)).toNatClampNeg = a + 6 * i + 4 := nI_clamp (by omega)
    have hc5 : (nI (a + 6 * i + 5)).toNatClampNeg = a + 6 * i + 5 := nI_clamp (by omega)
    refine at_X10_holdings ?_
    conv => whnf
    refine ⟨fun c => absurd c (nI_ge (by omega) (by omega)), fun c => ?_⟩
    conv => whnf
    repeat' first
      | exact hf1_lp hd hb hm hs ha HN HF HE k (i + 1) _ (by omega) (congrArg nI (by omega)) (fun j hj => by by_cases e : j = i; (subst e; exact z); exact hw j (by omega))
      | exact HN (fun q => z (q i (by omega)))
      | ((with_reducible refine ⟨vp_in_nI (by omega) (by decide), ?_⟩) <;> conv => whnf)
      | (simp only [nI_1, nI_k _ 2 2 rfl, nI_k _ 3 3 rfl, nI_k _ 4 4 rfl, nI_k _ 5 5 rfl, nI_k _ 6 6 rfl, hc0, hc1, hc2, hc3, hc4, hc5])
      | ((with_reducible refine ⟨vp_in_nI (by omega) (by decide), ?_⟩) <;> conv => whnf)
      | (refine ⟨Or.inl rfl, ?_⟩ <;> conv => whnf)
      | (refine ⟨Or.inr rfl, ?_⟩ <;> conv => whnf)
      | (refine ⟨Or.inl True.intro, ?_⟩ <;> conv => whnf)
      | (refine ⟨Or.inr True.intro, ?_⟩ <;> conv => whnf)
      | (refine ⟨fun c => ?_, fun c => ?_⟩ <;> first | ((have c9 : (1 : Int32) = 0 := by with_reducible exact c); exact absurd c9 (by decide)) | exact absurd (rfl : (0 : Int32) = 0) (by with_reducible exact c) | exact absurd True.intro (by with_reducible exact c) | exact False.elim (by with_reducible exact c) | (conv => whnf))
      | (refine sf_isHoldingWell (by omega) hb hm (fun z => ?_) (fun z => ?_) <;> conv => whnf)
      | ((simp only [m_act_eq, mi, mj, m_act0, m_arr2, m_arr, hshp]) <;> conv => whnf)
      | (refine ⟨by unfold vp_in; decide, ?_⟩ <;> conv => whnf)
      | fail
set_option maxRecDepth 100000 in
set_option maxHeartbeats 4000000 in
theorem sf_holdings {d L : Nat} {f : Nat → Nat → Int32} {g : Nat → Nat → Int64} {n h : Nat} {x1 x2 x3 x4 : Int32} {R : Option Value → mH → Prop} (hd : 7 ≤ d) (hX : XI f) (hb : f 6 13 = nI n) (hm : n ≤ 40) (hhb : f 100 6 = nI h) (hhm : h ≤ 60) (H : ∀ v f1, SX_holdings n h f f1 x1 x2 x3 x4 v → R (some (.int v)) (shF L, f1, g)) : Run mtab d 133 [.ref 5, .int x1, .int x2, .int x3, .int x4] (shF L, f, g) R := by
  obtain ⟨d, rfl⟩ : ∃ e, d = e + 1 := ⟨d - 1, by omega⟩
  refine go_X10_holdings rfl ?_
  conv => whnf
  refine ct_isSheet (by omega) (fun p1 => ?_) (fun p1 => ?_)
  · obtain ⟨s, hs, rfl⟩ := inr_nat (n := 3) rfl p1
    conv => whnf
    refine ⟨fun c => absurd c (by decide), fun _ => ?_⟩
    conv => whnf
    refine ct_isLane (by omega) (fun p2 => ?_) (fun p2 => ?_)
    · conv => whnf
      refine ⟨fun c => absurd c (by decide), fun _ => ?_⟩
      conv => whnf
      refine ct_isWithin (by omega) (fun p4 => ?_) (fun p4 => ?_)
      · obtain ⟨m, hm10, rfl⟩ := inr_nat (n := 10) rfl p4
        have W : ∀ v f1, _ → R (some (.int v)) (shF L, f1, g) := fun v f1 z => H v f1 (Or.inr ⟨s, m, by omega, rfl, p2, hm10, rfl, z⟩)
        conv => whnf
        refine ⟨fun _ => ?_, fun c => absurd c (by decide)⟩
        conv => whnf
        simp only [nI_m6]
        refine sf_refuse (by omega) (by omega) (fun z1 => ?_) (fun z1 z2 => ?_) (fun z1 z2 z3 => ?_) (fun z1 z2 z3 => ?_)
        · conv => whnf
          refine ⟨fun c => absurd c (by decide), fun _ => ?_⟩
          conv => whnf
          exact W _ _ (Or.inl ⟨z1, rfl, rfl⟩)
        · conv => whnf
          refine ⟨fun c => absurd c (by decide), fun _ => ?_⟩
          conv => whnf
          exact W _ _ (Or.inr (Or.inl ⟨z1, z2, rfl, rfl⟩))
        · conv => whnf
          refine ⟨fun c => absurd c (by decide), fun _ => ?_⟩
          conv => whnf
          exact W _ _ (Or.inr (Or.inr (Or.inl ⟨z1, z2, z3, rfl, rfl⟩)))
        · obtain ⟨a, rfl, ha⟩ := hd_at hm10 (xi_180 hX s) (fun q => z3 (Or.inl q)) (fun q => z3 (Or.inr q))
          have W2 : ∀ v f1, SH n h m (fun k t => f (175 + s) (a + 6 * k + t)) f f1 (oaddn f h (fun k t => f (175 + s) (a + 6 * k + t)) m) v → R (some (.int v)) (shF L, f1, g) := fun v f1 z => W v f1 (Or.inr (Or.inr (Or.inr ⟨z1, z2, z3, a, rfl, ha, z⟩)))
          have hE : nI a + nI m * 6 = nI (a + 6 * m) := by
            rw [nI_m6, nI_add]
            congr 1
            omega
          have hsum : ∀ q : Prop, (60 < (f 100 6 + nI m) ↔ 60 < h + m) := fun _ => by
            rw [hhb, nI_add]
            exact nI_ltI (a := 60) (by decide) (by omega)
          have fin : WPe pg_X10_holdings none (Run mtab d) R (m_drop pg_X10_holdings 41) [some (.ref 5), some (.int (nI s)), some (.int x2), some (.int (nI a)), some (.int (nI m)), some (.int 0), some (.ref (175 + s)), some (.int (nI a + nI m * 6)), some (.int (nI a))] [] (shF L, f, g) := by
            rw [hE]
            refine hf1_lp (by omega) hb hm (by omega) ha (fun z => W2 _ _ (Or.inl ⟨z, rfl, rfl⟩)) (fun z z' => W2 _ _ (Or.inr (Or.inl ⟨z, (hsum True).mp z', rfl, rfl⟩))) (fun z z' => ?_) m 0 _ (by omega) rfl (fun j hj => absurd hj (by omega))
            have hle : h + m ≤ 60 := by
              rw [hsum True] at z'
              omega
            exact hf2_lp (by omega) (by omega) ha hle hhb (W2 _ _ (Or.inr (Or.inr ⟨z, hle, rfl, rfl⟩))) m 0 _ (by omega) rfl
          clear W2 W H hsum hE
          conv => whnf
          refine ⟨fun _ => ?_, fun c => absurd rfl c⟩
          have h4 : s = 0 ∨ s = 1 ∨ s = 2 ∨ s = 3 := by omega
          rcases h4 with rfl | rfl | rfl | rfl
          all_goals
            conv => whnf
            refine ⟨⟨by unfold vp_in; decide, by decide, by decide⟩, ?_⟩
            exact fin
      · conv => whnf
        refine ⟨fun c => absurd rfl c, fun _ => ?_⟩
        conv => whnf
        exact H _ _ (Or.inl ⟨fun hh => p4 hh.2, rfl, rfl⟩)
    · conv => whnf
      refine ⟨fun _ => ?_, fun c => absurd rfl c⟩
      conv => whnf
      exact H _ _ (Or.inl ⟨fun hh => p2 hh.1.2, rfl, rfl⟩)
  · conv => whnf
    refine ⟨fun _ => ?_, fun c => absurd rfl c⟩
    conv => whnf
    exact H _ _ (Or.inl ⟨fun hh => p1 hh.1.1, rfl, rfl⟩)
set_option maxRecDepth 100000 in
set_option maxHeartbeats 4000000 in
theorem mf2_lp {d L m b h : Nat} {f : Nat → Nat → Int32} {g : Nat → Nat → Int64} {x1 x2 x3 : Int32} {R : Option Value → mH → Prop} (hd : 1 ≤ d) (hbm : b + 6 * m ≤ 240) (hh : h + m ≤ 60) (h0 : f 181 14 = nI h) (H : R (some (.int (nI (h + m)))) (shF L, kaddn f h (fun k t => f 226 (b + 6 * k + t)) m, g)) :
    ∀ (k i : Nat) (x : Int32), i + k = m → x = nI (b + 6 * i) → WPe pg_X11_holdings none (Run mtab d) R (m_drop pg_X11_holdings 109) [some (.ref 181), some (.int x1), some (.int x2), some (.int x3), some (.int (nI m)), some (.int (nI b)), some (.int x)] [] (shF L, kaddn f h (fun k t => f 226 (b + 6 * k + t)) i, g)
  | 0, i, x, hi, hx => by
    have e9 : i = m := by omega
    subst hx
    subst e9
    have hcn := kaddn_c (r := (fun k t => f 226 (b + 6 * k + t))) h0 i
    refine at_X11_holdings ?_
    conv => whnf
    simp only [nI_6m, nI_add]
    refine ⟨fun c => ?_, fun c => absurd (nI_le (Nat.le_refl _) (by omega)) c⟩
    conv => whnf
    simp only [hcn]
    exact H
  | k + 1, i, x, hi, hx => by
    subst hx
    have hcn := kaddn_c (r := (fun k t => f 226 (b + 6 * k + t))) h0 i
    have hrow : ∀ j, kaddn f h (fun k t => f 226 (b + 6 * k + t)) i 226 j = f 226 j := fun j => kp_kaddn i 226 j rfl
    have hc0 : (nI (b + 6 * i)).toNatClampNeg = b + 6 * i := nI_clamp (by omega)
    have hc1 : (nI (b + 6 * i + 1)).toNatClampNeg = b + 6 * i + 1 := nI_clamp (by omega)
    have hc2 : (nI (b + 6 * i + 2)).toNatClampNeg = b + 6 * i + 2 := nI_clamp (by omega)
    have hc3 : (nI (b + 6 * i + 3)).toNatClampNeg = b + 6 * i + 3 := nI_clamp (by omega)
    have hc4 : (nI (b + 6 * i + 4)).toNatClampNeg = b + 6 * i + 4 := nI_clamp (by omega)
    have hc5 : (nI (b + 6 * i + 5)).toNatClampNeg = b + 6 * i + 5 := nI_clamp (by omega)
    refine at_X11_holdings ?_
    conv => whnf
    simp only [nI_6m, nI_add]
    refine ⟨fun c => absurd c (nI_ge (by omega) (by omega)), fun c => ?_⟩
    conv => whnf
    repeat' first
      | exact mf2_lp hd hbm hh h0 H k (i + 1) _ (by omega) (congrArg nI (by omega))
      | (simp only [nI_6m, nI_add, nI_1, nI_k _ 2 2 rfl, nI_k _ 3 3 rfl, nI_k _ 4 4 rfl, nI_k _ 5 5 rfl, nI_k _ 6 6 rfl, hrow, hc0, hc1, hc2, hc3, hc4, hc5])
      | ((with_reducible refine ⟨vp_in_nI (by omega) (by decide), ?_⟩) <;> conv => whnf)
      | (refine ⟨Or.inl rfl, ?_⟩ <;> conv => whnf)
      | (refine ⟨Or.inr rfl, ?_⟩ <;> conv => whnf)
      | (refine ⟨Or.inl True.intro, ?_⟩ <;> conv => whnf)
      | (refine ⟨Or.inr True.intro, ?_⟩ <;> conv => whnf)
      | (refine ⟨fun c => ?_, fun c => ?_⟩ <;> first | ((have c9 : (1 : Int32) = 0 := by with_reducible exact c); exact absurd c9 (by decide)) | exact absurd (rfl : (0 : Int32) = 0) (by with_reducible exact c) | exact absurd True.intro (by with_reducible exact c) | exact False.elim (by with_reducible exact c) | (conv => whnf))
      | (refine smf_keep (h := h + i) (by omega) hcn (by omega) ?_ <;> conv => whnf)
      | (refine ⟨by unfold vp_in; decide, ?_⟩ <;> conv => whnf)
      | fail
set_option maxRecDepth 100000 in
set_option maxHeartbeats 4000000 in
theorem mf1_lp {d L n m b h : Nat} {f : Nat → Nat → Int32} {g : Nat → Nat → Int64} {x1 x2 x3 : Int32} {R : Option Value → mH → Prop} (hd : 4 ≤ d) (hb : f 181 0 = nI n) (hm : n ≤ 40) (hm10 : m ≤ 10) (hbm : b + 6 * m ≤ 240) (hhb : f 181 14 = nI h) (hhm : h ≤ 60) (H : ∀ v f1, SH n h m (fun k t => f 226 (b + 6 * k + t)) f f1 (kaddn f h (fun k t => f 226 (b + 6 * k + t)) m) v → R (some (.int v)) (shF L, f1, g)) :
    ∀ (k i : Nat) (x : Int32), i + k = m → x = nI (b + 6 * i) → (∀ j, j < i → holdw n ((fun k t => f 226 (b + 6 * k + t)) j 0) ((fun k t => f 226 (b + 6 * k + t)) j 1) ((fun k t => f 226 (b + 6 * k + t)) j 2) ((fun k t => f 226 (b + 6 * k + t)) j 3) ((fun k t => f 226 (b + 6 * k + t)) j 4) ((fun k t => f 226 (b + 6 * k + t)) j 5)) → WPe pg_X11_holdings none (Run mtab d) R (m_drop pg_X11_holdings 51) [some (.ref 181), some (.int x1), some (.int x2), some (.int x3), some (.int (nI m)), some (.int (nI b)), some (.int x)] [] (shF L, f, g)
  | 0, i, x, hi, hx, hw => by
    have e9 : i = m := by omega
    subst hx
    subst e9
    refine at_X11_holdings ?_
    conv => whnf
    simp only [nI_6m, nI_add]
    refine ⟨fun c => ?_, fun c => absurd (nI_le (Nat.le_refl _) (by omega)) c⟩
    conv => whnf
    simp only [hhb, nI_add]
    refine ⟨fun c2 => ?_, fun c2 => ?_⟩
    · conv => whnf
      have c3 : nI (h + i) ≤ nI 60 := c2
      rw [nI_leI (by omega) (by decide)] at c3
      exact mf2_lp (by omega) hbm c3 hhb (H _ _ (Or.inr (Or.inr ⟨hw, c3, rfl, rfl⟩))) i 0 _ (by omega) rfl
    · conv => whnf
      have c3 : ¬ nI (h + i) ≤ nI 60 := c2
      rw [nI_leI (by omega) (by decide)] at c3
      exact H _ _ (Or.inr (Or.inl ⟨hw, by omega, rfl, rfl⟩))
  | k + 1, i, x, hi, hx, hw => by
    subst hx
    have hc0 : (nI (b + 6 * i)).toNatClampNeg = b + 6 * i := nI_clamp (by omega)
    have hc1 : (nI (b + 6 * i + 1)).toNatClampNeg = b + 6 * i + 1 := nI_clamp (by omega)
    have hc2 : (nI (b + 6 * i + 2)).toNatClampNeg = b + 6 * i + 2 := nI_clamp (by omega)
    have hc3 : (nI (b + 6 * i + 3)).toNatClampNeg = b + 6 * i + 3 := nI_clamp (by omega)
    have hc4 : (nI (b + 6 * i + 4)).toNatClampNeg = b + 6 * i + 4 := nI_clamp (by omega)
    have hc5 : (nI (b + 6 * i + 5)).toNatClampNeg = b + 6 * i + 5 := nI_clamp (by omega)
    refine at_X11_holdings ?_
    conv => whnf
    simp only [nI_6m, nI_add]
    refine ⟨fun c => absurd c (nI_ge (by omega) (by omega)), fun c => ?_⟩
    conv => whnf
    repeat' first
      | exact mf1_lp hd hb hm hm10 hbm hhb hhm H k (i + 1) _ (by omega) (congrArg nI (by omega)) (fun j hj => by by_cases e : j = i; (subst e; exact z); exact hw j (by omega))
      | exact H _ _ (Or.inl ⟨fun q => z (q i (by omega)), rfl, rfl⟩)
      | (simp only [nI_6m, nI_add, nI_1, nI_k _ 2 2 rfl, nI_k _ 3 3 rfl, nI_k _ 4 4 rfl, nI_k _ 5 5 rfl, nI_k _ 6 6 rfl, hc0, hc1, hc2, hc3, hc4, hc5])
      | ((with_reducible refine ⟨vp_in_nI (by omega) (by decide), ?_⟩) <;> conv => whnf)
      | (refine ⟨Or.inl rfl, ?_⟩ <;> conv => whnf)
      | (refine ⟨Or.inr rfl, ?_⟩ <;> conv => whnf)
      | (refine ⟨Or.inl True.intro, ?_⟩ <;> conv => whnf)
      | (refine ⟨Or.inr True.intro, ?_⟩ <;> conv => whnf)
      | (refine ⟨fun c => ?_, fun c => ?_⟩ <;> first | ((have c9 : (1 : Int32) = 0 := by with_reducible exact c); exact absurd c9 (by decide)) | exact absurd (rfl : (0 : Int32) = 0) (by with_reducible exact c) | exact absurd True.intro (by with_reducible exact c) | exact False.elim (by with_reducible exact c) | (conv => whnf))
      | (refine smf_isHolding (by omega) hb hm (fun z => ?_) (fun z => ?_) <;> conv => whnf)
      | (refine ⟨by unfold vp_in; decide, ?_⟩ <;> conv => whnf)
      | fail
set_option maxRecDepth 100000 in
set_option maxHeartbeats 4000000 in
theorem smf_holdings {d L : Nat} {f : Nat → Nat → Int32} {g : Nat → Nat → Int64} {n h : Nat} {x1 x2 x3 x4 : Int32} {R : Option Value → mH → Prop} (hd : 6 ≤ d) (hz : ∀ s, inr 0 60 (f 225 s)) (hb : f 181 0 = nI n) (hm : n ≤ 40) (hhb : f 181 14 = nI h) (hhm : h ≤ 60) (H : ∀ v f1, SM_holdings n h f f1 x1 x2 x3 x4 v → R (some (.int v)) (shF L, f1, g)) : Run mtab d 240 [.ref 181, .int x1, .int x2, .int x3, .int x4] (shF L, f, g) R := by
  obtain ⟨d, rfl⟩ : ∃ e, d = e + 1 := ⟨d - 1, by omega⟩
  refine go_X11_holdings rfl ?_
  conv => whnf
  refine ct_mIsSheet (by omega) (fun pp => ?_) (fun pp => ?_)
  · obtain ⟨s, hs, rfl⟩ := inr_nat (n := 3) rfl pp.1
    have hcl := cl_s (s := s) (by omega)
    conv => whnf
    refine ⟨fun c => absurd c (by decide), fun _ => ?_⟩
    conv => whnf
    refine ct_i_0_10 (by omega) (fun p2 => ?_) (fun p2 => ?_)
    · obtain ⟨m, hm10, rfl⟩ := inr_nat (n := 10) rfl p2
      have W : ∀ v f1, _ → R (some (.int v)) (shF L, f1, g) := fun v f1 z => H v f1 (Or.inr ⟨s, m, by omega, rfl, pp.2, hm10, rfl, z⟩)
      conv => whnf
      refine ⟨fun _ => ?_, fun c => absurd c (by decide)⟩
      conv => whnf
      refine ⟨vp_in_nI (by omega) (by decide), ?_⟩
      conv => whnf
      simp only [hcl]
      refine ⟨fun c1 => ?_, fun c1 => ?_⟩
      · conv => whnf
        refine ⟨vp_in_nI (by omega) (by decide), ?_⟩
        conv => whnf
        simp only [nI_6m, hcl]
        refine ct_i_0_v (by omega) (fun p3 => ?_) (fun p3 => ?_)
        · obtain ⟨a, rfl, ha⟩ := hd_am hm10 (hz _) p3
          conv => whnf
          refine ⟨fun _ => ?_, fun c => absurd c (by decide)⟩
          conv => whnf
          simp only [nI_60m, nI_add]
          exact mf1_lp (by omega) hb hm hm10 (by omega) hhb hhm (fun v f1 z => W v f1 (Or.inr (Or.inr (Or.inr ⟨c1, p3, a, rfl, ha, z⟩)))) m 0 _ (by omega) rfl (fun j hj => absurd hj (by omega))
        · conv => whnf
          refine ⟨fun c => absurd rfl c, fun _ => ?_⟩
          conv => whnf
          exact W _ _ (Or.inr (Or.inr (Or.inl ⟨c1, p3, rfl, rfl⟩)))
      · conv => whnf
        refine ⟨vp_in_nI (by omega) (by decide), ?_⟩
        conv => whnf
        simp only [hcl]
        refine ⟨fun c => ?_, fun c => ?_⟩
        · conv => whnf
          exact W _ _ (Or.inr (Or.inl ⟨c1, i32_nlt.mpr c, rfl, rfl⟩))
        · conv => whnf
          exact W _ _ (Or.inl ⟨c1, i32_nle.mp c, rfl, rfl⟩)
    · conv => whnf
      refine ⟨fun c => absurd rfl c, fun _ => ?_⟩
      conv => whnf
      exact H _ _ (Or.inl ⟨fun hh => p2 hh.2, rfl, rfl⟩)
  · conv => whnf
    refine ⟨fun _ => ?_, fun c => absurd rfl c⟩
    conv => whnf
    exact H _ _ (Or.inl ⟨fun hh => pp hh.1, rfl, rfl⟩)
theorem sx16 (x : Int32) : x.toInt16.toInt32 = (x <<< ((16 : Int32) &&& 31)) >>> ((16 : Int32) &&& 31) := by
  apply Int32.toBitVec_inj.mp
  have e1 : ((16 : Int32) &&& 31).toBitVec.smod 32 = 16#32 := by decide
  rw [Int32.toBitVec_shiftRight, Int32.toBitVec_shiftLeft, e1]
  show (x.toBitVec.signExtend 16).signExtend 32 = (x.toBitVec <<< (16 : Nat)).sshiftRight 16
  apply BitVec.eq_of_getLsbD_eq
  intro i hi
  rw [BitVec.getLsbD_signExtend, BitVec.getLsbD_sshiftRight]
  by_cases h : i < 16
  · have h2 : 16 + i < 32 := by omega
    have h3 : ¬ 32 ≤ i := by omega
    have h4 : ¬ 16 + i < 16 := by omega
    have h5 : 16 + i - 16 = i := by omega
    simp [h, hi, h2, h3, h4, h5, BitVec.getLsbD_signExtend, BitVec.getElem_signExtend, BitVec.getLsbD_shiftLeft]
  · have h2 : ¬ 16 + i < 32 := by omega
    have h3 : ¬ 32 ≤ i := by omega
    simp [h, hi, h2, h3, BitVec.msb_signExtend, BitVec.msb_shiftLeft, BitVec.getLsbD_shiftLeft, BitVec.getMsbD_eq_getLsbD]
def RS (f : Nat → Nat → Int32) : Prop := ∀ s, s < 4 → (f 180 s = -1 ∧ f 224 s = -1) ∨ (f 179 s = f 224 s ∧ inr 0 2 (f 224 s) ∧ f 180 s = f 225 s ∧ inr 0 60 (f 225 s) ∧ ∀ k, k < 60 → f (175 + s) k = f 226 (60 * s + k))
theorem RS_congr {f f' : Nat → Nat → Int32} (h1 : ∀ a i, 175 ≤ a → a ≤ 180 → f' a i = f a i) (h2 : ∀ a i, 224 ≤ a → a ≤ 226 → f' a i = f a i) (h : RS f) : RS f' := by
  intro s hs
  rw [h1 180 s (by omega) (by omega), h1 179 s (by omega) (by omega), h2 224 s (by omega) (by omega), h2 225 s (by omega) (by omega)]
  rcases h s hs with q | ⟨a, b, c, d, e⟩
  · exact Or.inl q
  · exact Or.inr ⟨a, b, c, d, fun k hk => by rw [h1 (175 + s) k (by omega) (by omega), h2 226 _ (by omega) (by omega), e k hk]⟩
theorem cmp_8 {i : Nat} : ∀ a, 173 ≤ a → a ≤ 180 → cmp a i = 8 := by
  intro a h h'
  have : a = 173 ∨ a = 174 ∨ a = 175 ∨ a = 176 ∨ a = 177 ∨ a = 178 ∨ a = 179 ∨ a = 180 := by omega
  rcases this with rfl | rfl | rfl | rfl | rfl | rfl | rfl | rfl <;> rfl
theorem cmp_18 {i : Nat} : ∀ a, 224 ≤ a → a ≤ 226 → cmp a i = 18 := by
  intro a h h'
  have : a = 224 ∨ a = 225 ∨ a = 226 := by omega
  rcases this with rfl | rfl | rfl <;> rfl
theorem cmp_2 {i : Nat} : ∀ a, 100 ≤ a → a ≤ 106 → cmp a i = 2 := by
  intro a h h'
  have : a = 100 ∨ a = 101 ∨ a = 102 ∨ a = 103 ∨ a = 104 ∨ a = 105 ∨ a = 106 := by omega
  rcases this with rfl | rfl | rfl | rfl | rfl | rfl | rfl <;> rfl
theorem RS_kp {l : List Nat} {f f' : Nat → Nat → Int32} (k : kp l f f') (h8 : hasN l 8 = false) (h18 : hasN l 18 = false) (h : RS f) : RS f' :=
  RS_congr (fun a i p q => k a i (by rw [cmp_8 a (by omega) q]; exact h8)) (fun a i p q => k a i (by rw [cmp_18 a p q]; exact h18)) h
def RH (f : Nat → Nat → Int32) (k : Nat) : Prop := f 101 k = f 195 (6 * k + 0) ∧ f 102 k = f 195 (6 * k + 1) ∧ inr 0 19 (f 102 k) ∧ f 103 k = f 195 (6 * k + 2) ∧ f 104 k = f 195 (6 * k + 3) ∧ f 105 k = f 195 (6 * k + 4) ∧ f 106 k = f 195 (6 * k + 5)
def RO (h : Nat) (f : Nat → Nat → Int32) : Prop := h ≤ 60 ∧ f 100 6 = nI h ∧ f 181 14 = nI h ∧ ∀ k, k < h → RH f k
theorem RO_congr {h : Nat} {f f' : Nat → Nat → Int32} (h1 : ∀ a i, 100 ≤ a → a ≤ 106 → f' a i = f a i) (h2 : ∀ i, f' 195 i = f 195 i) (h3 : f' 181 14 = f 181 14) (r : RO h f) : RO h f' := by
  obtain ⟨a, b, c, d⟩ := r
  refine ⟨a, (h1 100 6 (by omega) (by omega)).trans b, h3.trans c, fun k hk => ?_⟩
  unfold RH
  rw [h1 101 k (by omega) (by omega), h1 102 k (by omega) (by omega), h1 103 k (by omega) (by omega), h1 104 k (by omega) (by omega), h1 105 k (by omega) (by omega), h1 106 k (by omega) (by omega), h2, h2, h2, h2, h2, h2]
  exact d k hk
theorem RO_kp {l : List Nat} {h : Nat} {f f' : Nat → Nat → Int32} (k : kp l f f') (h2 : hasN l 2 = false) (h12 : hasN l 12 = false) (r : RO h f) : RO h f' :=
  RO_congr (fun a i p q => k a i (by rw [cmp_2 a p q]; exact h2)) (fun i => k 195 i (by exact h12)) (k 181 14 (by exact h12)) r
theorem m_ui_s' {f : Nat → Nat → Int32} {k j i : Nat} {v : Int32} (h : i = j := by omega) : m_ui f k j v k i = v := by rw [m_ui_ap, if_pos rfl, if_pos h]
theorem oadd_0 {f : Nat → Nat → Int32} {h k : Nat} {x1 x2 x3 x4 x5 x6 : Int32} : oadd f h x1 x2 x3 x4 x5 x6 101 k = if k = h then x1 else f 101 k := by
  unfold oadd
  by_cases e : k = h
  · subst e
    rw [m_ui_o (by omega), m_ui_o (by omega), m_ui_o (by omega), m_ui_o (by omega), m_ui_o (by omega), m_ui_o (by omega), m_ui_s, if_pos rfl]
  · rw [m_ui_o (by omega), m_ui_o (by omega), m_ui_o (by omega), m_ui_o (by omega), m_ui_o (by omega), m_ui_o (by omega), m_ui_o (by omega), if_neg e]
theorem kadd_0 {f : Nat → Nat → Int32} {h k : Nat} {x1 x2 x3 x4 x5 x6 : Int32} : kadd f h x1 x2 x3 x4 x5 x6 195 (6 * k + 0) = if k = h then x1 else f 195 (6 * k + 0) := by
  unfold kadd
  by_cases e : k = h
  · subst e
    rw [m_ui_o (by omega), m_ui_o (by omega), m_ui_o (by omega), m_ui_o (by omega), m_ui_o (by omega), m_ui_o (by omega), m_ui_o (by omega), m_ui_s', if_pos rfl]
  · rw [m_ui_o (by omega), m_ui_o (by omega), m_ui_o (by omega), m_ui_o (by omega), m_ui_o (by omega), m_ui_o (by omega), m_ui_o (by omega), m_ui_o (by omega), if_neg e]
theorem oaddn_0 {f : Nat → Nat → Int32} {h k : Nat} {r : Nat → Nat → Int32} : ∀ m, oaddn f h r m 101 k = if h ≤ k ∧ k < h + m then r (k - h) 0 else f 101 k
  | 0 => by
    rw [if_neg (by omega)]
    rfl
  | m + 1 => by
    show oadd (oaddn f h r m) (h + m) _ _ _ _ _ _ 101 k = _
    rw [oadd_0, oaddn_0 m]
    by_cases e : k = h + m
    · rw [if_pos e, if_pos (by omega), show k - h = m by omega]
    · rw [if_neg e]
      by_cases e2 : h ≤ k ∧ k < h + m
      · rw [if_pos e2, if_pos (by omega)]
      · rw [if_neg e2, if_neg (by omega)]
theorem kaddn_0 {f : Nat → Nat → Int32} {h k : Nat} {r : Nat → Nat → Int32} : ∀ m, kaddn f h r m 195 (6 * k + 0) = if h ≤ k ∧ k < h + m then r (k - h) 0 else f 195 (6 * k + 0)
  | 0 => by
    rw [if_neg (by omega)]
    rfl
  | m + 1 => by
    show kadd (kaddn f h r m) (h + m) _ _ _ _ _ _ 195 (6 * k + 0) = _
    rw [kadd_0, kaddn_0 m]
    by_cases e : k = h + m
    · rw [if_pos e, if_pos (by omega), show k - h = m by omega]
    · rw [if_neg e]
      by_cases e2 : h ≤ k ∧ k < h + m
      · rw [if_pos e2, if_pos (by omega)]
      · rw [if_neg e2, if_neg (by omega)]
theorem oadd_1 {f : Nat → Nat → Int32} {h k : Nat} {x1 x2 x3 x4 x5 x6 : Int32} : oadd f h x1 x2 x3 x4 x5 x6 102 k = if k = h then x2 else f 102 k := by
  unfold oadd
  by_cases e : k = h
  · subst e
    rw [m_ui_o (by omega), m_ui_o (by omega), m_ui_o (by omega), m_ui_o (by omega), m_ui_o (by omega), m_ui_s, if_pos rfl]
  · rw [m_ui_o (by omega), m_ui_o (by omega), m_ui_o (by omega), m_ui_o (by omega), m_ui_o (by omega), m_ui_o (by omega), m_ui_o (by omega), if_neg e]
theorem kadd_1 {f : Nat → Nat → Int32} {h k : Nat} {x1 x2 x3 x4 x5 x6 : Int32} : kadd f h x1 x2 x3 x4 x5 x6 195 (6 * k + 1) = if k = h then x2 else f 195 (6 * k + 1) := by
  unfold kadd
  by_cases e : k = h
  · subst e
    rw [m_ui_o (by omega), m_ui_o (by omega), m_ui_o (by omega), m_ui_o (by omega), m_ui_o (by omega), m_ui_o (by omega), m_ui_s', if_pos rfl]
  · rw [m_ui_o (by omega), m_ui_o (by omega), m_ui_o (by omega), m_ui_o (by omega), m_ui_o (by omega), m_ui_o (by omega), m_ui_o (by omega), m_ui_o (by omega), if_neg e]
theorem oaddn_1 {f : Nat → Nat → Int32} {h k : Nat} {r : Nat → Nat → Int32} : ∀ m, oaddn f h r m 102 k = if h ≤ k ∧ k < h + m then r (k - h) 1 else f 102 k
  | 0 => by
    rw [if_neg (by omega)]
    rfl
  | m + 1 => by
    show oadd (oaddn f h r m) (h + m) _ _ _ _ _ _ 102 k = _
    rw [oadd_1, oaddn_1 m]
    by_cases e : k = h + m
    · rw [if_pos e, if_pos (by omega), show k - h = m by omega]
    · rw [if_neg e]
      by_cases e2 : h ≤ k ∧ k < h + m
      · rw [if_pos e2, if_pos (by omega)]
      · rw [if_neg e2, if_neg (by omega)]
theorem kaddn_1 {f : Nat → Nat → Int32} {h k : Nat} {r : Nat → Nat → Int32} : ∀ m, kaddn f h r m 195 (6 * k + 1) = if h ≤ k ∧ k < h + m then r (k - h) 1 else f 195 (6 * k + 1)
  | 0 => by
    rw [if_neg (by omega)]
    rfl
  | m + 1 => by
    show kadd (kaddn f h r m) (h + m) _ _ _ _ _ _ 195 (6 * k + 1) = _
    rw [kadd_1, kaddn_1 m]
    by_cases e : k = h + m
    · rw [if_pos e, if_pos (by omega), show k - h = m by omega]
    · rw [if_neg e]
      by_cases e2 : h ≤ k ∧ k < h + m
      · rw [if_pos e2, if_pos (by omega)]
      · rw [if_neg e2, if_neg (by omega)]
theorem oadd_2 {f : Nat → Nat → Int32} {h k : Nat} {x1 x2 x3 x4 x5 x6 : Int32} : oadd f h x1 x2 x3 x4 x5 x6 103 k = if k = h then x3 else f 103 k := by
  unfold oadd
  by_cases e : k = h
  · subst e
    rw [m_ui_o (by omega), m_ui_o (by omega), m_ui_o (by omega), m_ui_o (by omega), m_ui_s, if_pos rfl]
  · rw [m_ui_o (by omega), m_ui_o (by omega), m_ui_o (by omega), m_ui_o (by omega), m_ui_o (by omega), m_ui_o (by omega), m_ui_o (by omega), if_neg e]
theorem kadd_2 {f : Nat → Nat → Int32} {h k : Nat} {x1 x2 x3 x4 x5 x6 : Int32} : kadd f h x1 x2 x3 x4 x5 x6 195 (6 * k + 2) = if k = h then x3 else f 195 (6 * k + 2) := by
  unfold kadd
  by_cases e : k = h
  · subst e
    rw [m_ui_o (by omega), m_ui_o (by omega), m_ui_o (by omega), m_ui_o (by omega), m_ui_o (by omega), m_ui_s', if_pos rfl]
  · rw [m_ui_o (by omega), m_ui_o (by omega), m_ui_o (by omega), m_ui_o (by omega), m_ui_o (by omega), m_ui_o (by omega), m_ui_o (by omega), m_ui_o (by omega), if_neg e]
theorem oaddn_2 {f : Nat → Nat → Int32} {h k : Nat} {r : Nat → Nat → Int32} : ∀ m, oaddn f h r m 103 k = if h ≤ k ∧ k < h + m then r (k - h) 2 else f 103 k
  | 0 => by
    rw [if_neg (by omega)]
    rfl
  | m + 1 => by
    show oadd (oaddn f h r m) (h + m) _ _ _ _ _ _ 103 k = _
    rw [oadd_2, oaddn_2 m]
    by_cases e : k = h + m
    · rw [if_pos e, if_pos (by omega), show k - h = m by omega]
    · rw [if_neg e]
      by_cases e2 : h ≤ k ∧ k < h + m
      · rw [if_pos e2, if_pos (by omega)]
      · rw [if_neg e2, if_neg (by omega)]
theorem kaddn_2 {f : Nat → Nat → Int32} {h k : Nat} {r : Nat → Nat → Int32} : ∀ m, kaddn f h r m 195 (6 * k + 2) = if h ≤ k ∧ k < h + m then r (k - h) 2 else f 195 (6 * k + 2)
  | 0 => by
    rw [if_neg (by omega)]
    rfl
  | m + 1 => by
    show kadd (kaddn f h r m) (h + m) _ _ _ _ _ _ 195 (6 * k + 2) = _
    rw [kadd_2, kaddn_2 m]
    by_cases e : k = h + m
    · rw [if_pos e, if_pos (by omega), show k - h = m by omega]
    · rw [if_neg e]
      by_cases e2 : h ≤ k ∧ k < h + m
      · rw [if_pos e2, if_pos (by omega)]
      · rw [if_neg e2, if_neg (by omega)]
theorem oadd_3 {f : Nat → Nat → Int32} {h k : Nat} {x1 x2 x3 x4 x5 x6 : Int32} : oadd f h x1 x2 x3 x4 x5 x6 104 k = if k = h then x4 else f 104 k := by
  unfold oadd
  by_cases e : k = h
  · subst e
    rw [m_ui_o (by omega), m_ui_o (by omega), m_ui_o (by omega), m_ui_s, if_pos rfl]
  · rw [m_ui_o (by omega), m_ui_o (by omega), m_ui_o (by omega), m_ui_o (by omega), m_ui_o (by omega), m_ui_o (by omega), m_ui_o (by omega), if_neg e]
theorem kadd_3 {f : Nat → Nat → Int32} {h k : Nat} {x1 x2 x3 x4 x5 x6 : Int32} : kadd f h x1 x2 x3 x4 x5 x6 195 (6 * k + 3) = if k = h then x4 else f 195 (6 * k + 3) := by
  unfold kadd
  by_cases e : k = h
  · subst e
    rw [m_ui_o (by omega), m_ui_o (by omega), m_ui_o (by omega), m_ui_o (by omega), m_ui_s', if_pos rfl]
  · rw [m_ui_o (by omega), m_ui_o (by omega), m_ui_o (by omega), m_ui_o (by omega), m_ui_o (by omega), m_ui_o (by omega), m_ui_o (by omega), m_ui_o (by omega), if_neg e]
theorem oaddn_3 {f : Nat → Nat → Int32} {h k : Nat} {r : Nat → Nat → Int32} : ∀ m, oaddn f h r m 104 k = if h ≤ k ∧ k < h + m then r (k - h) 3 else f 104 k
  | 0 => by
    rw [if_neg (by omega)]
    rfl
  | m + 1 => by
    show oadd (oaddn f h r m) (h + m) _ _ _ _ _ _ 104 k = _
    rw [oadd_3, oaddn_3 m]
    by_cases e : k = h + m
    · rw [if_pos e, if_pos (by omega), show k - h = m by omega]
    · rw [if_neg e]
      by_cases e2 : h ≤ k ∧ k < h + m
      · rw [if_pos e2, if_pos (by omega)]
      · rw [if_neg e2, if_neg (by omega)]
theorem kaddn_3 {f : Nat → Nat → Int32} {h k : Nat} {r : Nat → Nat → Int32} : ∀ m, kaddn f h r m 195 (6 * k + 3) = if h ≤ k ∧ k < h + m then r (k - h) 3 else f 195 (6 * k + 3)
  | 0 => by
    rw [if_neg (by omega)]
    rfl
  | m + 1 => by
    show kadd (kaddn f h r m) (h + m) _ _ _ _ _ _ 195 (6 * k + 3) = _
    rw [kadd_3, kaddn_3 m]
    by_cases e : k = h + m
    · rw [if_pos e, if_pos (by omega), show k - h = m by omega]
    · rw [if_neg e]
      by_cases e2 : h ≤ k ∧ k < h + m
      · rw [if_pos e2, if_pos (by omega)]
      · rw [if_neg e2, if_neg (by omega)]
theorem oadd_4 {f : Nat → Nat → Int32} {h k : Nat} {x1 x2 x3 x4 x5 x6 : Int32} : oadd f h x1 x2 x3 x4 x5 x6 105 k = if k = h then x5 else f 105 k := by
  unfold oadd
  by_cases e : k = h
  · subst e
    rw [m_ui_o (by omega), m_ui_o (by omega), m_ui_s, if_pos rfl]
  · rw [m_ui_o (by omega), m_ui_o (by omega), m_ui_o (by omega), m_ui_o (by omega), m_ui_o (by omega), m_ui_o (by omega), m_ui_o (by omega), if_neg e]
theorem kadd_4 {f : Nat → Nat → Int32} {h k : Nat} {x1 x2 x3 x4 x5 x6 : Int32} : kadd f h x1 x2 x3 x4 x5 x6 195 (6 * k + 4) = if k = h then x5 else f 195 (6 * k + 4) := by
  unfold kadd
  by_cases e : k = h
  · subst e
    rw [m_ui_o (by omega), m_ui_o (by omega), m_ui_o (by omega), m_ui_s', if_pos rfl]
  · rw [m_ui_o (by omega), m_ui_o (by omega), m_ui_o (by omega), m_ui_o (by omega), m_ui_o (by omega), m_ui_o (by omega), m_ui_o (by omega), m_ui_o (by omega), if_neg e]
theorem oaddn_4 {f : Nat → Nat → Int32} {h k : Nat} {r : Nat → Nat → Int32} : ∀ m, oaddn f h r m 105 k = if h ≤ k ∧ k < h + m then r (k - h) 4 else f 105 k
  | 0 => by
    rw [if_neg (by omega)]
    rfl
  | m + 1 => by
    show oadd (oaddn f h r m) (h + m) _ _ _ _ _ _ 105 k = _
    rw [oadd_4, oaddn_4 m]
    by_cases e : k = h + m
    · rw [if_pos e, if_pos (by omega), show k - h = m by omega]
    · rw [if_neg e]
      by_cases e2 : h ≤ k ∧ k < h + m
      · rw [if_pos e2, if_pos (by omega)]
      · rw [if_neg e2, if_neg (by omega)]
theorem kaddn_4 {f : Nat → Nat → Int32} {h k : Nat} {r : Nat → Nat → Int32} : ∀ m, kaddn f h r m 195 (6 * k + 4) = if h ≤ k ∧ k < h + m then r (k - h) 4 else f 195 (6 * k + 4)
  | 0 => by
    rw [if_neg (by omega)]
    rfl
  | m + 1 => by
    show kadd (kaddn f h r m) (h + m) _ _ _ _ _ _ 195 (6 * k + 4) = _
    rw [kadd_4, kaddn_4 m]
    by_cases e : k = h + m
    · rw [if_pos e, if_pos (by omega), show k - h = m by omega]
    · rw [if_neg e]
      by_cases e2 : h ≤ k ∧ k < h + m
      · rw [if_pos e2, if_pos (by omega)]
      · rw [if_neg e2, if_neg (by omega)]
theorem oadd_5 {f : Nat → Nat → Int32} {h k : Nat} {x1 x2 x3 x4 x5 x6 : Int32} : oadd f h x1 x2 x3 x4 x5 x6 106 k = if k = h then x6 else f 106 k := by
  unfold oadd
  by_cases e : k = h
  · subst e
    rw [m_ui_o (by omega), m_ui_s, if_pos rfl]
  · rw [m_ui_o (by omega), m_ui_o (by omega), m_ui_o (by omega), m_ui_o (by omega), m_ui_o (by omega), m_ui_o (by omega), m_ui_o (by omega), if_neg e]
theorem kadd_5 {f : Nat → Nat → Int32} {h k : Nat} {x1 x2 x3 x4 x5 x6 : Int32} : kadd f h x1 x2 x3 x4 x5 x6 195 (6 * k + 5) = if k = h then x6 else f 195 (6 * k + 5) := by
  unfold kadd
  by_cases e : k = h
  · subst e
    rw [m_ui_o (by omega), m_ui_o (by omega), m_ui_s', if_pos rfl]
  · rw [m_ui_o (by omega), m_ui_o (by omega), m_ui_o (by omega), m_ui_o (by omega), m_ui_o (by omega), m_ui_o (by omega), m_ui_o (by omega), m_ui_o (by omega), if_neg e]
theorem oaddn_5 {f : Nat → Nat → Int32} {h k : Nat} {r : Nat → Nat → Int32} : ∀ m, oaddn f h r m 106 k = if h ≤ k ∧ k < h + m then r (k - h) 5 else f 106 k
  | 0 => by
    rw [if_neg (by omega)]
    rfl
  | m + 1 => by
    show oadd (oaddn f h r m) (h + m) _ _ _ _ _ _ 106 k = _
    rw [oadd_5, oaddn_5 m]
    by_cases e : k = h + m
    · rw [if_pos e, if_pos (by omega), show k - h = m by omega]
    · rw [if_neg e]
      by_cases e2 : h ≤ k ∧ k < h + m
      · rw [if_pos e2, if_pos (by omega)]
      · rw [if_neg e2, if_neg (by omega)]
theorem kaddn_5 {f : Nat → Nat → Int32} {h k : Nat} {r : Nat → Nat → Int32} : ∀ m, kaddn f h r m 195 (6 * k + 5) = if h ≤ k ∧ k < h + m then r (k - h) 5 else f 195 (6 * k + 5)
  | 0 => by
    rw [if_neg (by omega)]
    rfl
  | m + 1 => by
    show kadd (kaddn f h r m) (h + m) _ _ _ _ _ _ 195 (6 * k + 5) = _
    rw [kadd_5, kaddn_5 m]
    by_cases e : k = h + m
    · rw [if_pos e, if_pos (by omega), show k - h = m by omega]
    · rw [if_neg e]
      by_cases e2 : h ≤ k ∧ k < h + m
      · rw [if_pos e2, if_pos (by omega)]
      · rw [if_neg e2, if_neg (by omega)]
theorem hasN_lt (p i : Nat) (hp : p < 181) (h : ¬ p = 129) : hasN [10, 12, 22] (cmp p i) = false := by
  have key : ∀ p, p < 181 → ¬ p = 129 → hasN [10, 12, 22] (cmp0 p) = false := by decide +kernel
  have e1 : Nat.beq p 129 = false := by
    cases q : Nat.beq p 129 with
    | false => rfl
    | true => exact absurd (Nat.eq_of_beq_eq_true q) h
  have e2 : Nat.beq p 181 = false := by
    cases q : Nat.beq p 181 with
    | false => rfl
    | true => exact absurd (Nat.eq_of_beq_eq_true q) (by omega)
  unfold cmp
  rw [e1, e2]
  exact key p hp h
theorem RO_addn {f : Nat → Nat → Int32} {h m : Nat} {r : Nat → Nat → Int32} (hR : RO h f) (hm : h + m ≤ 60) (hr : ∀ k, k < m → inr 0 19 (r k 1)) : RO (h + m) (kaddn (oaddn f h r m) h r m) := by
  obtain ⟨a, b, c, d⟩ := hR
  have hX : ∀ p i, p < 181 → kaddn (oaddn f h r m) h r m p i = oaddn f h r m p i := fun p i hp => by
    refine kp_kaddn m p i ?_
    by_cases e : p = 129
    · subst e
      show hasN [10, 12, 22] (bif Nat.beq i 6 then 5 else 0) = false
      cases Nat.beq i 6 <;> rfl
    · exact hasN_lt p i hp e
  have h195 : ∀ i, oaddn f h r m 195 i = f 195 i := fun i => fx_oaddn m 195 i (by omega)
  refine ⟨by omega, ?_, ?_, fun k hk => ?_⟩
  · rw [hX 100 6 (by omega), oaddn_c b]
  · exact kaddn_c ((fx_oaddn m 181 14 (by omega)).trans c) m
  · unfold RH
    rw [hX 101 k (by omega), hX 102 k (by omega), hX 103 k (by omega), hX 104 k (by omega), hX 105 k (by omega), hX 106 k (by omega), oaddn_0, oaddn_1, oaddn_2, oaddn_3, oaddn_4, oaddn_5, kaddn_0, kaddn_1, kaddn_2, kaddn_3, kaddn_4, kaddn_5]
    by_cases e : h ≤ k ∧ k < h + m
    · simp only [if_pos e]
      exact ⟨trivial, trivial, hr (k - h) (by omega), trivial, trivial, trivial, trivial⟩
    · simp only [if_neg e, h195]
      exact d k (by omega)
theorem m_z_o {f : Nat → Nat → Int32} {b k a i : Nat} (h : ¬ (a = 226 ∧ b ≤ i ∧ i < b + k)) : m_z f b k a i = f a i := if_neg h
theorem m_fil_o {f : Nat → Nat → Int32} {k n a i : Nat} {v : Int32} (h : ¬ (a = k ∧ i < n)) : m_fil f k n v a i = f a i := by
  rw [m_fil_ap, if_neg h]
theorem lay_180 {f : Nat → Nat → Int32} {s i : Nat} {l n : Int32} (hs : s < 4) : lay f s l n 180 i = if i = s then n else f 180 i := by
  unfold lay
  by_cases e : i = s
  · rw [if_pos e, m_ui_s' e]
  · rw [if_neg e, m_ui_o (by omega), m_ui_o (by omega), m_fil_o (by omega)]
theorem lay_179 {f : Nat → Nat → Int32} {s i : Nat} {l n : Int32} (hs : s < 4) : lay f s l n 179 i = if i = s then l else f 179 i := by
  unfold lay
  by_cases e : i = s
  · rw [if_pos e, m_ui_o (by omega), m_ui_s' e]
  · rw [if_neg e, m_ui_o (by omega), m_ui_o (by omega), m_fil_o (by omega)]
theorem lay_row {f : Nat → Nat → Int32} {s t k : Nat} {l n : Int32} (hs : s < 4) (ht : t < 4) (hk : k < 60) : lay f s l n (175 + t) k = if t = s then 0 else f (175 + t) k := by
  unfold lay
  by_cases e : t = s
  · subst e
    rw [if_pos rfl, m_ui_o (by omega), m_ui_o (by omega), m_fil_ap, if_pos ⟨rfl, hk⟩]
  · rw [if_neg e, m_ui_o (by omega), m_ui_o (by omega), m_fil_o (by omega)]
theorem kp_lay {f : Nat → Nat → Int32} {s : Nat} {l n : Int32} (hs : s < 4) : kp [8] f (lay f s l n) := by
  unfold lay
  refine kp_ui rfl (kp_ui rfl (kp_fil ?_ (kp_refl _ _)))
  have h4 : s = 0 ∨ s = 1 ∨ s = 2 ∨ s = 3 := by omega
  rcases h4 with rfl | rfl | rfl | rfl <;> rfl
theorem okv_173 {a i : Nat} {v : Int32} (h : 173 ≤ a) (h' : a < 180) : okv a i v := by
  unfold okv
  repeat rw [if_neg (by omega)]
  trivial
theorem XI_lay {f : Nat → Nat → Int32} {s : Nat} {l n : Int32} (hX : XI f) (hs : s < 4) (hn : inr 0 60 n) : XI (lay f s l n) := by
  unfold lay
  refine XI_ui (XI_ui (XI_fil hX (fun i => okv_173 (by omega) (by omega))) True.intro) (show inr (-1) 60 n from ⟨?_, hn.2⟩)
  have a := Int32.le_iff_toInt_le.mp hn.1
  rw [Int32.le_iff_toInt_le]
  have e0 : (0 : Int32).toInt = 0 := rfl
  have e1 : (-1 : Int32).toInt = -1 := rfl
  omega
theorem mlay_224 {f : Nat → Nat → Int32} {s i : Nat} {l n : Int32} : mlay f s l n 224 i = if i = s then l else f 224 i := by
  unfold mlay
  rw [m_z_o (by omega)]
  by_cases e : i = s
  · rw [if_pos e, m_ui_o (by omega), m_ui_s' e]
  · rw [if_neg e, m_ui_o (by omega), m_ui_o (by omega)]
theorem mlay_225 {f : Nat → Nat → Int32} {s i : Nat} {l n : Int32} : mlay f s l n 225 i = if i = s then n else f 225 i := by
  unfold mlay
  rw [m_z_o (by omega)]
  by_cases e : i = s
  · rw [if_pos e, m_ui_s' e]
  · rw [if_neg e, m_ui_o (by omega), m_ui_o (by omega)]
theorem mlay_226 {f : Nat → Nat → Int32} {s t k : Nat} {l n : Int32} (hk : k < 60) : mlay f s l n 226 (60 * t + k) = if t = s then 0 else f 226 (60 * t + k) := by
  show (if 226 = 226 ∧ 60 * s ≤ 60 * t + k ∧ 60 * t + k < 60 * s + 60 then 0 else m_ui (m_ui f 224 s l) 225 s n 226 (60 * t + k)) = _
  by_cases e : t = s
  · rw [if_pos (by omega), if_pos e]
  · rw [if_neg (by omega), if_neg e, m_ui_o (by omega), m_ui_o (by omega)]
theorem kp_mlay {f : Nat → Nat → Int32} {s : Nat} {l n : Int32} : kp [18] f (mlay f s l n) := fun a i q => by
  unfold mlay
  by_cases e : a = 226
  · subst e
    exact absurd (show true = false from q) (by decide)
  · rw [m_z_o (fun z => e z.1)]
    exact kp_ui (l := [18]) rfl (kp_ui rfl (kp_refl _ _)) a i q
theorem XI_mlay {f : Nat → Nat → Int32} {s : Nat} {l n : Int32} (hX : XI f) (hn : inr 0 60 n) : XI (mlay f s l n) := fun a i => by
  unfold mlay
  by_cases e : a = 226
  · subst e
    exact True.intro
  · rw [m_z_o (fun z => e z.1)]
    have h9 := XI_ui (k := 225) (j := s) (v := n) (XI_ui (k := 224) (j := s) (v := l) hX True.intro) (show inr 0 60 n from hn)
    exact h9 a i
theorem kx_sheet {f f1 : Nat → Nat → Int32} {x1 x2 x3 v : Int32} (s : SX_sheet f f1 x1 x2 x3 v) : kp [8] f f1 := by
  rcases s with ⟨_, _, rfl⟩ | ⟨_, _, _, rfl⟩ | ⟨t, ht, _, _, _, _, rfl⟩
  · exact kp_refl _ _
  · exact kp_refl _ _
  · exact kp_lay ht
theorem km_sheet {f f1 : Nat → Nat → Int32} {x1 x2 x3 v : Int32} (s : SM_sheet f f1 x1 x2 x3 v) : kp [18] f f1 := by
  rcases s with ⟨_, _, rfl⟩ | ⟨_, _, _, rfl⟩ | ⟨t, ht, _, _, _, _, rfl⟩
  · exact kp_refl _ _
  · exact kp_refl _ _
  · exact kp_mlay
theorem fin_sheet {f f1 f2 : Nat → Nat → Int32} {x1 x2 x3 v1 v2 : Int32} (hX : XI f) (hS : RS f) (s1 : SX_sheet f f1 x1 x2 x3 v1) (s2 : SM_sheet f1 f2 x1 x2 x3 v2) : XI f2 ∧ RS f2 ∧ v1 = v2 := by
  rcases s1 with ⟨q1, rfl, rfl⟩ | ⟨q1, r1, rfl, rfl⟩ | ⟨s, hs, e1, p2, p3, ev1, rfl⟩
  · rcases s2 with ⟨q2, rfl, rfl⟩ | ⟨q2, r2, rfl, rfl⟩ | ⟨t, ht, e2, u2, u3, ev2, rfl⟩
    · exact ⟨hX, hS, rfl⟩
    · exact absurd q2 q1
    · exact absurd ⟨⟨by rw [e2]; exact inr_n (m := 3) (by omega) rfl (by decide), u2⟩, u3.2⟩ q1
  · rcases s2 with ⟨q2, rfl, rfl⟩ | ⟨q2, r2, rfl, rfl⟩ | ⟨t, ht, e2, u2, u3, ev2, rfl⟩
    · exact absurd q1 q2
    · exact ⟨hX, hS, rfl⟩
    · exact absurd r1 (i32_nlt.mpr u3.1)
  · rcases s2 with ⟨q2, rfl, rfl⟩ | ⟨q2, r2, rfl, rfl⟩ | ⟨t, ht, e2, u2, u3, ev2, rfl⟩
    · exact absurd ⟨⟨by rw [e1]; exact inr_n (m := 3) (by omega) rfl (by decide), p2⟩, p3.2⟩ q2
    · exact absurd r2 (i32_nlt.mpr p3.1)
    · have est : s = t := (nI_eq (by omega) (by omega)).mp (e1.symm.trans e2)
      subst est
      refine ⟨XI_mlay (XI_lay hX hs p3) p3, fun t ht => ?_, ev1.trans ev2.symm⟩
      have k2 := kp_mlay (f := lay f s x2 x3) (s := s) (l := x2) (n := x3)
      have k1 := kp_lay (f := f) (l := x2) (n := x3) hs
      rw [k2 180 t rfl, k2 179 t rfl, mlay_224, mlay_225, lay_180 hs, lay_179 hs, k1 224 t rfl, k1 225 t rfl]
      by_cases e : t = s
      · simp only [if_pos e]
        refine Or.inr ⟨trivial, p2, trivial, p3, fun k hk => ?_⟩
        rw [k2 (175 + t) k (by rw [cmp_8 _ (by omega) (by omega)]; rfl), mlay_226 hk, lay_row hs ht hk, if_pos e, if_pos e]
      · simp only [if_neg e]
        rcases hS t ht with q | ⟨a, b, c, d, g⟩
        · exact Or.inl q
        · refine Or.inr ⟨a, b, c, d, fun k hk => ?_⟩
          rw [k2 (175 + t) k (by rw [cmp_8 _ (by omega) (by omega)]; rfl), mlay_226 hk, lay_row hs ht hk, if_neg e, if_neg e, k1 226 _ rfl, g k hk]
theorem kx_drop {f f1 : Nat → Nat → Int32} {x1 v : Int32} (s : SX_drop f f1 x1 v) : kp [8] f f1 := by
  rcases s with ⟨_, _, rfl⟩ | ⟨t, ht, _, ⟨_, _, rfl⟩ | ⟨_, _, rfl⟩⟩
  · exact kp_refl _ _
  · exact kp_refl _ _
  · exact kp_ui rfl (kp_refl _ _)
theorem km_drop {f f1 : Nat → Nat → Int32} {x1 v : Int32} (s : SM_drop f f1 x1 v) : kp [18] f f1 := by
  rcases s with ⟨_, _, rfl⟩ | ⟨t, ht, _, ⟨_, _, rfl⟩ | ⟨_, _, rfl⟩⟩
  · exact kp_refl _ _
  · exact kp_refl _ _
  · exact kp_ui rfl (kp_refl _ _)
theorem n1_lt : (-1 : Int32) < 0 := by decide
theorem fin_drop {f f1 f2 : Nat → Nat → Int32} {x1 v1 v2 : Int32} (hX : XI f) (hS : RS f) (s1 : SX_drop f f1 x1 v1) (s2 : SM_drop f1 f2 x1 v2) : XI f2 ∧ RS f2 ∧ v1 = v2 := by
  have k1 := kx_drop s1
  rcases s1 with ⟨q1, rfl, rfl⟩ | ⟨s, hs, e1, s1⟩
  · rcases s2 with ⟨q2, rfl, rfl⟩ | ⟨t, ht, e2, _⟩
    · exact ⟨hX, hS, rfl⟩
    · exact absurd (by rw [e2]; exact inr_n (m := 3) (by omega) rfl (by decide)) q1
  · rcases s2 with ⟨q2, rfl, rfl⟩ | ⟨t, ht, e2, s2⟩
    · exact absurd (by rw [e1]; exact inr_n (m := 3) (by omega) rfl (by decide)) q2
    · have est : s = t := (nI_eq (by omega) (by omega)).mp (e1.symm.trans e2)
      subst est
      rw [k1 224 s rfl, k1 225 s rfl] at s2
      rcases hS s hs with ⟨u1, u2⟩ | ⟨a, b, c, d, g⟩
      · rcases s1 with ⟨r1, rfl, rfl⟩ | ⟨r1, rfl, rfl⟩
        · rcases s2 with ⟨r2, rfl, rfl⟩ | ⟨r2, rfl, rfl⟩
          · exact ⟨hX, hS, rfl⟩
          · exact absurd (by rw [u2]; exact n1_lt) r2
        · exact absurd u1 r1
      · have hne : ¬ f 180 s = -1 := fun z => by
          have := d.1
          rw [← c, z] at this
          exact absurd this (by decide)
        rcases s1 with ⟨r1, rfl, rfl⟩ | ⟨r1, rfl, rfl⟩
        · exact absurd r1 hne
        · rcases s2 with ⟨r2, rfl, rfl⟩ | ⟨r2, rfl, rfl⟩
          · exact absurd r2 (i32_nlt.mpr b.1)
          · refine ⟨XI_ui (XI_ui hX (show inr (-1) 60 (-1) by unfold inr; decide)) True.intro, fun t ht => ?_, c⟩
            by_cases e : t = s
            · subst e
              refine Or.inl ⟨?_, m_ui_s⟩
              rw [m_ui_o (by omega), m_ui_s]
            · rw [m_ui_o (by omega), m_ui_o (by omega), m_ui_o (by omega), m_ui_o (by omega), m_ui_o (by omega), m_ui_o (by omega), m_ui_o (by omega), m_ui_o (by omega)]
              rcases hS t ht with q | ⟨a', b', c', d', g'⟩
              · exact Or.inl q
              · exact Or.inr ⟨a', b', c', d', fun k hk => by rw [m_ui_o (by omega), m_ui_o (by omega), m_ui_o (by omega), m_ui_o (by omega), g' k hk]⟩
theorem kx_item {f f1 : Nat → Nat → Int32} {x1 x2 x3 x4 v : Int32} (s : SX_item f f1 x1 x2 x3 x4 v) : kp [8] f f1 := by
  rcases s with ⟨_, _, rfl⟩ | ⟨t, ht, _, _, ⟨_, _, rfl⟩ | ⟨_, _, _, rfl⟩ | ⟨_, _, _, _, rfl⟩ | ⟨_, _, _, k, _, _, _, rfl⟩⟩
  · exact kp_refl _ _
  · exact kp_refl _ _
  · exact kp_refl _ _
  · exact kp_refl _ _
  · exact kp_ui (by rw [cmp_8 _ (by omega) (by omega)]; rfl) (kp_refl _ _)
theorem km_item {f f1 : Nat → Nat → Int32} {x1 x2 x3 x4 v : Int32} (s : SM_item f f1 x1 x2 x3 x4 v) : kp [18] f f1 := by
  rcases s with ⟨_, _, rfl⟩ | ⟨t, ht, _, _, ⟨_, _, _, rfl⟩ | ⟨_, _, _, rfl⟩ | ⟨_, _, _, rfl⟩ | ⟨_, _, k, _, _, _, rfl⟩⟩
  · exact kp_refl _ _
  · exact kp_refl _ _
  · exact kp_refl _ _
  · exact kp_refl _ _
  · exact kp_ui rfl (kp_refl _ _)
theorem fin_item {f f1 f2 : Nat → Nat → Int32} {x1 x2 x3 x4 v1 v2 : Int32} (hX : XI f) (hS : RS f) (s1 : SX_item f f1 x1 x2 x3 x4 v1) (s2 : SM_item f1 f2 x1 x2 x3 x4 v2) : XI f2 ∧ RS f2 ∧ v1 = v2 := by
  have k1 := kx_item s1
  rcases s1 with ⟨q1, rfl, rfl⟩ | ⟨s, hs, e1, p2, s1⟩
  · rcases s2 with ⟨q2, rfl, rfl⟩ | ⟨t, ht, e2, p2, _⟩
    · exact ⟨hX, hS, rfl⟩
    · exact absurd ⟨by rw [e2]; exact inr_n (m := 3) (by omega) rfl (by decide), p2⟩ q1
  · rcases s2 with ⟨q2, rfl, rfl⟩ | ⟨t, ht, e2, _, s2⟩
    · exact absurd ⟨by rw [e1]; exact inr_n (m := 3) (by omega) rfl (by decide), p2⟩ q2
    · have est : s = t := (nI_eq (by omega) (by omega)).mp (e1.symm.trans e2)
      subst est
      rw [k1 224 s rfl, k1 225 s rfl] at s2
      rcases hS s hs with ⟨u1, u2⟩ | ⟨a, b, c, d, g⟩
      · have hn : ¬ f 224 s = x2 := fun z => by
          have := p2.1
          rw [← z, u2] at this
          exact absurd this (by decide)
        have hl : f 224 s < 0 := by rw [u2]; exact n1_lt
        rcases s1 with ⟨_, rfl, rfl⟩ | ⟨r1, _⟩ | ⟨r1, _⟩ | ⟨r1, _⟩
        · rcases s2 with ⟨_, _, rfl, rfl⟩ | ⟨_, r2, _⟩ | ⟨r2, _⟩ | ⟨r2, _⟩
          · exact ⟨hX, hS, rfl⟩
          · exact absurd hl r2
          · exact absurd r2 hn
          · exact absurd r2 hn
        · exact absurd u1 r1
        · exact absurd u1 r1
        · exact absurd u1 r1
      · have hne : ¬ f 180 s = -1 := fun z => by
          have := d.1
          rw [← c, z] at this
          exact absurd this (by decide)
        have hnl : ¬ f 224 s < 0 := i32_nlt.mpr b.1
        have hix : inr 0 (f 225 s - 1) x3 ↔ ¬ (x3 < 0 ∨ f 180 s - 1 < x3) := by
          rw [c]
          constructor
          · exact fun z q => q.elim (fun w => absurd w (i32_nlt.mpr z.1)) (fun w => absurd w (i32_nlt.mpr z.2))
          · exact fun z => ⟨i32_nlt.mp (fun w => z (Or.inl w)), i32_nlt.mp (fun w => z (Or.inr w))⟩
        rw [a] at s1
        rcases s1 with ⟨r1, _⟩ | ⟨_, r1, rfl, rfl⟩ | ⟨_, r1, r1', rfl, rfl⟩ | ⟨_, r1, r1', k, hk, ek, rfl, rfl⟩
        · exact absurd r1 hne
        · rcases s2 with ⟨_, r2, _⟩ | ⟨_, _, rfl, rfl⟩ | ⟨r2, _⟩ | ⟨r2, _⟩
          · exact absurd r2 hnl
          · exact ⟨hX, hS, rfl⟩
          · exact absurd r2 r1
          · exact absurd r2 r1
        · rcases s2 with ⟨r2, _⟩ | ⟨r2, _⟩ | ⟨_, _, rfl, rfl⟩ | ⟨_, r2, _⟩
          · exact absurd r1 r2
          · exact absurd r1 r2
          · exact ⟨hX, hS, rfl⟩
          · exact absurd r1' (hix.mp r2)
        · rcases s2 with ⟨r2, _⟩ | ⟨r2, _⟩ | ⟨_, r2, _⟩ | ⟨_, _, k', hk', ek', rfl, rfl⟩
          · exact absurd r1 r2
          · exact absurd r1 r2
          · exact absurd (hix.mpr r1') r2
          · have ekk : k = k' := (nI_eq (by omega) (by omega)).mp (ek.symm.trans ek')
            subst ekk
            rw [← sx16]
            refine ⟨XI_ui (XI_ui hX (okv_173 (by omega) (by omega))) True.intro, fun t ht => ?_, rfl⟩
            rw [m_ui_o (by omega), m_ui_o (by omega), m_ui_o (by omega), m_ui_o (by omega), m_ui_o (by omega), m_ui_o (by omega), m_ui_o (by omega), m_ui_o (by omega)]
            rcases hS t ht with q | ⟨a', b', c', d', g'⟩
            · exact Or.inl q
            · refine Or.inr ⟨a', b', c', d', fun i hi => ?_⟩
              by_cases e : t = s ∧ i = k
              · obtain ⟨rfl, rfl⟩ := e
                rw [m_ui_o (by omega), m_ui_s, m_ui_s]
              · rw [m_ui_o (by omega), m_ui_o (by omega), m_ui_o (by omega), m_ui_o (by omega), g' i hi]
theorem XI_oadd {f : Nat → Nat → Int32} {h : Nat} {x1 x2 x3 x4 x5 x6 : Int32} (hX : XI f) (hh : h < 60) : XI (oadd f h x1 x2 x3 x4 x5 x6) := by
  unfold oadd
  exact XI_ui (XI_ui (XI_ui (XI_ui (XI_ui (XI_ui (XI_ui hX True.intro) True.intro) True.intro) True.intro) True.intro) True.intro) (show inr 0 60 _ from inr_n1 (m := 60) (by omega) rfl (by decide))
theorem XI_kadd {f : Nat → Nat → Int32} {h : Nat} {x1 x2 x3 x4 x5 x6 : Int32} (hX : XI f) (hh : h < 60) : XI (kadd f h x1 x2 x3 x4 x5 x6) := by
  unfold kadd
  exact XI_ui (XI_ui (XI_ui (XI_ui (XI_ui (XI_ui (XI_ui (XI_ui hX True.intro) True.intro) True.intro) True.intro) True.intro) True.intro) (show inr 0 60 _ from inr_n (m := 60) (by omega) rfl (by decide))) True.intro
theorem XI_oaddn {f : Nat → Nat → Int32} {h : Nat} {r : Nat → Nat → Int32} (hX : XI f) : ∀ m, h + m ≤ 60 → XI (oaddn f h r m)
  | 0, _ => hX
  | m + 1, hm => XI_oadd (XI_oaddn hX m (by omega)) (by omega)
theorem XI_kaddn {f : Nat → Nat → Int32} {h : Nat} {r : Nat → Nat → Int32} (hX : XI f) : ∀ m, h + m ≤ 60 → XI (kaddn f h r m)
  | 0, _ => hX
  | m + 1, hm => XI_kadd (XI_kaddn hX m (by omega)) (by omega)
theorem kx_holding {n h : Nat} {f f1 : Nat → Nat → Int32} {x1 x2 x3 x4 x5 x6 v : Int32} (s : SX_holding n h f f1 x1 x2 x3 x4 x5 x6 v) : kp [2] f f1 := by
  rcases s with ⟨_, _, rfl⟩ | ⟨_, ⟨_, _, rfl⟩ | ⟨_, _, rfl⟩⟩
  · exact kp_refl _ _
  · exact kp_refl _ _
  · exact kp_fx fx_oadd rfl
theorem km_holding {n h : Nat} {f f1 : Nat → Nat → Int32} {x1 x2 x3 x4 x5 x6 v : Int32} (s : SM_holding n h f f1 x1 x2 x3 x4 x5 x6 v) : kp [10, 12, 22] f f1 := by
  rcases s with ⟨_, _, rfl⟩ | ⟨_, ⟨_, _, rfl⟩ | ⟨_, _, rfl⟩⟩
  · exact kp_refl _ _
  · exact kp_refl _ _
  · exact kp_kadd
theorem fin_holding {n h : Nat} {f f1 f2 : Nat → Nat → Int32} {x1 x2 x3 x4 x5 x6 v1 v2 : Int32} (hX : XI f) (hO : RO h f) (s1 : SX_holding n h f f1 x1 x2 x3 x4 x5 x6 v1) (s2 : SM_holding n h f1 f2 x1 x2 x3 x4 x5 x6 v2) : XI f2 ∧ (∃ h, RO h f2) ∧ v1 = v2 := by
  rcases s1 with ⟨q1, rfl, rfl⟩ | ⟨p1, s1⟩
  · rcases s2 with ⟨q2, rfl, rfl⟩ | ⟨p2, _⟩
    · exact ⟨hX, ⟨h, hO⟩, rfl⟩
    · exact absurd p2 q1
  · rcases s2 with ⟨q2, rfl, rfl⟩ | ⟨p2, s2⟩
    · exact absurd p1 q2
    · rcases s1 with ⟨e1, rfl, rfl⟩ | ⟨e1, rfl, rfl⟩
      · rcases s2 with ⟨e2, rfl, rfl⟩ | ⟨e2, rfl, rfl⟩
        · exact ⟨hX, ⟨h, hO⟩, rfl⟩
        · omega
      · rcases s2 with ⟨e2, rfl, rfl⟩ | ⟨e2, rfl, rfl⟩
        · omega
        · exact ⟨XI_kadd (XI_oadd hX e1) e1, ⟨h + 1, RO_addn (r := (fun _ t => match t with | 0 => x1 | 1 => x2 | 2 => x3 | 3 => x4 | 4 => x5 | _ => x6)) hO (by omega) (fun k hk => p1.2.1)⟩, rfl⟩
theorem kx_unhold {h : Nat} {f f1 : Nat → Nat → Int32} {v : Int32} (s : SX_unhold h f f1 v) : kp [2] f f1 := by
  rcases s with ⟨_, _, rfl⟩ | ⟨_, _, rfl⟩
  · exact kp_refl _ _
  · exact kp_ui rfl (kp_refl _ _)
theorem km_unhold {h : Nat} {f f1 : Nat → Nat → Int32} {v : Int32} (s : SM_unhold h f f1 v) : kp [10, 12, 22] f f1 := by
  rcases s with ⟨_, _, rfl⟩ | ⟨_, _, rfl⟩
  · exact kp_refl _ _
  · exact kp_ui rfl (kp_ui rfl (kp_refl _ _))
theorem fin_unhold {h : Nat} {f f1 f2 : Nat → Nat → Int32} {v1 v2 : Int32} (hX : XI f) (hO : RO h f) (s1 : SX_unhold h f f1 v1) (s2 : SM_unhold h f1 f2 v2) : XI f2 ∧ (∃ h, RO h f2) ∧ v1 = v2 := by
  rcases s1 with ⟨q1, rfl, rfl⟩ | ⟨p1, rfl, rfl⟩
  · rcases s2 with ⟨q2, rfl, rfl⟩ | ⟨p2, rfl, rfl⟩
    · exact ⟨hX, ⟨h, hO⟩, rfl⟩
    · omega
  · rcases s2 with ⟨q2, rfl, rfl⟩ | ⟨p2, rfl, rfl⟩
    · omega
    · obtain ⟨a, b, c, d⟩ := hO
      refine ⟨XI_ui (XI_ui (XI_ui hX (show inr 0 60 _ from inr_n (m := 60) (by omega) rfl (by decide))) (show inr 0 60 _ from inr_n (m := 60) (by omega) rfl (by decide))) True.intro, ⟨h - 1, by omega, ?_, ?_, fun k hk => ?_⟩, rfl⟩
      · rw [m_ui_o (by omega), m_ui_o (by omega), m_ui_s]
      · rw [m_ui_o (by omega), m_ui_s]
      · have := d k (by omega)
        unfold RH at this ⊢
        have e : ∀ p i, ¬ (p = 181) → ¬ (p = 100) → m_ui (m_ui (m_ui f 100 6 (nI (h - 1))) 181 14 (nI (h - 1))) 181 29 0 p i = f p i := fun p i h1 h2 => by
          rw [m_ui_o (by omega), m_ui_o (by omega), m_ui_o (by omega)]
        rw [e 101 k (by decide) (by decide), e 102 k (by decide) (by decide), e 103 k (by decide) (by decide), e 104 k (by decide) (by decide), e 105 k (by decide) (by decide), e 106 k (by decide) (by decide), e 195 _ (by decide) (by decide), e 195 _ (by decide) (by decide), e 195 _ (by decide) (by decide), e 195 _ (by decide) (by decide), e 195 _ (by decide) (by decide), e 195 _ (by decide) (by decide)]
        exact this
theorem kx_holdings {n h : Nat} {f f1 : Nat → Nat → Int32} {x1 x2 x3 x4 v : Int32} (s : SX_holdings n h f f1 x1 x2 x3 x4 v) : kp [2] f f1 := by
  rcases s with ⟨_, _, rfl⟩ | ⟨t, m, _, _, _, _, _, ⟨_, _, rfl⟩ | ⟨_, _, _, rfl⟩ | ⟨_, _, _, _, rfl⟩ | ⟨_, _, _, a, _, _, ⟨_, _, rfl⟩ | ⟨_, _, _, rfl⟩ | ⟨_, _, _, rfl⟩⟩⟩
  · exact kp_refl _ _
  · exact kp_refl _ _
  · exact kp_refl _ _
  · exact kp_refl _ _
  · exact kp_refl _ _
  · exact kp_refl _ _
  · exact kp_fx (fx_oaddn m) rfl
theorem km_holdings {n h : Nat} {f f1 : Nat → Nat → Int32} {x1 x2 x3 x4 v : Int32} (s : SM_holdings n h f f1 x1 x2 x3 x4 v) : kp [10, 12, 22] f f1 := by
  rcases s with ⟨_, _, rfl⟩ | ⟨t, m, _, _, _, _, _, ⟨_, _, _, rfl⟩ | ⟨_, _, _, rfl⟩ | ⟨_, _, _, rfl⟩ | ⟨_, _, a, _, _, ⟨_, _, rfl⟩ | ⟨_, _, _, rfl⟩ | ⟨_, _, _, rfl⟩⟩⟩
  · exact kp_refl _ _
  · exact kp_refl _ _
  · exact kp_refl _ _
  · exact kp_refl _ _
  · exact kp_refl _ _
  · exact kp_refl _ _
  · exact kp_kaddn m
theorem allw_congr {n m : Nat} {r r' : Nat → Nat → Int32} (h : ∀ k t, k < m → t < 6 → r k t = r' k t) : allw n m r ↔ allw n m r' := by
  constructor
  · intro a k hk
    have := a k hk
    rw [h k 0 hk (by omega), h k 1 hk (by omega), h k 2 hk (by omega), h k 3 hk (by omega), h k 4 hk (by omega), h k 5 hk (by omega)] at this
    exact this
  · intro a k hk
    have := a k hk
    rw [← h k 0 hk (by omega), ← h k 1 hk (by omega), ← h k 2 hk (by omega), ← h k 3 hk (by omega), ← h k 4 hk (by omega), ← h k 5 hk (by omega)] at this
    exact this
theorem kaddn_congr {f : Nat → Nat → Int32} {h : Nat} {r r' : Nat → Nat → Int32} : ∀ m, (∀ k t, k < m → t < 6 → r k t = r' k t) → kaddn f h r m = kaddn f h r' m
  | 0, _ => rfl
  | m + 1, e => by
    show kadd (kaddn f h r m) (h + m) _ _ _ _ _ _ = kadd (kaddn f h r' m) (h + m) _ _ _ _ _ _
    rw [kaddn_congr m (fun k t hk ht => e k t (by omega) ht), e m 0 (by omega) (by omega), e m 1 (by omega) (by omega), e m 2 (by omega) (by omega), e m 3 (by omega) (by omega), e m 4 (by omega) (by omega), e m 5 (by omega) (by omega)]
theorem fin_holdings {n h : Nat} {f f1 f2 : Nat → Nat → Int32} {x1 x2 x3 x4 v1 v2 : Int32} (hX : XI f) (hS : RS f) (hO : RO h f) (s1 : SX_holdings n h f f1 x1 x2 x3 x4 v1) (s2 : SM_holdings n h f1 f2 x1 x2 x3 x4 v2) : XI f2 ∧ (∃ h, RO h f2) ∧ v1 = v2 := by
  have k1 := kx_holdings s1
  have hbase : XI f ∧ (∃ h, RO h f) := ⟨hX, h, hO⟩
  rcases s1 with ⟨q1, rfl, rfl⟩ | ⟨s, m, hs, e1, p2, hm, em, s1⟩
  · rcases s2 with ⟨q2, rfl, rfl⟩ | ⟨t, m2, ht, e2, p2, hm2, em2, _⟩
    · exact ⟨hX, ⟨h, hO⟩, rfl⟩
    · exact absurd ⟨⟨by rw [e2]; exact inr_n (m := 3) (by omega) rfl (by decide), p2⟩, by rw [em2]; exact inr_n (m := 10) hm2 rfl (by decide)⟩ q1
  · rcases s2 with ⟨q2, rfl, rfl⟩ | ⟨t, m2, ht, e2, _, hm2, em2, s2⟩
    · exact absurd ⟨⟨by rw [e1]; exact inr_n (m := 3) (by omega) rfl (by decide), p2⟩, by rw [em]; exact inr_n (m := 10) hm rfl (by decide)⟩ q2
    · have est : s = t := (nI_eq (by omega) (by omega)).mp (e1.symm.trans e2)
      subst est
      have emm : m = m2 := (nI_eq (by omega) (by omega)).mp (em.symm.trans em2)
      subst emm
      have h226 : ∀ i, f1 226 i = f 226 i := fun i => k1 226 i rfl
      rw [k1 224 s rfl, k1 225 s rfl] at s2
      simp only [h226] at s2
      rcases hS s hs with ⟨u1, u2⟩ | ⟨a, b, c, d, g⟩
      · have hn : ¬ f 224 s = x2 := fun z => by
          have := p2.1
          rw [← z, u2] at this
          exact absurd this (by decide)
        have hl : f 224 s < 0 := by rw [u2]; exact n1_lt
        rcases s1 with ⟨_, rfl, rfl⟩ | ⟨r1, _⟩ | ⟨r1, _⟩ | ⟨r1, _⟩
        · rcases s2 with ⟨_, _, rfl, rfl⟩ | ⟨_, r2, _⟩ | ⟨r2, _⟩ | ⟨r2, _⟩
          · exact ⟨hX, ⟨h, hO⟩, rfl⟩
          · exact absurd hl r2
          · exact absurd r2 hn
          · exact absurd r2 hn
        · exact absurd u1 r1
        · exact absurd u1 r1
        · exact absurd u1 r1
      · have hne : ¬ f 180 s = -1 := fun z => by
          have := d.1
          rw [← c, z] at this
          exact absurd this (by decide)
        have hnl : ¬ f 224 s < 0 := i32_nlt.mpr b.1
        have hix : inr 0 (f 225 s - nI (6 * m)) x3 ↔ ¬ (x3 < 0 ∨ f 180 s - nI (m * 6) < x3) := by
          rw [c, Nat.mul_comm m 6]
          constructor
          · exact fun z q => q.elim (fun w => absurd w (i32_nlt.mpr z.1)) (fun w => absurd w (i32_nlt.mpr z.2))
          · exact fun z => ⟨i32_nlt.mp (fun w => z (Or.inl w)), i32_nlt.mp (fun w => z (Or.inr w))⟩
        rw [a] at s1
        rcases s1 with ⟨r1, _⟩ | ⟨_, r1, rfl, rfl⟩ | ⟨_, r1, r1', rfl, rfl⟩ | ⟨_, r1, r1', aa, ea, ha, s1⟩
        · exact absurd r1 hne
        · rcases s2 with ⟨_, r2, _⟩ | ⟨_, _, rfl, rfl⟩ | ⟨r2, _⟩ | ⟨r2, _⟩
          · exact absurd r2 hnl
          · exact ⟨hX, ⟨h, hO⟩, rfl⟩
          · exact absurd r2 r1
          · exact absurd r2 r1
        · rcases s2 with ⟨r2, _⟩ | ⟨r2, _⟩ | ⟨_, _, rfl, rfl⟩ | ⟨_, r2, _⟩
          · exact absurd r1 r2
          · exact absurd r1 r2
          · exact ⟨hX, ⟨h, hO⟩, rfl⟩
          · exact absurd r1' (hix.mp r2)
        · rcases s2 with ⟨r2, _⟩ | ⟨r2, _⟩ | ⟨_, r2, _⟩ | ⟨_, _, ab, eb, hab, s2⟩
          · exact absurd r1 r2
          · exact absurd r1 r2
          · exact absurd (hix.mpr r1') r2
          · have eaa : aa = ab := (nI_eq (by omega) (by omega)).mp (ea.symm.trans eb)
            subst eaa
            have hr : ∀ k t, k < m → t < 6 → (fun k t => f 226 (60 * s + aa + 6 * k + t)) k t = (fun k t => f (175 + s) (aa + 6 * k + t)) k t := fun k t hk ht => by
              show f 226 (60 * s + aa + 6 * k + t) = f (175 + s) (aa + 6 * k + t)
              rw [g (aa + 6 * k + t) (by omega)]
              congr 1
              omega
            unfold SH at s2
            rw [allw_congr hr] at s2
            rcases s1 with ⟨w1, rfl, rfl⟩ | ⟨w1, z1, rfl, rfl⟩ | ⟨w1, z1, rfl, rfl⟩
            · rcases s2 with ⟨w2, rfl, rfl⟩ | ⟨w2, _⟩ | ⟨w2, _⟩
              · exact ⟨hX, ⟨h, hO⟩, rfl⟩
              · exact absurd w2 w1
              · exact absurd w2 w1
            · rcases s2 with ⟨w2, _⟩ | ⟨w2, z2, rfl, rfl⟩ | ⟨w2, z2, _⟩
              · exact absurd w1 w2
              · exact ⟨hX, ⟨h, hO⟩, rfl⟩
              · omega
            · rcases s2 with ⟨w2, _⟩ | ⟨w2, z2, _⟩ | ⟨w2, z2, rfl, rfl⟩
              · exact absurd w1 w2
              · omega
              · rw [kaddn_congr m hr]
                exact ⟨XI_kaddn (XI_oaddn hX m z1) m z1, ⟨h + m, RO_addn hO z1 (fun k hk => (w1 k hk).2.1)⟩, rfl⟩
theorem km_work {n : Nat} {f f1 : Nat → Nat → Int32} {x1 x2 x3 x4 x5 x6 v : Int32} (s : SM_work n f f1 x1 x2 x3 x4 x5 x6 v) : kp [10, 11, 22] f f1 := by
  rcases s with ⟨_, _, rfl⟩ | ⟨_, ⟨_, _, rfl⟩ | ⟨hn, _, rfl⟩⟩
  · exact kp_refl _ _
  · exact kp_refl _ _
  · exact kp_madd
theorem km_version {n : Nat} {f f1 : Nat → Nat → Int32} {x1 x2 x3 x4 x5 x6 v : Int32} (s : SM_version n f f1 x1 x2 x3 x4 x5 x6 v) : kp [10, 11, 22] f f1 := by
  rcases s with ⟨_, _, rfl⟩ | ⟨j, _, _, _, ⟨_, _, rfl⟩ | ⟨_, ⟨_, _, rfl⟩ | ⟨hn, _, rfl⟩⟩⟩
  · exact kp_refl _ _
  · exact kp_refl _ _
  · exact kp_refl _ _
  · exact kp_madd
theorem km_print {n : Nat} {f f1 : Nat → Nat → Int32} {x1 x2 x3 x4 x5 x6 x7 v : Int32} (s : SM_print n f f1 x1 x2 x3 x4 x5 x6 x7 v) : kp [10, 11, 22] f f1 := by
  rcases s with ⟨_, _, rfl⟩ | ⟨j, _, _, _, ⟨_, _, rfl⟩ | ⟨hn, _, rfl⟩⟩
  · exact kp_refl _ _
  · exact kp_refl _ _
  · exact kp_madd
theorem km_retitle {n : Nat} {f f1 : Nat → Nat → Int32} {x1 x2 x3 v : Int32} (s : SM_retitle n f f1 x1 x2 x3 v) : kp [10, 11, 22] f f1 := by
  rcases s with ⟨_, _, rfl⟩ | ⟨j, q, hj, _, _, _, _, _, _, ⟨_, _, rfl⟩ | ⟨_, _, _, rfl⟩ | ⟨_, _, _, rfl⟩⟩
  · exact kp_refl _ _
  · exact kp_refl _ _
  · exact kp_refl _ _
  · exact kp_mtit
theorem km_cut {n : Nat} {f f1 : Nat → Nat → Int32} {x1 x2 x3 x4 v : Int32} (s : SM_cut n f f1 x1 x2 x3 x4 v) : kp [10, 11, 22] f f1 := by
  rcases s with ⟨_, _, rfl⟩ | ⟨j, hj, _, _, _, _, ⟨_, _, rfl⟩ | ⟨_, _, _, rfl⟩ | ⟨_, _, _, rfl⟩⟩
  · exact kp_refl _ _
  · exact kp_refl _ _
  · exact kp_refl _ _
  · exact kp_mcut
/-- a choice by any statement -/
noncomputable def ci (p : Prop) (a b : Int32) : Int32 := @ite Int32 p (Classical.propDecidable p) a b
theorem ci_t {p : Prop} {a b : Int32} (h : p) : ci p a b = a := @if_pos p (Classical.propDecidable p) h Int32 a b
theorem ci_f {p : Prop} {a b : Int32} (h : ¬ p) : ci p a b = b := @if_neg p (Classical.propDecidable p) h Int32 a b
/-- the one owner: N says when the one found before counts -/
noncomputable def ownl (N : Int32 → Prop) (P : Nat → Prop) (D : Nat → Int32) : Nat → Nat → Int32 → Int32
  | 0, _, a => a
  | k + 1, i, a => ci (P i) (ci (N a ∧ ¬ a = D i) (-4) (ownl N P D k (i + 1) (D i))) (ownl N P D k (i + 1) a)
theorem own_n {N : Int32 → Prop} {P : Nat → Prop} {D : Nat → Int32} {k i : Nat} {a : Int32} (h : ¬ P i) : ownl N P D (k + 1) i a = ownl N P D k (i + 1) a := ci_f h
theorem own_y {N : Int32 → Prop} {P : Nat → Prop} {D : Nat → Int32} {k i : Nat} {a : Int32} (h : P i) (h2 : ¬ (N a ∧ ¬ a = D i)) : ownl N P D (k + 1) i a = ownl N P D k (i + 1) (D i) := (ci_t h).trans (ci_f h2)
theorem own_q {N : Int32 → Prop} {P : Nat → Prop} {D : Nat → Int32} {k i : Nat} {a : Int32} (h : P i) (h2 : N a ∧ ¬ a = D i) : ownl N P D (k + 1) i a = -4 := (ci_t h).trans (ci_t h2)
/-- all who may hold -/
noncomputable def mayl (P : Nat → Prop) (D : Nat → Int32) : Nat → Nat → Int32 → Int32
  | 0, _, a => a
  | k + 1, i, a => mayl P D k (i + 1) (ci (P i) (a ||| (1 <<< (D i &&& 31))) a)
theorem may_y {P : Nat → Prop} {D : Nat → Int32} {k i : Nat} {a : Int32} (h : P i) : mayl P D (k + 1) i a = mayl P D k (i + 1) (a ||| (1 <<< (D i &&& 31))) := by
  show mayl P D k (i + 1) _ = _
  rw [ci_t h]
theorem may_n {P : Nat → Prop} {D : Nat → Int32} {k i : Nat} {a : Int32} (h : ¬ P i) : mayl P D (k + 1) i a = mayl P D k (i + 1) a := by
  show mayl P D k (i + 1) _ = _
  rw [ci_f h]
def PO (f : Nat → Nat → Int32) (lo hi : Nat) (w y : Int32) (i : Nat) : Prop := f 101 i = w ∧ inr (f lo i) (f hi i) y
def PM (f : Nat → Nat → Int32) (lo hi : Nat) (w y : Int32) (i : Nat) : Prop := f 195 (6 * i) = w ∧ inr (f 195 (6 * i + lo)) (f 195 (6 * i + hi)) y
set_option maxRecDepth 100000 in
theorem ow_lp {d L h : Nat} {f : Nat → Nat → Int32} {g : Nat → Nat → Int64} {w y : Int32} {R : Option Value → mH → Prop} (hd : 1 ≤ d) (hb : f 100 6 = nI h) (hm : h ≤ 60) :
    ∀ (k i : Nat) (x a : Int32) , i + k = h → x = nI i → R (some (.int (ownl (fun a => ¬ a = -4) (PO f 104 105 w y) (fun i => f 102 i) k i a))) (shF L, f, g) → WPe pg_X5_theOwner none (Run mtab d) R (m_drop pg_X5_theOwner 4) [some (.ref 100), some (.int w), some (.int y), some (.int a), some (.int x)] [] (shF L, f, g)
  | 0, i, x, a, hi, hx, H => by
    have e : i = h := by omega
    subst hx
    subst e
    refine at_X5_theOwner ?_
    conv => whnf
    simp only [hb]
    refine ⟨fun c => ?_, fun c => absurd (nI_le (Nat.le_refl _) (by omega)) c⟩
    conv => whnf
    exact H
  | k + 1, i, x, a, hi, hx, H => by
    subst hx
    have hcl : (nI i).toNatClampNeg = i := nI_clamp (by omega)
    have hc0 : (nI (6 * i)).toNatClampNeg = 6 * i := nI_clamp (by omega)
    have hc1 : (nI (6 * i + 1)).toNatClampNeg = 6 * i + 1 := nI_clamp (by omega)
    have hc2 : (nI (6 * i + 2)).toNatClampNeg = 6 * i + 2 := nI_clamp (by omega)
    have hc3 : (nI (6 * i + 3)).toNatClampNeg = 6 * i + 3 := nI_clamp (by omega)
    have hc4 : (nI (6 * i + 4)).toNatClampNeg = 6 * i + 4 := nI_clamp (by omega)
    have hc5 : (nI (6 * i + 5)).toNatClampNeg = 6 * i + 5 := nI_clamp (by omega)
    refine at_X5_theOwner ?_
    conv => whnf
    simp only [hb]
    refine ⟨fun c => absurd c (nI_ge (b := h) (by omega) (by omega)), fun c => ?_⟩
    conv => whnf
    refine ⟨vp_in_nI (by omega) (by decide), ?_⟩
    conv => whnf
    simp only [hcl]
    refine ⟨fun c1 => ?_, fun c1 => ?_⟩
    · conv => whnf
      exact ow_lp hd hb hm k (i + 1) _ _ (by omega) (nI_1 i) (by rw [own_n (N := fun a => ¬ a = -4) (P := PO f 104 105 w y) (D := fun i => f 102 i) (k := k) (i := i) (a := a) (fun z => c1 z.1)] at H; exact H)
    · conv => whnf
      refine ⟨vp_in_nI (by omega) (by decide), ?_⟩
      conv => whnf
      refine ⟨vp_in_nI (by omega) (by decide), ?_⟩
      conv => whnf
      simp only [hcl]
      refine ct_isWithin hd (fun p => ?_) (fun p => ?_)
      · conv => whnf
        refine ⟨fun c => absurd c (by decide), fun _ => ?_⟩
        conv => whnf
        refine ⟨fun c2 => ?_, fun c2 => ?_⟩
        · conv => whnf
          refine ⟨vp_in_nI (by omega) (by decide), ?_⟩
          conv => whnf
          simp only [hcl]
          exact ow_lp hd hb hm k (i + 1) _ _ (by omega) (nI_1 i) (by rw [own_y (N := fun a => ¬ a = -4) (P := PO f 104 105 w y) (D := fun i => f 102 i) (k := k) (i := i) (a := a) ⟨c1, p⟩ (fun z => z.1 c2)] at H; exact H)
        · conv => whnf
          refine ⟨vp_in_nI (by omega) (by decide), ?_⟩
          conv => whnf
          simp only [hcl]
          refine ⟨fun c3 => ?_, fun c3 => ?_⟩
          · conv => whnf
            refine ⟨vp_in_nI (by omega) (by decide), ?_⟩
            conv => whnf
            simp only [hcl]
            exact ow_lp hd hb hm k (i + 1) _ _ (by omega) (nI_1 i) (by rw [own_y (N := fun a => ¬ a = -4) (P := PO f 104 105 w y) (D := fun i => f 102 i) (k := k) (i := i) (a := a) ⟨c1, p⟩ (fun z => z.2 c3)] at H; exact H)
          · conv => whnf
            rw [own_q (N := fun a => ¬ a = -4) (P := PO f 104 105 w y) (D := fun i => f 102 i) (k := k) (i := i) (a := a) ⟨c1, p⟩ ⟨c2, c3⟩] at H
            exact H
      · conv => whnf
        refine ⟨fun _ => ?_, fun c => absurd rfl c⟩
        conv => whnf
        exact ow_lp hd hb hm k (i + 1) _ _ (by omega) (nI_1 i) (by rw [own_n (N := fun a => ¬ a = -4) (P := PO f 104 105 w y) (D := fun i => f 102 i) (k := k) (i := i) (a := a) (fun z => p z.2)] at H; exact H)
set_option maxRecDepth 100000 in
set_option maxHeartbeats 4000000 in
theorem sf_theOwner {d L : Nat} {f : Nat → Nat → Int32} {g : Nat → Nat → Int64} {h : Nat} {w y : Int32} {R : Option Value → mH → Prop} (hd : 2 ≤ d) (hb : f 100 6 = nI h) (hm : h ≤ 60) (H : R (some (.int (ownl (fun a => ¬ a = -4) (PO f 104 105 w y) (fun i => f 102 i) h 0 (-4)))) (shF L, f, g)) : Run mtab d 44 [.ref 100, .int w, .int y] (shF L, f, g) R := by
  obtain ⟨d, rfl⟩ : ∃ e, d = e + 1 := ⟨d - 1, by omega⟩
  refine go_X5_theOwner rfl ?_
  conv => whnf
  exact ow_lp (by omega) hb hm h 0 _ _ (by omega) rfl H
set_option maxRecDepth 100000 in
theorem mw_lp {d L h : Nat} {f : Nat → Nat → Int32} {g : Nat → Nat → Int64} {w y : Int32} {R : Option Value → mH → Prop} (hd : 1 ≤ d) (hb : f 100 6 = nI h) (hm : h ≤ 60) :
    ∀ (k i : Nat) (x a : Int32) , i + k = h → x = nI i → R (some (.int (mayl (PO f 103 106 w y) (fun i => f 102 i) k i a))) (shF L, f, g) → WPe pg_X5_whoMay none (Run mtab d) R (m_drop pg_X5_whoMay 4) [some (.ref 100), some (.int w), some (.int y), some (.int a), some (.int x)] [] (shF L, f, g)
  | 0, i, x, a, hi, hx, H => by
    have e : i = h := by omega
    subst hx
    subst e
    refine at_X5_whoMay ?_
    conv => whnf
    simp only [hb]
    refine ⟨fun c => ?_, fun c => absurd (nI_le (Nat.le_refl _) (by omega)) c⟩
    conv => whnf
    exact H
  | k + 1, i, x, a, hi, hx, H => by
    subst hx
    have hcl : (nI i).toNatClampNeg = i := nI_clamp (by omega)
    have hc0 : (nI (6 * i)).toNatClampNeg = 6 * i := nI_clamp (by omega)
    have hc1 : (nI (6 * i + 1)).toNatClampNeg = 6 * i + 1 := nI_clamp (by omega)
    have hc2 : (nI (6 * i + 2)).toNatClampNeg = 6 * i + 2 := nI_clamp (by omega)
    have hc3 : (nI (6 * i + 3)).toNatClampNeg = 6 * i + 3 := nI_clamp (by omega)
    have hc4 : (nI (6 * i + 4)).toNatClampNeg = 6 * i + 4 := nI_clamp (by omega)
    have hc5 : (nI (6 * i + 5)).toNatClampNeg = 6 * i + 5 := nI_clamp (by omega)
    refine at_X5_whoMay ?_
    conv => whnf
    simp only [hb]
    refine ⟨fun c => absurd c (nI_ge (b := h) (by omega) (by omega)), fun c => ?_⟩
    conv => whnf
    refine ⟨vp_in_nI (by omega) (by decide), ?_⟩
    conv => whnf
    simp only [hcl]
    refine ⟨fun c1 => ?_, fun c1 => ?_⟩
    · conv => whnf
      exact mw_lp hd hb hm k (i + 1) _ _ (by omega) (nI_1 i) (by rw [may_n (P := PO f 103 106 w y) (D := fun i => f 102 i) (k := k) (i := i) (a := a) (fun z => c1 z.1)] at H; exact H)
    · conv => whnf
      refine ⟨vp_in_nI (by omega) (by decide), ?_⟩
      conv => whnf
      refine ⟨vp_in_nI (by omega) (by decide), ?_⟩
      conv => whnf
      simp only [hcl]
      refine ct_isWithin hd (fun p => ?_) (fun p => ?_)
      · conv => whnf
        refine ⟨fun c => absurd c (by decide), fun _ => ?_⟩
        conv => whnf
        refine ⟨vp_in_nI (by omega) (by decide), ?_⟩
        conv => whnf
        simp only [hcl]
        exact mw_lp hd hb hm k (i + 1) _ _ (by omega) (nI_1 i) (by rw [may_y (P := PO f 103 106 w y) (D := fun i => f 102 i) (k := k) (i := i) (a := a) ⟨c1, p⟩] at H; exact H)
      · conv => whnf
        refine ⟨fun _ => ?_, fun c => absurd rfl c⟩
        conv => whnf
        exact mw_lp hd hb hm k (i + 1) _ _ (by omega) (nI_1 i) (by rw [may_n (P := PO f 103 106 w y) (D := fun i => f 102 i) (k := k) (i := i) (a := a) (fun z => p z.2)] at H; exact H)
set_option maxRecDepth 100000 in
set_option maxHeartbeats 4000000 in
theorem sf_whoMay {d L : Nat} {f : Nat → Nat → Int32} {g : Nat → Nat → Int64} {h : Nat} {w y : Int32} {R : Option Value → mH → Prop} (hd : 2 ≤ d) (hb : f 100 6 = nI h) (hm : h ≤ 60) (H : R (some (.int (mayl (PO f 103 106 w y) (fun i => f 102 i) h 0 0))) (shF L, f, g)) : Run mtab d 45 [.ref 100, .int w, .int y] (shF L, f, g) R := by
  obtain ⟨d, rfl⟩ : ∃ e, d = e + 1 := ⟨d - 1, by omega⟩
  refine go_X5_whoMay rfl ?_
  conv => whnf
  exact mw_lp (by omega) hb hm h 0 _ _ (by omega) rfl H
set_option maxRecDepth 100000 in
theorem om_lp {d L h : Nat} {f : Nat → Nat → Int32} {g : Nat → Nat → Int64} {w y : Int32} {R : Option Value → mH → Prop} (hd : 1 ≤ d) (hb : f 181 14 = nI h) (hm : h ≤ 60) :
    ∀ (k i : Nat) (x a : Int32) (s5 : Option Value), i + k = h → x = nI i → R (some (.int (ownl (fun a => ¬ a < 0) (PM f 3 4 w y) (fun i => f 195 (6 * i + 1)) k i a))) (shF L, f, g) → WPe pg_X11_ownerOf none (Run mtab d) R (m_drop pg_X11_ownerOf 4) [some (.ref 181), some (.int w), some (.int y), some (.int a), some (.int x), s5] [] (shF L, f, g)
  | 0, i, x, a, s5, hi, hx, H => by
    have e : i = h := by omega
    subst hx
    subst e
    refine at_X11_ownerOf ?_
    conv => whnf
    simp only [hb]
    refine ⟨fun c => ?_, fun c => absurd (nI_le (Nat.le_refl _) (by omega)) c⟩
    conv => whnf
    exact H
  | k + 1, i, x, a, s5, hi, hx, H => by
    subst hx
    have hcl : (nI i).toNatClampNeg = i := nI_clamp (by omega)
    have hc0 : (nI (6 * i)).toNatClampNeg = 6 * i := nI_clamp (by omega)
    have hc1 : (nI (6 * i + 1)).toNatClampNeg = 6 * i + 1 := nI_clamp (by omega)
    have hc2 : (nI (6 * i + 2)).toNatClampNeg = 6 * i + 2 := nI_clamp (by omega)
    have hc3 : (nI (6 * i + 3)).toNatClampNeg = 6 * i + 3 := nI_clamp (by omega)
    have hc4 : (nI (6 * i + 4)).toNatClampNeg = 6 * i + 4 := nI_clamp (by omega)
    have hc5 : (nI (6 * i + 5)).toNatClampNeg = 6 * i + 5 := nI_clamp (by omega)
    refine at_X11_ownerOf ?_
    conv => whnf
    simp only [hb]
    refine ⟨fun c => absurd c (nI_ge (b := h) (by omega) (by omega)), fun c => ?_⟩
    conv => whnf
    (try simp only [nI_6m, nI_1, nI_k _ 2 2 rfl, nI_k _ 3 3 rfl, nI_k _ 4 4 rfl, nI_k _ 5 5 rfl])
    refine ⟨vp_in_nI (by omega) (by decide), ?_⟩
    conv => whnf
    simp only [hc0, hc1, hc2, hc3, hc4, hc5]
    refine ⟨fun c1 => ?_, fun c1 => ?_⟩
    · conv => whnf
      exact om_lp hd hb hm k (i + 1) _ _ _ (by omega) (nI_1 i) (by rw [own_n (N := fun a => ¬ a < 0) (P := PM f 3 4 w y) (D := fun i => f 195 (6 * i + 1)) (k := k) (i := i) (a := a) (fun z => c1 z.1)] at H; exact H)
    · conv => whnf
      (try simp only [nI_6m, nI_1, nI_k _ 2 2 rfl, nI_k _ 3 3 rfl, nI_k _ 4 4 rfl, nI_k _ 5 5 rfl])
      refine ⟨vp_in_nI (by omega) (by decide), ?_⟩
      conv => whnf
      (try simp only [nI_6m, nI_1, nI_k _ 2 2 rfl, nI_k _ 3 3 rfl, nI_k _ 4 4 rfl, nI_k _ 5 5 rfl])
      refine ⟨vp_in_nI (by omega) (by decide), ?_⟩
      conv => whnf
      simp only [hc0, hc1, hc2, hc3, hc4, hc5]
      refine ct_i_v_v hd (fun p => ?_) (fun p => ?_)
      · conv => whnf
        refine ⟨fun c => absurd c (by decide), fun _ => ?_⟩
        conv => whnf
        refine ⟨fun c2 => ?_, fun c2 => ?_⟩
        · conv => whnf
          (try simp only [nI_6m, nI_1, nI_k _ 2 2 rfl, nI_k _ 3 3 rfl, nI_k _ 4 4 rfl, nI_k _ 5 5 rfl])
          refine ⟨vp_in_nI (by omega) (by decide), ?_⟩
          conv => whnf
          simp only [hc0, hc1, hc2, hc3, hc4, hc5]
          exact om_lp hd hb hm k (i + 1) _ _ _ (by omega) (nI_1 i) (by rw [own_y (N := fun a => ¬ a < 0) (P := PM f 3 4 w y) (D := fun i => f 195 (6 * i + 1)) (k := k) (i := i) (a := a) ⟨c1, p⟩ (fun z => z.1 c2)] at H; exact H)
        · conv => whnf
          (try simp only [nI_6m, nI_1, nI_k _ 2 2 rfl, nI_k _ 3 3 rfl, nI_k _ 4 4 rfl, nI_k _ 5 5 rfl])
          refine ⟨vp_in_nI (by omega) (by decide), ?_⟩
          conv => whnf
          simp only [hc0, hc1, hc2, hc3, hc4, hc5]
          refine ⟨fun c3 => ?_, fun c3 => ?_⟩
          · conv => whnf
            (try simp only [nI_6m, nI_1, nI_k _ 2 2 rfl, nI_k _ 3 3 rfl, nI_k _ 4 4 rfl, nI_k _ 5 5 rfl])
            refine ⟨vp_in_nI (by omega) (by decide), ?_⟩
            conv => whnf
            simp only [hc0, hc1, hc2, hc3, hc4, hc5]
            exact om_lp hd hb hm k (i + 1) _ _ _ (by omega) (nI_1 i) (by rw [own_y (N := fun a => ¬ a < 0) (P := PM f 3 4 w y) (D := fun i => f 195 (6 * i + 1)) (k := k) (i := i) (a := a) ⟨c1, p⟩ (fun z => z.2 c3)] at H; exact H)
          · conv => whnf
            rw [own_q (N := fun a => ¬ a < 0) (P := PM f 3 4 w y) (D := fun i => f 195 (6 * i + 1)) (k := k) (i := i) (a := a) ⟨c1, p⟩ ⟨c2, c3⟩] at H
            exact H
      · conv => whnf
        refine ⟨fun _ => ?_, fun c => absurd rfl c⟩
        conv => whnf
        exact om_lp hd hb hm k (i + 1) _ _ _ (by omega) (nI_1 i) (by rw [own_n (N := fun a => ¬ a < 0) (P := PM f 3 4 w y) (D := fun i => f 195 (6 * i + 1)) (k := k) (i := i) (a := a) (fun z => p z.2)] at H; exact H)
set_option maxRecDepth 100000 in
set_option maxHeartbeats 4000000 in
theorem smf_ownerOf {d L : Nat} {f : Nat → Nat → Int32} {g : Nat → Nat → Int64} {h : Nat} {w y : Int32} {R : Option Value → mH → Prop} (hd : 2 ≤ d) (hb : f 181 14 = nI h) (hm : h ≤ 60) (H : R (some (.int (ownl (fun a => ¬ a < 0) (PM f 3 4 w y) (fun i => f 195 (6 * i + 1)) h 0 (-4)))) (shF L, f, g)) : Run mtab d 170 [.ref 181, .int w, .int y] (shF L, f, g) R := by
  obtain ⟨d, rfl⟩ : ∃ e, d = e + 1 := ⟨d - 1, by omega⟩
  refine go_X11_ownerOf rfl ?_
  conv => whnf
  exact om_lp (by omega) hb hm h 0 _ _ _ (by omega) rfl H
theorem or_0 (a : Int32) : a ||| 0 = a := Int32.or_zero
set_option maxRecDepth 100000 in
theorem mm_lp {d L h : Nat} {f : Nat → Nat → Int32} {g : Nat → Nat → Int64} {w y : Int32} {R : Option Value → mH → Prop} (hd : 1 ≤ d) (hb : f 181 14 = nI h) (hm : h ≤ 60) :
    ∀ (k i : Nat) (x a : Int32) (s5 : Option Value), i + k = h → x = nI i → R (some (.int (mayl (PM f 2 5 w y) (fun i => f 195 (6 * i + 1)) k i a))) (shF L, f, g) → WPe pg_X11_mayHold none (Run mtab d) R (m_drop pg_X11_mayHold 4) [some (.ref 181), some (.int w), some (.int y), some (.int a), some (.int x), s5] [] (shF L, f, g)
  | 0, i, x, a, s5, hi, hx, H => by
    have e : i = h := by omega
    subst hx
    subst e
    refine at_X11_mayHold ?_
    conv => whnf
    simp only [hb]
    refine ⟨fun c => ?_, fun c => absurd (nI_le (Nat.le_refl _) (by omega)) c⟩
    conv => whnf
    exact H
  | k + 1, i, x, a, s5, hi, hx, H => by
    subst hx
    have hcl : (nI i).toNatClampNeg = i := nI_clamp (by omega)
    have hc0 : (nI (6 * i)).toNatClampNeg = 6 * i := nI_clamp (by omega)
    have hc1 : (nI (6 * i + 1)).toNatClampNeg = 6 * i + 1 := nI_clamp (by omega)
    have hc2 : (nI (6 * i + 2)).toNatClampNeg = 6 * i + 2 := nI_clamp (by omega)
    have hc3 : (nI (6 * i + 3)).toNatClampNeg = 6 * i + 3 := nI_clamp (by omega)
    have hc4 : (nI (6 * i + 4)).toNatClampNeg = 6 * i + 4 := nI_clamp (by omega)
    have hc5 : (nI (6 * i + 5)).toNatClampNeg = 6 * i + 5 := nI_clamp (by omega)
    refine at_X11_mayHold ?_
    conv => whnf
    simp only [hb]
    refine ⟨fun c => absurd c (nI_ge (b := h) (by omega) (by omega)), fun c => ?_⟩
    conv => whnf
    (try simp only [nI_6m, nI_1, nI_k _ 2 2 rfl, nI_k _ 3 3 rfl, nI_k _ 4 4 rfl, nI_k _ 5 5 rfl])
    refine ⟨vp_in_nI (by omega) (by decide), ?_⟩
    conv => whnf
    simp only [hc0, hc1, hc2, hc3, hc4, hc5]
    refine ⟨fun c1 => ?_, fun c1 => ?_⟩
    · conv => whnf
      exact mm_lp hd hb hm k (i + 1) _ _ _ (by omega) (nI_1 i) (by rw [may_n (P := PM f 2 5 w y) (D := fun i => f 195 (6 * i + 1)) (k := k) (i := i) (a := a) (fun z => c1 z.1), ← or_0 a] at H; exact H)
    · conv => whnf
      (try simp only [nI_6m, nI_1, nI_k _ 2 2 rfl, nI_k _ 3 3 rfl, nI_k _ 4 4 rfl, nI_k _ 5 5 rfl])
      refine ⟨vp_in_nI (by omega) (by decide), ?_⟩
      conv => whnf
      (try simp only [nI_6m, nI_1, nI_k _ 2 2 rfl, nI_k _ 3 3 rfl, nI_k _ 4 4 rfl, nI_k _ 5 5 rfl])
      refine ⟨vp_in_nI (by omega) (by decide), ?_⟩
      conv => whnf
      simp only [hc0, hc1, hc2, hc3, hc4, hc5]
      refine ct_i_v_v hd (fun p => ?_) (fun p => ?_)
      · conv => whnf
        refine ⟨fun c => absurd c (by decide), fun _ => ?_⟩
        conv => whnf
        (try simp only [nI_6m, nI_1, nI_k _ 2 2 rfl, nI_k _ 3 3 rfl, nI_k _ 4 4 rfl, nI_k _ 5 5 rfl])
        refine ⟨vp_in_nI (by omega) (by decide), ?_⟩
        conv => whnf
        simp only [hc0, hc1, hc2, hc3, hc4, hc5]
        exact mm_lp hd hb hm k (i + 1) _ _ _ (by omega) (nI_1 i) (by rw [may_y (P := PM f 2 5 w y) (D := fun i => f 195 (6 * i + 1)) (k := k) (i := i) (a := a) ⟨c1, p⟩] at H; exact H)
      · conv => whnf
        refine ⟨fun _ => ?_, fun c => absurd rfl c⟩
        conv => whnf
        exact mm_lp hd hb hm k (i + 1) _ _ _ (by omega) (nI_1 i) (by rw [may_n (P := PM f 2 5 w y) (D := fun i => f 195 (6 * i + 1)) (k := k) (i := i) (a := a) (fun z => p z.2), ← or_0 a] at H; exact H)
set_option maxRecDepth 100000 in
set_option maxHeartbeats 4000000 in
theorem smf_mayHold {d L : Nat} {f : Nat → Nat → Int32} {g : Nat → Nat → Int64} {h : Nat} {w y : Int32} {R : Option Value → mH → Prop} (hd : 2 ≤ d) (hb : f 181 14 = nI h) (hm : h ≤ 60) (H : R (some (.int (mayl (PM f 2 5 w y) (fun i => f 195 (6 * i + 1)) h 0 0))) (shF L, f, g)) : Run mtab d 171 [.ref 181, .int w, .int y] (shF L, f, g) R := by
  obtain ⟨d, rfl⟩ : ∃ e, d = e + 1 := ⟨d - 1, by omega⟩
  refine go_X11_mayHold rfl ?_
  conv => whnf
  exact mm_lp (by omega) hb hm h 0 _ _ _ (by omega) rfl H
theorem ownl_eq {N M : Int32 → Prop} {P Q : Nat → Prop} {D E : Nat → Int32} (h : Nat) (hP : ∀ i, i < h → (P i ↔ Q i)) (hD : ∀ i, i < h → D i = E i) (hr : ∀ i, i < h → (N (D i) ↔ M (D i))) : ∀ (k i : Nat) (a : Int32), i + k = h → (N a ↔ M a) → ownl N P D k i a = ownl M Q E k i a
  | 0, i, a, _, _ => rfl
  | k + 1, i, a, hi, ha => by
    have p := hP i (by omega)
    have d := hD i (by omega)
    by_cases q : P i
    · by_cases z : N a ∧ ¬ a = D i
      · rw [own_q q z, own_q (p.mp q) ⟨ha.mp z.1, by rw [← d]; exact z.2⟩]
      · rw [own_y q z, own_y (p.mp q) (fun w => z ⟨ha.mpr w.1, by rw [d]; exact w.2⟩), ← d]
        exact ownl_eq h hP hD hr k (i + 1) _ (by omega) (hr i (by omega))
    · rw [own_n q, own_n (fun w => q (p.mpr w))]
      exact ownl_eq h hP hD hr k (i + 1) a (by omega) ha
theorem mayl_eq {P Q : Nat → Prop} {D E : Nat → Int32} (h : Nat) (hP : ∀ i, i < h → (P i ↔ Q i)) (hD : ∀ i, i < h → D i = E i) : ∀ (k i : Nat) (a : Int32), i + k = h → mayl P D k i a = mayl Q E k i a
  | 0, i, a, _ => rfl
  | k + 1, i, a, hi => by
    have p := hP i (by omega)
    by_cases q : P i
    · rw [may_y q, may_y (p.mp q), hD i (by omega)]
      exact mayl_eq h hP hD k (i + 1) _ (by omega)
    · rw [may_n q, may_n (fun w => q (p.mpr w))]
      exact mayl_eq h hP hD k (i + 1) a (by omega)
theorem own_RO {f : Nat → Nat → Int32} {h : Nat} (hO : RO h f) (w y : Int32) : ownl (fun a => ¬ a = -4) (PO f 104 105 w y) (fun i => f 102 i) h 0 (-4) = ownl (fun a => ¬ a < 0) (PM f 3 4 w y) (fun i => f 195 (6 * i + 1)) h 0 (-4) := by
  refine ownl_eq h (fun i hi => ?_) (fun i hi => (hO.2.2.2 i hi).2.1) (fun i hi => ?_) h 0 _ (by omega) ?_
  · obtain ⟨a, b, c, d, e, g, k⟩ := hO.2.2.2 i hi
    unfold PO PM
    rw [a, e, g]
    exact Iff.rfl
  · have c := (hO.2.2.2 i hi).2.2.1
    constructor
    · exact fun _ => i32_nlt.mpr c.1
    · intro _ z
      rw [z] at c
      exact absurd c.1 (by decide)
  · decide
theorem may_RO {f : Nat → Nat → Int32} {h : Nat} (hO : RO h f) (w y : Int32) : mayl (PO f 103 106 w y) (fun i => f 102 i) h 0 0 = mayl (PM f 2 5 w y) (fun i => f 195 (6 * i + 1)) h 0 0 := by
  refine mayl_eq h (fun i hi => ?_) (fun i hi => (hO.2.2.2 i hi).2.1) h 0 _ (by omega)
  obtain ⟨a, b, c, d, e, g, k⟩ := hO.2.2.2 i hi
  unfold PO PM
  rw [a, d, k]
  exact Iff.rfl
def SX_owner (n h : Nat) (f : Nat → Nat → Int32) (x1 x2 v : Int32) : Prop := (¬ (hasw n x1 ∧ inr 1800 1999 x2) ∧ v = -1) ∨ ((hasw n x1 ∧ inr 1800 1999 x2) ∧ v = ownl (fun a => ¬ a = -4) (PO f 104 105 x1 x2) (fun i => f 102 i) h 0 (-4))
def SM_owner (n h : Nat) (f : Nat → Nat → Int32) (x1 x2 v : Int32) : Prop := (¬ (hasw n x1 ∧ inr 1800 1999 x2) ∧ v = -1) ∨ ((hasw n x1 ∧ inr 1800 1999 x2) ∧ v = ownl (fun a => ¬ a < 0) (PM f 3 4 x1 x2) (fun i => f 195 (6 * i + 1)) h 0 (-4))
def SX_may (n h : Nat) (f : Nat → Nat → Int32) (x1 x2 v : Int32) : Prop := (¬ (hasw n x1 ∧ inr 1800 1999 x2) ∧ v = -1) ∨ ((hasw n x1 ∧ inr 1800 1999 x2) ∧ v = mayl (PO f 103 106 x1 x2) (fun i => f 102 i) h 0 0)
def SM_may (n h : Nat) (f : Nat → Nat → Int32) (x1 x2 v : Int32) : Prop := (¬ (hasw n x1 ∧ inr 1800 1999 x2) ∧ v = -1) ∨ ((hasw n x1 ∧ inr 1800 1999 x2) ∧ v = mayl (PM f 2 5 x1 x2) (fun i => f 195 (6 * i + 1)) h 0 0)
set_option maxRecDepth 100000 in
set_option maxHeartbeats 4000000 in
theorem sf_owner {d L : Nat} {f : Nat → Nat → Int32} {g : Nat → Nat → Int64} {n h : Nat} {x1 x2 : Int32} {R : Option Value → mH → Prop} (hd : 6 ≤ d) (hb : f 6 13 = nI n) (hm : n ≤ 40) (hhb : f 100 6 = nI h) (hhm : h ≤ 60) (H : ∀ v, SX_owner n h f x1 x2 v → R (some (.int v)) (shF L, f, g)) : Run mtab d 100 [.ref 5, .int x1, .int x2] (shF L, f, g) R := by
  obtain ⟨d, rfl⟩ : ∃ e, d = e + 1 := ⟨d - 1, by omega⟩
  refine go_X10_owner rfl ?_
  conv => whnf
  repeat' first
    | ((with_reducible refine ⟨vp_in_nI (by omega) (by decide), ?_⟩) <;> conv => whnf)
    | (refine ⟨Or.inl rfl, ?_⟩ <;> conv => whnf)
    | (refine ⟨Or.inr rfl, ?_⟩ <;> conv => whnf)
    | (refine ⟨Or.inl True.intro, ?_⟩ <;> conv => whnf)
    | (refine ⟨Or.inr True.intro, ?_⟩ <;> conv => whnf)
    | (refine ⟨fun c => ?_, fun c => ?_⟩ <;> first | ((have c9 : (1 : Int32) = 0 := by with_reducible exact c); exact absurd c9 (by decide)) | exact absurd (rfl : (0 : Int32) = 0) (by with_reducible exact c) | exact absurd True.intro (by with_reducible exact c) | exact False.elim (by with_reducible exact c) | (conv => whnf))
    | (refine ct_has (by omega) hb hm (fun j hj e => ?_) (fun q => ?_) <;> (try subst e) <;> conv => whnf)
    | (refine ct_isYear (by omega) (fun p => ?_) (fun p => ?_) <;> conv => whnf)
    | (refine sf_theOwner (by omega) hhb hhm ?_ <;> conv => whnf)
    | (refine ⟨by unfold vp_in; decide, ?_⟩ <;> conv => whnf)
    | fail
  all_goals first | exact H _ (Or.inl ⟨fun hh => absurd hh.1 (nhasw (by with_reducible assumption)), rfl⟩) | exact H _ (Or.inl ⟨fun hh => absurd hh.2 (by with_reducible assumption), rfl⟩) | exact H _ (Or.inr ⟨⟨⟨_, hj, rfl⟩, by with_reducible assumption⟩, rfl⟩)
set_option maxRecDepth 100000 in
set_option maxHeartbeats 4000000 in
theorem sf_may {d L : Nat} {f : Nat → Nat → Int32} {g : Nat → Nat → Int64} {n h : Nat} {x1 x2 : Int32} {R : Option Value → mH → Prop} (hd : 6 ≤ d) (hb : f 6 13 = nI n) (hm : n ≤ 40) (hhb : f 100 6 = nI h) (hhm : h ≤ 60) (H : ∀ v, SX_may n h f x1 x2 v → R (some (.int v)) (shF L, f, g)) : Run mtab d 101 [.ref 5, .int x1, .int x2] (shF L, f, g) R := by
  obtain ⟨d, rfl⟩ : ∃ e, d = e + 1 := ⟨d - 1, by omega⟩
  refine go_X10_may rfl ?_
  conv => whnf
  repeat' first
    | ((with_reducible refine ⟨vp_in_nI (by omega) (by decide), ?_⟩) <;> conv => whnf)
    | (refine ⟨Or.inl rfl, ?_⟩ <;> conv => whnf)
    | (refine ⟨Or.inr rfl, ?_⟩ <;> conv => whnf)
    | (refine ⟨Or.inl True.intro, ?_⟩ <;> conv => whnf)
    | (refine ⟨Or.inr True.intro, ?_⟩ <;> conv => whnf)
    | (refine ⟨fun c => ?_, fun c => ?_⟩ <;> first | ((have c9 : (1 : Int32) = 0 := by with_reducible exact c); exact absurd c9 (by decide)) | exact absurd (rfl : (0 : Int32) = 0) (by with_reducible exact c) | exact absurd True.intro (by with_reducible exact c) | exact False.elim (by with_reducible exact c) | (conv => whnf))
    | (refine ct_has (by omega) hb hm (fun j hj e => ?_) (fun q => ?_) <;> (try subst e) <;> conv => whnf)
    | (refine ct_isYear (by omega) (fun p => ?_) (fun p => ?_) <;> conv => whnf)
    | (refine sf_whoMay (by omega) hhb hhm ?_ <;> conv => whnf)
    | (refine ⟨by unfold vp_in; decide, ?_⟩ <;> conv => whnf)
    | fail
  all_goals first | exact H _ (Or.inl ⟨fun hh => absurd hh.1 (nhasw (by with_reducible assumption)), rfl⟩) | exact H _ (Or.inl ⟨fun hh => absurd hh.2 (by with_reducible assumption), rfl⟩) | exact H _ (Or.inr ⟨⟨⟨_, hj, rfl⟩, by with_reducible assumption⟩, rfl⟩)
set_option maxRecDepth 100000 in
set_option maxHeartbeats 4000000 in
theorem smf_owner {d L : Nat} {f : Nat → Nat → Int32} {g : Nat → Nat → Int64} {n h : Nat} {x1 x2 : Int32} {R : Option Value → mH → Prop} (hd : 6 ≤ d) (hb : f 181 0 = nI n) (hm : n ≤ 40) (hhb : f 181 14 = nI h) (hhm : h ≤ 60) (H : ∀ v, SM_owner n h f x1 x2 v → R (some (.int v)) (shF L, f, g)) : Run mtab d 172 [.ref 181, .int x1, .int x2] (shF L, f, g) R := by
  obtain ⟨d, rfl⟩ : ∃ e, d = e + 1 := ⟨d - 1, by omega⟩
  refine go_X11_owner rfl ?_
  conv => whnf
  repeat' first
    | ((with_reducible refine ⟨vp_in_nI (by omega) (by decide), ?_⟩) <;> conv => whnf)
    | (refine ⟨Or.inl rfl, ?_⟩ <;> conv => whnf)
    | (refine ⟨Or.inr rfl, ?_⟩ <;> conv => whnf)
    | (refine ⟨Or.inl True.intro, ?_⟩ <;> conv => whnf)
    | (refine ⟨Or.inr True.intro, ?_⟩ <;> conv => whnf)
    | (refine ⟨fun c => ?_, fun c => ?_⟩ <;> first | ((have c9 : (1 : Int32) = 0 := by with_reducible exact c); exact absurd c9 (by decide)) | exact absurd (rfl : (0 : Int32) = 0) (by with_reducible exact c) | exact absurd True.intro (by with_reducible exact c) | exact False.elim (by with_reducible exact c) | (conv => whnf))
    | (refine ct_mIsWork (by omega) hb hm (fun j hj e => ?_) (fun q => ?_) <;> (try subst e) <;> conv => whnf)
    | (refine ct_mIsYear (by omega) (fun p => ?_) (fun p => ?_) <;> conv => whnf)
    | (refine smf_ownerOf (by omega) hhb hhm ?_ <;> conv => whnf)
    | (refine ⟨by unfold vp_in; decide, ?_⟩ <;> conv => whnf)
    | fail
  all_goals first | exact H _ (Or.inl ⟨fun hh => absurd hh.1 (nhasw (by with_reducible assumption)), rfl⟩) | exact H _ (Or.inl ⟨fun hh => absurd hh.2 (by with_reducible assumption), rfl⟩) | exact H _ (Or.inr ⟨⟨⟨_, hj, rfl⟩, by with_reducible assumption⟩, rfl⟩)
set_option maxRecDepth 100000 in
set_option maxHeartbeats 4000000 in
theorem smf_may {d L : Nat} {f : Nat → Nat → Int32} {g : Nat → Nat → Int64} {n h : Nat} {x1 x2 : Int32} {R : Option Value → mH → Prop} (hd : 6 ≤ d) (hb : f 181 0 = nI n) (hm : n ≤ 40) (hhb : f 181 14 = nI h) (hhm : h ≤ 60) (H : ∀ v, SM_may n h f x1 x2 v → R (some (.int v)) (shF L, f, g)) : Run mtab d 173 [.ref 181, .int x1, .int x2] (shF L, f, g) R := by
  obtain ⟨d, rfl⟩ : ∃ e, d = e + 1 := ⟨d - 1, by omega⟩
  refine go_X11_may rfl ?_
  conv => whnf
  repeat' first
    | ((with_reducible refine ⟨vp_in_nI (by omega) (by decide), ?_⟩) <;> conv => whnf)
    | (refine ⟨Or.inl rfl, ?_⟩ <;> conv => whnf)
    | (refine ⟨Or.inr rfl, ?_⟩ <;> conv => whnf)
    | (refine ⟨Or.inl True.intro, ?_⟩ <;> conv => whnf)
    | (refine ⟨Or.inr True.intro, ?_⟩ <;> conv => whnf)
    | (refine ⟨fun c => ?_, fun c => ?_⟩ <;> first | ((have c9 : (1 : Int32) = 0 := by with_reducible exact c); exact absurd c9 (by decide)) | exact absurd (rfl : (0 : Int32) = 0) (by with_reducible exact c) | exact absurd True.intro (by with_reducible exact c) | exact False.elim (by with_reducible exact c) | (conv => whnf))
    | (refine ct_mIsWork (by omega) hb hm (fun j hj e => ?_) (fun q => ?_) <;> (try subst e) <;> conv => whnf)
    | (refine ct_mIsYear (by omega) (fun p => ?_) (fun p => ?_) <;> conv => whnf)
    | (refine smf_mayHold (by omega) hhb hhm ?_ <;> conv => whnf)
    | (refine ⟨by unfold vp_in; decide, ?_⟩ <;> conv => whnf)
    | fail
  all_goals first | exact H _ (Or.inl ⟨fun hh => absurd hh.1 (nhasw (by with_reducible assumption)), rfl⟩) | exact H _ (Or.inl ⟨fun hh => absurd hh.2 (by with_reducible assumption), rfl⟩) | exact H _ (Or.inr ⟨⟨⟨_, hj, rfl⟩, by with_reducible assumption⟩, rfl⟩)
theorem fin_owner {n h : Nat} {f : Nat → Nat → Int32} {x1 x2 v1 v2 : Int32} (hO : RO h f) (s1 : SX_owner n h f x1 x2 v1) (s2 : SM_owner n h f x1 x2 v2) : v1 = v2 := by
  rcases s1 with ⟨q1, rfl⟩ | ⟨p1, rfl⟩
  · rcases s2 with ⟨q2, rfl⟩ | ⟨p2, rfl⟩
    · rfl
    · exact absurd p2 q1
  · rcases s2 with ⟨q2, rfl⟩ | ⟨p2, rfl⟩
    · exact absurd p1 q2
    · exact own_RO hO x1 x2
theorem fin_may {n h : Nat} {f : Nat → Nat → Int32} {x1 x2 v1 v2 : Int32} (hO : RO h f) (s1 : SX_may n h f x1 x2 v1) (s2 : SM_may n h f x1 x2 v2) : v1 = v2 := by
  rcases s1 with ⟨q1, rfl⟩ | ⟨p1, rfl⟩
  · rcases s2 with ⟨q2, rfl⟩ | ⟨p2, rfl⟩
    · rfl
    · exact absurd p2 q1
  · rcases s2 with ⟨q2, rfl⟩ | ⟨p2, rfl⟩
    · exact absurd p1 q2
    · exact may_RO hO x1 x2
/-- what holds between calls, with sheets and holdings -/
def GJ (f : Nat → Nat → Int32) : Prop := GI f ∧ RS f ∧ ∃ h, RO h f
def okj (l : List Nat) : Bool := okl l && (!hasN l 8 && (!hasN l 18 && (!hasN l 2 && !hasN l 12)))
theorem okj_of {l : List Nat} (h : okj l = true) : okl l = true ∧ hasN l 8 = false ∧ hasN l 18 = false ∧ hasN l 2 = false ∧ hasN l 12 = false := by
  unfold okj at h
  simp only [Bool.and_eq_true, Bool.not_eq_true'] at h
  exact h
theorem GJ_x {l : List Nat} {f f' : Nat → Nat → Int32} (h : GJ f) (x : XI f') (k : kp l f f') (hl : okj l = true) : GJ f' := by
  obtain ⟨l0, l8, l18, l2, l12⟩ := okj_of hl
  obtain ⟨a, b, c, d⟩ := h
  exact ⟨GI_x a x k l0, RS_kp k l8 l18 b, c, RO_kp k l2 l12 d⟩
theorem GJ_xE {f f' : Nat → Nat → Int32} (h : GJ f) (x : XI f') (k : kp [0, 7] f f') (e : EI f') : GJ f' := by
  obtain ⟨a, b, c, d⟩ := h
  exact ⟨GI_xE a x k e, RS_kp k rfl rfl b, c, RO_kp k rfl rfl d⟩
theorem GJ_w {f f1 f2 : Nat → Nat → Int32} (h : GJ f) (k1 : kp [1] f f1) (k2 : kp [10, 11, 22] f1 f2) (g : GI f2) : GJ f2 := by
  obtain ⟨a, b, c, d⟩ := h
  exact ⟨g, RS_kp k2 rfl rfl (RS_kp k1 rfl rfl b), c, RO_kp k2 rfl rfl (RO_kp k1 rfl rfl d)⟩
theorem GI_2 {l l' : List Nat} {f f1 f2 : Nat → Nat → Int32} (h : GI f) (k1 : kp l f f1) (k2 : kp l' f1 f2) (x : XI f2) (hl : okl l = true) (hl' : okl l' = true) : GI f2 := by
  obtain ⟨a, b, c, n, d⟩ := h
  obtain ⟨l1, l7, l11, l20⟩ := okl_of hl
  obtain ⟨m1, m7, m11, m20⟩ := okl_of hl'
  exact ⟨x, EI_kp (EI_kp b k1 l7) k2 m7, ab3_kp (ab3_kp c k1 l20) k2 m20, n, RW_kp k2 m1 m11 (RW_kp k1 l1 l11 d)⟩
theorem GJ_s {f f1 f2 : Nat → Nat → Int32} (h : GJ f) (k1 : kp [8] f f1) (k2 : kp [18] f1 f2) (x : XI f2) (r : RS f2) : GJ f2 := by
  obtain ⟨a, b, c, d⟩ := h
  exact ⟨GI_2 a k1 k2 x rfl rfl, r, c, RO_kp k2 rfl rfl (RO_kp k1 rfl rfl d)⟩
theorem GJ_o {f f1 f2 : Nat → Nat → Int32} (h : GJ f) (k1 : kp [2] f f1) (k2 : kp [10, 12, 22] f1 f2) (x : XI f2) (r : ∃ h, RO h f2) : GJ f2 := by
  obtain ⟨a, b, _⟩ := h
  exact ⟨GI_2 a k1 k2 x rfl rfl, RS_kp k2 rfl rfl (RS_kp k1 rfl rfl b), r⟩
theorem GJ_ini {f : Nat → Nat → Int32} (hf : ∀ a i, 6 ≤ a → f a i = if a < 227 then inix a i else 0) (h3 : ab3 f) : GJ f := by
  refine ⟨GI_ini hf h3, fun s hs => Or.inl ⟨?_, ?_⟩, 0, by omega, ?_, ?_, fun k hk => absurd hk (by omega)⟩
  · rw [hf 180 s (by omega), if_pos (by omega)]
    unfold inix
    rw [if_neg (by omega), if_neg (by omega), if_pos ⟨rfl, hs⟩]
  · rw [hf 224 s (by omega), if_pos (by omega)]
    unfold inix
    rw [if_neg (by omega), if_neg (by omega), if_neg (by omega), if_pos ⟨rfl, hs⟩]
  · rw [hf 100 6 (by omega), if_pos (by omega), inix_0 _ (by decide)]
    rfl
  · rw [hf 181 14 (by omega), if_pos (by omega), inix_0 _ (by decide)]
    rfl
noncomputable def gapl (B : Int32 → Int32) : Nat → Nat → Int32
  | 0, _ => -4
  | k + 1, i => ci (B (nI i) = 0) (nI i) (gapl B k (i + 1))
noncomputable def twi (Q : Nat → Nat → Prop) (x : Nat) (C : Int32) : Nat → Nat → Int32
  | 0, _ => C
  | k + 1, y => ci (Q x y) (100 * nI x + nI y) (twi Q x C k (y + 1))
noncomputable def two (Q : Nat → Nat → Prop) (h : Nat) : Nat → Nat → Int32
  | 0, _ => -4
  | k + 1, x => twi Q x (two Q h k (x + 1)) (h - (x + 1)) (x + 1)
def mx (a b : Int32) : Int32 := if a < b then b else a
def mn (a b : Int32) : Int32 := if b < a then b else a
def QC (f : Nat → Nat → Int32) (w : Int32) (x y : Nat) : Prop := (f 101 x = w ∧ f 101 y = w) ∧ (¬ f 102 x = f 102 y ∧ mx (f 104 x) (f 104 y) < mn (f 105 x) (f 105 y))
def QM (f : Nat → Nat → Int32) (w : Int32) (x y : Nat) : Prop := (f 195 (6 * x) = w ∧ f 195 (6 * y) = w) ∧ (¬ f 195 (6 * x + 1) = f 195 (6 * y + 1) ∧ mx (f 195 (6 * x + 3)) (f 195 (6 * y + 3)) < mn (f 195 (6 * x + 4)) (f 195 (6 * y + 4)))
theorem gapl_eq {B C : Int32 → Int32} (h : ∀ y, B y = C y) : ∀ k i, gapl B k i = gapl C k i
  | 0, _ => rfl
  | k + 1, i => by
    show ci (B (nI i) = 0) (nI i) (gapl B k (i + 1)) = ci (C (nI i) = 0) (nI i) (gapl C k (i + 1))
    rw [h, gapl_eq h k (i + 1)]
theorem twi_eq {Q P : Nat → Nat → Prop} {x h : Nat} {C : Int32} (hq : ∀ y, y < h → (Q x y ↔ P x y)) : ∀ k y, y + k = h → twi Q x C k y = twi P x C k y
  | 0, _, _ => rfl
  | k + 1, y, hy => by
    show ci (Q x y) _ (twi Q x C k (y + 1)) = ci (P x y) _ (twi P x C k (y + 1))
    rw [twi_eq hq k (y + 1) (by omega), propext (hq y (by omega))]
theorem two_eq {Q P : Nat → Nat → Prop} {h : Nat} (hq : ∀ x y, x < h → y < h → (Q x y ↔ P x y)) : ∀ k x, x + k = h → two Q h k x = two P h k x
  | 0, _, _ => rfl
  | k + 1, x, hx => by
    show twi Q x (two Q h k (x + 1)) (h - (x + 1)) (x + 1) = twi P x (two P h k (x + 1)) (h - (x + 1)) (x + 1)
    rw [two_eq hq k (x + 1) (by omega)]
    exact twi_eq (fun y hy => hq x y (by omega) hy) _ _ (by omega)
theorem QC_QM {f : Nat → Nat → Int32} {h : Nat} (hO : RO h f) (w : Int32) : ∀ x y, x < h → y < h → (QC f w x y ↔ QM f w x y) := fun x y hx hy => by
  obtain ⟨a, b, c, d, e, g, k⟩ := hO.2.2.2 x hx
  obtain ⟨a', b', c', d', e', g', k'⟩ := hO.2.2.2 y hy
  unfold QC QM
  rw [a, a', b, b', e, e', g, g']
  exact Iff.rfl
set_option maxRecDepth 100000 in
theorem fg_lp {d L h : Nat} {f : Nat → Nat → Int32} {g : Nat → Nat → Int64} {w y : Int32} {R : Option Value → mH → Prop} (hd : 2 ≤ d) (hb : f 100 6 = nI h) (hm : h ≤ 60) :
    ∀ (k i : Nat) (x : Int32), i + k = 2000 → x = nI i → R (some (.int (gapl (fun y => mayl (PO f 103 106 w y) (fun i => f 102 i) h 0 0) k i))) (shF L, f, g) → WPe pg_X5_firstGap none (Run mtab d) R (m_drop pg_X5_firstGap 2) [some (.ref 100), some (.int w), some (.int y), some (.int x)] [] (shF L, f, g)
  | 0, i, x, hi, hx, H => by
    have e : i = 2000 := by omega
    subst hx
    subst e
    refine at_X5_firstGap ?_
    conv => whnf
    refine ⟨fun c => ?_, fun c => absurd (by decide) c⟩
    conv => whnf
    exact H
  | k + 1, i, x, hi, hx, H => by
    subst hx
    refine at_X5_firstGap ?_
    conv => whnf
    refine ⟨fun c => absurd c (nI_nlt (a := 1999) (by omega) (by omega)), fun c => ?_⟩
    conv => whnf
    refine sf_whoMay (by omega) hb hm ?_
    conv => whnf
    refine ⟨fun c => ?_, fun c => ?_⟩
    · conv => whnf
      exact fg_lp hd hb hm k (i + 1) _ (by omega) (nI_1 i) ((ci_f (a := nI i) (b := gapl (fun y => mayl (PO f 103 106 w y) (fun i => f 102 i) h 0 0) k (i + 1)) c) ▸ H)
    · conv => whnf
      exact (ci_t (a := nI i) (b := gapl (fun y => mayl (PO f 103 106 w y) (fun i => f 102 i) h 0 0) k (i + 1)) c) ▸ H
set_option maxRecDepth 100000 in
theorem mg_lp {d L h : Nat} {f : Nat → Nat → Int32} {g : Nat → Nat → Int64} {w y : Int32} {R : Option Value → mH → Prop} (hd : 2 ≤ d) (hb : f 181 14 = nI h) (hm : h ≤ 60) :
    ∀ (k i : Nat) (x : Int32), i + k = 2000 → x = nI i → R (some (.int (gapl (fun y => mayl (PM f 2 5 w y) (fun i => f 195 (6 * i + 1)) h 0 0) k i))) (shF L, f, g) → WPe pg_X11_gap none (Run mtab d) R (m_drop pg_X11_gap 11) [some (.ref 181), some (.int w), some (.int y), some (.int x)] [] (shF L, f, g)
  | 0, i, x, hi, hx, H => by
    have e : i = 2000 := by omega
    subst hx
    subst e
    refine at_X11_gap ?_
    conv => whnf
    refine ⟨fun c => ?_, fun c => absurd (by decide) c⟩
    conv => whnf
    exact H
  | k + 1, i, x, hi, hx, H => by
    subst hx
    refine at_X11_gap ?_
    conv => whnf
    refine ⟨fun c => absurd c (nI_nlt (a := 1999) (by omega) (by omega)), fun c => ?_⟩
    conv => whnf
    refine smf_mayHold (by omega) hb hm ?_
    conv => whnf
    refine ⟨fun c => ?_, fun c => ?_⟩
    · conv => whnf
      exact mg_lp hd hb hm k (i + 1) _ (by omega) (nI_1 i) ((ci_f (a := nI i) (b := gapl (fun y => mayl (PM f 2 5 w y) (fun i => f 195 (6 * i + 1)) h 0 0) k (i + 1)) c) ▸ H)
    · conv => whnf
      exact (ci_t (a := nI i) (b := gapl (fun y => mayl (PM f 2 5 w y) (fun i => f 195 (6 * i + 1)) h 0 0) k (i + 1)) c) ▸ H
set_option maxRecDepth 100000 in
set_option maxHeartbeats 4000000 in
theorem sf_areTwo {d L : Nat} {f : Nat → Nat → Int32} {g : Nat → Nat → Int64} {x y : Nat} {R : Option Value → mH → Prop} (hd : 2 ≤ d) (hx : x < 60) (hy : y < 60) (H1 : (¬ f 102 x = f 102 y ∧ mx (f 104 x) (f 104 y) < mn (f 105 x) (f 105 y)) → R (some (.int 1)) (shF L, f, g)) (H0 : ¬ (¬ f 102 x = f 102 y ∧ mx (f 104 x) (f 104 y) < mn (f 105 x) (f 105 y)) → R (some (.int 0)) (shF L, f, g)) : Run mtab d 47 [.ref 100, .int (nI x), .int (nI y)] (shF L, f, g) R := by
  obtain ⟨d, rfl⟩ : ∃ e, d = e + 1 := ⟨d - 1, by omega⟩
  refine go_X5_areTwoAtOnce rfl ?_
  conv => whnf
  have hcx : (nI x).toNatClampNeg = x := nI_clamp (by omega)
  have hcy : (nI y).toNatClampNeg = y := nI_clamp (by omega)
  refine ⟨vp_in_nI (by omega) (by decide), ?_⟩
  conv => whnf
  refine ⟨vp_in_nI (by omega) (by decide), ?_⟩
  conv => whnf
  refine rp_max (by omega) ?_
  conv => whnf
  refine ⟨vp_in_nI (by omega) (by decide), ?_⟩
  conv => whnf
  refine ⟨vp_in_nI (by omega) (by decide), ?_⟩
  conv => whnf
  refine rp_min (by omega) ?_
  conv => whnf
  refine ⟨vp_in_nI (by omega) (by decide), ?_⟩
  conv => whnf
  refine ⟨vp_in_nI (by omega) (by decide), ?_⟩
  conv => whnf
  simp only [hcx, hcy]
  refine ⟨fun c => ?_, fun c => ?_⟩
  · conv => whnf
    exact ⟨Or.inl rfl, H0 (fun z => z.1 c)⟩
  · conv => whnf
    refine ⟨fun c2 => ?_, fun c2 => ?_⟩
    · conv => whnf
      exact ⟨Or.inl rfl, H0 (fun z => absurd z.2 (i32_nlt.mpr c2))⟩
    · conv => whnf
      exact ⟨Or.inr rfl, H1 ⟨c, i32_nle.mp c2⟩⟩
set_option maxRecDepth 100000 in
theorem tc_in {d L h p : Nat} {f : Nat → Nat → Int32} {g : Nat → Nat → Int64} {w C : Int32} {R : Option Value → mH → Prop} (hd : 2 ≤ d) (hb : f 100 6 = nI h) (hm : h ≤ 60) (hp : p < h) (HO : R (some (.int C)) (shF L, f, g) → ∀ (x : Int32) (s : Option Value), x = nI (p + 1) → WPe pg_X5_firstTwoAtOnce none (Run mtab d) R (m_drop pg_X5_firstTwoAtOnce 2) [some (.ref 100), some (.int w), some (.int x), s] [] (shF L, f, g)) :
    ∀ (k i : Nat) (x : Int32), i + k = h → x = nI i → R (some (.int (twi (QC f w) p C k i))) (shF L, f, g) → WPe pg_X5_firstTwoAtOnce none (Run mtab d) R (m_drop pg_X5_firstTwoAtOnce 10) [some (.ref 100), some (.int w), some (.int (nI p)), some (.int x)] [] (shF L, f, g)
  | 0, i, x, hi, hx, H => by
    have e : i = h := by omega
    subst hx
    subst e
    refine at_X5_firstTwoAtOnce ?_
    conv => whnf
    simp only [hb]
    refine ⟨fun c => ?_, fun c => absurd (nI_le (Nat.le_refl _) (by omega)) c⟩
    conv => whnf
    exact HO H _ _ (nI_1 p)
  | k + 1, i, x, hi, hx, H => by
    subst hx
    have hcp : (nI p).toNatClampNeg = p := nI_clamp (by omega)
    have hci : (nI i).toNatClampNeg = i := nI_clamp (by omega)
    have no : ¬ QC f w p i → WPe pg_X5_firstTwoAtOnce none (Run mtab d) R (m_drop pg_X5_firstTwoAtOnce 10) [some (.ref 100), some (.int w), some (.int (nI p)), some (.int (nI i + 1))] [] (shF L, f, g) := fun z => tc_in hd hb hm hp HO k (i + 1) _ (by omega) (nI_1 i) ((ci_f (a := 100 * nI p + nI i) (b := twi (QC f w) p C k (i + 1)) z) ▸ H)
    refine at_X5_firstTwoAtOnce ?_
    conv => whnf
    simp only [hb]
    refine ⟨fun c => absurd c (nI_ge (b := h) (by omega) (by omega)), fun c => ?_⟩
    conv => whnf
    refine ⟨vp_in_nI (by omega) (by decide), ?_⟩
    conv => whnf
    simp only [hcp]
    refine ⟨fun c1 => ?_, fun c1 => ?_⟩
    · conv => whnf
      exact no (fun z => c1 z.1.1)
    · conv => whnf
      refine ⟨vp_in_nI (by omega) (by decide), ?_⟩
      conv => whnf
      simp only [hci]
      refine ⟨fun c2 => ?_, fun c2 => ?_⟩
      · conv => whnf
        exact no (fun z => c2 z.1.2)
      · conv => whnf
        refine sf_areTwo (by omega) (by omega) (by omega) (fun z => ?_) (fun z => ?_)
        · conv => whnf
          refine ⟨fun c => absurd c (by decide), fun _ => ?_⟩
          conv => whnf
          have H2 : R (some (.int (ci (QC f w p i) (100 * nI p + nI i) (twi (QC f w) p C k (i + 1))))) (shF L, f, g) := H
          rw [ci_t (p := QC f w p i) ⟨⟨c1, c2⟩, z⟩] at H2
          exact H2
        · conv => whnf
          refine ⟨fun _ => ?_, fun c => absurd rfl c⟩
          conv => whnf
          exact no (fun q => z q.2)
set_option maxRecDepth 100000 in
theorem tc_lp {d L h : Nat} {f : Nat → Nat → Int32} {g : Nat → Nat → Int64} {w : Int32} {R : Option Value → mH → Prop} (hd : 2 ≤ d) (hb : f 100 6 = nI h) (hm : h ≤ 60) :
    ∀ (k i : Nat) (x : Int32) (s : Option Value), i + k = h → x = nI i → R (some (.int (two (QC f w) h k i))) (shF L, f, g) → WPe pg_X5_firstTwoAtOnce none (Run mtab d) R (m_drop pg_X5_firstTwoAtOnce 2) [some (.ref 100), some (.int w), some (.int x), s] [] (shF L, f, g)
  | 0, i, x, s, hi, hx, H => by
    have e : i = h := by omega
    subst hx
    subst e
    refine at_X5_firstTwoAtOnce ?_
    conv => whnf
    simp only [hb]
    refine ⟨fun c => ?_, fun c => absurd (nI_le (Nat.le_refl _) (by omega)) c⟩
    conv => whnf
    exact H
  | k + 1, i, x, s, hi, hx, H => by
    subst hx
    refine at_X5_firstTwoAtOnce ?_
    conv => whnf
    simp only [hb]
    refine ⟨fun c => absurd c (nI_ge (b := h) (by omega) (by omega)), fun c => ?_⟩
    conv => whnf
    exact tc_in (p := i) hd hb hm (by omega) (fun H2 x s hx => tc_lp hd hb hm k (i + 1) x s (by omega) hx H2) (h - (i + 1)) (i + 1) _ (by omega) (nI_1 i) H
theorem mx_le {a b : Int32} (h : a ≤ b) : mx a b = b := by
  unfold mx
  by_cases q : a < b
  · rw [if_pos q]
  · rw [if_neg q]
    exact Int32.le_antisymm h (i32_nlt.mp q)
theorem mx_nle {a b : Int32} (h : ¬ a ≤ b) : mx a b = a := by
  unfold mx
  rw [if_neg (fun q => h (Int32.le_of_lt q))]
theorem mn_ge {a b : Int32} (h : b ≤ a) : mn a b = b := by
  unfold mn
  by_cases q : b < a
  · rw [if_pos q]
  · rw [if_neg q]
    exact (Int32.le_antisymm h (i32_nlt.mp q)).symm
theorem mn_nge {a b : Int32} (h : ¬ b ≤ a) : mn a b = a := by
  unfold mn
  rw [if_neg (fun q => h (Int32.le_of_lt q))]
set_option maxRecDepth 100000 in
set_option maxHeartbeats 4000000 in
theorem tm_in {d L h p : Nat} {f : Nat → Nat → Int32} {g : Nat → Nat → Int64} {w C : Int32} {R : Option Value → mH → Prop} (hd : 2 ≤ d) (hb : f 181 14 = nI h) (hm : h ≤ 60) (hp : p < h) (HO : R (some (.int C)) (shF L, f, g) → ∀ (x : Int32) (s3 s4 s5 s6 s7 : Option Value), x = nI (p + 1) → WPe pg_X11_twice none (Run mtab d) R (m_drop pg_X11_twice 8) [some (.ref 181), some (.int w), some (.int x), s3, s4, s5, s6, s7] [] (shF L, f, g)) :
    ∀ (k i : Nat) (x : Int32) (s4 s5 s6 s7 : Option Value), i + k = h → x = nI i → R (some (.int (twi (QM f w) p C k i))) (shF L, f, g) → WPe pg_X11_twice none (Run mtab d) R (m_drop pg_X11_twice 16) [some (.ref 181), some (.int w), some (.int (nI p)), some (.int x), s4, s5, s6, s7] [] (shF L, f, g)
  | 0, i, x, s4, s5, s6, s7, hi, hx, H => by
    have e : i = h := by omega
    subst hx
    subst e
    refine at_X11_twice ?_
    conv => whnf
    simp only [hb]
    refine ⟨fun c => ?_, fun c => absurd (nI_le (Nat.le_refl _) (by omega)) c⟩
    conv => whnf
    exact HO H _ _ _ _ _ _ (nI_1 p)
  | k + 1, i, x, s4, s5, s6, s7, hi, hx, H => by
    subst hx
    have hp0 : (nI (6 * p)).toNatClampNeg = 6 * p := nI_clamp (by omega)
    have hp1 : (nI (6 * p + 1)).toNatClampNeg = 6 * p + 1 := nI_clamp (by omega)
    have hp3 : (nI (6 * p + 3)).toNatClampNeg = 6 * p + 3 := nI_clamp (by omega)
    have hp4 : (nI (6 * p + 4)).toNatClampNeg = 6 * p + 4 := nI_clamp (by omega)
    have hq0 : (nI (6 * i)).toNatClampNeg = 6 * i := nI_clamp (by omega)
    have hq1 : (nI (6 * i + 1)).toNatClampNeg = 6 * i + 1 := nI_clamp (by omega)
    have hq3 : (nI (6 * i + 3)).toNatClampNeg = 6 * i + 3 := nI_clamp (by omega)
    have hq4 : (nI (6 * i + 4)).toNatClampNeg = 6 * i + 4 := nI_clamp (by omega)
    have no : ¬ QM f w p i → ∀ s4 s5 s6 s7 : Option Value, WPe pg_X11_twice none (Run mtab d) R (m_drop pg_X11_twice 16) [some (.ref 181), some (.int w), some (.int (nI p)), some (.int (nI i + 1)), s4, s5, s6, s7] [] (shF L, f, g) := fun z s4 s5 s6 s7 => tm_in hd hb hm hp HO k (i + 1) _ s4 s5 s6 s7 (by omega) (nI_1 i) ((ci_f (a := 100 * nI p + nI i) (b := twi (QM f w) p C k (i + 1)) z) ▸ H)
    refine at_X11_twice ?_
    conv => whnf
    simp only [hb]
    refine ⟨fun c => absurd c (nI_ge (b := h) (by omega) (by omega)), fun c => ?_⟩
    conv => whnf
    (try simp only [nI_6m, nI_1, nI_k _ 3 3 rfl, nI_k _ 4 4 rfl])
    refine ⟨vp_in_nI (by omega) (by decide), ?_⟩
    conv => whnf
    (try simp only [nI_6m, nI_1, nI_k _ 3 3 rfl, nI_k _ 4 4 rfl])
    refine ⟨vp_in_nI (by omega) (by decide), ?_⟩
    conv => whnf
    simp only [hp0, hp1, hp3, hp4, hq0, hq1, hq3, hq4]
    refine ⟨fun c1 => ?_, fun c1 => ?_⟩
    · conv => whnf
      (try simp only [nI_6m, nI_1, nI_k _ 3 3 rfl, nI_k _ 4 4 rfl])
      refine ⟨vp_in_nI (by omega) (by decide), ?_⟩
      conv => whnf
      simp only [hp0, hp1, hp3, hp4, hq0, hq1, hq3, hq4]
      (try simp only [nI_6m, nI_1, nI_k _ 3 3 rfl, nI_k _ 4 4 rfl])
      refine ⟨vp_in_nI (by omega) (by decide), ?_⟩
      conv => whnf
      (try simp only [nI_6m, nI_1, nI_k _ 3 3 rfl, nI_k _ 4 4 rfl])
      refine ⟨vp_in_nI (by omega) (by decide), ?_⟩
      conv => whnf
      simp only [hp0, hp1, hp3, hp4, hq0, hq1, hq3, hq4]
      refine ⟨fun c2 => ?_, fun c2 => ?_⟩
      · conv => whnf
        (try simp only [nI_6m, nI_1, nI_k _ 3 3 rfl, nI_k _ 4 4 rfl])
        refine ⟨vp_in_nI (by omega) (by decide), ?_⟩
        conv => whnf
        simp only [hp0, hp1, hp3, hp4, hq0, hq1, hq3, hq4]
        have ef := mx_le c1
        have et := mn_ge c2
        (try simp only [nI_6m, nI_1, nI_k _ 3 3 rfl, nI_k _ 4 4 rfl])
        refine ⟨vp_in_nI (by omega) (by decide), ?_⟩
        conv => whnf
        simp only [hp0, hp1, hp3, hp4, hq0, hq1, hq3, hq4]
        refine ⟨fun d1 => ?_, fun d1 => ?_⟩
        · conv => whnf
          exact no (fun z => d1 z.1.1) _ _ _ _
        · conv => whnf
          (try simp only [nI_6m, nI_1, nI_k _ 3 3 rfl, nI_k _ 4 4 rfl])
          refine ⟨vp_in_nI (by omega) (by decide), ?_⟩
          conv => whnf
          simp only [hp0, hp1, hp3, hp4, hq0, hq1, hq3, hq4]
          refine ⟨fun d2 => ?_, fun d2 => ?_⟩
          · conv => whnf
            exact no (fun z => d2 z.1.2) _ _ _ _
          · conv => whnf
            (try simp only [nI_6m, nI_1, nI_k _ 3 3 rfl, nI_k _ 4 4 rfl])
            refine ⟨vp_in_nI (by omega) (by decide), ?_⟩
            conv => whnf
            (try simp only [nI_6m, nI_1, nI_k _ 3 3 rfl, nI_k _ 4 4 rfl])
            refine ⟨vp_in_nI (by omega) (by decide), ?_⟩
            conv => whnf
            simp only [hp0, hp1, hp3, hp4, hq0, hq1, hq3, hq4]
            refine ⟨fun d3 => ?_, fun d3 => ?_⟩
            · conv => whnf
              exact no (fun z => z.2.1 d3) _ _ _ _
            · conv => whnf
              refine ⟨fun d4 => ?_, fun d4 => ?_⟩
              · conv => whnf
                exact no (fun z => absurd (ef ▸ et ▸ z.2.2) (i32_nlt.mpr d4)) _ _ _ _
              · conv => whnf
                have H2 : R (some (.int (ci (QM f w p i) (100 * nI p + nI i) (twi (QM f w) p C k (i + 1))))) (shF L, f, g) := H
                rw [ci_t (p := QM f w p i) ⟨⟨d1, d2⟩, d3, by rw [ef, et]; exact i32_nle.mp d4⟩] at H2
                exact H2
      · conv => whnf
        (try simp only [nI_6m, nI_1, nI_k _ 3 3 rfl, nI_k _ 4 4 rfl])
        refine ⟨vp_in_nI (by omega) (by decide), ?_⟩
        conv => whnf
        simp only [hp0, hp1, hp3, hp4, hq0, hq1, hq3, hq4]
        have ef := mx_le c1
        have et := mn_nge c2
        (try simp only [nI_6m, nI_1, nI_k _ 3 3 rfl, nI_k _ 4 4 rfl])
        refine ⟨vp_in_nI (by omega) (by decide), ?_⟩
        conv => whnf
        simp only [hp0, hp1, hp3, hp4, hq0, hq1, hq3, hq4]
        refine ⟨fun d1 => ?_, fun d1 => ?_⟩
        · conv => whnf
          exact no (fun z => d1 z.1.1) _ _ _ _
        · conv => whnf
          (try simp only [nI_6m, nI_1, nI_k _ 3 3 rfl, nI_k _ 4 4 rfl])
          refine ⟨vp_in_nI (by omega) (by decide), ?_⟩
          conv => whnf
          simp only [hp0, hp1, hp3, hp4, hq0, hq1, hq3, hq4]
          refine ⟨fun d2 => ?_, fun d2 => ?_⟩
          · conv => whnf
            exact no (fun z => d2 z.1.2) _ _ _ _
          · conv => whnf
            (try simp only [nI_6m, nI_1, nI_k _ 3 3 rfl, nI_k _ 4 4 rfl])
            refine ⟨vp_in_nI (by omega) (by decide), ?_⟩
            conv => whnf
            (try simp only [nI_6m, nI_1, nI_k _ 3 3 rfl, nI_k _ 4 4 rfl])
            refine ⟨vp_in_nI (by omega) (by decide), ?_⟩
            conv => whnf
            simp only [hp0, hp1, hp3, hp4, hq0, hq1, hq3, hq4]
            refine ⟨fun d3 => ?_, fun d3 => ?_⟩
            · conv => whnf
              exact no (fun z => z.2.1 d3) _ _ _ _
            · conv => whnf
              refine ⟨fun d4 => ?_, fun d4 => ?_⟩
              · conv => whnf
                exact no (fun z => absurd (ef ▸ et ▸ z.2.2) (i32_nlt.mpr d4)) _ _ _ _
              · conv => whnf
                have H2 : R (some (.int (ci (QM f w p i) (100 * nI p + nI i) (twi (QM f w) p C k (i + 1))))) (shF L, f, g) := H
                rw [ci_t (p := QM f w p i) ⟨⟨d1, d2⟩, d3, by rw [ef, et]; exact i32_nle.mp d4⟩] at H2
                exact H2
    · conv => whnf
      (try simp only [nI_6m, nI_1, nI_k _ 3 3 rfl, nI_k _ 4 4 rfl])
      refine ⟨vp_in_nI (by omega) (by decide), ?_⟩
      conv => whnf
      simp only [hp0, hp1, hp3, hp4, hq0, hq1, hq3, hq4]
      (try simp only [nI_6m, nI_1, nI_k _ 3 3 rfl, nI_k _ 4 4 rfl])
      refine ⟨vp_in_nI (by omega) (by decide), ?_⟩
      conv => whnf
      (try simp only [nI_6m, nI_1, nI_k _ 3 3 rfl, nI_k _ 4 4 rfl])
      refine ⟨vp_in_nI (by omega) (by decide), ?_⟩
      conv => whnf
      simp only [hp0, hp1, hp3, hp4, hq0, hq1, hq3, hq4]
      refine ⟨fun c2 => ?_, fun c2 => ?_⟩
      · conv => whnf
        (try simp only [nI_6m, nI_1, nI_k _ 3 3 rfl, nI_k _ 4 4 rfl])
        refine ⟨vp_in_nI (by omega) (by decide), ?_⟩
        conv => whnf
        simp only [hp0, hp1, hp3, hp4, hq0, hq1, hq3, hq4]
        have ef := mx_nle c1
        have et := mn_ge c2
        (try simp only [nI_6m, nI_1, nI_k _ 3 3 rfl, nI_k _ 4 4 rfl])
        refine ⟨vp_in_nI (by omega) (by decide), ?_⟩
        conv => whnf
        simp only [hp0, hp1, hp3, hp4, hq0, hq1, hq3, hq4]
        refine ⟨fun d1 => ?_, fun d1 => ?_⟩
        · conv => whnf
          exact no (fun z => d1 z.1.1) _ _ _ _
        · conv => whnf
          (try simp only [nI_6m, nI_1, nI_k _ 3 3 rfl, nI_k _ 4 4 rfl])
          refine ⟨vp_in_nI (by omega) (by decide), ?_⟩
          conv => whnf
          simp only [hp0, hp1, hp3, hp4, hq0, hq1, hq3, hq4]
          refine ⟨fun d2 => ?_, fun d2 => ?_⟩
          · conv => whnf
            exact no (fun z => d2 z.1.2) _ _ _ _
          · conv => whnf
            (try simp only [nI_6m, nI_1, nI_k _ 3 3 rfl, nI_k _ 4 4 rfl])
            refine ⟨vp_in_nI (by omega) (by decide), ?_⟩
            conv => whnf
            (try simp only [nI_6m, nI_1, nI_k _ 3 3 rfl, nI_k _ 4 4 rfl])
            refine ⟨vp_in_nI (by omega) (by decide), ?_⟩
            conv => whnf
            simp only [hp0, hp1, hp3, hp4, hq0, hq1, hq3, hq4]
            refine ⟨fun d3 => ?_, fun d3 => ?_⟩
            · conv => whnf
              exact no (fun z => z.2.1 d3) _ _ _ _
            · conv => whnf
              refine ⟨fun d4 => ?_, fun d4 => ?_⟩
              · conv => whnf
                exact no (fun z => absurd (ef ▸ et ▸ z.2.2) (i32_nlt.mpr d4)) _ _ _ _
              · conv => whnf
                have H2 : R (some (.int (ci (QM f w p i) (100 * nI p + nI i) (twi (QM f w) p C k (i + 1))))) (shF L, f, g) := H
                rw [ci_t (p := QM f w p i) ⟨⟨d1, d2⟩, d3, by rw [ef, et]; exact i32_nle.mp d4⟩] at H2
                exact H2
      · conv => whnf
        (try simp only [nI_6m, nI_1, nI_k _ 3 3 rfl, nI_k _ 4 4 rfl])
        refine ⟨vp_in_nI (by omega) (by decide), ?_⟩
        conv => whnf
        simp only [hp0, hp1, hp3, hp4, hq0, hq1, hq3, hq4]
        have ef := mx_nle c1
        have et := mn_nge c2
        (try simp only [nI_6m, nI_1, nI_k _ 3 3 rfl, nI_k _ 4 4 rfl])
        refine ⟨vp_in_nI (by omega) (by decide), ?_⟩
        conv => whnf
        simp only [hp0, hp1, hp3, hp4, hq0, hq1, hq3, hq4]
        refine ⟨fun d1 => ?_, fun d1 => ?_⟩
        · conv => whnf
          exact no (fun z => d1 z.1.1) _ _ _ _
        · conv => whnf
          (try simp only [nI_6m, nI_1, nI_k _ 3 3 rfl, nI_k _ 4 4 rfl])
          refine ⟨vp_in_nI (by omega) (by decide), ?_⟩
          conv => whnf
          simp only [hp0, hp1, hp3, hp4, hq0, hq1, hq3, hq4]
          refine ⟨fun d2 => ?_, fun d2 => ?_⟩
          · conv => whnf
            exact no (fun z => d2 z.1.2) _ _ _ _
          · conv => whnf
            (try simp only [nI_6m, nI_1, nI_k _ 3 3 rfl, nI_k _ 4 4 rfl])
            refine ⟨vp_in_nI (by omega) (by decide), ?_⟩
            conv => whnf
            (try simp only [nI_6m, nI_1, nI_k _ 3 3 rfl, nI_k _ 4 4 rfl])
            refine ⟨vp_in_nI (by omega) (by decide), ?_⟩
            conv => whnf
            simp only [hp0, hp1, hp3, hp4, hq0, hq1, hq3, hq4]
            refine ⟨fun d3 => ?_, fun d3 => ?_⟩
            · conv => whnf
              exact no (fun z => z.2.1 d3) _ _ _ _
            · conv => whnf
              refine ⟨fun d4 => ?_, fun d4 => ?_⟩
              · conv => whnf
                exact no (fun z => absurd (ef ▸ et ▸ z.2.2) (i32_nlt.mpr d4)) _ _ _ _
              · conv => whnf
                have H2 : R (some (.int (ci (QM f w p i) (100 * nI p + nI i) (twi (QM f w) p C k (i + 1))))) (shF L, f, g) := H
                rw [ci_t (p := QM f w p i) ⟨⟨d1, d2⟩, d3, by rw [ef, et]; exact i32_nle.mp d4⟩] at H2
                exact H2
set_option maxRecDepth 100000 in
theorem tm_lp {d L h : Nat} {f : Nat → Nat → Int32} {g : Nat → Nat → Int64} {w : Int32} {R : Option Value → mH → Prop} (hd : 2 ≤ d) (hb : f 181 14 = nI h) (hm : h ≤ 60) :
    ∀ (k i : Nat) (x : Int32) (s3 s4 s5 s6 s7 : Option Value), i + k = h → x = nI i → R (some (.int (two (QM f w) h k i))) (shF L, f, g) → WPe pg_X11_twice none (Run mtab d) R (m_drop pg_X11_twice 8) [some (.ref 181), some (.int w), some (.int x), s3, s4, s5, s6, s7] [] (shF L, f, g)
  | 0, i, x, s3, s4, s5, s6, s7, hi, hx, H => by
    have e : i = h := by omega
    subst hx
    subst e
    refine at_X11_twice ?_
    conv => whnf
    simp only [hb]
    refine ⟨fun c => ?_, fun c => absurd (nI_le (Nat.le_refl _) (by omega)) c⟩
    conv => whnf
    exact H
  | k + 1, i, x, s3, s4, s5, s6, s7, hi, hx, H => by
    subst hx
    refine at_X11_twice ?_
    conv => whnf
    simp only [hb]
    refine ⟨fun c => absurd c (nI_ge (b := h) (by omega) (by omega)), fun c => ?_⟩
    conv => whnf
    exact tm_in (p := i) hd hb hm (by omega) (fun H2 x s3 s4 s5 s6 s7 hx => tm_lp hd hb hm k (i + 1) x s3 s4 s5 s6 s7 (by omega) hx H2) (h - (i + 1)) (i + 1) _ _ _ _ _ (by omega) (nI_1 i) H
def SX_twice (n h : Nat) (f : Nat → Nat → Int32) (x1 v : Int32) : Prop := (¬ hasw n x1 ∧ v = -1) ∨ (hasw n x1 ∧ v = two (QC f x1) h h 0)
def SM_twice (n h : Nat) (f : Nat → Nat → Int32) (x1 v : Int32) : Prop := (¬ hasw n x1 ∧ v = -1) ∨ (hasw n x1 ∧ v = two (QM f x1) h h 0)
def SX_gap (n h : Nat) (f : Nat → Nat → Int32) (x1 x2 v : Int32) : Prop := (¬ (hasw n x1 ∧ inr 1800 1999 x2) ∧ v = -1) ∨ (hasw n x1 ∧ ∃ j, j ≤ 1999 ∧ x2 = nI j ∧ inr 1800 1999 x2 ∧ v = gapl (fun y => mayl (PO f 103 106 x1 y) (fun i => f 102 i) h 0 0) (2000 - j) j)
def SM_gap (n h : Nat) (f : Nat → Nat → Int32) (x1 x2 v : Int32) : Prop := (¬ (hasw n x1 ∧ inr 1800 1999 x2) ∧ v = -1) ∨ (hasw n x1 ∧ ∃ j, j ≤ 1999 ∧ x2 = nI j ∧ inr 1800 1999 x2 ∧ v = gapl (fun y => mayl (PM f 2 5 x1 y) (fun i => f 195 (6 * i + 1)) h 0 0) (2000 - j) j)
set_option maxRecDepth 100000 in
set_option maxHeartbeats 4000000 in
theorem sf_firstTwo {d L : Nat} {f : Nat → Nat → Int32} {g : Nat → Nat → Int64} {h : Nat} {w : Int32} {R : Option Value → mH → Prop} (hd : 3 ≤ d) (hhb : f 100 6 = nI h) (hhm : h ≤ 60) (H : R (some (.int (two (QC f w) h h 0))) (shF L, f, g)) : Run mtab d 46 [.ref 100, .int w] (shF L, f, g) R := by
  obtain ⟨d, rfl⟩ : ∃ e, d = e + 1 := ⟨d - 1, by omega⟩
  refine go_X5_firstTwoAtOnce rfl ?_
  conv => whnf
  exact tc_lp (by omega) hhb hhm h 0 _ _ (by omega) rfl H
set_option maxRecDepth 100000 in
set_option maxHeartbeats 4000000 in
theorem sf_firstGap {d L : Nat} {f : Nat → Nat → Int32} {g : Nat → Nat → Int64} {h j : Nat} {w y : Int32} {R : Option Value → mH → Prop} (hd : 3 ≤ d) (hj : j ≤ 1999) (e : y = nI j) (hhb : f 100 6 = nI h) (hhm : h ≤ 60) (H : R (some (.int (gapl (fun y => mayl (PO f 103 106 w y) (fun i => f 102 i) h 0 0) (2000 - j) j))) (shF L, f, g)) : Run mtab d 48 [.ref 100, .int w, .int y] (shF L, f, g) R := by
  obtain ⟨d, rfl⟩ : ∃ e, d = e + 1 := ⟨d - 1, by omega⟩
  refine go_X5_firstGap rfl ?_
  conv => whnf
  exact fg_lp (by omega) hhb hhm (2000 - j) j _ (by omega) e H
set_option maxRecDepth 100000 in
set_option maxHeartbeats 4000000 in
theorem sf_twice {d L : Nat} {f : Nat → Nat → Int32} {g : Nat → Nat → Int64} {n h : Nat} {x1 : Int32} {R : Option Value → mH → Prop} (hd : 6 ≤ d) (hb : f 6 13 = nI n) (hm : n ≤ 40) (hhb : f 100 6 = nI h) (hhm : h ≤ 60) (H : ∀ v, SX_twice n h f x1 v → R (some (.int v)) (shF L, f, g)) : Run mtab d 102 [.ref 5, .int x1] (shF L, f, g) R := by
  obtain ⟨d, rfl⟩ : ∃ e, d = e + 1 := ⟨d - 1, by omega⟩
  refine go_X10_twice rfl ?_
  conv => whnf
  repeat' first
    | ((with_reducible refine ⟨vp_in_nI (by omega) (by decide), ?_⟩) <;> conv => whnf)
    | (refine ⟨Or.inl rfl, ?_⟩ <;> conv => whnf)
    | (refine ⟨Or.inr rfl, ?_⟩ <;> conv => whnf)
    | (refine ⟨Or.inl True.intro, ?_⟩ <;> conv => whnf)
    | (refine ⟨Or.inr True.intro, ?_⟩ <;> conv => whnf)
    | (refine ⟨fun c => ?_, fun c => ?_⟩ <;> first | ((have c9 : (1 : Int32) = 0 := by with_reducible exact c); exact absurd c9 (by decide)) | exact absurd (rfl : (0 : Int32) = 0) (by with_reducible exact c) | exact absurd True.intro (by with_reducible exact c) | exact False.elim (by with_reducible exact c) | (conv => whnf))
    | (refine ct_has (by omega) hb hm (fun j hj e => ?_) (fun q => ?_) <;> (try subst e) <;> conv => whnf)
    | (refine sf_firstTwo (by omega) hhb hhm ?_ <;> conv => whnf)
    | (refine ⟨by unfold vp_in; decide, ?_⟩ <;> conv => whnf)
    | fail
  all_goals first | exact H _ (Or.inl ⟨nhasw (by with_reducible assumption), rfl⟩) | exact H _ (Or.inr ⟨⟨_, hj, rfl⟩, rfl⟩)
set_option maxRecDepth 100000 in
set_option maxHeartbeats 4000000 in
theorem sf_gap {d L : Nat} {f : Nat → Nat → Int32} {g : Nat → Nat → Int64} {n h : Nat} {x1 x2 : Int32} {R : Option Value → mH → Prop} (hd : 6 ≤ d) (hb : f 6 13 = nI n) (hm : n ≤ 40) (hhb : f 100 6 = nI h) (hhm : h ≤ 60) (H : ∀ v, SX_gap n h f x1 x2 v → R (some (.int v)) (shF L, f, g)) : Run mtab d 103 [.ref 5, .int x1, .int x2] (shF L, f, g) R := by
  obtain ⟨d, rfl⟩ : ∃ e, d = e + 1 := ⟨d - 1, by omega⟩
  refine go_X10_gap rfl ?_
  conv => whnf
  repeat' first
    | ((with_reducible refine ⟨vp_in_nI (by omega) (by decide), ?_⟩) <;> conv => whnf)
    | (refine ⟨Or.inl rfl, ?_⟩ <;> conv => whnf)
    | (refine ⟨Or.inr rfl, ?_⟩ <;> conv => whnf)
    | (refine ⟨Or.inl True.intro, ?_⟩ <;> conv => whnf)
    | (refine ⟨Or.inr True.intro, ?_⟩ <;> conv => whnf)
    | (refine ⟨fun c => ?_, fun c => ?_⟩ <;> first | ((have c9 : (1 : Int32) = 0 := by with_reducible exact c); exact absurd c9 (by decide)) | exact absurd (rfl : (0 : Int32) = 0) (by with_reducible exact c) | exact absurd True.intro (by with_reducible exact c) | exact False.elim (by with_reducible exact c) | (conv => whnf))
    | (refine ct_has (by omega) hb hm (fun j hj e => ?_) (fun q => ?_) <;> (try subst e) <;> conv => whnf)
    | (refine ct_isYear (by omega) (fun p => ?_) (fun p => ?_) <;> conv => whnf)
    | ((obtain ⟨j9, hj9, e9⟩ := yr_nat ‹inr 1800 1999 x2›); refine sf_firstGap (by omega) hj9 e9 hhb hhm ?_ <;> conv => whnf)
    | (refine ⟨by unfold vp_in; decide, ?_⟩ <;> conv => whnf)
    | fail
  all_goals first | exact H _ (Or.inl ⟨fun hh => absurd hh.1 (nhasw (by with_reducible assumption)), rfl⟩) | exact H _ (Or.inl ⟨fun hh => absurd hh.2 (by with_reducible assumption), rfl⟩) | exact H _ (Or.inr ⟨⟨_, hj, rfl⟩, j9, hj9, e9, by with_reducible assumption, rfl⟩)
set_option maxRecDepth 100000 in
set_option maxHeartbeats 4000000 in
theorem smf_twice {d L : Nat} {f : Nat → Nat → Int32} {g : Nat → Nat → Int64} {n h : Nat} {x1 : Int32} {R : Option Value → mH → Prop} (hd : 6 ≤ d) (hb : f 181 0 = nI n) (hm : n ≤ 40) (hhb : f 181 14 = nI h) (hhm : h ≤ 60) (H : ∀ v, SM_twice n h f x1 v → R (some (.int v)) (shF L, f, g)) : Run mtab d 174 [.ref 181, .int x1] (shF L, f, g) R := by
  obtain ⟨d, rfl⟩ : ∃ e, d = e + 1 := ⟨d - 1, by omega⟩
  refine go_X11_twice rfl ?_
  conv => whnf
  refine ct_mIsWork (by omega) hb hm (fun j hj e => ?_) (fun q => ?_)
  · subst e
    conv => whnf
    refine ⟨fun _ => ?_, fun c => absurd c (by decide)⟩
    conv => whnf
    exact tm_lp (by omega) hhb hhm h 0 _ _ _ _ _ _ (by omega) rfl (H _ (Or.inr ⟨⟨j, hj, rfl⟩, rfl⟩))
  · conv => whnf
    refine ⟨fun c => absurd rfl c, fun _ => ?_⟩
    conv => whnf
    exact H _ (Or.inl ⟨nhasw q, rfl⟩)
set_option maxRecDepth 100000 in
set_option maxHeartbeats 4000000 in
theorem smf_gap {d L : Nat} {f : Nat → Nat → Int32} {g : Nat → Nat → Int64} {n h : Nat} {x1 x2 : Int32} {R : Option Value → mH → Prop} (hd : 6 ≤ d) (hb : f 181 0 = nI n) (hm : n ≤ 40) (hhb : f 181 14 = nI h) (hhm : h ≤ 60) (H : ∀ v, SM_gap n h f x1 x2 v → R (some (.int v)) (shF L, f, g)) : Run mtab d 175 [.ref 181, .int x1, .int x2] (shF L, f, g) R := by
  obtain ⟨d, rfl⟩ : ∃ e, d = e + 1 := ⟨d - 1, by omega⟩
  refine go_X11_gap rfl ?_
  conv => whnf
  refine ct_mIsWork (by omega) hb hm (fun j hj e => ?_) (fun q => ?_)
  · subst e
    conv => whnf
    refine ⟨fun c => absurd c (by decide), fun _ => ?_⟩
    conv => whnf
    refine ct_mIsYear (by omega) (fun p => ?_) (fun p => ?_)
    · conv => whnf
      refine ⟨fun _ => ?_, fun c => absurd c (by decide)⟩
      obtain ⟨j9, hj9, e9⟩ := yr_nat p
      conv => whnf
      exact mg_lp (by omega) hhb hhm (2000 - j9) j9 _ (by omega) e9 (H _ (Or.inr ⟨⟨j, hj, rfl⟩, j9, hj9, e9, p, rfl⟩))
    · conv => whnf
      refine ⟨fun c => absurd rfl c, fun _ => ?_⟩
      conv => whnf
      exact H _ (Or.inl ⟨fun hh => p hh.2, rfl⟩)
  · conv => whnf
    refine ⟨fun _ => ?_, fun c => absurd rfl c⟩
    conv => whnf
    exact H _ (Or.inl ⟨fun hh => nhasw q hh.1, rfl⟩)
theorem fin_twice {n h : Nat} {f : Nat → Nat → Int32} {x1 v1 v2 : Int32} (hO : RO h f) (s1 : SX_twice n h f x1 v1) (s2 : SM_twice n h f x1 v2) : v1 = v2 := by
  rcases s1 with ⟨q1, rfl⟩ | ⟨p1, rfl⟩
  · rcases s2 with ⟨q2, rfl⟩ | ⟨p2, rfl⟩
    · rfl
    · exact absurd p2 q1
  · rcases s2 with ⟨q2, rfl⟩ | ⟨p2, rfl⟩
    · exact absurd p1 q2
    · exact two_eq (QC_QM hO x1) h 0 (by omega)
theorem fin_gap {n h : Nat} {f : Nat → Nat → Int32} {x1 x2 v1 v2 : Int32} (hO : RO h f) (s1 : SX_gap n h f x1 x2 v1) (s2 : SM_gap n h f x1 x2 v2) : v1 = v2 := by
  rcases s1 with ⟨q1, rfl⟩ | ⟨p1, j, hj, ej, r1, rfl⟩
  · rcases s2 with ⟨q2, rfl⟩ | ⟨p2, j2, hj2, ej2, r2, rfl⟩
    · rfl
    · exact absurd ⟨p2, r2⟩ q1
  · rcases s2 with ⟨q2, rfl⟩ | ⟨p2, j2, hj2, ej2, r2, rfl⟩
    · exact absurd ⟨p1, r1⟩ q2
    · have e : j = j2 := (nI_eq (by omega) (by omega)).mp (ej.symm.trans ej2)
      subst e
      exact gapl_eq (fun y => may_RO hO x1 y) _ _
def SX_kin (f f1 : Nat → Nat → Int32) (x1 x2 v : Int32) : Prop := (¬ (inr 0 7 x1 ∧ inr 0 1048575 x2) ∧ v = -1 ∧ f1 = f) ∨ (∃ s, s < 8 ∧ x1 = nI s ∧ inr 0 1048575 x2 ∧ v = f 120 s ∧ f1 = m_ui f 120 s x2)
def SM_kin (f f1 : Nat → Nat → Int32) (x1 x2 v : Int32) : Prop := (¬ (inr 0 7 x1 ∧ inr 0 1048575 x2) ∧ v = -1 ∧ f1 = f) ∨ (∃ s, s < 8 ∧ x1 = nI s ∧ inr 0 1048575 x2 ∧ v = f 212 s ∧ f1 = m_ui f 212 s x2)
def RK (f : Nat → Nat → Int32) : Prop := ∀ s, s < 8 → f 120 s = f 212 s
set_option maxRecDepth 100000 in
set_option maxHeartbeats 4000000 in
theorem sf_kin {d L : Nat} {f : Nat → Nat → Int32} {g : Nat → Nat → Int64} {x1 x2 : Int32} {R : Option Value → mH → Prop} (hd : 3 ≤ d) (H : ∀ v f1, SX_kin f f1 x1 x2 v → R (some (.int v)) (shF L, f1, g)) : Run mtab d 118 [.ref 5, .int x1, .int x2] (shF L, f, g) R := by
  obtain ⟨d, rfl⟩ : ∃ e, d = e + 1 := ⟨d - 1, by omega⟩
  refine go_X10_kin rfl ?_
  conv => whnf
  refine ct_isWithin (by omega) (fun p1 => ?_) (fun p1 => ?_)
  · obtain ⟨s, hs, rfl⟩ := inr_nat (n := 7) rfl p1
    have hcl : (nI s).toNatClampNeg = s := nI_clamp (by omega)
    conv => whnf
    (refine ⟨fun c => ?_, fun c => ?_⟩ <;> first | ((have c9 : (1 : Int32) = 0 := by with_reducible exact c); exact absurd c9 (by decide)) | exact absurd (rfl : (0 : Int32) = 0) (by with_reducible exact c) | exact absurd True.intro (by with_reducible exact c) | exact False.elim (by with_reducible exact c) | (conv => whnf))
    refine ct_isBits20 (by omega) (fun p2 => ?_) (fun p2 => ?_)
    · conv => whnf
      (refine ⟨fun c => ?_, fun c => ?_⟩ <;> first | ((have c9 : (1 : Int32) = 0 := by with_reducible exact c); exact absurd c9 (by decide)) | exact absurd (rfl : (0 : Int32) = 0) (by with_reducible exact c) | exact absurd True.intro (by with_reducible exact c) | exact False.elim (by with_reducible exact c) | (conv => whnf))
      refine ⟨vp_in_nI (by omega) (by decide), ?_⟩
      conv => whnf
      refine ⟨vp_in_nI (by omega) (by decide), ?_⟩
      conv => whnf
      simp only [hcl]
      exact H _ _ (Or.inr ⟨s, by omega, rfl, p2, rfl, rfl⟩)
    · conv => whnf
      (refine ⟨fun c => ?_, fun c => ?_⟩ <;> first | ((have c9 : (1 : Int32) = 0 := by with_reducible exact c); exact absurd c9 (by decide)) | exact absurd (rfl : (0 : Int32) = 0) (by with_reducible exact c) | exact absurd True.intro (by with_reducible exact c) | exact False.elim (by with_reducible exact c) | (conv => whnf))
      exact H _ _ (Or.inl ⟨fun hh => p2 hh.2, rfl, rfl⟩)
  · conv => whnf
    (refine ⟨fun c => ?_, fun c => ?_⟩ <;> first | ((have c9 : (1 : Int32) = 0 := by with_reducible exact c); exact absurd c9 (by decide)) | exact absurd (rfl : (0 : Int32) = 0) (by with_reducible exact c) | exact absurd True.intro (by with_reducible exact c) | exact False.elim (by with_reducible exact c) | (conv => whnf))
    exact H _ _ (Or.inl ⟨fun hh => p1 hh.1, rfl, rfl⟩)
set_option maxRecDepth 100000 in
set_option maxHeartbeats 4000000 in
theorem smf_kin {d L : Nat} {f : Nat → Nat → Int32} {g : Nat → Nat → Int64} {x1 x2 : Int32} {R : Option Value → mH → Prop} (hd : 3 ≤ d) (H : ∀ v f1, SM_kin f f1 x1 x2 v → R (some (.int v)) (shF L, f1, g)) : Run mtab d 214 [.ref 181, .int x1, .int x2] (shF L, f, g) R := by
  obtain ⟨d, rfl⟩ : ∃ e, d = e + 1 := ⟨d - 1, by omega⟩
  refine go_X11_kin rfl ?_
  conv => whnf
  refine ct_i_0_7 (by omega) (fun p1 => ?_) (fun p1 => ?_)
  · obtain ⟨s, hs, rfl⟩ := inr_nat (n := 7) rfl p1
    have hcl : (nI s).toNatClampNeg = s := nI_clamp (by omega)
    conv => whnf
    (refine ⟨fun c => ?_, fun c => ?_⟩ <;> first | ((have c9 : (1 : Int32) = 0 := by with_reducible exact c); exact absurd c9 (by decide)) | exact absurd (rfl : (0 : Int32) = 0) (by with_reducible exact c) | exact absurd True.intro (by with_reducible exact c) | exact False.elim (by with_reducible exact c) | (conv => whnf))
    refine ct_i_0_1048575 (by omega) (fun p2 => ?_) (fun p2 => ?_)
    · conv => whnf
      (refine ⟨fun c => ?_, fun c => ?_⟩ <;> first | ((have c9 : (1 : Int32) = 0 := by with_reducible exact c); exact absurd c9 (by decide)) | exact absurd (rfl : (0 : Int32) = 0) (by with_reducible exact c) | exact absurd True.intro (by with_reducible exact c) | exact False.elim (by with_reducible exact c) | (conv => whnf))
      refine ⟨vp_in_nI (by omega) (by decide), ?_⟩
      conv => whnf
      refine ⟨vp_in_nI (by omega) (by decide), ?_⟩
      conv => whnf
      simp only [hcl]
      exact H _ _ (Or.inr ⟨s, by omega, rfl, p2, rfl, rfl⟩)
    · conv => whnf
      (refine ⟨fun c => ?_, fun c => ?_⟩ <;> first | ((have c9 : (1 : Int32) = 0 := by with_reducible exact c); exact absurd c9 (by decide)) | exact absurd (rfl : (0 : Int32) = 0) (by with_reducible exact c) | exact absurd True.intro (by with_reducible exact c) | exact False.elim (by with_reducible exact c) | (conv => whnf))
      exact H _ _ (Or.inl ⟨fun hh => p2 hh.2, rfl, rfl⟩)
  · conv => whnf
    (refine ⟨fun c => ?_, fun c => ?_⟩ <;> first | ((have c9 : (1 : Int32) = 0 := by with_reducible exact c); exact absurd c9 (by decide)) | exact absurd (rfl : (0 : Int32) = 0) (by with_reducible exact c) | exact absurd True.intro (by with_reducible exact c) | exact False.elim (by with_reducible exact c) | (conv => whnf))
    exact H _ _ (Or.inl ⟨fun hh => p1 hh.1, rfl, rfl⟩)
theorem kx_kin {f f1 : Nat → Nat → Int32} {x1 x2 v : Int32} (s : SX_kin f f1 x1 x2 v) : kp [9] f f1 := by
  rcases s with ⟨_, _, rfl⟩ | ⟨t, _, _, _, _, rfl⟩
  · exact kp_refl _ _
  · exact kp_ui rfl (kp_refl _ _)
theorem km_kin {f f1 : Nat → Nat → Int32} {x1 x2 v : Int32} (s : SM_kin f f1 x1 x2 v) : kp [19] f f1 := by
  rcases s with ⟨_, _, rfl⟩ | ⟨t, _, _, _, _, rfl⟩
  · exact kp_refl _ _
  · exact kp_ui rfl (kp_refl _ _)
theorem fin_kin {f f1 f2 : Nat → Nat → Int32} {x1 x2 v1 v2 : Int32} (hX : XI f) (hK : RK f) (s1 : SX_kin f f1 x1 x2 v1) (s2 : SM_kin f1 f2 x1 x2 v2) : XI f2 ∧ RK f2 ∧ v1 = v2 := by
  rcases s1 with ⟨q1, rfl, rfl⟩ | ⟨s, hs, e1, p2, rfl, rfl⟩
  · rcases s2 with ⟨q2, rfl, rfl⟩ | ⟨t, ht, e2, u2, ev2, rfl⟩
    · exact ⟨hX, hK, rfl⟩
    · exact absurd ⟨by rw [e2]; exact inr_n (m := 7) (by omega) rfl (by decide), u2⟩ q1
  · rcases s2 with ⟨q2, rfl, rfl⟩ | ⟨t, ht, e2, u2, ev2, rfl⟩
    · exact absurd ⟨by rw [e1]; exact inr_n (m := 7) (by omega) rfl (by decide), p2⟩ q2
    · have est : s = t := (nI_eq (by omega) (by omega)).mp (e1.symm.trans e2)
      subst est
      refine ⟨XI_ui (XI_ui hX True.intro) True.intro, fun t ht => ?_, ?_⟩
      · by_cases e : t = s
        · subst e
          rw [m_ui_o (by omega), m_ui_s, m_ui_s]
        · rw [m_ui_o (by omega), m_ui_o (by omega), m_ui_o (by omega), m_ui_o (by omega), hK t ht]
      · rw [ev2, m_ui_o (by omega)]
        exact hK s hs
def cluew (n : Nat) (x1 x2 x3 : Int32) : Prop := hasw n x1 ∧ hasw n x2 ∧ ¬ x1 = x2 ∧ inr (-30) 30 x3
def cadd (f : Nat → Nat → Int32) (h : Nat) (x1 x2 x3 : Int32) : Nat → Nat → Int32 := (m_ui (m_ui (m_ui (m_ui (m_ui f 130 h x1) 131 h x2) 132 h x3) 133 h (vp_nar .boolean 1)) 129 6 (nI h + 1))
def mcadd (f : Nat → Nat → Int32) (h : Nat) (x1 x2 x3 : Int32) : Nat → Nat → Int32 := (m_ui (m_ui (m_ui (m_ui (m_ui (m_ui f 196 h x1) 197 h x2) 198 h x3) 199 h (vp_nar .boolean 1)) 181 16 (nI (h + 1))) 181 29 0)
def SX_clue (n h : Nat) (f f1 : Nat → Nat → Int32) (x1 x2 x3 v : Int32) : Prop := (¬ cluew n x1 x2 x3 ∧ v = -1 ∧ f1 = f) ∨ (cluew n x1 x2 x3 ∧ ((h = 20 ∧ v = -3 ∧ f1 = f) ∨ (h < 20 ∧ v = nI h ∧ f1 = cadd f h x1 x2 x3)))
def SM_clue (n h : Nat) (f f1 : Nat → Nat → Int32) (x1 x2 x3 v : Int32) : Prop := (¬ cluew n x1 x2 x3 ∧ v = -1 ∧ f1 = f) ∨ (cluew n x1 x2 x3 ∧ ((h = 20 ∧ v = -3 ∧ f1 = f) ∨ (h < 20 ∧ v = nI h ∧ f1 = mcadd f h x1 x2 x3)))
def RLk (f : Nat → Nat → Int32) (k : Nat) : Prop := f 130 k = f 196 k ∧ f 131 k = f 197 k ∧ f 132 k = f 198 k ∧ f 133 k = f 199 k ∧ inr (-30) 30 (f 198 k) ∧ ¬ f 196 k = f 197 k
/-- both objects have the same clues; they name works -/
def RC (c : Nat) (f : Nat → Nat → Int32) : Prop := c ≤ 20 ∧ f 129 6 = nI c ∧ f 181 16 = nI c ∧ ∀ k, k < c → RLk f k
set_option maxRecDepth 100000 in
set_option maxHeartbeats 4000000 in
theorem sf_Yadd {d L : Nat} {f : Nat → Nat → Int32} {g : Nat → Nat → Int64} {h : Nat} {x1 x2 x3 : Int32} {R : Option Value → mH → Prop} (hd : 1 ≤ d) (hb : f 129 6 = nI h) (hm : h ≤ 20) (HF : h = 20 → R (some (.int (-3))) (shF L, f, g)) (H : h < 20 → R (some (.int (nI h))) (shF L, cadd f h x1 x2 x3, g)) : Run mtab d 78 [.ref 129, .int x1, .int x2, .int x3] (shF L, f, g) R := by
  obtain ⟨d, rfl⟩ : ∃ e, d = e + 1 := ⟨d - 1, by omega⟩
  refine go_X9_add rfl ?_
  conv => whnf
  by_cases hq : h = 20
  · subst hq
    repeat' first
      | (simp only [hb])
      | ((with_reducible refine ⟨vp_in_nI (by omega) (by decide), ?_⟩) <;> conv => whnf)
      | (refine ⟨Or.inl rfl, ?_⟩ <;> conv => whnf)
      | (refine ⟨Or.inr rfl, ?_⟩ <;> conv => whnf)
      | (refine ⟨Or.inl True.intro, ?_⟩ <;> conv => whnf)
      | (refine ⟨Or.inr True.intro, ?_⟩ <;> conv => whnf)
      | (refine ⟨fun c => ?_, fun c => ?_⟩ <;> first | ((have c9 : (1 : Int32) = 0 := by with_reducible exact c); exact absurd c9 (by decide)) | exact absurd (rfl : (0 : Int32) = 0) (by with_reducible exact c) | exact absurd True.intro (by with_reducible exact c) | exact False.elim (by with_reducible exact c) | exact absurd (by decide) c | (conv => whnf))
      | (refine ⟨by unfold vp_in; decide, ?_⟩ <;> conv => whnf)
      | fail
    all_goals exact HF rfl
  · have hlt : h < 20 := by omega
    have hcl : (nI h).toNatClampNeg = h := nI_clamp (by omega)
    repeat' first
      | (simp only [hb, m_ui_ap, m_fil_ap, m_cpy_ap, Nat.reduceEqDiff, Nat.reduceLT, Nat.reduceLeDiff, eq_self, ↓reduceIte, false_and, and_false, true_and, and_true, and_self])
      | ((with_reducible refine ⟨vp_in_nI (by omega) (by decide), ?_⟩) <;> conv => whnf)
      | (refine ⟨Or.inl rfl, ?_⟩ <;> conv => whnf)
      | (refine ⟨Or.inr rfl, ?_⟩ <;> conv => whnf)
      | (refine ⟨Or.inl True.intro, ?_⟩ <;> conv => whnf)
      | (refine ⟨Or.inr True.intro, ?_⟩ <;> conv => whnf)
      | (refine ⟨fun c => ?_, fun c => ?_⟩ <;> first | ((have c9 : (1 : Int32) = 0 := by with_reducible exact c); exact absurd c9 (by decide)) | exact absurd (rfl : (0 : Int32) = 0) (by with_reducible exact c) | exact absurd True.intro (by with_reducible exact c) | exact False.elim (by with_reducible exact c) | exact absurd ((nI_eq (b := 20) (by omega) (by decide)).mp c) hq | (conv => whnf))
      | (refine ⟨by unfold vp_in; decide, ?_⟩ <;> conv => whnf)
      | fail
    all_goals (simp only [hcl]; exact H hlt)
set_option maxRecDepth 100000 in
set_option maxHeartbeats 4000000 in
theorem sf_clue {d L : Nat} {f : Nat → Nat → Int32} {g : Nat → Nat → Int64} {n h : Nat} {x1 x2 x3 : Int32} {R : Option Value → mH → Prop} (hd : 3 ≤ d) (hb : f 6 13 = nI n) (hm : n ≤ 40) (hhb : f 129 6 = nI h) (hhm : h ≤ 20) (H : ∀ v f1, SX_clue n h f f1 x1 x2 x3 v → R (some (.int v)) (shF L, f1, g)) : Run mtab d 112 [.ref 5, .int x1, .int x2, .int x3] (shF L, f, g) R := by
  obtain ⟨d, rfl⟩ : ∃ e, d = e + 1 := ⟨d - 1, by omega⟩
  refine go_X10_clue rfl ?_
  conv => whnf
  refine ct_has (by omega) hb hm (fun j hj e => ?_) (fun q => ?_)
  · subst e
    conv => whnf
    (refine ⟨fun c => ?_, fun c => ?_⟩ <;> first | ((have c9 : (1 : Int32) = 0 := by with_reducible exact c); exact absurd c9 (by decide)) | exact absurd (rfl : (0 : Int32) = 0) (by with_reducible exact c) | exact absurd True.intro (by with_reducible exact c) | exact False.elim (by with_reducible exact c) | (conv => whnf))
    refine ct_has (by omega) hb hm (fun j2 hj2 e2 => ?_) (fun q => ?_)
    · subst e2
      conv => whnf
      (refine ⟨fun c => ?_, fun c => ?_⟩ <;> first | ((have c9 : (1 : Int32) = 0 := by with_reducible exact c); exact absurd c9 (by decide)) | exact absurd (rfl : (0 : Int32) = 0) (by with_reducible exact c) | exact absurd True.intro (by with_reducible exact c) | exact False.elim (by with_reducible exact c) | (conv => whnf))
      refine ⟨fun c1 => ?_, fun c1 => ?_⟩
      · conv => whnf
        exact H _ _ (Or.inl ⟨fun hh => hh.2.2.1 c1, rfl, rfl⟩)
      · conv => whnf
        refine ct_isWithin (by omega) (fun p => ?_) (fun p => ?_)
        · conv => whnf
          (refine ⟨fun c => ?_, fun c => ?_⟩ <;> first | ((have c9 : (1 : Int32) = 0 := by with_reducible exact c); exact absurd c9 (by decide)) | exact absurd (rfl : (0 : Int32) = 0) (by with_reducible exact c) | exact absurd True.intro (by with_reducible exact c) | exact False.elim (by with_reducible exact c) | (conv => whnf))
          have hw : cluew n (nI j) (nI j2) x3 := ⟨⟨j, hj, rfl⟩, ⟨j2, hj2, rfl⟩, c1, p⟩
          refine sf_Yadd (by omega) hhb hhm (fun q => ?_) (fun q => ?_)
          · conv => whnf
            exact H _ _ (Or.inr ⟨hw, Or.inl ⟨q, rfl, rfl⟩⟩)
          · conv => whnf
            exact H _ _ (Or.inr ⟨hw, Or.inr ⟨q, rfl, rfl⟩⟩)
        · conv => whnf
          (refine ⟨fun c => ?_, fun c => ?_⟩ <;> first | ((have c9 : (1 : Int32) = 0 := by with_reducible exact c); exact absurd c9 (by decide)) | exact absurd (rfl : (0 : Int32) = 0) (by with_reducible exact c) | exact absurd True.intro (by with_reducible exact c) | exact False.elim (by with_reducible exact c) | (conv => whnf))
          exact H _ _ (Or.inl ⟨fun hh => p hh.2.2.2, rfl, rfl⟩)
    · conv => whnf
      (refine ⟨fun c => ?_, fun c => ?_⟩ <;> first | ((have c9 : (1 : Int32) = 0 := by with_reducible exact c); exact absurd c9 (by decide)) | exact absurd (rfl : (0 : Int32) = 0) (by with_reducible exact c) | exact absurd True.intro (by with_reducible exact c) | exact False.elim (by with_reducible exact c) | (conv => whnf))
      exact H _ _ (Or.inl ⟨fun hh => nhasw q hh.2.1, rfl, rfl⟩)
  · conv => whnf
    (refine ⟨fun c => ?_, fun c => ?_⟩ <;> first | ((have c9 : (1 : Int32) = 0 := by with_reducible exact c); exact absurd c9 (by decide)) | exact absurd (rfl : (0 : Int32) = 0) (by with_reducible exact c) | exact absurd True.intro (by with_reducible exact c) | exact False.elim (by with_reducible exact c) | (conv => whnf))
    exact H _ _ (Or.inl ⟨fun hh => nhasw q hh.1, rfl, rfl⟩)
set_option maxRecDepth 100000 in
set_option maxHeartbeats 4000000 in
theorem smf_clue {d L : Nat} {f : Nat → Nat → Int32} {g : Nat → Nat → Int64} {n h : Nat} {x1 x2 x3 : Int32} {R : Option Value → mH → Prop} (hd : 3 ≤ d) (hb : f 181 0 = nI n) (hm : n ≤ 40) (hhb : f 181 16 = nI h) (hhm : h ≤ 20) (H : ∀ v f1, SM_clue n h f f1 x1 x2 x3 v → R (some (.int v)) (shF L, f1, g)) : Run mtab d 176 [.ref 181, .int x1, .int x2, .int x3] (shF L, f, g) R := by
  obtain ⟨d, rfl⟩ : ∃ e, d = e + 1 := ⟨d - 1, by omega⟩
  refine go_X11_clue rfl ?_
  conv => whnf
  refine ct_mIsWork (by omega) hb hm (fun j hj e => ?_) (fun q => ?_)
  · subst e
    conv => whnf
    (refine ⟨fun c => ?_, fun c => ?_⟩ <;> first | ((have c9 : (1 : Int32) = 0 := by with_reducible exact c); exact absurd c9 (by decide)) | exact absurd (rfl : (0 : Int32) = 0) (by with_reducible exact c) | exact absurd True.intro (by with_reducible exact c) | exact False.elim (by with_reducible exact c) | (conv => whnf))
    refine ct_mIsWork (by omega) hb hm (fun j2 hj2 e2 => ?_) (fun q => ?_)
    · subst e2
      conv => whnf
      (refine ⟨fun c => ?_, fun c => ?_⟩ <;> first | ((have c9 : (1 : Int32) = 0 := by with_reducible exact c); exact absurd c9 (by decide)) | exact absurd (rfl : (0 : Int32) = 0) (by with_reducible exact c) | exact absurd True.intro (by with_reducible exact c) | exact False.elim (by with_reducible exact c) | (conv => whnf))
      refine ⟨fun c1 => ?_, fun c1 => ?_⟩
      · conv => whnf
        exact H _ _ (Or.inl ⟨fun hh => hh.2.2.1 c1, rfl, rfl⟩)
      · conv => whnf
        refine ct_i_m30_30 (by omega) (fun p => ?_) (fun p => ?_)
        · conv => whnf
          (refine ⟨fun c => ?_, fun c => ?_⟩ <;> first | ((have c9 : (1 : Int32) = 0 := by with_reducible exact c); exact absurd c9 (by decide)) | exact absurd (rfl : (0 : Int32) = 0) (by with_reducible exact c) | exact absurd True.intro (by with_reducible exact c) | exact False.elim (by with_reducible exact c) | (conv => whnf))
          have hw : cluew n (nI j) (nI j2) x3 := ⟨⟨j, hj, rfl⟩, ⟨j2, hj2, rfl⟩, c1, p⟩
          simp only [hhb]
          by_cases hq : h = 20
          · subst hq
            refine ⟨fun c => absurd (by decide) c, fun _ => ?_⟩
            conv => whnf
            exact H _ _ (Or.inr ⟨hw, Or.inl ⟨rfl, rfl, rfl⟩⟩)
          · refine ⟨fun _ => ?_, fun c => absurd ((nI_eq (b := 20) (by omega) (by decide)).mp c) hq⟩
            have hcl : (nI h).toNatClampNeg = h := nI_clamp (by omega)
            conv => whnf
            (try simp only [hhb, m_ui_ap, m_fil_ap, m_cpy_ap, Nat.reduceEqDiff, Nat.reduceLT, Nat.reduceLeDiff, eq_self, ↓reduceIte, false_and, and_false, true_and, and_true, and_self])
            refine ⟨vp_in_nI (by omega) (by decide), ?_⟩
            conv => whnf
            (try simp only [hhb, m_ui_ap, m_fil_ap, m_cpy_ap, Nat.reduceEqDiff, Nat.reduceLT, Nat.reduceLeDiff, eq_self, ↓reduceIte, false_and, and_false, true_and, and_true, and_self])
            refine ⟨vp_in_nI (by omega) (by decide), ?_⟩
            conv => whnf
            (try simp only [hhb, m_ui_ap, m_fil_ap, m_cpy_ap, Nat.reduceEqDiff, Nat.reduceLT, Nat.reduceLeDiff, eq_self, ↓reduceIte, false_and, and_false, true_and, and_true, and_self])
            refine ⟨vp_in_nI (by omega) (by decide), ?_⟩
            conv => whnf
            (try simp only [hhb, m_ui_ap, m_fil_ap, m_cpy_ap, Nat.reduceEqDiff, Nat.reduceLT, Nat.reduceLeDiff, eq_self, ↓reduceIte, false_and, and_false, true_and, and_true, and_self])
            refine ⟨vp_in_nI (by omega) (by decide), ?_⟩
            conv => whnf
            (try simp only [hhb, nI_1, m_ui_ap, m_fil_ap, m_cpy_ap, Nat.reduceEqDiff, Nat.reduceLT, Nat.reduceLeDiff, eq_self, ↓reduceIte, false_and, and_false, true_and, and_true, and_self])
            (try refine ⟨by first | exact Or.inl rfl | exact Or.inl True.intro, ?_⟩)
            (try (conv => whnf))
            have H2 := H _ _ (Or.inr ⟨hw, Or.inr ⟨by omega, rfl, rfl⟩⟩)
            have e : nI (h + 1) - 1 = nI h := nI_pred h
            rw [← e] at H2
            simp only [hcl, hhb, nI_1, m_ui_ap, m_fil_ap, m_cpy_ap, Nat.reduceEqDiff, Nat.reduceLT, Nat.reduceLeDiff, eq_self, ↓reduceIte, false_and, and_false, true_and, and_true, and_self]
            exact H2
        · conv => whnf
          (refine ⟨fun c => ?_, fun c => ?_⟩ <;> first | ((have c9 : (1 : Int32) = 0 := by with_reducible exact c); exact absurd c9 (by decide)) | exact absurd (rfl : (0 : Int32) = 0) (by with_reducible exact c) | exact absurd True.intro (by with_reducible exact c) | exact False.elim (by with_reducible exact c) | (conv => whnf))
          exact H _ _ (Or.inl ⟨fun hh => p hh.2.2.2, rfl, rfl⟩)
    · conv => whnf
      (refine ⟨fun c => ?_, fun c => ?_⟩ <;> first | ((have c9 : (1 : Int32) = 0 := by with_reducible exact c); exact absurd c9 (by decide)) | exact absurd (rfl : (0 : Int32) = 0) (by with_reducible exact c) | exact absurd True.intro (by with_reducible exact c) | exact False.elim (by with_reducible exact c) | (conv => whnf))
      exact H _ _ (Or.inl ⟨fun hh => nhasw q hh.2.1, rfl, rfl⟩)
  · conv => whnf
    (refine ⟨fun c => ?_, fun c => ?_⟩ <;> first | ((have c9 : (1 : Int32) = 0 := by with_reducible exact c); exact absurd c9 (by decide)) | exact absurd (rfl : (0 : Int32) = 0) (by with_reducible exact c) | exact absurd True.intro (by with_reducible exact c) | exact False.elim (by with_reducible exact c) | (conv => whnf))
    exact H _ _ (Or.inl ⟨fun hh => nhasw q hh.1, rfl, rfl⟩)
def SX_use (h : Nat) (f f1 : Nat → Nat → Int32) (x1 x2 v : Int32) : Prop := (¬ hasw h x1 ∧ v = -1 ∧ f1 = f) ∨ (∃ k, k < h ∧ x1 = nI k ∧ ((¬ f 133 k = 0 ∧ v = 1) ∨ (f 133 k = 0 ∧ v = 0)) ∧ f1 = m_ui f 133 k (vp_nar .boolean x2))
def SM_use (h : Nat) (f f1 : Nat → Nat → Int32) (x1 x2 v : Int32) : Prop := (¬ hasw h x1 ∧ v = -1 ∧ f1 = f) ∨ (∃ k, k < h ∧ x1 = nI k ∧ ((¬ f 199 k = 0 ∧ v = 1) ∨ (f 199 k = 0 ∧ v = 0)) ∧ f1 = m_ui (m_ui f 199 k (vp_nar .boolean x2)) 181 29 0)
theorem cnt_no {c : Nat} {x : Int32} (hc : c < 2 ^ 31) (h : ¬ inr 0 (nI c - 1) x) : ¬ hasw c x := fun ⟨j, hj, e⟩ => h (by rw [e]; exact inr_cntI hc hj)
set_option maxRecDepth 100000 in
set_option maxHeartbeats 4000000 in
theorem sf_use {d L : Nat} {f : Nat → Nat → Int32} {g : Nat → Nat → Int64} {h : Nat} {x1 x2 : Int32} {R : Option Value → mH → Prop} (hd : 2 ≤ d) (hhb : f 129 6 = nI h) (hhm : h ≤ 20) (H : ∀ v f1, SX_use h f f1 x1 x2 v → R (some (.int v)) (shF L, f1, g)) : Run mtab d 113 [.ref 5, .int x1, .int x2] (shF L, f, g) R := by
  obtain ⟨d, rfl⟩ : ∃ e, d = e + 1 := ⟨d - 1, by omega⟩
  refine go_X10_use rfl ?_
  conv => whnf
  simp only [hhb]
  refine ct_isWithin (by omega) (fun p => ?_) (fun p => ?_)
  · obtain ⟨k, hk, rfl⟩ := inr_cnt (by omega) p
    have hcl : (nI k).toNatClampNeg = k := nI_clamp (by omega)
    conv => whnf
    (refine ⟨fun c => ?_, fun c => ?_⟩ <;> first | ((have c9 : (1 : Int32) = 0 := by with_reducible exact c); exact absurd c9 (by decide)) | exact absurd (rfl : (0 : Int32) = 0) (by with_reducible exact c) | exact absurd True.intro (by with_reducible exact c) | exact False.elim (by with_reducible exact c) | (conv => whnf))
    refine ⟨vp_in_nI (by omega) (by decide), ?_⟩
    conv => whnf
    refine ⟨vp_in_nI (by omega) (by decide), ?_⟩
    conv => whnf
    simp only [hcl]
    refine ct_bit (by omega) (fun q => ?_) (fun q => ?_)
    · conv => whnf
      exact H _ _ (Or.inr ⟨k, hk, rfl, Or.inl ⟨q, rfl⟩, rfl⟩)
    · conv => whnf
      exact H _ _ (Or.inr ⟨k, hk, rfl, Or.inr ⟨q, rfl⟩, rfl⟩)
  · conv => whnf
    (refine ⟨fun c => ?_, fun c => ?_⟩ <;> first | ((have c9 : (1 : Int32) = 0 := by with_reducible exact c); exact absurd c9 (by decide)) | exact absurd (rfl : (0 : Int32) = 0) (by with_reducible exact c) | exact absurd True.intro (by with_reducible exact c) | exact False.elim (by with_reducible exact c) | (conv => whnf))
    exact H _ _ (Or.inl ⟨cnt_no (by omega) p, rfl, rfl⟩)
set_option maxRecDepth 100000 in
set_option maxHeartbeats 4000000 in
theorem smf_use {d L : Nat} {f : Nat → Nat → Int32} {g : Nat → Nat → Int64} {h : Nat} {x1 x2 : Int32} {R : Option Value → mH → Prop} (hd : 2 ≤ d) (hhb : f 181 16 = nI h) (hhm : h ≤ 20) (H : ∀ v f1, SM_use h f f1 x1 x2 v → R (some (.int v)) (shF L, f1, g)) : Run mtab d 177 [.ref 181, .int x1, .int x2] (shF L, f, g) R := by
  obtain ⟨d, rfl⟩ : ∃ e, d = e + 1 := ⟨d - 1, by omega⟩
  refine go_X11_use rfl ?_
  conv => whnf
  simp only [hhb]
  refine ct_i_0_v (by omega) (fun p => ?_) (fun p => ?_)
  · obtain ⟨k, hk, rfl⟩ := inr_cnt (by omega) p
    have hcl : (nI k).toNatClampNeg = k := nI_clamp (by omega)
    conv => whnf
    (refine ⟨fun c => ?_, fun c => ?_⟩ <;> first | ((have c9 : (1 : Int32) = 0 := by with_reducible exact c); exact absurd c9 (by decide)) | exact absurd (rfl : (0 : Int32) = 0) (by with_reducible exact c) | exact absurd True.intro (by with_reducible exact c) | exact False.elim (by with_reducible exact c) | (conv => whnf))
    refine ⟨vp_in_nI (by omega) (by decide), ?_⟩
    conv => whnf
    simp only [hcl]
    refine ⟨fun q => ?_, fun q => ?_⟩
    · conv => whnf
      refine ⟨vp_in_nI (by omega) (by decide), ?_⟩
      conv => whnf
      (try refine ⟨by first | exact Or.inl rfl | exact Or.inl True.intro, ?_⟩)
      (try (conv => whnf))
      simp only [hcl]
      exact H _ _ (Or.inr ⟨k, hk, rfl, Or.inr ⟨q, rfl⟩, rfl⟩)
    · conv => whnf
      refine ⟨vp_in_nI (by omega) (by decide), ?_⟩
      conv => whnf
      (try refine ⟨by first | exact Or.inl rfl | exact Or.inl True.intro, ?_⟩)
      (try (conv => whnf))
      simp only [hcl]
      exact H _ _ (Or.inr ⟨k, hk, rfl, Or.inl ⟨q, rfl⟩, rfl⟩)
  · conv => whnf
    (refine ⟨fun c => ?_, fun c => ?_⟩ <;> first | ((have c9 : (1 : Int32) = 0 := by with_reducible exact c); exact absurd c9 (by decide)) | exact absurd (rfl : (0 : Int32) = 0) (by with_reducible exact c) | exact absurd True.intro (by with_reducible exact c) | exact False.elim (by with_reducible exact c) | (conv => whnf))
    exact H _ _ (Or.inl ⟨cnt_no (by omega) p, rfl, rfl⟩)
theorem kx_clue {n h : Nat} {f f1 : Nat → Nat → Int32} {x1 x2 x3 v : Int32} (s : SX_clue n h f f1 x1 x2 x3 v) : kp [5] f f1 := by
  rcases s with ⟨_, _, rfl⟩ | ⟨_, ⟨_, _, rfl⟩ | ⟨_, _, rfl⟩⟩
  · exact kp_refl _ _
  · exact kp_refl _ _
  · unfold cadd
    exact kp_ui rfl (kp_ui rfl (kp_ui rfl (kp_ui rfl (kp_ui rfl (kp_refl _ _)))))
theorem km_clue {n h : Nat} {f f1 : Nat → Nat → Int32} {x1 x2 x3 v : Int32} (s : SM_clue n h f f1 x1 x2 x3 v) : kp [10, 15, 22] f f1 := by
  rcases s with ⟨_, _, rfl⟩ | ⟨_, ⟨_, _, rfl⟩ | ⟨_, _, rfl⟩⟩
  · exact kp_refl _ _
  · exact kp_refl _ _
  · unfold mcadd
    exact kp_ui rfl (kp_ui rfl (kp_ui rfl (kp_ui rfl (kp_ui rfl (kp_ui rfl (kp_refl _ _))))))
theorem kx_use {h : Nat} {f f1 : Nat → Nat → Int32} {x1 x2 v : Int32} (s : SX_use h f f1 x1 x2 v) : kp [5] f f1 := by
  rcases s with ⟨_, _, rfl⟩ | ⟨k, _, _, _, rfl⟩
  · exact kp_refl _ _
  · exact kp_ui rfl (kp_refl _ _)
theorem km_use {h : Nat} {f f1 : Nat → Nat → Int32} {x1 x2 v : Int32} (s : SM_use h f f1 x1 x2 v) : kp [10, 15, 22] f f1 := by
  rcases s with ⟨_, _, rfl⟩ | ⟨k, _, _, _, rfl⟩
  · exact kp_refl _ _
  · exact kp_ui rfl (kp_ui rfl (kp_refl _ _))
theorem ca_130 {f : Nat → Nat → Int32} {h k : Nat} {x1 x2 x3 : Int32} : mcadd (cadd f h x1 x2 x3) h x1 x2 x3 130 k = if k = h then x1 else f 130 k := by
  unfold mcadd cadd
  by_cases e : k = h
  · subst e
    rw [m_ui_o (by omega), m_ui_o (by omega), m_ui_o (by omega), m_ui_o (by omega), m_ui_o (by omega), m_ui_o (by omega), m_ui_o (by omega), m_ui_o (by omega), m_ui_o (by omega), m_ui_o (by omega), m_ui_s, if_pos rfl]
  · rw [m_ui_o (by omega), m_ui_o (by omega), m_ui_o (by omega), m_ui_o (by omega), m_ui_o (by omega), m_ui_o (by omega), m_ui_o (by omega), m_ui_o (by omega), m_ui_o (by omega), m_ui_o (by omega), m_ui_o (by omega), if_neg e]
theorem ca_196 {f : Nat → Nat → Int32} {h k : Nat} {x1 x2 x3 : Int32} : mcadd (cadd f h x1 x2 x3) h x1 x2 x3 196 k = if k = h then x1 else f 196 k := by
  unfold mcadd cadd
  by_cases e : k = h
  · subst e
    rw [m_ui_o (by omega), m_ui_o (by omega), m_ui_o (by omega), m_ui_o (by omega), m_ui_o (by omega), m_ui_s, if_pos rfl]
  · rw [m_ui_o (by omega), m_ui_o (by omega), m_ui_o (by omega), m_ui_o (by omega), m_ui_o (by omega), m_ui_o (by omega), m_ui_o (by omega), m_ui_o (by omega), m_ui_o (by omega), m_ui_o (by omega), m_ui_o (by omega), if_neg e]
theorem ca_131 {f : Nat → Nat → Int32} {h k : Nat} {x1 x2 x3 : Int32} : mcadd (cadd f h x1 x2 x3) h x1 x2 x3 131 k = if k = h then x2 else f 131 k := by
  unfold mcadd cadd
  by_cases e : k = h
  · subst e
    rw [m_ui_o (by omega), m_ui_o (by omega), m_ui_o (by omega), m_ui_o (by omega), m_ui_o (by omega), m_ui_o (by omega), m_ui_o (by omega), m_ui_o (by omega), m_ui_o (by omega), m_ui_s, if_pos rfl]
  · rw [m_ui_o (by omega), m_ui_o (by omega), m_ui_o (by omega), m_ui_o (by omega), m_ui_o (by omega), m_ui_o (by omega), m_ui_o (by omega), m_ui_o (by omega), m_ui_o (by omega), m_ui_o (by omega), m_ui_o (by omega), if_neg e]
theorem ca_197 {f : Nat → Nat → Int32} {h k : Nat} {x1 x2 x3 : Int32} : mcadd (cadd f h x1 x2 x3) h x1 x2 x3 197 k = if k = h then x2 else f 197 k := by
  unfold mcadd cadd
  by_cases e : k = h
  · subst e
    rw [m_ui_o (by omega), m_ui_o (by omega), m_ui_o (by omega), m_ui_o (by omega), m_ui_s, if_pos rfl]
  · rw [m_ui_o (by omega), m_ui_o (by omega), m_ui_o (by omega), m_ui_o (by omega), m_ui_o (by omega), m_ui_o (by omega), m_ui_o (by omega), m_ui_o (by omega), m_ui_o (by omega), m_ui_o (by omega), m_ui_o (by omega), if_neg e]
theorem ca_132 {f : Nat → Nat → Int32} {h k : Nat} {x1 x2 x3 : Int32} : mcadd (cadd f h x1 x2 x3) h x1 x2 x3 132 k = if k = h then x3 else f 132 k := by
  unfold mcadd cadd
  by_cases e : k = h
  · subst e
    rw [m_ui_o (by omega), m_ui_o (by omega), m_ui_o (by omega), m_ui_o (by omega), m_ui_o (by omega), m_ui_o (by omega), m_ui_o (by omega), m_ui_o (by omega), m_ui_s, if_pos rfl]
  · rw [m_ui_o (by omega), m_ui_o (by omega), m_ui_o (by omega), m_ui_o (by omega), m_ui_o (by omega), m_ui_o (by omega), m_ui_o (by omega), m_ui_o (by omega), m_ui_o (by omega), m_ui_o (by omega), m_ui_o (by omega), if_neg e]
theorem ca_198 {f : Nat → Nat → Int32} {h k : Nat} {x1 x2 x3 : Int32} : mcadd (cadd f h x1 x2 x3) h x1 x2 x3 198 k = if k = h then x3 else f 198 k := by
  unfold mcadd cadd
  by_cases e : k = h
  · subst e
    rw [m_ui_o (by omega), m_ui_o (by omega), m_ui_o (by omega), m_ui_s, if_pos rfl]
  · rw [m_ui_o (by omega), m_ui_o (by omega), m_ui_o (by omega), m_ui_o (by omega), m_ui_o (by omega), m_ui_o (by omega), m_ui_o (by omega), m_ui_o (by omega), m_ui_o (by omega), m_ui_o (by omega), m_ui_o (by omega), if_neg e]
theorem ca_133 {f : Nat → Nat → Int32} {h k : Nat} {x1 x2 x3 : Int32} : mcadd (cadd f h x1 x2 x3) h x1 x2 x3 133 k = if k = h then (vp_nar .boolean 1) else f 133 k := by
  unfold mcadd cadd
  by_cases e : k = h
  · subst e
    rw [m_ui_o (by omega), m_ui_o (by omega), m_ui_o (by omega), m_ui_o (by omega), m_ui_o (by omega), m_ui_o (by omega), m_ui_o (by omega), m_ui_s, if_pos rfl]
  · rw [m_ui_o (by omega), m_ui_o (by omega), m_ui_o (by omega), m_ui_o (by omega), m_ui_o (by omega), m_ui_o (by omega), m_ui_o (by omega), m_ui_o (by omega), m_ui_o (by omega), m_ui_o (by omega), m_ui_o (by omega), if_neg e]
theorem ca_199 {f : Nat → Nat → Int32} {h k : Nat} {x1 x2 x3 : Int32} : mcadd (cadd f h x1 x2 x3) h x1 x2 x3 199 k = if k = h then (vp_nar .boolean 1) else f 199 k := by
  unfold mcadd cadd
  by_cases e : k = h
  · subst e
    rw [m_ui_o (by omega), m_ui_o (by omega), m_ui_s, if_pos rfl]
  · rw [m_ui_o (by omega), m_ui_o (by omega), m_ui_o (by omega), m_ui_o (by omega), m_ui_o (by omega), m_ui_o (by omega), m_ui_o (by omega), m_ui_o (by omega), m_ui_o (by omega), m_ui_o (by omega), m_ui_o (by omega), if_neg e]
theorem hasw_39 {n : Nat} {x : Int32} (hn : n ≤ 40) (h : hasw n x) : inr 0 39 x := by
  obtain ⟨j, hj, rfl⟩ := h
  exact inr_n (m := 39) (by omega) rfl (by decide)
theorem XI_ca {f : Nat → Nat → Int32} {n h : Nat} {x1 x2 x3 : Int32} (hX : XI f) (hn : n ≤ 40) (hh : h < 20) (w : cluew n x1 x2 x3) : XI (mcadd (cadd f h x1 x2 x3) h x1 x2 x3) := by
  unfold mcadd cadd
  have a1 := hasw_39 hn w.1
  have a2 := hasw_39 hn w.2.1
  exact XI_ui (XI_ui (XI_ui (XI_ui (XI_ui (XI_ui (XI_ui (XI_ui (XI_ui (XI_ui (XI_ui hX a1) a2) True.intro) True.intro) (show inr 0 20 _ from inr_n1 (m := 20) (by omega) rfl (by decide))) a1) a2) True.intro) True.intro) (show inr 0 20 _ from inr_n (m := 20) (by omega) rfl (by decide))) True.intro
theorem RC_congr {c : Nat} {f f' : Nat → Nat → Int32} (h0 : f' 129 6 = f 129 6) (h1 : ∀ a i, 130 ≤ a → a ≤ 133 → f' a i = f a i) (h2 : ∀ a i, 196 ≤ a → a ≤ 199 → f' a i = f a i) (h3 : f' 181 16 = f 181 16) (r : RC c f) : RC c f' := by
  obtain ⟨a, b, e, d⟩ := r
  refine ⟨a, h0.trans b, h3.trans e, fun k hk => ?_⟩
  unfold RLk
  rw [h1 130 k (by omega) (by omega), h1 131 k (by omega) (by omega), h1 132 k (by omega) (by omega), h1 133 k (by omega) (by omega), h2 196 k (by omega) (by omega), h2 197 k (by omega) (by omega), h2 198 k (by omega) (by omega), h2 199 k (by omega) (by omega)]
  exact d k hk
theorem cmp_5 {i : Nat} : ∀ a, 130 ≤ a → a ≤ 133 → cmp a i = 5 := by
  intro a h h'
  have : a = 130 ∨ a = 131 ∨ a = 132 ∨ a = 133 := by omega
  rcases this with rfl | rfl | rfl | rfl <;> rfl
theorem cmp_15 {i : Nat} : ∀ a, 196 ≤ a → a ≤ 199 → cmp a i = 15 := by
  intro a h h'
  have : a = 196 ∨ a = 197 ∨ a = 198 ∨ a = 199 := by omega
  rcases this with rfl | rfl | rfl | rfl <;> rfl
theorem RC_kp {l : List Nat} {c : Nat} {f f' : Nat → Nat → Int32} (k : kp l f f') (h5 : hasN l 5 = false) (h15 : hasN l 15 = false) (r : RC c f) : RC c f' :=
  RC_congr (k 129 6 (by exact h5)) (fun a i p q => k a i (by rw [cmp_5 a p q]; exact h5)) (fun a i p q => k a i (by rw [cmp_15 a p q]; exact h15)) (k 181 16 (by exact h15)) r
theorem RK_kp {l : List Nat} {f f' : Nat → Nat → Int32} (k : kp l f f') (h9 : hasN l 9 = false) (h19 : hasN l 19 = false) (r : RK f) : RK f' := fun s hs => by
  rw [k 120 s (by exact h9), k 212 s (by exact h19)]
  exact r s hs
theorem fin_clue {n h : Nat} {f f1 f2 : Nat → Nat → Int32} {x1 x2 x3 v1 v2 : Int32} (hX : XI f) (hn : n ≤ 40) (hC : RC h f) (s1 : SX_clue n h f f1 x1 x2 x3 v1) (s2 : SM_clue n h f1 f2 x1 x2 x3 v2) : XI f2 ∧ (∃ h, RC h f2) ∧ v1 = v2 := by
  rcases s1 with ⟨q1, rfl, rfl⟩ | ⟨p1, ⟨e1, rfl, rfl⟩ | ⟨l1, rfl, rfl⟩⟩
  · rcases s2 with ⟨q2, rfl, rfl⟩ | ⟨p2, _⟩
    · exact ⟨hX, ⟨h, hC⟩, rfl⟩
    · exact absurd p2 q1
  · rcases s2 with ⟨q2, _⟩ | ⟨p2, ⟨e2, rfl, rfl⟩ | ⟨l2, _⟩⟩
    · exact absurd p1 q2
    · exact ⟨hX, ⟨h, hC⟩, rfl⟩
    · omega
  · rcases s2 with ⟨q2, _⟩ | ⟨p2, ⟨e2, _⟩ | ⟨l2, rfl, rfl⟩⟩
    · exact absurd p1 q2
    · omega
    · obtain ⟨a, b, e, d⟩ := hC
      refine ⟨XI_ca hX hn l1 p1, ⟨h + 1, by omega, ?_, ?_, fun k hk => ?_⟩, rfl⟩
      · unfold mcadd cadd
        rw [m_ui_o (by omega), m_ui_o (by omega), m_ui_o (by omega), m_ui_o (by omega), m_ui_o (by omega), m_ui_o (by omega), m_ui_s]
        exact nI_1 h
      · unfold mcadd
        rw [m_ui_o (by omega), m_ui_s]
      · unfold RLk
        rw [ca_130, ca_131, ca_132, ca_133, ca_196, ca_197, ca_198, ca_199]
        by_cases q : k = h
        · simp only [if_pos q]
          exact ⟨trivial, trivial, trivial, trivial, p1.2.2.2, p1.2.2.1⟩
        · simp only [if_neg q]
          exact d k (by omega)
theorem fin_use {h : Nat} {f f1 f2 : Nat → Nat → Int32} {x1 x2 v1 v2 : Int32} (hX : XI f) (hC : RC h f) (s1 : SX_use h f f1 x1 x2 v1) (s2 : SM_use h f1 f2 x1 x2 v2) : XI f2 ∧ (∃ h, RC h f2) ∧ v1 = v2 := by
  rcases s1 with ⟨q1, rfl, rfl⟩ | ⟨s, hs, e1, w1, rfl⟩
  · rcases s2 with ⟨q2, rfl, rfl⟩ | ⟨t, ht, e2, _⟩
    · exact ⟨hX, ⟨h, hC⟩, rfl⟩
    · exact absurd ⟨t, ht, e2⟩ q1
  · rcases s2 with ⟨q2, rfl, rfl⟩ | ⟨t, ht, e2, w2, rfl⟩
    · exact absurd ⟨s, hs, e1⟩ q2
    · have hc := hC.1
      have est : s = t := (nI_eq (by omega) (by omega)).mp (e1.symm.trans e2)
      subst est
      rw [m_ui_o (by omega)] at w2
      have r := (hC.2.2.2 s hs).2.2.2.1
      refine ⟨XI_ui (XI_ui (XI_ui hX True.intro) True.intro) True.intro, ⟨h, hC.1, ?_, ?_, fun k hk => ?_⟩, ?_⟩
      · rw [m_ui_o (by omega), m_ui_o (by omega), m_ui_o (by omega)]
        exact hC.2.1
      · rw [m_ui_o (by omega), m_ui_o (by omega), m_ui_o (by omega)]
        exact hC.2.2.1
      · obtain ⟨a1, a2, a3, a4, a5, a6⟩ := hC.2.2.2 k hk
        have en : ∀ a i, ¬ a = 133 → ¬ a = 199 → ¬ a = 181 → m_ui (m_ui (m_ui f 133 s (vp_nar .boolean x2)) 199 s (vp_nar .boolean x2)) 181 29 0 a i = f a i := fun a i z1 z2 z3 => by
          rw [m_ui_o (by omega), m_ui_o (by omega), m_ui_o (by omega)]
        refine ⟨?_, ?_, ?_, ?_, ?_, ?_⟩
        · rw [en _ _ (by decide) (by decide) (by decide), en _ _ (by decide) (by decide) (by decide)]
          exact a1
        · rw [en _ _ (by decide) (by decide) (by decide), en _ _ (by decide) (by decide) (by decide)]
          exact a2
        · rw [en _ _ (by decide) (by decide) (by decide), en _ _ (by decide) (by decide) (by decide)]
          exact a3
        · by_cases q : k = s
          · subst q
            rw [m_ui_o (by omega), m_ui_o (by omega), m_ui_s, m_ui_o (by omega), m_ui_s]
          · rw [m_ui_o (by omega), m_ui_o (by omega), m_ui_o (by omega), m_ui_o (by omega), m_ui_o (by omega), m_ui_o (by omega)]
            exact a4
        · rw [en _ _ (by decide) (by decide) (by decide)]
          exact a5
        · rw [en _ _ (by decide) (by decide) (by decide), en _ _ (by decide) (by decide) (by decide)]
          exact a6
      · rw [r] at w1
        rcases w1 with ⟨u, rfl⟩ | ⟨u, rfl⟩
        · rcases w2 with ⟨_, rfl⟩ | ⟨z, _⟩
          · rfl
          · exact absurd z u
        · rcases w2 with ⟨z, _⟩ | ⟨_, rfl⟩
          · exact absurd u z
          · rfl
