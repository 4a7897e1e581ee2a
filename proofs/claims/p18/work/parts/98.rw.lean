noncomputable def gapl (B : Int32 → Int32) : Nat → Nat → Int32
  | 0, _ => -4
  | k + 1, i => ci (B (nI i) = 0) (nI i) (gapl B k (i + 1))
noncomputable def twi (Q : Nat → Nat → Prop) (x : Nat) (C : Int32) : Nat → Nat → Int32
  | 0, _ => C
  | k + 1, y => ci (Q x y) (100 * nI x + nI y) (twi Q x C k (y + 1))
noncomputable def two (Q : Nat → Nat → Prop) (h : Nat) : Nat → Nat → Int32
  | 0, _ => -4
  | k + 1, x => twi Q x (two Q h k (x + 1)) (h - (x + 1)) (x + 1)
def mx (a b : Int32) : Int32 := if a < b then b else a
def mn (a b : Int32) : Int32 := if b < a then b else a
def QC (f : Nat → Nat → Int32) (w : Int32) (x y : Nat) : Prop := (f 101 x = w ∧ f 101 y = w) ∧ (¬ f 102 x = f 102 y ∧ mx (f 104 x) (f 104 y) < mn (f 105 x) (f 105 y))
def QM (f : Nat → Nat → Int32) (w : Int32) (x y : Nat) : Prop := (f 195 (6 * x) = w ∧ f 195 (6 * y) = w) ∧ (¬ f 195 (6 * x + 1) = f 195 (6 * y + 1) ∧ mx (f 195 (6 * x + 3)) (f 195 (6 * y + 3)) < mn (f 195 (6 * x + 4)) (f 195 (6 * y + 4)))
theorem gapl_eq {B C : Int32 → Int32} (h : ∀ y, B y = C y) : ∀ k i, gapl B k i = gapl C k i
  | 0, _ => rfl
  | k + 1, i => by
    show ci (B (nI i) = 0) (nI i) (gapl B k (i + 1)) = ci (C (nI i) = 0) (nI i) (gapl C k (i + 1))
    rw [h, gapl_eq h k (i + 1)]
theorem twi_eq {Q P : Nat → Nat → Prop} {x h : Nat} {C : Int32} (hq : ∀ y, y < h → (Q x y ↔ P x y)) : ∀ k y, y + k = h → twi Q x C k y = twi P x C k y
  | 0, _, _ => rfl
  | k + 1, y, hy => by
    show ci (Q x y) _ (twi Q x C k (y + 1)) = ci (P x y) _ (twi P x C k (y + 1))
    rw [twi_eq hq k (y + 1) (by omega), propext (hq y (by omega))]
theorem two_eq {Q P : Nat → Nat → Prop} {h : Nat} (hq : ∀ x y, x < h → y < h → (Q x y ↔ P x y)) : ∀ k x, x + k = h → two Q h k x = two P h k x
  | 0, _, _ => rfl
  | k + 1, x, hx => by
    show twi Q x (two Q h k (x + 1)) (h - (x + 1)) (x + 1) = twi P x (two P h k (x + 1)) (h - (x + 1)) (x + 1)
    rw [two_eq hq k (x + 1) (by omega)]
    exact twi_eq (fun y hy => hq x y (by omega) hy) _ _ (by omega)
theorem QC_QM {f : Nat → Nat → Int32} {h : Nat} (hO : RO h f) (w : Int32) : ∀ x y, x < h → y < h → (QC f w x y ↔ QM f w x y) := fun x y hx hy => by
  obtain ⟨a, b, c, d, e, g, k⟩ := hO.2.2.2 x hx
  obtain ⟨a', b', c', d', e', g', k'⟩ := hO.2.2.2 y hy
  unfold QC QM
  rw [a, a', b, b', e, e', g, g']
  exact Iff.rfl
set_option maxRecDepth 100000 in
theorem fg_lp {d L h : Nat} {f : Nat → Nat → Int32} {g : Nat → Nat → Int64} {w y : Int32} {R : Option Value → mH → Prop} (hd : 2 ≤ d) (hb : f 100 6 = nI h) (hm : h ≤ 60) :
    ∀ (k i : Nat) (x : Int32), i + k = 2000 → x = nI i → R (some (.int (gapl (fun y => mayl (PO f 103 106 w y) (fun i => f 102 i) h 0 0) k i))) (shF L, f, g) → WPe pg_X5_firstGap none (Run mtab d) R (m_drop pg_X5_firstGap 2) [some (.ref 100), some (.int w), some (.int y), some (.int x)] [] (shF L, f, g)
  | 0, i, x, hi, hx, H => by
    have e : i = 2000 := by omega
    subst hx
    subst e
    refine at_X5_firstGap ?_
    conv => whnf
    refine ⟨fun c => ?_, fun c => absurd (by decide) c⟩
    conv => whnf
    exact H
  | k + 1, i, x, hi, hx, H => by
    subst hx
    refine at_X5_firstGap ?_
    conv => whnf
    refine ⟨fun c => absurd c (nI_nlt (a := 1999) (by omega) (by omega)), fun c => ?_⟩
    conv => whnf
    refine sf_whoMay (by omega) hb hm ?_
    conv => whnf
    refine ⟨fun c => ?_, fun c => ?_⟩
    · conv => whnf
      exact fg_lp hd hb hm k (i + 1) _ (by omega) (nI_1 i) ((ci_f (a := nI i) (b := gapl (fun y => mayl (PO f 103 106 w y) (fun i => f 102 i) h 0 0) k (i + 1)) c) ▸ H)
    · conv => whnf
      exact (ci_t (a := nI i) (b := gapl (fun y => mayl (PO f 103 106 w y) (fun i => f 102 i) h 0 0) k (i + 1)) c) ▸ H
set_option maxRecDepth 100000 in
theorem mg_lp {d L h : Nat} {f : Nat → Nat → Int32} {g : Nat → Nat → Int64} {w y : Int32} {R : Option Value → mH → Prop} (hd : 2 ≤ d) (hb : f 181 14 = nI h) (hm : h ≤ 60) :
    ∀ (k i : Nat) (x : Int32), i + k = 2000 → x = nI i → R (some (.int (gapl (fun y => mayl (PM f 2 5 w y) (fun i => f 195 (6 * i + 1)) h 0 0) k i))) (shF L, f, g) → WPe pg_X11_gap none (Run mtab d) R (m_drop pg_X11_gap 11) [some (.ref 181), some (.int w), some (.int y), some (.int x)] [] (shF L, f, g)
  | 0, i, x, hi, hx, H => by
    have e : i = 2000 := by omega
    subst hx
    subst e
    refine at_X11_gap ?_
    conv => whnf
    refine ⟨fun c => ?_, fun c => absurd (by decide) c⟩
    conv => whnf
    exact H
  | k + 1, i, x, hi, hx, H => by
    subst hx
    refine at_X11_gap ?_
    conv => whnf
    refine ⟨fun c => absurd c (nI_nlt (a := 1999) (by omega) (by omega)), fun c => ?_⟩
    conv => whnf
    refine smf_mayHold (by omega) hb hm ?_
    conv => whnf
    refine ⟨fun c => ?_, fun c => ?_⟩
    · conv => whnf
      exact mg_lp hd hb hm k (i + 1) _ (by omega) (nI_1 i) ((ci_f (a := nI i) (b := gapl (fun y => mayl (PM f 2 5 w y) (fun i => f 195 (6 * i + 1)) h 0 0) k (i + 1)) c) ▸ H)
    · conv => whnf
      exact (ci_t (a := nI i) (b := gapl (fun y => mayl (PM f 2 5 w y) (fun i => f 195 (6 * i + 1)) h 0 0) k (i + 1)) c) ▸ H
set_option maxRecDepth 100000 in
set_option maxHeartbeats 4000000 in
theorem sf_areTwo {d L : Nat} {f : Nat → Nat → Int32} {g : Nat → Nat → Int64} {x y : Nat} {R : Option Value → mH → Prop} (hd : 2 ≤ d) (hx : x < 60) (hy : y < 60) (H1 : (¬ f 102 x = f 102 y ∧ mx (f 104 x) (f 104 y) < mn (f 105 x) (f 105 y)) → R (some (.int 1)) (shF L, f, g)) (H0 : ¬ (¬ f 102 x = f 102 y ∧ mx (f 104 x) (f 104 y) < mn (f 105 x) (f 105 y)) → R (some (.int 0)) (shF L, f, g)) : Run mtab d 47 [.ref 100, .int (nI x), .int (nI y)] (shF L, f, g) R := by
  obtain ⟨d, rfl⟩ : ∃ e, d = e + 1 := ⟨d - 1, by omega⟩
  refine go_X5_areTwoAtOnce rfl ?_
  conv => whnf
  have hcx : (nI x).toNatClampNeg = x := nI_clamp (by omega)
  have hcy : (nI y).toNatClampNeg = y := nI_clamp (by omega)
  refine ⟨vp_in_nI (by omega) (by decide), ?_⟩
  conv => whnf
  refine ⟨vp_in_nI (by omega) (by decide), ?_⟩
  conv => whnf
  refine rp_max (by omega) ?_
  conv => whnf
  refine ⟨vp_in_nI (by omega) (by decide), ?_⟩
  conv => whnf
  refine ⟨vp_in_nI (by omega) (by decide), ?_⟩
  conv => whnf
  refine rp_min (by omega) ?_
  conv => whnf
  refine ⟨vp_in_nI (by omega) (by decide), ?_⟩
  conv => whnf
  refine ⟨vp_in_nI (by omega) (by decide), ?_⟩
  conv => whnf
  simp only [hcx, hcy]
  refine ⟨fun c => ?_, fun c => ?_⟩
  · conv => whnf
    exact ⟨Or.inl rfl, H0 (fun z => z.1 c)⟩
  · conv => whnf
    refine ⟨fun c2 => ?_, fun c2 => ?_⟩
    · conv => whnf
      exact ⟨Or.inl rfl, H0 (fun z => absurd z.2 (i32_nlt.mpr c2))⟩
    · conv => whnf
      exact ⟨Or.inr rfl, H1 ⟨c, i32_nle.mp c2⟩⟩
set_option maxRecDepth 100000 in
theorem tc_in {d L h p : Nat} {f : Nat → Nat → Int32} {g : Nat → Nat → Int64} {w C : Int32} {R : Option Value → mH → Prop} (hd : 2 ≤ d) (hb : f 100 6 = nI h) (hm : h ≤ 60) (hp : p < h) (HO : R (some (.int C)) (shF L, f, g) → ∀ (x : Int32) (s : Option Value), x = nI (p + 1) → WPe pg_X5_firstTwoAtOnce none (Run mtab d) R (m_drop pg_X5_firstTwoAtOnce 2) [some (.ref 100), some (.int w), some (.int x), s] [] (shF L, f, g)) :
    ∀ (k i : Nat) (x : Int32), i + k = h → x = nI i → R (some (.int (twi (QC f w) p C k i))) (shF L, f, g) → WPe pg_X5_firstTwoAtOnce none (Run mtab d) R (m_drop pg_X5_firstTwoAtOnce 10) [some (.ref 100), some (.int w), some (.int (nI p)), some (.int x)] [] (shF L, f, g)
  | 0, i, x, hi, hx, H => by
    have e : i = h := by omega
    subst hx
    subst e
    refine at_X5_firstTwoAtOnce ?_
    conv => whnf
    simp only [hb]
    refine ⟨fun c => ?_, fun c => absurd (nI_le (Nat.le_refl _) (by omega)) c⟩
    conv => whnf
    exact HO H _ _ (nI_1 p)
  | k + 1, i, x, hi, hx, H => by
    subst hx
    have hcp : (nI p).toNatClampNeg = p := nI_clamp (by omega)
    have hci : (nI i).toNatClampNeg = i := nI_clamp (by omega)
    have no : ¬ QC f w p i → WPe pg_X5_firstTwoAtOnce none (Run mtab d) R (m_drop pg_X5_firstTwoAtOnce 10) [some (.ref 100), some (.int w), some (.int (nI p)), some (.int (nI i + 1))] [] (shF L, f, g) := fun z => tc_in hd hb hm hp HO k (i + 1) _ (by omega) (nI_1 i) ((ci_f (a := 100 * nI p + nI i) (b := twi (QC f w) p C k (i + 1)) z) ▸ H)
    refine at_X5_firstTwoAtOnce ?_
    conv => whnf
    simp only [hb]
    refine ⟨fun c => absurd c (nI_ge (b := h) (by omega) (by omega)), fun c => ?_⟩
    conv => whnf
    refine ⟨vp_in_nI (by omega) (by decide), ?_⟩
    conv => whnf
    simp only [hcp]
    refine ⟨fun c1 => ?_, fun c1 => ?_⟩
    · conv => whnf
      exact no (fun z => c1 z.1.1)
    · conv => whnf
      refine ⟨vp_in_nI (by omega) (by decide), ?_⟩
      conv => whnf
      simp only [hci]
      refine ⟨fun c2 => ?_, fun c2 => ?_⟩
      · conv => whnf
        exact no (fun z => c2 z.1.2)
      · conv => whnf
        refine sf_areTwo (by omega) (by omega) (by omega) (fun z => ?_) (fun z => ?_)
        · conv => whnf
          refine ⟨fun c => absurd c (by decide), fun _ => ?_⟩
          conv => whnf
          have H2 : R (some (.int (ci (QC f w p i) (100 * nI p + nI i) (twi (QC f w) p C k (i + 1))))) (shF L, f, g) := H
          rw [ci_t (p := QC f w p i) ⟨⟨c1, c2⟩, z⟩] at H2
          exact H2
        · conv => whnf
          refine ⟨fun _ => ?_, fun c => absurd rfl c⟩
          conv => whnf
          exact no (fun q => z q.2)
set_option maxRecDepth 100000 in
theorem tc_lp {d L h : Nat} {f : Nat → Nat → Int32} {g : Nat → Nat → Int64} {w : Int32} {R : Option Value → mH → Prop} (hd : 2 ≤ d) (hb : f 100 6 = nI h) (hm : h ≤ 60) :
    ∀ (k i : Nat) (x : Int32) (s : Option Value), i + k = h → x = nI i → R (some (.int (two (QC f w) h k i))) (shF L, f, g) → WPe pg_X5_firstTwoAtOnce none (Run mtab d) R (m_drop pg_X5_firstTwoAtOnce 2) [some (.ref 100), some (.int w), some (.int x), s] [] (shF L, f, g)
  | 0, i, x, s, hi, hx, H => by
    have e : i = h := by omega
    subst hx
    subst e
    refine at_X5_firstTwoAtOnce ?_
    conv => whnf
    simp only [hb]
    refine ⟨fun c => ?_, fun c => absurd (nI_le (Nat.le_refl _) (by omega)) c⟩
    conv => whnf
    exact H
  | k + 1, i, x, s, hi, hx, H => by
    subst hx
    refine at_X5_firstTwoAtOnce ?_
    conv => whnf
    simp only [hb]
    refine ⟨fun c => absurd c (nI_ge (b := h) (by omega) (by omega)), fun c => ?_⟩
    conv => whnf
    exact tc_in (p := i) hd hb hm (by omega) (fun H2 x s hx => tc_lp hd hb hm k (i + 1) x s (by omega) hx H2) (h - (i + 1)) (i + 1) _ (by omega) (nI_1 i) H
theorem mx_le {a b : Int32} (h : a ≤ b) : mx a b = b := by
  unfold mx
  by_cases q : a < b
  · rw [if_pos q]
  · rw [if_neg q]
    exact Int32.le_antisymm h (i32_nlt.mp q)
theorem mx_nle {a b : Int32} (h : ¬ a ≤ b) : mx a b = a := by
  unfold mx
  rw [if_neg (fun q => h (Int32.le_of_lt q))]
theorem mn_ge {a b : Int32} (h : b ≤ a) : mn a b = b := by
  unfold mn
  by_cases q : b < a
  · rw [if_pos q]
  · rw [if_neg q]
    exact (Int32.le_antisymm h (i32_nlt.mp q)).symm
theorem mn_nge {a b : Int32} (h : ¬ b ≤ a) : mn a b = a := by
  unfold mn
  rw [if_neg (fun q => h (Int32.le_of_lt q))]
set_option maxRecDepth 100000 in
set_option maxHeartbeats 4000000 in
theorem tm_in {d L h p : Nat} {f : Nat → Nat → Int32} {g : Nat → Nat → Int64} {w C : Int32} {R : Option Value → mH → Prop} (hd : 2 ≤ d) (hb : f 181 14 = nI h) (hm : h ≤ 60) (hp : p < h) (HO : R (some (.int C)) (shF L, f, g) → ∀ (x : Int32) (s3 s4 s5 s6 s7 : Option Value), x = nI (p + 1) → WPe pg_X11_twice none (Run mtab d) R (m_drop pg_X11_twice 8) [some (.ref 181), some (.int w), some (.int x), s3, s4, s5, s6, s7] [] (shF L, f, g)) :
    ∀ (k i : Nat) (x : Int32) (s4 s5 s6 s7 : Option Value), i + k = h → x = nI i → R (some (.int (twi (QM f w) p C k i))) (shF L, f, g) → WPe pg_X11_twice none (Run mtab d) R (m_drop pg_X11_twice 16) [some (.ref 181), some (.int w), some (.int (nI p)), some (.int x), s4, s5, s6, s7] [] (shF L, f, g)
  | 0, i, x, s4, s5, s6, s7, hi, hx, H => by
    have e : i = h := by omega
    subst hx
    subst e
    refine at_X11_twice ?_
    conv => whnf
    simp only [hb]
    refine ⟨fun c => ?_, fun c => absurd (nI_le (Nat.le_refl _) (by omega)) c⟩
    conv => whnf
    exact HO H _ _ _ _ _ _ (nI_1 p)
  | k + 1, i, x, s4, s5, s6, s7, hi, hx, H => by
    subst hx
    have hp0 : (nI (6 * p)).toNatClampNeg = 6 * p := nI_clamp (by omega)
    have hp1 : (nI (6 * p + 1)).toNatClampNeg = 6 * p + 1 := nI_clamp (by omega)
    have hp3 : (nI (6 * p + 3)).toNatClampNeg = 6 * p + 3 := nI_clamp (by omega)
    have hp4 : (nI (6 * p + 4)).toNatClampNeg = 6 * p + 4 := nI_clamp (by omega)
    have hq0 : (nI (6 * i)).toNatClampNeg = 6 * i := nI_clamp (by omega)
    have hq1 : (nI (6 * i + 1)).toNatClampNeg = 6 * i + 1 := nI_clamp (by omega)
    have hq3 : (nI (6 * i + 3)).toNatClampNeg = 6 * i + 3 := nI_clamp (by omega)
    have hq4 : (nI (6 * i + 4)).toNatClampNeg = 6 * i + 4 := nI_clamp (by omega)
    have no : ¬ QM f w p i → ∀ s4 s5 s6 s7 : Option Value, WPe pg_X11_twice none (Run mtab d) R (m_drop pg_X11_twice 16) [some (.ref 181), some (.int w), some (.int (nI p)), some (.int (nI i + 1)), s4, s5, s6, s7] [] (shF L, f, g) := fun z s4 s5 s6 s7 => tm_in hd hb hm hp HO k (i + 1) _ s4 s5 s6 s7 (by omega) (nI_1 i) ((ci_f (a := 100 * nI p + nI i) (b := twi (QM f w) p C k (i + 1)) z) ▸ H)
    refine at_X11_twice ?_
    conv => whnf
    simp only [hb]
    refine ⟨fun c => absurd c (nI_ge (b := h) (by omega) (by omega)), fun c => ?_⟩
    conv => whnf
    (try simp only [nI_6m, nI_1, nI_k _ 3 3 rfl, nI_k _ 4 4 rfl])
    refine ⟨vp_in_nI (by omega) (by decide), ?_⟩
    conv => whnf
    (try simp only [nI_6m, nI_1, nI_k _ 3 3 rfl, nI_k _ 4 4 rfl])
    refine ⟨vp_in_nI (by omega) (by decide), ?_⟩
    conv => whnf
    simp only [hp0, hp1, hp3, hp4, hq0, hq1, hq3, hq4]
    refine ⟨fun c1 => ?_, fun c1 => ?_⟩
    · conv => whnf
      (try simp only [nI_6m, nI_1, nI_k _ 3 3 rfl, nI_k _ 4 4 rfl])
      refine ⟨vp_in_nI (by omega) (by decide), ?_⟩
      conv => whnf
      simp only [hp0, hp1, hp3, hp4, hq0, hq1, hq3, hq4]
      (try simp only [nI_6m, nI_1, nI_k _ 3 3 rfl, nI_k _ 4 4 rfl])
      refine ⟨vp_in_nI (by omega) (by decide), ?_⟩
      conv => whnf
      (try simp only [nI_6m, nI_1, nI_k _ 3 3 rfl, nI_k _ 4 4 rfl])
      refine ⟨vp_in_nI (by omega) (by decide), ?_⟩
      conv => whnf
      simp only [hp0, hp1, hp3, hp4, hq0, hq1, hq3, hq4]
      refine ⟨fun c2 => ?_, fun c2 => ?_⟩
      · conv => whnf
        (try simp only [nI_6m, nI_1, nI_k _ 3 3 rfl, nI_k _ 4 4 rfl])
        refine ⟨vp_in_nI (by omega) (by decide), ?_⟩
        conv => whnf
        simp only [hp0, hp1, hp3, hp4, hq0, hq1, hq3, hq4]
        have ef := mx_le c1
        have et := mn_ge c2
        (try simp only [nI_6m, nI_1, nI_k _ 3 3 rfl, nI_k _ 4 4 rfl])
        refine ⟨vp_in_nI (by omega) (by decide), ?_⟩
        conv => whnf
        simp only [hp0, hp1, hp3, hp4, hq0, hq1, hq3, hq4]
        refine ⟨fun d1 => ?_, fun d1 => ?_⟩
        · conv => whnf
          exact no (fun z => d1 z.1.1) _ _ _ _
        · conv => whnf
          (try simp only [nI_6m, nI_1, nI_k _ 3 3 rfl, nI_k _ 4 4 rfl])
          refine ⟨vp_in_nI (by omega) (by decide), ?_⟩
          conv => whnf
          simp only [hp0, hp1, hp3, hp4, hq0, hq1, hq3, hq4]
          refine ⟨fun d2 => ?_, fun d2 => ?_⟩
          · conv => whnf
            exact no (fun z => d2 z.1.2) _ _ _ _
          · conv => whnf
            (try simp only [nI_6m, nI_1, nI_k _ 3 3 rfl, nI_k _ 4 4 rfl])
            refine ⟨vp_in_nI (by omega) (by decide), ?_⟩
            conv => whnf
            (try simp only [nI_6m, nI_1, nI_k _ 3 3 rfl, nI_k _ 4 4 rfl])
            refine ⟨vp_in_nI (by omega) (by decide), ?_⟩
            conv => whnf
            simp only [hp0, hp1, hp3, hp4, hq0, hq1, hq3, hq4]
            refine ⟨fun d3 => ?_, fun d3 => ?_⟩
            · conv => whnf
              exact no (fun z => z.2.1 d3) _ _ _ _
            · conv => whnf
              refine ⟨fun d4 => ?_, fun d4 => ?_⟩
              · conv => whnf
                exact no (fun z => absurd (ef ▸ et ▸ z.2.2) (i32_nlt.mpr d4)) _ _ _ _
              · conv => whnf
                have H2 : R (some (.int (ci (QM f w p i) (100 * nI p + nI i) (twi (QM f w) p C k (i + 1))))) (shF L, f, g) := H
                rw [ci_t (p := QM f w p i) ⟨⟨d1, d2⟩, d3, by rw [ef, et]; exact i32_nle.mp d4⟩] at H2
                exact H2
      · conv => whnf
        (try simp only [nI_6m, nI_1, nI_k _ 3 3 rfl, nI_k _ 4 4 rfl])
        refine ⟨vp_in_nI (by omega) (by decide), ?_⟩
        conv => whnf
        simp only [hp0, hp1, hp3, hp4, hq0, hq1, hq3, hq4]
        have ef := mx_le c1
        have et := mn_nge c2
        (try simp only [nI_6m, nI_1, nI_k _ 3 3 rfl, nI_k _ 4 4 rfl])
        refine ⟨vp_in_nI (by omega) (by decide), ?_⟩
        conv => whnf
        simp only [hp0, hp1, hp3, hp4, hq0, hq1, hq3, hq4]
        refine ⟨fun d1 => ?_, fun d1 => ?_⟩
        · conv => whnf
          exact no (fun z => d1 z.1.1) _ _ _ _
        · conv => whnf
          (try simp only [nI_6m, nI_1, nI_k _ 3 3 rfl, nI_k _ 4 4 rfl])
          refine ⟨vp_in_nI (by omega) (by decide), ?_⟩
          conv => whnf
          simp only [hp0, hp1, hp3, hp4, hq0, hq1, hq3, hq4]
          refine ⟨fun d2 => ?_, fun d2 => ?_⟩
          · conv => whnf
            exact no (fun z => d2 z.1.2) _ _ _ _
          · conv => whnf
            (try simp only [nI_6m, nI_1, nI_k _ 3 3 rfl, nI_k _ 4 4 rfl])
            refine ⟨vp_in_nI (by omega) (by decide), ?_⟩
            conv => whnf
            (try simp only [nI_6m, nI_1, nI_k _ 3 3 rfl, nI_k _ 4 4 rfl])
            refine ⟨vp_in_nI (by omega) (by decide), ?_⟩
            conv => whnf
            simp only [hp0, hp1, hp3, hp4, hq0, hq1, hq3, hq4]
            refine ⟨fun d3 => ?_, fun d3 => ?_⟩
            · conv => whnf
              exact no (fun z => z.2.1 d3) _ _ _ _
            · conv => whnf
              refine ⟨fun d4 => ?_, fun d4 => ?_⟩
              · conv => whnf
                exact no (fun z => absurd (ef ▸ et ▸ z.2.2) (i32_nlt.mpr d4)) _ _ _ _
              · conv => whnf
                have H2 : R (some (.int (ci (QM f w p i) (100 * nI p + nI i) (twi (QM f w) p C k (i + 1))))) (shF L, f, g) := H
                rw [ci_t (p := QM f w p i) ⟨⟨d1, d2⟩, d3, by rw [ef, et]; exact i32_nle.mp d4⟩] at H2
                exact H2
    · conv => whnf
      (try simp only [nI_6m, nI_1, nI_k _ 3 3 rfl, nI_k _ 4 4 rfl])
      refine ⟨vp_in_nI (by omega) (by decide), ?_⟩
      conv => whnf
      simp only [hp0, hp1, hp3, hp4, hq0, hq1, hq3, hq4]
      (try simp only [nI_6m, nI_1, nI_k _ 3 3 rfl, nI_k _ 4 4 rfl])
      refine ⟨vp_in_nI (by omega) (by decide), ?_⟩
      conv => whnf
      (try simp only [nI_6m, nI_1, nI_k _ 3 3 rfl, nI_k _ 4 4 rfl])
      refine ⟨vp_in_nI (by omega) (by decide), ?_⟩
      conv => whnf
      simp only [hp0, hp1, hp3, hp4, hq0, hq1, hq3, hq4]
      refine ⟨fun c2 => ?_, fun c2 => ?_⟩
      · conv => whnf
        (try simp only [nI_6m, nI_1, nI_k _ 3 3 rfl, nI_k _ 4 4 rfl])
        refine ⟨vp_in_nI (by omega) (by decide), ?_⟩
        conv => whnf
        simp only [hp0, hp1, hp3, hp4, hq0, hq1, hq3, hq4]
        have ef := mx_nle c1
        have et := mn_ge c2
        (try simp only [nI_6m, nI_1, nI_k _ 3 3 rfl, nI_k _ 4 4 rfl])
        refine ⟨vp_in_nI (by omega) (by decide), ?_⟩
        conv => whnf
        simp only [hp0, hp1, hp3, hp4, hq0, hq1, hq3, hq4]
        refine ⟨fun d1 => ?_, fun d1 => ?_⟩
        · conv => whnf
          exact no (fun z => d1 z.1.1) _ _ _ _
        · conv => whnf
          (try simp only [nI_6m, nI_1, nI_k _ 3 3 rfl, nI_k _ 4 4 rfl])
          refine ⟨vp_in_nI (by omega) (by decide), ?_⟩
          conv => whnf
          simp only [hp0, hp1, hp3, hp4, hq0, hq1, hq3, hq4]
          refine ⟨fun d2 => ?_, fun d2 => ?_⟩
          · conv => whnf
            exact no (fun z => d2 z.1.2) _ _ _ _
          · conv => whnf
            (try simp only [nI_6m, nI_1, nI_k _ 3 3 rfl, nI_k _ 4 4 rfl])
            refine ⟨vp_in_nI (by omega) (by decide), ?_⟩
            conv => whnf
            (try simp only [nI_6m, nI_1, nI_k _ 3 3 rfl, nI_k _ 4 4 rfl])
            refine ⟨vp_in_nI (by omega) (by decide), ?_⟩
            conv => whnf
            simp only [hp0, hp1, hp3, hp4, hq0, hq1, hq3, hq4]
            refine ⟨fun d3 => ?_, fun d3 => ?_⟩
            · conv => whnf
              exact no (fun z => z.2.1 d3) _ _ _ _
            · conv => whnf
              refine ⟨fun d4 => ?_, fun d4 => ?_⟩
              · conv => whnf
                exact no (fun z => absurd (ef ▸ et ▸ z.2.2) (i32_nlt.mpr d4)) _ _ _ _
              · conv => whnf
                have H2 : R (some (.int (ci (QM f w p i) (100 * nI p + nI i) (twi (QM f w) p C k (i + 1))))) (shF L, f, g) := H
                rw [ci_t (p := QM f w p i) ⟨⟨d1, d2⟩, d3, by rw [ef, et]; exact i32_nle.mp d4⟩] at H2
                exact H2
      · conv => whnf
        (try simp only [nI_6m, nI_1, nI_k _ 3 3 rfl, nI_k _ 4 4 rfl])
        refine ⟨vp_in_nI (by omega) (by decide), ?_⟩
        conv => whnf
        simp only [hp0, hp1, hp3, hp4, hq0, hq1, hq3, hq4]
        have ef := mx_nle c1
        have et := mn_nge c2
        (try simp only [nI_6m, nI_1, nI_k _ 3 3 rfl, nI_k _ 4 4 rfl])
        refine ⟨vp_in_nI (by omega) (by decide), ?_⟩
        conv => whnf
        simp only [hp0, hp1, hp3, hp4, hq0, hq1, hq3, hq4]
        refine ⟨fun d1 => ?_, fun d1 => ?_⟩
        · conv => whnf
          exact no (fun z => d1 z.1.1) _ _ _ _
        · conv => whnf
          (try simp only [nI_6m, nI_1, nI_k _ 3 3 rfl, nI_k _ 4 4 rfl])
          refine ⟨vp_in_nI (by omega) (by decide), ?_⟩
          conv => whnf
          simp only [hp0, hp1, hp3, hp4, hq0, hq1, hq3, hq4]
          refine ⟨fun d2 => ?_, fun d2 => ?_⟩
          · conv => whnf
            exact no (fun z => d2 z.1.2) _ _ _ _
          · conv => whnf
            (try simp only [nI_6m, nI_1, nI_k _ 3 3 rfl, nI_k _ 4 4 rfl])
            refine ⟨vp_in_nI (by omega) (by decide), ?_⟩
            conv => whnf
            (try simp only [nI_6m, nI_1, nI_k _ 3 3 rfl, nI_k _ 4 4 rfl])
            refine ⟨vp_in_nI (by omega) (by decide), ?_⟩
            conv => whnf
            simp only [hp0, hp1, hp3, hp4, hq0, hq1, hq3, hq4]
            refine ⟨fun d3 => ?_, fun d3 => ?_⟩
            · conv => whnf
              exact no (fun z => z.2.1 d3) _ _ _ _
            · conv => whnf
              refine ⟨fun d4 => ?_, fun d4 => ?_⟩
              · conv => whnf
                exact no (fun z => absurd (ef ▸ et ▸ z.2.2) (i32_nlt.mpr d4)) _ _ _ _
              · conv => whnf
                have H2 : R (some (.int (ci (QM f w p i) (100 * nI p + nI i) (twi (QM f w) p C k (i + 1))))) (shF L, f, g) := H
                rw [ci_t (p := QM f w p i) ⟨⟨d1, d2⟩, d3, by rw [ef, et]; exact i32_nle.mp d4⟩] at H2
                exact H2
set_option maxRecDepth 100000 in
theorem tm_lp {d L h : Nat} {f : Nat → Nat → Int32} {g : Nat → Nat → Int64} {w : Int32} {R : Option Value → mH → Prop} (hd : 2 ≤ d) (hb : f 181 14 = nI h) (hm : h ≤ 60) :
    ∀ (k i : Nat) (x : Int32) (s3 s4 s5 s6 s7 : Option Value), i + k = h → x = nI i → R (some (.int (two (QM f w) h k i))) (shF L, f, g) → WPe pg_X11_twice none (Run mtab d) R (m_drop pg_X11_twice 8) [some (.ref 181), some (.int w), some (.int x), s3, s4, s5, s6, s7] [] (shF L, f, g)
  | 0, i, x, s3, s4, s5, s6, s7, hi, hx, H => by
    have e : i = h := by omega
    subst hx
    subst e
    refine at_X11_twice ?_
    conv => whnf
    simp only [hb]
    refine ⟨fun c => ?_, fun c => absurd (nI_le (Nat.le_refl _) (by omega)) c⟩
    conv => whnf
    exact H
  | k + 1, i, x, s3, s4, s5, s6, s7, hi, hx, H => by
    subst hx
    refine at_X11_twice ?_
    conv => whnf
    simp only [hb]
    refine ⟨fun c => absurd c (nI_ge (b := h) (by omega) (by omega)), fun c => ?_⟩
    conv => whnf
    exact tm_in (p := i) hd hb hm (by omega) (fun H2 x s3 s4 s5 s6 s7 hx => tm_lp hd hb hm k (i + 1) x s3 s4 s5 s6 s7 (by omega) hx H2) (h - (i + 1)) (i + 1) _ _ _ _ _ (by omega) (nI_1 i) H
def SX_twice (n h : Nat) (f : Nat → Nat → Int32) (x1 v : Int32) : Prop := (¬ hasw n x1 ∧ v = -1) ∨ (hasw n x1 ∧ v = two (QC f x1) h h 0)
def SM_twice (n h : Nat) (f : Nat → Nat → Int32) (x1 v : Int32) : Prop := (¬ hasw n x1 ∧ v = -1) ∨ (hasw n x1 ∧ v = two (QM f x1) h h 0)
def SX_gap (n h : Nat) (f : Nat → Nat → Int32) (x1 x2 v : Int32) : Prop := (¬ (hasw n x1 ∧ inr 1800 1999 x2) ∧ v = -1) ∨ (hasw n x1 ∧ ∃ j, j ≤ 1999 ∧ x2 = nI j ∧ inr 1800 1999 x2 ∧ v = gapl (fun y => mayl (PO f 103 106 x1 y) (fun i => f 102 i) h 0 0) (2000 - j) j)
def SM_gap (n h : Nat) (f : Nat → Nat → Int32) (x1 x2 v : Int32) : Prop := (¬ (hasw n x1 ∧ inr 1800 1999 x2) ∧ v = -1) ∨ (hasw n x1 ∧ ∃ j, j ≤ 1999 ∧ x2 = nI j ∧ inr 1800 1999 x2 ∧ v = gapl (fun y => mayl (PM f 2 5 x1 y) (fun i => f 195 (6 * i + 1)) h 0 0) (2000 - j) j)
set_option maxRecDepth 100000 in
set_option maxHeartbeats 4000000 in
theorem sf_firstTwo {d L : Nat} {f : Nat → Nat → Int32} {g : Nat → Nat → Int64} {h : Nat} {w : Int32} {R : Option Value → mH → Prop} (hd : 3 ≤ d) (hhb : f 100 6 = nI h) (hhm : h ≤ 60) (H : R (some (.int (two (QC f w) h h 0))) (shF L, f, g)) : Run mtab d 46 [.ref 100, .int w] (shF L, f, g) R := by
  obtain ⟨d, rfl⟩ : ∃ e, d = e + 1 := ⟨d - 1, by omega⟩
  refine go_X5_firstTwoAtOnce rfl ?_
  conv => whnf
  exact tc_lp (by omega) hhb hhm h 0 _ _ (by omega) rfl H
set_option maxRecDepth 100000 in
set_option maxHeartbeats 4000000 in
theorem sf_firstGap {d L : Nat} {f : Nat → Nat → Int32} {g : Nat → Nat → Int64} {h j : Nat} {w y : Int32} {R : Option Value → mH → Prop} (hd : 3 ≤ d) (hj : j ≤ 1999) (e : y = nI j) (hhb : f 100 6 = nI h) (hhm : h ≤ 60) (H : R (some (.int (gapl (fun y => mayl (PO f 103 106 w y) (fun i => f 102 i) h 0 0) (2000 - j) j))) (shF L, f, g)) : Run mtab d 48 [.ref 100, .int w, .int y] (shF L, f, g) R := by
  obtain ⟨d, rfl⟩ : ∃ e, d = e + 1 := ⟨d - 1, by omega⟩
  refine go_X5_firstGap rfl ?_
  conv => whnf
  exact fg_lp (by omega) hhb hhm (2000 - j) j _ (by omega) e H
set_option maxRecDepth 100000 in
set_option maxHeartbeats 4000000 in
theorem sf_twice {d L : Nat} {f : Nat → Nat → Int32} {g : Nat → Nat → Int64} {n h : Nat} {x1 : Int32} {R : Option Value → mH → Prop} (hd : 6 ≤ d) (hb : f 6 13 = nI n) (hm : n ≤ 40) (hhb : f 100 6 = nI h) (hhm : h ≤ 60) (H : ∀ v, SX_twice n h f x1 v → R (some (.int v)) (shF L, f, g)) : Run mtab d 102 [.ref 5, .int x1] (shF L, f, g) R := by
  obtain ⟨d, rfl⟩ : ∃ e, d = e + 1 := ⟨d - 1, by omega⟩
  refine go_X10_twice rfl ?_
  conv => whnf
  repeat' first
    | ((with_reducible refine ⟨vp_in_nI (by omega) (by decide), ?_⟩) <;> conv => whnf)
    | (refine ⟨Or.inl rfl, ?_⟩ <;> conv => whnf)
    | (refine ⟨Or.inr rfl, ?_⟩ <;> conv => whnf)
    | (refine ⟨Or.inl True.intro, ?_⟩ <;> conv => whnf)
    | (refine ⟨Or.inr True.intro, ?_⟩ <;> conv => whnf)
    | (refine ⟨fun c => ?_, fun c => ?_⟩ <;> first | ((have c9 : (1 : Int32) = 0 := by with_reducible exact c); exact absurd c9 (by decide)) | exact absurd (rfl : (0 : Int32) = 0) (by with_reducible exact c) | exact absurd True.intro (by with_reducible exact c) | exact False.elim (by with_reducible exact c) | (conv => whnf))
    | (refine ct_has (by omega) hb hm (fun j hj e => ?_) (fun q => ?_) <;> (try subst e) <;> conv => whnf)
    | (refine sf_firstTwo (by omega) hhb hhm ?_ <;> conv => whnf)
    | (refine ⟨by unfold vp_in; decide, ?_⟩ <;> conv => whnf)
    | fail
  all_goals first | exact H _ (Or.inl ⟨nhasw (by with_reducible assumption), rfl⟩) | exact H _ (Or.inr ⟨⟨_, hj, rfl⟩, rfl⟩)
set_option maxRecDepth 100000 in
set_option maxHeartbeats 4000000 in
theorem sf_gap {d L : Nat} {f : Nat → Nat → Int32} {g : Nat → Nat → Int64} {n h : Nat} {x1 x2 : Int32} {R : Option Value → mH → Prop} (hd : 6 ≤ d) (hb : f 6 13 = nI n) (hm : n ≤ 40) (hhb : f 100 6 = nI h) (hhm : h ≤ 60) (H : ∀ v, SX_gap n h f x1 x2 v → R (some (.int v)) (shF L, f, g)) : Run mtab d 103 [.ref 5, .int x1, .int x2] (shF L, f, g) R := by
  obtain ⟨d, rfl⟩ : ∃ e, d = e + 1 := ⟨d - 1, by omega⟩
  refine go_X10_gap rfl ?_
  conv => whnf
  repeat' first
    | ((with_reducible refine ⟨vp_in_nI (by omega) (by decide), ?_⟩) <;> conv => whnf)
    | (refine ⟨Or.inl rfl, ?_⟩ <;> conv => whnf)
    | (refine ⟨Or.inr rfl, ?_⟩ <;> conv => whnf)
    | (refine ⟨Or.inl True.intro, ?_⟩ <;> conv => whnf)
    | (refine ⟨Or.inr True.intro, ?_⟩ <;> conv => whnf)
    | (refine ⟨fun c => ?_, fun c => ?_⟩ <;> first | ((have c9 : (1 : Int32) = 0 := by with_reducible exact c); exact absurd c9 (by decide)) | exact absurd (rfl : (0 : Int32) = 0) (by with_reducible exact c) | exact absurd True.intro (by with_reducible exact c) | exact False.elim (by with_reducible exact c) | (conv => whnf))
    | (refine ct_has (by omega) hb hm (fun j hj e => ?_) (fun q => ?_) <;> (try subst e) <;> conv => whnf)
    | (refine ct_isYear (by omega) (fun p => ?_) (fun p => ?_) <;> conv => whnf)
    | ((obtain ⟨j9, hj9, e9⟩ := yr_nat ‹inr 1800 1999 x2›); refine sf_firstGap (by omega) hj9 e9 hhb hhm ?_ <;> conv => whnf)
    | (refine ⟨by unfold vp_in; decide, ?_⟩ <;> conv => whnf)
    | fail
  all_goals first | exact H _ (Or.inl ⟨fun hh => absurd hh.1 (nhasw (by with_reducible assumption)), rfl⟩) | exact H _ (Or.inl ⟨fun hh => absurd hh.2 (by with_reducible assumption), rfl⟩) | exact H _ (Or.inr ⟨⟨_, hj, rfl⟩, j9, hj9, e9, by with_reducible assumption, rfl⟩)
set_option maxRecDepth 100000 in
set_option maxHeartbeats 4000000 in
theorem smf_twice {d L : Nat} {f : Nat → Nat → Int32} {g : Nat → Nat → Int64} {n h : Nat} {x1 : Int32} {R : Option Value → mH → Prop} (hd : 6 ≤ d) (hb : f 181 0 = nI n) (hm : n ≤ 40) (hhb : f 181 14 = nI h) (hhm : h ≤ 60) (H : ∀ v, SM_twice n h f x1 v → R (some (.int v)) (shF L, f, g)) : Run mtab d 174 [.ref 181, .int x1] (shF L, f, g) R := by
  obtain ⟨d, rfl⟩ : ∃ e, d = e + 1 := ⟨d - 1, by omega⟩
  refine go_X11_twice rfl ?_
  conv => whnf
  refine ct_mIsWork (by omega) hb hm (fun j hj e => ?_) (fun q => ?_)
  · subst e
    conv => whnf
    refine ⟨fun _ => ?_, fun c => absurd c (by decide)⟩
    conv => whnf
    exact tm_lp (by omega) hhb hhm h 0 _ _ _ _ _ _ (by omega) rfl (H _ (Or.inr ⟨⟨j, hj, rfl⟩, rfl⟩))
  · conv => whnf
    refine ⟨fun c => absurd rfl c, fun _ => ?_⟩
    conv => whnf
    exact H _ (Or.inl ⟨nhasw q, rfl⟩)
set_option maxRecDepth 100000 in
set_option maxHeartbeats 4000000 in
theorem smf_gap {d L : Nat} {f : Nat → Nat → Int32} {g : Nat → Nat → Int64} {n h : Nat} {x1 x2 : Int32} {R : Option Value → mH → Prop} (hd : 6 ≤ d) (hb : f 181 0 = nI n) (hm : n ≤ 40) (hhb : f 181 14 = nI h) (hhm : h ≤ 60) (H : ∀ v, SM_gap n h f x1 x2 v → R (some (.int v)) (shF L, f, g)) : Run mtab d 175 [.ref 181, .int x1, .int x2] (shF L, f, g) R := by
  obtain ⟨d, rfl⟩ : ∃ e, d = e + 1 := ⟨d - 1, by omega⟩
  refine go_X11_gap rfl ?_
  conv => whnf
  refine ct_mIsWork (by omega) hb hm (fun j hj e => ?_) (fun q => ?_)
  · subst e
    conv => whnf
    refine ⟨fun c => absurd c (by decide), fun _ => ?_⟩
    conv => whnf
    refine ct_mIsYear (by omega) (fun p => ?_) (fun p => ?_)
    · conv => whnf
      refine ⟨fun _ => ?_, fun c => absurd c (by decide)⟩
      obtain ⟨j9, hj9, e9⟩ := yr_nat p
      conv => whnf
      exact mg_lp (by omega) hhb hhm (2000 - j9) j9 _ (by omega) e9 (H _ (Or.inr ⟨⟨j, hj, rfl⟩, j9, hj9, e9, p, rfl⟩))
    · conv => whnf
      refine ⟨fun c => absurd rfl c, fun _ => ?_⟩
      conv => whnf
      exact H _ (Or.inl ⟨fun hh => p hh.2, rfl⟩)
  · conv => whnf
    refine ⟨fun _ => ?_, fun c => absurd rfl c⟩
    conv => whnf
    exact H _ (Or.inl ⟨fun hh => nhasw q hh.1, rfl⟩)
theorem fin_twice {n h : Nat} {f : Nat → Nat → Int32} {x1 v1 v2 : Int32} (hO : RO h f) (s1 : SX_twice n h f x1 v1) (s2 : SM_twice n h f x1 v2) : v1 = v2 := by
  rcases s1 with ⟨q1, rfl⟩ | ⟨p1, rfl⟩
  · rcases s2 with ⟨q2, rfl⟩ | ⟨p2, rfl⟩
    · rfl
    · exact absurd p2 q1
  · rcases s2 with ⟨q2, rfl⟩ | ⟨p2, rfl⟩
    · exact absurd p1 q2
    · exact two_eq (QC_QM hO x1) h 0 (by omega)
theorem fin_gap {n h : Nat} {f : Nat → Nat → Int32} {x1 x2 v1 v2 : Int32} (hO : RO h f) (s1 : SX_gap n h f x1 x2 v1) (s2 : SM_gap n h f x1 x2 v2) : v1 = v2 := by
  rcases s1 with ⟨q1, rfl⟩ | ⟨p1, j, hj, ej, r1, rfl⟩
  · rcases s2 with ⟨q2, rfl⟩ | ⟨p2, j2, hj2, ej2, r2, rfl⟩
    · rfl
    · exact absurd ⟨p2, r2⟩ q1
  · rcases s2 with ⟨q2, rfl⟩ | ⟨p2, j2, hj2, ej2, r2, rfl⟩
    · exact absurd ⟨p1, r1⟩ q2
    · have e : j = j2 := (nI_eq (by omega) (by omega)).mp (ej.symm.trans ej2)
      subst e
      exact gapl_eq (fun y => may_RO hO x1 y) _ _
