/-- years of the works, as numbers -/
def Yh (f : Nat → Nat → Int32) (p n : Nat) : Nat → Int := fun w => if w < n then (f p w).toInt else 0
theorem Yh_t {f : Nat → Nat → Int32} {p n w : Nat} (h : w < n) : Yh f p n w = (f p w).toInt := if_pos h
/-- the clues that count, in the class's list: q i is the i-th -/
def eA (f : Nat → Nat → Int32) (q : Nat → Nat) : Nat → Bool := fun i => decide (f 137 (q i) = 0)
def eU (f : Nat → Nat → Int32) (q : Nat → Nat) : Nat → Nat := fun i => (f 130 (q i)).toNatClampNeg
def eV (f : Nat → Nat → Int32) (q : Nat → Nat) : Nat → Nat := fun i => (f 131 (q i)).toNatClampNeg
def eD (f : Nat → Nat → Int32) (q : Nat → Nat) : Nat → Int := fun i => (f 132 (q i)).toInt
def CT (f : Nat → Nat → Int32) (n m : Nat) (q : Nat → Nat) : Prop := n ≤ 40 ∧ m ≤ 20 ∧ f 6 13 = nI n ∧ f 129 11 = nI m ∧ (∀ i, i < m → q i < 20 ∧ f 136 i = nI (q i) ∧ (∃ x, x < n ∧ f 130 (q i) = nI x) ∧ (∃ y, y < n ∧ f 131 (q i) = nI y) ∧ inr (-30) 30 (f 132 (q i))) ∧ (∀ j, j < n → inr 1800 1999 (f 11 j) ∧ inr 1800 1999 (f 12 j) ∧ f 11 j ≤ f 12 j)
/-- only the least years differ from f0 -/
def o134 (f0 f : Nat → Nat → Int32) : Prop := ∀ a i, ¬ a = 134 → f a i = f0 a i
theorem i30 {d : Int32} (h : inr (-30) 30 d) : -30 ≤ d.toInt ∧ d.toInt ≤ 30 := ⟨Int32.le_iff_toInt_le.mp h.1, Int32.le_iff_toInt_le.mp h.2⟩
theorem i1800 {d : Int32} (h : inr 1800 1999 d) : 1800 ≤ d.toInt ∧ d.toInt ≤ 1999 := ⟨Int32.le_iff_toInt_le.mp h.1, Int32.le_iff_toInt_le.mp h.2⟩
theorem add_int {x d : Int32} (h1 : 1700 ≤ x.toInt) (h2 : x.toInt ≤ 2100) (h3 : -30 ≤ d.toInt) (h4 : d.toInt ≤ 30) : (x + d).toInt = x.toInt + d.toInt := by
  rw [Int32.toInt_add]
  exact Int.bmod_eq_of_le (by omega) (by omega)
theorem sub_int {x d : Int32} (h1 : 1700 ≤ x.toInt) (h2 : x.toInt ≤ 2100) (h3 : -30 ≤ d.toInt) (h4 : d.toInt ≤ 30) : (x - d).toInt = x.toInt - d.toInt := by
  rw [Int32.toInt_sub]
  exact Int.bmod_eq_of_le (by omega) (by omega)
theorem Yh_ui {f : Nat → Nat → Int32} {p n y : Nat} {v : Int32} (hy : y < n) : Yh (m_ui f p y v) p n = fun w => if w = y then v.toInt else Yh f p n w := by
  funext w
  unfold Yh
  by_cases h : w < n
  · rw [if_pos h, if_pos h]
    by_cases e : w = y
    · subst e
      rw [m_ui_s, if_pos rfl]
    · rw [m_ui_o (by omega), if_neg e]
  · rw [if_neg h, if_neg h, if_neg (by omega)]
set_option maxRecDepth 100000 in
set_option maxHeartbeats 8000000 in
theorem rl_in {d L n m r : Nat} {f0 : Nat → Nat → Int32} {g : Nat → Nat → Int64} {q : Nat → Nat} {R : Option Value → mH → Prop} (hC : CT f0 n m q)
    (H0 : ¬ (∃ X, Sol m (eA f0 q) (eU f0 q) (eV f0 q) (eD f0 q) X ∧ (∀ w, Yh f0 11 n w ≤ X w) ∧ ∀ w, w < n → X w ≤ Yh f0 12 n w) → ∀ f, o134 f0 f → R (some (.int 0)) (shF L, f, g))
    (HO : ∀ (f : Nat → Nat → Int32) (ch x : Int32) (s4 s5 s6 : Option Value), x = nI m → o134 f0 f → (∀ w, w < n → inr 1800 1999 (f 134 w) ∧ f 134 w ≤ f0 12 w) → Yh f 134 n = rnds m (eA f0 q) (eU f0 q) (eV f0 q) (eD f0 q) (r + 1) (Yh f0 11 n) → ((ch = 0 ∧ ∀ w, Yh f 134 n w = (rnds m (eA f0 q) (eU f0 q) (eV f0 q) (eD f0 q) r (Yh f0 11 n)) w) ∨ (ch = 1 ∧ ∃ w, ¬ Yh f 134 n w = (rnds m (eA f0 q) (eU f0 q) (eV f0 q) (eD f0 q) r (Yh f0 11 n)) w)) → WPe pg_X9_raiseLows none (Run mtab d) R (m_drop pg_X9_raiseLows 21) [some (.ref 129), some (.int (nI r)), some (.int ch), some (.int x), s4, s5, s6] [] (shF L, f, g)) :
    ∀ (k i : Nat) (x ch : Int32) (s4 s5 s6 : Option Value) (f : Nat → Nat → Int32), i + k = m → x = nI i → o134 f0 f → (∀ w, w < n → inr 1800 1999 (f 134 w) ∧ f 134 w ≤ f0 12 w) → Yh f 134 n = rnd_ (eA f0 q) (eU f0 q) (eV f0 q) (eD f0 q) i (rnds m (eA f0 q) (eU f0 q) (eV f0 q) (eD f0 q) r (Yh f0 11 n)) → ((ch = 0 ∧ ∀ w, Yh f 134 n w = (rnds m (eA f0 q) (eU f0 q) (eV f0 q) (eD f0 q) r (Yh f0 11 n)) w) ∨ (ch = 1 ∧ ∃ w, ¬ Yh f 134 n w = (rnds m (eA f0 q) (eU f0 q) (eV f0 q) (eD f0 q) r (Yh f0 11 n)) w)) → WPe pg_X9_raiseLows none (Run mtab d) R (m_drop pg_X9_raiseLows 21) [some (.ref 129), some (.int (nI r)), some (.int ch), some (.int x), s4, s5, s6] [] (shF L, f, g)
  | 0, i, x, ch, s4, s5, s6, f, hi, hx, hF, hr, hL, hch => by
    have e : i = m := by omega
    subst e
    exact HO f ch x s4 s5 s6 hx hF hr hL hch
  | k + 1, i, x, ch, s4, s5, s6, f, hi, hx, hF, hr, hL, hch => by
    subst hx
    obtain ⟨hn, hm, c6, c129, ce, cy⟩ := id hC
    obtain ⟨hq, e136, ⟨xu, hxu, e130⟩, ⟨yv, hyv, e131⟩, e132⟩ := ce i (by omega)
    have hcl : (nI i).toNatClampNeg = i := nI_clamp (by omega)
    have hcq : (nI (q i)).toNatClampNeg = q i := nI_clamp (by omega)
    have hcx : (nI xu).toNatClampNeg = xu := nI_clamp (by omega)
    have hcy : (nI yv).toNatClampNeg = yv := nI_clamp (by omega)
    have g129 : f 129 11 = nI m := (hF 129 11 (by omega)).trans c129
    have g136 : f 136 i = nI (q i) := (hF 136 i (by omega)).trans e136
    have g130 : f 130 (q i) = nI xu := (hF 130 _ (by omega)).trans e130
    have g131 : f 131 (q i) = nI yv := (hF 131 _ (by omega)).trans e131
    have g132 : f 132 (q i) = f0 132 (q i) := hF 132 _ (by omega)
    have g137 : f 137 (q i) = f0 137 (q i) := hF 137 _ (by omega)
    have g12 : f 12 yv = f0 12 yv := hF 12 _ (by omega)
    have hU : eU f0 q i = xu := by
      show (f0 130 (q i)).toNatClampNeg = xu
      rw [e130]
      exact hcx
    have hV : eV f0 q i = yv := by
      show (f0 131 (q i)).toNatClampNeg = yv
      rw [e131]
      exact hcy
    have r1 := i1800 (hr xu hxu).1
    have r2 := i30 e132
    have r3 := i1800 (hr yv hyv).1
    have es : (f 134 xu + f0 132 (q i)).toInt = (f 134 xu).toInt + (f0 132 (q i)).toInt := add_int (by omega) (by omega) r2.1 r2.2
    have same : ¬ (eA f0 q i = true ∧ Yh f 134 n yv < Yh f 134 n xu + eD f0 q i) → Yh f 134 n = rnd_ (eA f0 q) (eU f0 q) (eV f0 q) (eD f0 q) (i + 1) (rnds m (eA f0 q) (eU f0 q) (eV f0 q) (eD f0 q) r (Yh f0 11 n)) := fun z => by
      show Yh f 134 n = rlx (eA f0 q) (eU f0 q) (eV f0 q) (eD f0 q) i (rnd_ (eA f0 q) (eU f0 q) (eV f0 q) (eD f0 q) i (rnds m (eA f0 q) (eU f0 q) (eV f0 q) (eD f0 q) r (Yh f0 11 n)))
      rw [← hL]
      funext w
      unfold rlx
      rw [hU, hV, if_neg (fun y => z y.2)]
    have on : ∀ (s4 s5 s6 : Option Value), ¬ (eA f0 q i = true ∧ Yh f 134 n yv < Yh f 134 n xu + eD f0 q i) → WPe pg_X9_raiseLows none (Run mtab d) R (m_drop pg_X9_raiseLows 21) [some (.ref 129), some (.int (nI r)), some (.int ch), some (.int (nI i + 1)), s4, s5, s6] [] (shF L, f, g) := fun s4 s5 s6 z => rl_in hC H0 HO k (i + 1) _ ch s4 s5 s6 f (by omega) (nI_1 i) hF hr (same z) hch
    refine at_X9_raiseLows ?_
    conv => whnf
    simp only [g129]
    refine ⟨fun c => absurd c (nI_ge (b := m) (by omega) (by omega)), fun c => ?_⟩
    conv => whnf
    refine ⟨vp_in_nI (by omega) (by decide), ?_⟩
    conv => whnf
    simp only [hcl, g136]
    refine ⟨vp_in_nI (by omega) (by decide), ?_⟩
    conv => whnf
    refine ⟨vp_in_nI (by omega) (by decide), ?_⟩
    conv => whnf
    simp only [hcq, g130, g131]
    refine ⟨vp_in_nI (by omega) (by decide), ?_⟩
    conv => whnf
    refine ⟨vp_in_nI (by omega) (by decide), ?_⟩
    conv => whnf
    refine ⟨vp_in_nI (by omega) (by decide), ?_⟩
    conv => whnf
    simp only [hcq, hcx, g132, g137]
    refine ⟨fun c1 => ?_, fun c1 => ?_⟩
    · conv => whnf
      exact on _ _ _ (fun z => c1 (of_decide_eq_true z.1))
    · conv => whnf
      refine ⟨vp_in_nI (by omega) (by decide), ?_⟩
      conv => whnf
      simp only [hcy]
      refine ⟨fun c2 => ?_, fun c2 => ?_⟩
      · conv => whnf
        refine on _ _ _ (fun z => ?_)
        have z2 := z.2
        rw [Yh_t hyv, Yh_t hxu] at z2
        have c3 := Int32.le_iff_toInt_le.mp c2
        rw [es] at c3
        have e9 : eD f0 q i = (f0 132 (q i)).toInt := rfl
        omega
      · have c3 : (f 134 yv).toInt < (f 134 xu).toInt + (f0 132 (q i)).toInt := by
          have := Int32.lt_iff_toInt_lt.mp (i32_nle.mp c2)
          rw [es] at this
          exact this
        have hA : eA f0 q i = true := decide_eq_true c1
        conv => whnf
        refine ⟨vp_in_nI (by omega) (by decide), ?_⟩
        conv => whnf
        simp only [hcy, g12]
        refine ⟨fun c4 => ?_, fun c4 => ?_⟩
        · have c5 := Int32.le_iff_toInt_le.mp c4
          rw [es] at c5
          have b12 := i1800 (cy yv hyv).2.1
          conv => whnf
          refine ⟨vp_in_nI (by omega) (by decide), ?_⟩
          conv => whnf
          simp only [hcy]
          have hL2 : Yh (m_ui f 134 yv (f 134 xu + f0 132 (q i))) 134 n = rnd_ (eA f0 q) (eU f0 q) (eV f0 q) (eD f0 q) (i + 1) (rnds m (eA f0 q) (eU f0 q) (eV f0 q) (eD f0 q) r (Yh f0 11 n)) := by
            show _ = rlx (eA f0 q) (eU f0 q) (eV f0 q) (eD f0 q) i (rnd_ (eA f0 q) (eU f0 q) (eV f0 q) (eD f0 q) i (rnds m (eA f0 q) (eU f0 q) (eV f0 q) (eD f0 q) r (Yh f0 11 n)))
            rw [← hL, Yh_ui hyv]
            funext w
            unfold rlx
            rw [hU, hV]
            by_cases e : w = yv
            · rw [if_pos e, if_pos ⟨e, hA, by rw [Yh_t hyv, Yh_t hxu]; exact c3⟩, es, Yh_t hxu]
              rfl
            · rw [if_neg e, if_neg (fun z => e z.1)]
          refine rl_in hC H0 HO k (i + 1) _ _ _ _ _ _ (by omega) (nI_1 i) (fun a b h1 => by rw [m_ui_o (by omega)]; exact hF a b h1) (fun w hw => ?_) hL2 (Or.inr ⟨rfl, yv, ?_⟩)
          · by_cases e : w = yv
            · subst e
              rw [m_ui_s]
              refine ⟨⟨?_, ?_⟩, c4⟩
              · rw [Int32.le_iff_toInt_le, es]
                have e1 : (1800 : Int32).toInt = 1800 := rfl
                omega
              · rw [Int32.le_iff_toInt_le, es]
                have e1 : (1999 : Int32).toInt = 1999 := rfl
                omega
            · rw [m_ui_o (by omega)]
              exact hr w hw
          · have mono := rnd_ge (A := eA f0 q) (u := eU f0 q) (v := eV f0 q) (a := eD f0 q) (L := (rnds m (eA f0 q) (eU f0 q) (eV f0 q) (eD f0 q) r (Yh f0 11 n))) i yv
            rw [← hL, Yh_t hyv] at mono
            have e7 : Yh (m_ui f 134 yv (f 134 xu + f0 132 (q i))) 134 n yv = (f 134 xu).toInt + (f0 132 (q i)).toInt := by
              rw [Yh_t hyv, m_ui_s, es]
            omega
        · have c5 := Int32.lt_iff_toInt_lt.mp (i32_nle.mp c4)
          rw [es] at c5
          conv => whnf
          refine ⟨Or.inl rfl, H0 (fun hX => ?_) f hF⟩
          obtain ⟨X, x1, x2, x3⟩ := hX
          have l1 : ∀ r' w, rnds m (eA f0 q) (eU f0 q) (eV f0 q) (eD f0 q) r' (Yh f0 11 n) w ≤ X w := fun r' => by
            induction r' with
            | zero => exact x2
            | succ r' ih => exact rnd_le x1 ih m (Nat.le_refl m)
          have l2 := rnd_le x1 (l1 r) i (by omega) xu
          rw [← hL, Yh_t hxu] at l2
          have l3 := x1 i (by omega) hA
          rw [hU, hV] at l3
          have l4 := x3 yv hyv
          rw [Yh_t hyv] at l4
          have e9 : eD f0 q i = (f0 132 (q i)).toInt := rfl
          omega
set_option maxRecDepth 100000 in
set_option maxHeartbeats 8000000 in
theorem rl_out {d L n m : Nat} {f0 : Nat → Nat → Int32} {g : Nat → Nat → Int64} {q : Nat → Nat} {R : Option Value → mH → Prop} (hC : CT f0 n m q)
    (H0 : ¬ (∃ X, Sol m (eA f0 q) (eU f0 q) (eV f0 q) (eD f0 q) X ∧ (∀ w, Yh f0 11 n w ≤ X w) ∧ ∀ w, w < n → X w ≤ Yh f0 12 n w) → ∀ f, o134 f0 f → R (some (.int 0)) (shF L, f, g))
    (H1 : ∀ f, o134 f0 f → (∀ w, w < n → inr 1800 1999 (f 134 w) ∧ f 134 w ≤ f0 12 w) → Lst m (eA f0 q) (eU f0 q) (eV f0 q) (eD f0 q) (Yh f0 11 n) (Yh f 134 n) → R (some (.int 1)) (shF L, f, g)) :
    ∀ (k r : Nat) (x : Int32) (s2 s3 s4 s5 s6 : Option Value) (f : Nat → Nat → Int32), r + k = m + 1 → x = nI r → o134 f0 f → (∀ w, w < n → inr 1800 1999 (f 134 w) ∧ f 134 w ≤ f0 12 w) → Yh f 134 n = (rnds m (eA f0 q) (eU f0 q) (eV f0 q) (eD f0 q) r (Yh f0 11 n)) → (r = m + 1 → ∃ w, ¬ rnds m (eA f0 q) (eU f0 q) (eV f0 q) (eD f0 q) (m + 1) (Yh f0 11 n) w = rnds m (eA f0 q) (eU f0 q) (eV f0 q) (eD f0 q) m (Yh f0 11 n) w) → WPe pg_X9_raiseLows none (Run mtab d) R (m_drop pg_X9_raiseLows 13) [some (.ref 129), some (.int x), s2, s3, s4, s5, s6] [] (shF L, f, g)
  | 0, r, x, s2, s3, s4, s5, s6, f, hk, hx, hF, hr, hL, hch => by
    have e : r = m + 1 := by omega
    subst e
    subst hx
    have g129 : f 129 11 = nI m := (hF 129 11 (by omega)).trans hC.2.2.2.1
    have hm := hC.2.1
    refine at_X9_raiseLows ?_
    conv => whnf
    simp only [g129]
    refine ⟨fun c => ?_, fun c => absurd (nI_lt (by omega) (by omega)) c⟩
    conv => whnf
    refine ⟨Or.inl rfl, H0 (fun hX => ?_) f hF⟩
    obtain ⟨X, x1, x2, x3⟩ := hX
    obtain ⟨Z, hZ⟩ := Lst_ex x1 x2
    obtain ⟨w, hw⟩ := hch rfl
    exact hw ((rnds_m hZ (by omega) w).trans (rnds_m hZ (Nat.le_refl m) w).symm)
  | k + 1, r, x, s2, s3, s4, s5, s6, f, hk, hx, hF, hr, hL, hch => by
    subst hx
    have g129 : f 129 11 = nI m := (hF 129 11 (by omega)).trans hC.2.2.2.1
    have hm := hC.2.1
    refine at_X9_raiseLows ?_
    conv => whnf
    simp only [g129]
    refine ⟨fun c => absurd c (nI_nlt (by omega) (by omega)), fun c => ?_⟩
    conv => whnf
    refine rl_in hC H0 (fun f1 ch x s4 s5 s6 hx1 hF1 hr1 hL1 hch1 => ?_) m 0 _ _ _ _ _ f (by omega) rfl hF hr hL (Or.inl ⟨rfl, fun w => congrFun hL w⟩)
    subst hx1
    have k129 : f1 129 11 = nI m := (hF1 129 11 (by omega)).trans hC.2.2.2.1
    refine at_X9_raiseLows ?_
    conv => whnf
    simp only [k129]
    refine ⟨fun c => ?_, fun c => absurd (nI_le (Nat.le_refl _) (by omega)) c⟩
    rcases hch1 with ⟨rfl, h0⟩ | ⟨rfl, h0⟩
    · conv => whnf
      (refine ⟨fun z9 => ?_, fun z9 => ?_⟩ <;> first | ((have c9 : (1 : Int32) = 0 := by with_reducible exact z9); exact absurd c9 (by decide)) | exact absurd (rfl : (0 : Int32) = 0) (by with_reducible exact z9) | exact absurd True.intro (by with_reducible exact z9) | exact False.elim (by with_reducible exact z9) | (conv => whnf))
      have hS : Sol m (eA f0 q) (eU f0 q) (eV f0 q) (eD f0 q) (Yh f1 134 n) := by
        refine rnd_fix (fun w => ?_)
        have e1 : Yh f1 134 n = (rnds m (eA f0 q) (eU f0 q) (eV f0 q) (eD f0 q) r (Yh f0 11 n)) := funext h0
        rw [e1]
        exact (congrFun hL1 w).symm.trans (congrFun e1 w)
      have up : ∀ r' w, Yh f0 11 n w ≤ rnds m (eA f0 q) (eU f0 q) (eV f0 q) (eD f0 q) r' (Yh f0 11 n) w := fun r' => by
        induction r' with
        | zero => exact fun w => Int.le_refl _
        | succ r' ih => exact fun w => Int.le_trans (ih w) (rnd_ge m w)
      refine ⟨Or.inr rfl, H1 f1 hF1 hr1 ⟨hS, fun w => ?_, fun Y y1 y2 w => ?_⟩⟩
      · rw [hL1]
        exact up (r + 1) w
      · have l1 : ∀ r' w, rnds m (eA f0 q) (eU f0 q) (eV f0 q) (eD f0 q) r' (Yh f0 11 n) w ≤ Y w := fun r' => by
          induction r' with
          | zero => exact y2
          | succ r' ih => exact rnd_le y1 ih m (Nat.le_refl m)
        rw [hL1]
        exact l1 (r + 1) w
    · conv => whnf
      (refine ⟨fun z9 => ?_, fun z9 => ?_⟩ <;> first | ((have c9 : (1 : Int32) = 0 := by with_reducible exact z9); exact absurd c9 (by decide)) | exact absurd (rfl : (0 : Int32) = 0) (by with_reducible exact z9) | exact absurd True.intro (by with_reducible exact z9) | exact False.elim (by with_reducible exact z9) | (conv => whnf))
      refine rl_out hC H0 H1 k (r + 1) _ _ _ _ _ _ f1 (by omega) (nI_1 r) hF1 hr1 hL1 (fun e => ?_)
      have e1 : r = m := by omega
      subst e1
      obtain ⟨w, hw⟩ := h0
      exact ⟨w, fun z => hw ((congrFun hL1 w).trans z)⟩
theorem cp_n {n : Nat} (hn : n ≤ 40) : (nI n).toNatClampNeg = n := nI_clamp (by omega)
theorem cp_ok {n : Nat} (hn : n ≤ 40) : ¬ (0 : Int32) < 0 ∧ ¬ (0 : Int32) < 0 ∧ ¬ nI n < 0 ∧ (0 : Int32).toNatClampNeg + (nI n).toNatClampNeg ≤ 40 ∧ (0 : Int32).toNatClampNeg + (nI n).toNatClampNeg ≤ 40 := by
  rw [cp_n hn]
  have e0 : (0 : Int32).toNatClampNeg = 0 := rfl
  rw [e0]
  exact ⟨by decide, by decide, nI_pos (by omega), by omega, by omega⟩
set_option maxRecDepth 100000 in
set_option maxHeartbeats 4000000 in
theorem sf_raiseLows {d L : Nat} {f : Nat → Nat → Int32} {g : Nat → Nat → Int64} {n m : Nat} {q : Nat → Nat} {R : Option Value → mH → Prop} (hd : 2 ≤ d) (hC : CT f n m q) (H0 : ¬ (∃ X, Sol m (eA f q) (eU f q) (eV f q) (eD f q) X ∧ (∀ w, Yh f 11 n w ≤ X w) ∧ ∀ w, w < n → X w ≤ Yh f 12 n w) → ∀ f', o134 f f' → R (some (.int 0)) (shF L, f', g)) (H1 : ∀ f', o134 f f' → (∀ w, w < n → inr 1800 1999 (f' 134 w) ∧ f' 134 w ≤ f 12 w) → Lst m (eA f q) (eU f q) (eV f q) (eD f q) (Yh f 11 n) (Yh f' 134 n) → R (some (.int 1)) (shF L, f', g)) : Run mtab d 81 [.ref 129] (shF L, f, g) R := by
  obtain ⟨d, rfl⟩ : ∃ e, d = e + 1 := ⟨d - 1, by omega⟩
  refine go_X9_raiseLows rfl ?_
  conv => whnf
  obtain ⟨hn, hm, c6, c129, ce, cy⟩ := id hC
  simp only [c6]
  refine rp_cpy (a := 11) (b := 134) (by omega) rfl rfl rfl (cp_ok hn) ?_
  conv => whnf
  refine rl_out hC H0 H1 (m + 1) 0 _ _ _ _ _ _ _ (by omega) rfl (fun a i h1 => ?_) (fun w hw => ?_) ?_ (fun e => absurd e (by omega))
  · rw [m_cpy_ap, if_neg h1]
  · rw [m_cpy_ap, if_pos rfl, cp_n hn, show (0 : Int32).toNatClampNeg = 0 from rfl, if_pos (by omega), show 0 + (w - 0) = w by omega]
    exact ⟨(cy w hw).1, (cy w hw).2.2⟩
  · funext w
    unfold Yh
    by_cases h : w < n
    · rw [if_pos h, m_cpy_ap, if_pos rfl, cp_n hn, show (0 : Int32).toNatClampNeg = 0 from rfl, if_pos (by omega), show 0 + (w - 0) = w by omega]
      exact (if_pos h).symm
    · rw [if_neg h]
      exact (if_neg h).symm
