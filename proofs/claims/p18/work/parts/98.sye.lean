theorem CT_g {f f' : Nat → Nat → Int32} {n m : Nat} {q : Nat → Nat} (h : ∀ a i, ¬ a = 134 → ¬ a = 137 → ¬ a = 138 → f' a i = f a i) (hC : CT f n m q) : CT f' n m q := by
  obtain ⟨h1, h2, h3, h4, h5, h6⟩ := hC
  refine ⟨h1, h2, (h 6 13 (by omega) (by omega) (by omega)).trans h3, (h 129 11 (by omega) (by omega) (by omega)).trans h4, fun i hi => ?_, fun j hj => ?_⟩
  · rw [h 136 i (by omega) (by omega) (by omega), h 130 (q i) (by omega) (by omega) (by omega), h 131 (q i) (by omega) (by omega) (by omega), h 132 (q i) (by omega) (by omega) (by omega)]
    exact h5 i hi
  · rw [h 11 j (by omega) (by omega) (by omega), h 12 j (by omega) (by omega) (by omega)]
    exact h6 j hj
/-- feasible without the clues of B -/
def FEB (f : Nat → Nat → Int32) (n m : Nat) (q : Nat → Nat) (B : Nat → Prop) : Prop := ∃ X : Nat → Int, (∀ i, i < m → ¬ B (q i) → X (f 130 (q i)).toNatClampNeg + (f 132 (q i)).toInt ≤ X (f 131 (q i)).toNatClampNeg) ∧ (∀ w, Yh f 11 n w ≤ X w) ∧ ∀ w, w < n → X w ≤ Yh f 12 n w
theorem FEB_zf {f f' : Nat → Nat → Int32} {n m : Nat} {q : Nat → Nat} (h : zf f f') (B : Nat → Prop) : FEB f' n m q B = FEB f n m q B := by
  have h130 : ∀ i, f' 130 i = f 130 i := fun i => h 130 i (by omega) (by omega)
  have h131 : ∀ i, f' 131 i = f 131 i := fun i => h 131 i (by omega) (by omega)
  have h132 : ∀ i, f' 132 i = f 132 i := fun i => h 132 i (by omega) (by omega)
  have y1 : Yh f' 11 n = Yh f 11 n := Yh_eq (fun w _ => h 11 w (by omega) (by omega))
  have y2 : Yh f' 12 n = Yh f 12 n := Yh_eq (fun w _ => h 12 w (by omega) (by omega))
  unfold FEB
  simp only [h130, h131, h132, y1, y2]
theorem XI_o134 {f f' : Nat → Nat → Int32} (hX : XI f) (h : o134 f f') : XI f' := fun a i => by
  by_cases e : a = 134
  · subst e
    exact True.intro
  · rw [h a i e]
    exact hX a i
theorem ixA_q {f : Nat → Nat → Int32} {n m u : Nat} {q p : Nat → Nat} (hC : CT f n m q) (hu : u < 3) (h : f 138 u = nI (p u)) (hm : p u < m) : ixA f u = q (p u) := by
  have hm20 := hC.2.1
  obtain ⟨a1, a2, _⟩ := hC.2.2.2.2.1 (p u) hm
  unfold ixA
  rw [nI_clamp (show u < 2 ^ 31 by omega), h, nI_clamp (show p u < 2 ^ 31 by omega), a2, nI_clamp (by omega)]
theorem fe_pa {f : Nat → Nat → Int32} {n m s : Nat} {q p : Nat → Nat} (hs : s ≤ 3) (hC : CT f n m q) (hZ : Z137 f) (hp : ∀ u, u < s → f 138 u = nI (p u) ∧ p u < m) : (∃ X, Sol m (eA (pa f 1 s) q) (eU (pa f 1 s) q) (eV (pa f 1 s) q) (eD (pa f 1 s) q) X ∧ (∀ w, Yh (pa f 1 s) 11 n w ≤ X w) ∧ ∀ w, w < n → X w ≤ Yh (pa f 1 s) 12 n w) ↔ FEB f n m q (fun k => ∃ u, u < s ∧ k = q (p u)) := by
  have o : ∀ a i, ¬ a = 137 → pa f 1 s a i = f a i := fun a i h => pa_o h s
  have y1 : Yh (pa f 1 s) 11 n = Yh f 11 n := Yh_eq (fun w _ => o 11 w (by omega))
  have y2 : Yh (pa f 1 s) 12 n = Yh f 12 n := Yh_eq (fun w _ => o 12 w (by omega))
  have key : ∀ i, i < m → (eA (pa f 1 s) q i = true ↔ ¬ ∃ u, u < s ∧ q i = q (p u)) := fun i hi => by
    unfold eA
    rw [decide_eq_true_iff]
    by_cases h : ∃ u, u < s ∧ q i = q (p u)
    · obtain ⟨u, hu, e⟩ := h
      rw [pa_y s ⟨u, hu, (ixA_q hC (by omega) (hp u hu).1 (hp u hu).2).trans e.symm⟩]
      exact ⟨fun z => absurd z (by decide), fun z => absurd ⟨u, hu, e⟩ z⟩
    · rw [pa_n s (fun u hu z => h ⟨u, hu, z.symm.trans (ixA_q hC (by omega) (hp u hu).1 (hp u hu).2)⟩)]
      exact ⟨fun _ => h, fun _ => hZ (q i)⟩
  rw [y1, y2]
  constructor
  · rintro ⟨X, x1, x2, x3⟩
    refine ⟨X, fun i hi hB => ?_, x2, x3⟩
    have := x1 i hi ((key i hi).mpr hB)
    unfold eU eV eD at this
    rw [o 130 _ (by omega), o 131 _ (by omega), o 132 _ (by omega)] at this
    exact this
  · rintro ⟨X, x1, x2, x3⟩
    refine ⟨X, fun i hi hA => ?_, x2, x3⟩
    have := x1 i hi ((key i hi).mp hA)
    unfold eU eV eD
    rw [o 130 _ (by omega), o 131 _ (by omega), o 132 _ (by omega)]
    exact this
set_option maxRecDepth 100000 in
set_option maxHeartbeats 4000000 in
theorem sf_isFree {d L : Nat} {f : Nat → Nat → Int32} {g : Nat → Nat → Int64} {s n m : Nat} {q p : Nat → Nat} {R : Option Value → mH → Prop} (hd : 3 ≤ d) (hX : XI f) (hs : s ≤ 3) (hC : CT f n m q) (hZ : Z137 f) (hp : ∀ u, u < s → f 138 u = nI (p u) ∧ p u < m) (H1 : FEB f n m q (fun k => ∃ u, u < s ∧ k = q (p u)) → ∀ f', XI f' → fx 134 135 f f' → R (some (.int 1)) (shF L, f', g)) (H0 : ¬ FEB f n m q (fun k => ∃ u, u < s ∧ k = q (p u)) → ∀ f', XI f' → fx 134 135 f f' → R (some (.int 0)) (shF L, f', g)) : Run mtab d 86 [.ref 129, .int (nI s)] (shF L, f, g) R := by
  obtain ⟨d, rfl⟩ : ∃ e, d = e + 1 := ⟨d - 1, by omega⟩
  refine go_X9_isFreeWithout rfl ?_
  conv => whnf
  have hCa : CT (pa f 1 s) n m q := CT_g (fun a i _ h _ => pa_o h s) hC
  have fe := fe_pa hs hC hZ hp
  refine sf_putAside (by omega) hX rfl hs ?_
  conv => whnf
  refine sf_raiseLows (by omega) hCa (fun nf f2 h2 => ?_) (fun f2 h2 r2 L2 => ?_)
  · have h2X := XI_o134 (XI_pa hX s) h2
    conv => whnf
    refine sf_putAside (by omega) h2X rfl hs ?_
    conv => whnf
    have G := H0 (fun z => nf (fe.mpr z)) _ (XI_pa h2X s) (fx_pa hZ (fun a i q => h2 a i (by omega)))
    first | exact ⟨Or.inl rfl, G⟩ | exact G
  · have h2X := XI_o134 (XI_pa hX s) h2
    conv => whnf
    refine sf_putAside (by omega) h2X rfl hs ?_
    conv => whnf
    have F1 : FEB f n m q (fun k => ∃ u, u < s ∧ k = q (p u)) := fe.mp ⟨_, L2.1, L2.2.1, fun w hw => by
      rw [Yh_t hw, Yh_t hw]
      exact Int32.le_iff_toInt_le.mp (r2 w hw).2⟩
    have G := H1 F1 _ (XI_pa h2X s) (fx_pa hZ (fun a i q => h2 a i (by omega)))
    first | exact ⟨Or.inr rfl, G⟩ | exact G
theorem cn_ge {n s t u : Nat} (hn : n ≤ 20) (hs : s ≤ 3) (ht : t ≤ 3) (hu : u ≤ 19) (c : nI n - nI s + nI t ≤ nI u) : ¬ u + s < n + t := by
  have e1 : (nI n - nI s).toInt = (n : Int) - s := by
    rw [Int32.toInt_sub, nI_toInt (by omega), nI_toInt (by omega)]
    exact Int.bmod_eq_of_le (by omega) (by omega)
  have e2 : (nI n - nI s + nI t).toInt = (n : Int) - s + t := by
    rw [Int32.toInt_add, e1, nI_toInt (by omega)]
    exact Int.bmod_eq_of_le (by omega) (by omega)
  rw [Int32.le_iff_toInt_le, e2, nI_toInt (by omega)] at c
  omega
set_option maxRecDepth 100000 in
set_option maxHeartbeats 4000000 in
theorem scn_in {d L m s t : Nat} {f0 : Nat → Nat → Int32} {g : Nat → Nat → Int64} {p : Nat → Nat} {w : Int32} {R : Option Value → mH → Prop} (hm : m ≤ 20) (hs : s ≤ 3) (ht : t < s) (hb : p t + s < m + t) (H : ∀ f', XI f' → (∀ u, u < s → f' 138 u = nI (nxtp p t u)) → (∀ a i, ¬ a = 138 → f' a i = f0 a i) → R (some (.int 1)) (shF L, f', g)) :
    ∀ (k j : Nat) (x : Int32) (f : Nat → Nat → Int32), j + 1 + k = s → t ≤ j → x = nI (j + 1) → (∀ u, u < s → f 138 u = nI (if u ≤ j then nxtp p t u else p u)) → (∀ a i, ¬ a = 138 → f a i = f0 a i) → XI f → WPe pg_X9_chooseNext none (Run mtab d) R (m_drop pg_X9_chooseNext 29) [some (.ref 129), some (.int (nI s)), some (.int w), some (.int x)] [] (shF L, f, g)
  | 0, j, x, f, hk, htj, hx, h8, hF, hX => by
    subst hx
    have e : s = j + 1 := by omega
    subst e
    refine at_X9_chooseNext ?_
    conv => whnf
    refine ⟨fun c => ?_, fun c => absurd (nI_le (Nat.le_refl _) (by omega)) c⟩
    conv => whnf
    exact ⟨Or.inr rfl, H _ hX (fun u hu => by rw [h8 u hu, if_pos (by omega)]) hF⟩
  | k + 1, j, x, f, hk, htj, hx, h8, hF, hX => by
    subst hx
    have e1 : f 138 (nI j).toNatClampNeg = nI (nxtp p t j) := by rw [nI_clamp (by omega), h8 j (by omega), if_pos (Nat.le_refl _)]
    have e2 : (nI (j + 1)).toNatClampNeg = j + 1 := nI_clamp (by omega)
    have e3 : nxtp p t (j + 1) = nxtp p t j + 1 := by
      rw [nxt_ge (by omega), nxt_ge (by omega)]
      omega
    have e4 : nxtp p t j + 1 ≤ 19 := by
      rw [nxt_ge (by omega)]
      omega
    refine at_X9_chooseNext ?_
    conv => whnf
    refine ⟨fun c => absurd c (nI_ge (b := s) (by omega) (by omega)), fun c => ?_⟩
    conv => whnf
    simp only [nI_pred]
    refine ⟨vp_in_nI (by omega) (by decide), ?_⟩
    conv => whnf
    refine ⟨vp_in_nI (by omega) (by decide), ?_⟩
    conv => whnf
    simp only [e1, e2, nI_1]
    refine scn_in hm hs ht hb H k (j + 1) _ _ (by omega) (by omega) rfl (fun u hu => ?_) (fun a i ha => ?_) (XI_ui hX ?_)
    · by_cases eu : u = j + 1
      · subst eu
        rw [m_ui_s, if_pos (Nat.le_refl _), e3]
      · rw [m_ui_o (by omega), h8 u hu]
        by_cases q : u ≤ j
        · rw [if_pos q, if_pos (by omega)]
        · rw [if_neg q, if_neg (by omega)]
    · rw [m_ui_o (by omega)]
      exact hF a i ha
    · show inr 0 19 _
      exact inr_n (m := 19) e4 rfl (by decide)
set_option maxRecDepth 100000 in
set_option maxHeartbeats 4000000 in
theorem scn_out {d L m s : Nat} {f : Nat → Nat → Int32} {g : Nat → Nat → Int64} {p : Nat → Nat} {R : Option Value → mH → Prop} (hX : XI f) (hm : m ≤ 20) (hs : s ≤ 3) (hc : f 129 11 = nI m) (h8 : ∀ u, u < s → f 138 u = nI (p u) ∧ p u ≤ 19) (H0 : (∀ u, u < s → ¬ p u + s < m + u) → R (some (.int 0)) (shF L, f, g)) (H1 : ∀ t f', t < s → p t + s < m + t → (∀ u, t < u → u < s → ¬ p u + s < m + u) → XI f' → (∀ u, u < s → f' 138 u = nI (nxtp p t u)) → (∀ a i, ¬ a = 138 → f' a i = f a i) → R (some (.int 1)) (shF L, f', g)) :
    ∀ (t : Nat) (y : Int32) (sl : Option Value), t ≤ s → y = nI t + -1 → (∀ u, t ≤ u → u < s → ¬ p u + s < m + u) → WPe pg_X9_chooseNext none (Run mtab d) R (m_drop pg_X9_chooseNext 4) [some (.ref 129), some (.int (nI s)), some (.int y), sl] [] (shF L, f, g)
  | 0, y, sl, ht, hy, hN => by
    subst hy
    refine at_X9_chooseNext ?_
    conv => whnf
    refine ⟨fun c => ?_, fun c => absurd (by decide) c⟩
    conv => whnf
    exact ⟨Or.inl rfl, H0 (fun u hu => hN u (by omega) hu)⟩
  | t + 1, y, sl, ht, hy, hN => by
    have e : nI (t + 1) + -1 = nI t := by rw [← Int32.sub_eq_add_neg, nI_pred]
    rw [e] at hy
    subst hy
    have hcl : (nI t).toNatClampNeg = t := nI_clamp (by omega)
    obtain ⟨eu, hu⟩ := h8 t (by omega)
    have e1 : f 138 (nI t).toNatClampNeg = nI (p t) := by rw [hcl, eu]
    refine at_X9_chooseNext ?_
    conv => whnf
    refine ⟨fun c => absurd c (nI_pos (by omega)), fun c => ?_⟩
    conv => whnf
    refine ⟨vp_in_nI (by omega) (by decide), ?_⟩
    conv => whnf
    simp only [hc, e1]
    refine ⟨fun c2 => ?_, fun c2 => ?_⟩
    · have ge := cn_ge hm hs (by omega) hu c2
      conv => whnf
      refine scn_out hX hm hs hc h8 H0 H1 t _ _ (by omega) rfl (fun u h1 h2 => ?_)
      by_cases q : u = t
      · subst q
        exact ge
      · exact hN u (by omega) h2
    · have lt := cn_lt hm hs (by omega) hu c2
      conv => whnf
      refine ⟨vp_in_nI (by omega) (by decide), ?_⟩
      conv => whnf
      simp only [e1]
      refine ⟨vp_in_nI (by omega) (by decide), ?_⟩
      conv => whnf
      simp only [hcl, nI_1]
      refine scn_in (t := t) (p := p) hm hs (by omega) lt (fun f' a b c => H1 t f' (by omega) lt (fun u h1 h2 => hN u (by omega) h2) a b c) (s - (t + 1)) t _ _ (by omega) (Nat.le_refl _) rfl (fun u hu => ?_) (fun a i ha => ?_) (XI_ui hX ?_)
      · by_cases q : u = t
        · subst q
          rw [m_ui_s, if_pos (Nat.le_refl _), nxt_ge (by omega), Nat.sub_self]
        · rw [m_ui_o (by omega), (h8 u hu).1]
          by_cases q2 : u ≤ t
          · rw [if_pos q2, nxt_lt (by omega)]
          · rw [if_neg q2]
      · rw [m_ui_o (by omega)]
      · show inr 0 19 _
        exact inr_n (m := 19) (by omega) rfl (by decide)
set_option maxRecDepth 100000 in
set_option maxHeartbeats 4000000 in
theorem sf_chooseNext {d L : Nat} {f : Nat → Nat → Int32} {g : Nat → Nat → Int64} {m s : Nat} {p : Nat → Nat} {R : Option Value → mH → Prop} (hd : 1 ≤ d) (hX : XI f) (hm : m ≤ 20) (hs : s ≤ 3) (hc : f 129 11 = nI m) (h8 : ∀ u, u < s → f 138 u = nI (p u) ∧ p u ≤ 19) (H0 : (∀ u, u < s → ¬ p u + s < m + u) → R (some (.int 0)) (shF L, f, g)) (H1 : ∀ t f', t < s → p t + s < m + t → (∀ u, t < u → u < s → ¬ p u + s < m + u) → XI f' → (∀ u, u < s → f' 138 u = nI (nxtp p t u)) → (∀ a i, ¬ a = 138 → f' a i = f a i) → R (some (.int 1)) (shF L, f', g)) : Run mtab d 88 [.ref 129, .int (nI s)] (shF L, f, g) R := by
  obtain ⟨d, rfl⟩ : ∃ e, d = e + 1 := ⟨d - 1, by omega⟩
  refine go_X9_chooseNext rfl ?_
  conv => whnf
  exact scn_out hX hm hs hc h8 H0 H1 s _ _ (Nat.le_refl s) (Int32.sub_eq_add_neg ..) (fun u h1 h2 => absurd h1 (by omega))
set_option maxRecDepth 100000 in
set_option maxHeartbeats 4000000 in
theorem sca2 {d L n m s : Nat} {f0 : Nat → Nat → Int32} {g : Nat → Nat → Int64} {q : Nat → Nat} {R : Option Value → mH → Prop} (hd : 3 ≤ d) (hs1 : 1 ≤ s) (hs : s ≤ 3) (hC : CT f0 n m q) (hZ : Z137 f0) (H1 : (∃ r, inc s m r ∧ FEB f0 n m q (fun k => ∃ u, u < s ∧ k = q (r u))) → ∀ f', XI f' → zf f0 f' → R (some (.int 1)) (shF L, f', g)) (H0 : ¬ (∃ r, inc s m r ∧ FEB f0 n m q (fun k => ∃ u, u < s ∧ k = q (r u))) → ∀ f', XI f' → zf f0 f' → R (some (.int 0)) (shF L, f', g)) :
    ∀ (k i : Nat) (x : Int32) (p : Nat → Nat) (f : Nat → Nat → Int32), i + k = 2000 → x = nI i → XI f → zf f0 f → inc s m p → (∀ u, u < s → f 138 u = nI (p u)) → (∀ r, inc s m r → lexl s r p → ¬ FEB f0 n m q (fun k => ∃ u, u < s ∧ k = q (r u))) → i + mu3 s m p ≤ 1999 → WPe pg_X9_chooseAsides none (Run mtab d) R (m_drop pg_X9_chooseAsides 20) [some (.ref 129), some (.int (nI s)), some (.int x)] [] (shF L, f, g)
  | 0, i, x, p, f, hi, hx, hX, hF, hp, h8, hN, hmu => absurd hmu (by omega)
  | k + 1, i, x, p, f, hi, hx, hX, hF, hp, h8, hN, hmu => by
    subst hx
    have hm20 := hC.2.1
    have hCf : CT f n m q := CT_g (fun a i h1 _ h3 => hF a i h1 h3) hC
    have hpm : ∀ u, u < s → p u < m := fun u hu => by
      have := hp.2 u hu
      omega
    have same : ∀ r : Nat → Nat, (∀ u, u < s → r u = p u) → FEB f0 n m q (fun k => ∃ u, u < s ∧ k = q (r u)) = FEB f n m q (fun k => ∃ u, u < s ∧ k = q (p u)) := fun r hr => by
      rw [FEB_zf hF]
      have e : (fun k => ∃ u, u < s ∧ k = q (r u)) = fun k => ∃ u, u < s ∧ k = q (p u) := by
        funext k
        refine propext ⟨fun ⟨u, hu, z⟩ => ⟨u, hu, by rw [z, hr u hu]⟩, fun ⟨u, hu, z⟩ => ⟨u, hu, by rw [z, hr u hu]⟩⟩
      rw [e]
    refine at_X9_chooseAsides ?_
    conv => whnf
    refine ⟨fun c => absurd c (nI_ge (b := 2000) (by omega) (by omega)), fun c => ?_⟩
    conv => whnf
    refine sf_isFree (p := p) (by omega) hX hs hCf (zf_z hF hZ) (fun u hu => ⟨h8 u hu, hpm u hu⟩) (fun fe f1 x1 k1 => ?_) (fun nf f1 x1 k1 => ?_)
    · conv => whnf
      refine ⟨fun c9 => absurd (show (1 : Int32) = 0 from c9) (by decide), fun _ => ?_⟩
      conv => whnf
      have G := H1 ⟨p, hp, by rw [same p (fun _ _ => rfl)]; exact fe⟩ f1 x1 (zf_1 hF k1)
      first | exact ⟨Or.inr rfl, G⟩ | exact G
    · have hF1 := zf_1 hF k1
      have hc1 : f1 129 11 = nI m := (hF1 129 11 (by omega) (by omega)).trans hC.2.2.2.1
      have h81 : ∀ u, u < s → f1 138 u = nI (p u) := fun u hu => (k1 138 u (by omega)).trans (h8 u hu)
      conv => whnf
      refine ⟨fun _ => ?_, fun c9 => absurd (rfl : (0 : Int32) = 0) c9⟩
      conv => whnf
      refine sf_chooseNext (p := p) (by omega) x1 hm20 hs hc1 (fun u hu => ⟨h81 u hu, by have := hpm u hu; omega⟩) (fun last => ?_) (fun t f2 ht hb hl x2 h82 k2 => ?_)
      · conv => whnf
        refine ⟨fun c9 => absurd (rfl : (0 : Int32) = 0) c9, fun _ => ?_⟩
        conv => whnf
        have G := H0 (fun ⟨r, hr, fe⟩ => by
          rcases lex_last hr last with a | a
          · exact hN r hr a fe
          · rw [same r a] at fe
            exact nf fe) f1 x1 hF1
        first | exact ⟨Or.inl rfl, G⟩ | exact G
      · conv => whnf
        refine ⟨fun _ => ?_, fun c9 => absurd (show (1 : Int32) = 0 from c9) (by decide)⟩
        conv => whnf
        have lt := mu_nxt hp hs1 hs ht hb hl
        refine sca2 hd hs1 hs hC hZ H1 H0 k (i + 1) _ (nxtp p t) f2 (by omega) (nI_1 i) x2 (fun a b h1 h2 => (k2 a b h2).trans (hF1 a b h1 h2)) (inc_nxt hp ht hb) h82 (fun r hr hl2 => ?_) (by omega)
        rcases lex_nxt hr ht hl hl2 with a | a
        · exact hN r hr a
        · rw [same r a]
          exact nf
set_option maxRecDepth 100000 in
set_option maxHeartbeats 4000000 in
theorem sca1 {d L n m s : Nat} {f0 : Nat → Nat → Int32} {g : Nat → Nat → Int64} {q : Nat → Nat} {R : Option Value → mH → Prop} (hd : 3 ≤ d) (hs1 : 1 ≤ s) (hs : s ≤ 3) (hsm : s ≤ m) (hC : CT f0 n m q) (hZ : Z137 f0) (H1 : (∃ r, inc s m r ∧ FEB f0 n m q (fun k => ∃ u, u < s ∧ k = q (r u))) → ∀ f', XI f' → zf f0 f' → R (some (.int 1)) (shF L, f', g)) (H0 : ¬ (∃ r, inc s m r ∧ FEB f0 n m q (fun k => ∃ u, u < s ∧ k = q (r u))) → ∀ f', XI f' → zf f0 f' → R (some (.int 0)) (shF L, f', g)) :
    ∀ (k i : Nat) (x : Int32) (f : Nat → Nat → Int32), i + k = s → x = nI i → XI f → zf f0 f → (∀ u, u < i → f 138 u = nI u) → WPe pg_X9_chooseAsides none (Run mtab d) R (m_drop pg_X9_chooseAsides 8) [some (.ref 129), some (.int (nI s)), some (.int x)] [] (shF L, f, g)
  | 0, i, x, f, hi, hx, hX, hF, h8 => by
    have e : i = s := by omega
    subst hx
    subst e
    have hm20 := hC.2.1
    refine at_X9_chooseAsides ?_
    conv => whnf
    refine ⟨fun c => ?_, fun c => absurd (nI_le (Nat.le_refl _) (by omega)) c⟩
    conv => whnf
    exact sca2 hd hs1 hs hC hZ H1 H0 2000 0 _ (fun u => u) f (by omega) rfl hX hF (inc_first hsm) h8 (fun r hr hl => absurd hl (lex_first hr)) (by have := mu_0 m (by omega) i (by omega); omega)
  | k + 1, i, x, f, hi, hx, hX, hF, h8 => by
    subst hx
    have hcl : (nI i).toNatClampNeg = i := nI_clamp (by omega)
    refine at_X9_chooseAsides ?_
    conv => whnf
    refine ⟨fun c => absurd c (nI_ge (b := s) (by omega) (by omega)), fun c => ?_⟩
    conv => whnf
    refine ⟨vp_in_nI (by omega) (by decide), ?_⟩
    conv => whnf
    simp only [hcl]
    refine sca1 hd hs1 hs hsm hC hZ H1 H0 k (i + 1) _ _ (by omega) (nI_1 i) (XI_ui hX (show inr 0 19 _ from inr_n (m := 19) (by omega) rfl (by decide))) (zf_ui hF) (fun u hu => ?_)
    by_cases e : u = i
    · subst e
      exact m_ui_s
    · rw [m_ui_o (by omega)]
      exact h8 u (by omega)
set_option maxRecDepth 100000 in
set_option maxHeartbeats 4000000 in
theorem sf_chooseAsides {d L : Nat} {f : Nat → Nat → Int32} {g : Nat → Nat → Int64} {n m s : Nat} {q : Nat → Nat} {R : Option Value → mH → Prop} (hd : 4 ≤ d) (hX : XI f) (hs1 : 1 ≤ s) (hs : s ≤ 3) (hC : CT f n m q) (hZ : Z137 f) (H1 : (∃ r, inc s m r ∧ FEB f n m q (fun k => ∃ u, u < s ∧ k = q (r u))) → ∀ f', XI f' → zf f f' → R (some (.int 1)) (shF L, f', g)) (H0 : ¬ (∃ r, inc s m r ∧ FEB f n m q (fun k => ∃ u, u < s ∧ k = q (r u))) → ∀ f', XI f' → zf f f' → R (some (.int 0)) (shF L, f', g)) : Run mtab d 85 [.ref 129, .int (nI s)] (shF L, f, g) R := by
  obtain ⟨d, rfl⟩ : ∃ e, d = e + 1 := ⟨d - 1, by omega⟩
  refine go_X9_chooseAsides rfl ?_
  conv => whnf
  have hm20 := hC.2.1
  simp only [hC.2.2.2.1]
  by_cases hsm : s ≤ m
  · refine ⟨fun c => ?_, fun c => absurd (nI_le hsm (by omega)) c⟩
    conv => whnf
    exact sca1 (by omega) hs1 hs hsm hC hZ H1 H0 s 0 _ f (by omega) rfl hX (zf_refl _) (fun u hu => absurd hu (by omega))
  · refine ⟨fun c => absurd c (nI_ge (by omega) (by omega)), fun c => ?_⟩
    conv => whnf
    have G := H0 (fun ⟨r, hr, _⟩ => by have := hr.2 0 (by omega); omega) f hX (zf_refl _)
    first | exact ⟨Or.inl rfl, G⟩ | exact G
set_option maxRecDepth 100000 in
set_option maxHeartbeats 4000000 in
theorem sfa_st {d L n m s : Nat} {f0 f : Nat → Nat → Int32} {g : Nat → Nat → Int64} {q : Nat → Nat} {x : Int32} {R : Option Value → mH → Prop} (hd : 4 ≤ d) (hs1 : 1 ≤ s) (hs : s ≤ 3) (hC : CT f0 n m q) (hZ : Z137 f0) (hx : x = nI s) (hX : XI f) (hF : zf f0 f) (HY : (∃ r, inc s m r ∧ FEB f0 n m q (fun k => ∃ u, u < s ∧ k = q (r u))) → ∀ f', XI f' → zf f0 f' → R (some (.int (nI s))) (shF L, f', g)) (HN : ¬ (∃ r, inc s m r ∧ FEB f0 n m q (fun k => ∃ u, u < s ∧ k = q (r u))) → ∀ (f' : Nat → Nat → Int32) (x' : Int32), x' = nI (s + 1) → XI f' → zf f0 f' → WPe pg_X9_findAsides none (Run mtab d) R (m_drop pg_X9_findAsides 7) [some (.ref 129), some (.int x')] [] (shF L, f', g)) : WPe pg_X9_findAsides none (Run mtab d) R (m_drop pg_X9_findAsides 7) [some (.ref 129), some (.int x)] [] (shF L, f, g) := by
  subst hx
  have eS : (∃ r, inc s m r ∧ FEB f n m q (fun k => ∃ u, u < s ∧ k = q (r u))) ↔ (∃ r, inc s m r ∧ FEB f0 n m q (fun k => ∃ u, u < s ∧ k = q (r u))) := by simp only [FEB_zf hF]
  refine at_X9_findAsides ?_
  conv => whnf
  refine ⟨fun c => absurd c (nI_nlt (a := 3) (b := s) (by omega) (by omega)), fun c => ?_⟩
  conv => whnf
  refine sf_chooseAsides (by omega) hX hs1 hs (CT_g (fun a i h1 _ h3 => hF a i h1 h3) hC) (zf_z hF hZ) (fun y f1 x1 k1 => ?_) (fun y f1 x1 k1 => ?_)
  · conv => whnf
    refine ⟨fun c9 => absurd (show (1 : Int32) = 0 from c9) (by decide), fun _ => ?_⟩
    conv => whnf
    exact HY (eS.mp y) f1 x1 (zf_t hF k1)
  · conv => whnf
    refine ⟨fun _ => ?_, fun c9 => absurd (rfl : (0 : Int32) = 0) c9⟩
    conv => whnf
    exact HN (fun z => y (eS.mpr z)) f1 _ (nI_1 s) x1 (zf_t hF k1)
set_option maxRecDepth 100000 in
set_option maxHeartbeats 4000000 in
theorem sf_findAsides {d L : Nat} {f : Nat → Nat → Int32} {g : Nat → Nat → Int64} {n m c : Nat} {q : Nat → Nat} {Cn : Nat → Prop} {R : Option Value → mH → Prop} (hd : 5 ≤ d) (hX : XI f) (hC : CT f n m q) (hZ : Z137 f) (h1 : ∀ j, j < m → q j < c ∧ Cn (q j)) (h2 : ∀ k, k < c → Cn k → ∃ j, j < m ∧ q j = k) (h3 : ∀ j j', j < j' → j' < m → q j < q j') (hq : (f 129 9 = 1 ∧ ¬ FEB f n m q (fun _ => False)) ∨ (f 129 9 = 0 ∧ FEB f n m q (fun _ => False))) (H : ∀ r f', AS (FEB f n m q) Cn c r → XI f' → zf f f' → R (some (.int r)) (shF L, f', g)) : Run mtab d 83 [.ref 129] (shF L, f, g) R := by
  obtain ⟨d, rfl⟩ : ∃ e, d = e + 1 := ⟨d - 1, by omega⟩
  refine go_X9_findAsides rfl ?_
  conv => whnf
  rcases hq with ⟨e9, nf⟩ | ⟨e9, fe⟩
  · simp only [e9]
    refine ⟨fun _ => ?_, fun c9 => absurd (show (1 : Int32) = 0 from c9) (by decide)⟩
    conv => whnf
    have q1 := S1_q (FE := FEB f n m q) h1 h2
    have q2 := S2_q (FE := FEB f n m q) h1 h2 h3
    have q3 := S3_q (FE := FEB f n m q) h1 h2 h3
    refine sfa_st (s := 1) (f0 := f) (by omega) (by omega) (by omega) hC hZ rfl hX (zf_refl _) (fun y f' x' k' => H _ f' (Or.inr (Or.inl ⟨nf, q1.mpr y, rfl⟩)) x' k') (fun n1 f1 x1 hx1 X1 k1 => ?_)
    refine sfa_st (s := 2) (f0 := f) (by omega) (by omega) (by omega) hC hZ hx1 X1 k1 (fun y f' x' k' => H _ f' (Or.inr (Or.inr (Or.inl ⟨nf, fun z => n1 (q1.mp z), q2.mpr y, rfl⟩))) x' k') (fun n2 f2 x2 hx2 X2 k2 => ?_)
    refine sfa_st (s := 3) (f0 := f) (by omega) (by omega) (by omega) hC hZ hx2 X2 k2 (fun y f' x' k' => H _ f' (Or.inr (Or.inr (Or.inr (Or.inl ⟨nf, fun z => n1 (q1.mp z), fun z => n2 (q2.mp z), q3.mpr y, rfl⟩)))) x' k') (fun n3 f3 x3 hx3 X3 k3 => ?_)
    subst hx3
    refine at_X9_findAsides ?_
    conv => whnf
    refine ⟨fun _ => ?_, fun c9 => absurd (by decide) c9⟩
    conv => whnf
    exact H _ f3 (Or.inr (Or.inr (Or.inr (Or.inr ⟨nf, fun z => n1 (q1.mp z), fun z => n2 (q2.mp z), fun z => n3 (q3.mp z), rfl⟩)))) X3 k3
  · simp only [e9]
    refine ⟨fun c9 => absurd True.intro c9, fun _ => ?_⟩
    conv => whnf
    exact H _ f (Or.inl ⟨fe, rfl⟩) hX (zf_refl _)
