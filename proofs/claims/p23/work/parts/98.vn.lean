theorem smf_rv {d L n v h m j : Nat} {f : Nat → Nat → Int32} {g : Nat → Nat → Int64} {R : Option Value → mH → Prop} (hd : 6 ≤ d) (s : SCo f n v h m) (hj : j < m) (H : R (some (.int (cntl (fun i => 0 < scM f v h j i) n 0 0))) (shF L, f, g)) : Run mtab d 198 [.ref 181, .int (nI j)] (shF L, f, g) R := by
  obtain ⟨a1, a2, a3, a4, a5, a6, a7, a8, a9, a10, a11⟩ := s
  obtain ⟨u1, u2, u3, u4⟩ := a11 j hj
  exact smf_rivalsOf (n := n) (v := v) (h := h) hd (by omega) u1 u2 u3 (fun w hw => hM_in a9 hw) a10 a5 a1 a7 a3 a8 a4 H
theorem cI_y {P : Nat → Prop} {i : Nat} (h : P i) : nI (cN P i) + 1 = nI (cN P (i + 1)) := by rw [nI_1, cN_y h]
theorem cI_n {P : Nat → Prop} {i : Nat} (h : ¬ P i) : nI (cN P i) + 0 = nI (cN P (i + 1)) := by rw [Int32.add_zero, cN_n h]
/-- a mention that is counted -/
def MNP (f : Nat → Nat → Int32) (n v h : Nat) (x : Int32) (j : Nat) : Prop := (x = 0 ∧ cntl (fun i => 0 < scM f v h j i) n 0 0 = 0) ∨ (¬ x = 0 ∧ ¬ f 204 j < 0 ∧ (x = 1 ∨ ¬ f 205 j = 0))
def HSp (f : Nat → Nat → Int32) (m : Nat) (w y : Int32) : Prop := ∃ j, j < m ∧ f 204 j = w ∧ ¬ f 205 j = 0 ∧ f 203 (9 * j) = y
set_option maxRecDepth 100000 in
set_option maxHeartbeats 4000000 in
theorem mmn_lp {d L n v h m : Nat} {f : Nat → Nat → Int32} {g : Nat → Nat → Int64} {w : Int32} {R : Option Value → mH → Prop} (hd : 6 ≤ d) (s : SCo f n v h m) (H : R (some (.int (nI (cN (MNP f n v h w) m)))) (shF L, f, g)) :
    ∀ (k i : Nat) (x a : Int32), i + k = m → x = nI i → a = nI (cN (MNP f n v h w) i) → WPe pg_X11_mentions none (Run mtab d) R (m_drop pg_X11_mentions 14) [some (.ref 181), some (.int w), some (.int a), some (.int x)] [] (shF L, f, g)
  | 0, i, x, a, hi, hx, ha => by
    have hm50 := s.2.1
    have hmb := s.2.2.2.2.2.1
    have e : i = m := by omega
    subst hx
    subst ha
    subst e
    refine at_X11_mentions ?_
    conv => whnf
    simp only [hmb]
    refine ⟨fun _ => ?_, fun y9 => absurd (nI_le (Nat.le_refl _) (by omega)) y9⟩
    conv => whnf
    exact H
  | k + 1, i, x, a, hi, hx, ha => by
    have hm50 := s.2.1
    have hmb := s.2.2.2.2.2.1
    subst hx
    subst ha
    have hcl : (nI i).toNatClampNeg = i := nI_clamp (by omega)
    have yes : MNP f n v h w i → nI (cN (MNP f n v h w) i) + 1 = nI (cN (MNP f n v h w) (i + 1)) := fun z => by rw [nI_1, cN_y z]
    have no : ¬ MNP f n v h w i → nI (cN (MNP f n v h w) i) + 0 = nI (cN (MNP f n v h w) (i + 1)) := fun z => by rw [Int32.add_zero, cN_n z]
    refine at_X11_mentions ?_
    conv => whnf
    simp only [hmb]
    refine ⟨fun y9 => absurd y9 (nI_ge (by omega) (by omega)), fun _ => ?_⟩
    conv => whnf
    by_cases c0 : w = 0
    · refine ⟨fun y9 => absurd c0 y9, fun _ => ?_⟩
      conv => whnf
      refine smf_rv (n := n) (v := v) (h := h) (m := m) (by omega) s (by omega) ?_
      conv => whnf
      by_cases c1 : cntl (fun w => 0 < scM f v h i w) n 0 0 = 0
      · refine ⟨fun y9 => absurd c1 y9, fun _ => ?_⟩
        conv => whnf
        exact mmn_lp hd s H k (i + 1) _ _ (by omega) (nI_1 i) (yes (Or.inl ⟨c0, c1⟩))
      · refine ⟨fun _ => ?_, fun y9 => absurd y9 c1⟩
        conv => whnf
        exact mmn_lp hd s H k (i + 1) _ _ (by omega) (nI_1 i) (no (fun z => z.elim (fun z => c1 z.2) (fun z => z.1 c0)))
    · refine ⟨fun _ => ?_, fun y9 => absurd y9 c0⟩
      conv => whnf
      refine ⟨vp_in_nI (by omega) (by decide), ?_⟩
      conv => whnf
      simp only [hcl]
      by_cases c1 : f 204 i < 0
      · refine ⟨fun _ => ?_, fun y9 => absurd c1 y9⟩
        conv => whnf
        exact mmn_lp hd s H k (i + 1) _ _ (by omega) (nI_1 i) (no (fun z => z.elim (fun z => c0 z.1) (fun z => z.2.1 c1)))
      · refine ⟨fun y9 => absurd y9 c1, fun _ => ?_⟩
        conv => whnf
        by_cases c2 : w = 1
        · refine ⟨fun _ => ?_, fun y9 => absurd c2 y9⟩
          conv => whnf
          exact mmn_lp hd s H k (i + 1) _ _ (by omega) (nI_1 i) (yes (Or.inr ⟨c0, c1, Or.inl c2⟩))
        · refine ⟨fun y9 => absurd y9 c2, fun _ => ?_⟩
          conv => whnf
          refine ⟨vp_in_nI (by omega) (by decide), ?_⟩
          conv => whnf
          simp only [hcl]
          by_cases c3 : f 205 i = 0
          · refine ⟨fun _ => ?_, fun y9 => absurd c3 y9⟩
            conv => whnf
            exact mmn_lp hd s H k (i + 1) _ _ (by omega) (nI_1 i) (no (fun z => z.elim (fun z => c0 z.1) (fun z => z.2.2.elim c2 (fun z => z c3))))
          · refine ⟨fun y9 => absurd y9 c3, fun _ => ?_⟩
            conv => whnf
            exact mmn_lp hd s H k (i + 1) _ _ (by omega) (nI_1 i) (yes (Or.inr ⟨c0, c1, Or.inr c3⟩))
theorem HSp_s {f : Nat → Nat → Int32} {i : Nat} {w y : Int32} (h : HSp f i w y) : HSp f (i + 1) w y := by
  obtain ⟨j, h1, h2⟩ := h
  exact ⟨j, by omega, h2⟩
theorem HSp_n {f : Nat → Nat → Int32} {i : Nat} {w y : Int32} (h : ¬ HSp f i w y) (no : ¬ (f 204 i = w ∧ ¬ f 205 i = 0 ∧ f 203 (9 * i) = y)) : ¬ HSp f (i + 1) w y := fun ⟨j, h1, h2⟩ => by
  by_cases e : j = i
  · subst e
    exact no h2
  · exact h ⟨j, by omega, h2⟩
set_option maxRecDepth 100000 in
set_option maxHeartbeats 4000000 in
theorem hsf_lp {d L m : Nat} {f : Nat → Nat → Int32} {g : Nat → Nat → Int64} {w y : Int32} {R : Option Value → mH → Prop} (hm : m ≤ 50) (hb : f 181 27 = nI m) (H1 : HSp f m w y → R (some (.int 1)) (shF L, f, g)) (H0 : ¬ HSp f m w y → R (some (.int 0)) (shF L, f, g)) :
    ∀ (k i : Nat) (x a : Int32), i + k = m → x = nI i → ((a = 1 ∧ HSp f i w y) ∨ (a = 0 ∧ ¬ HSp f i w y)) → WPe pg_X11_hasSure none (Run mtab d) R (m_drop pg_X11_hasSure 4) [some (.ref 181), some (.int w), some (.int y), some (.int a), some (.int x)] [] (shF L, f, g)
  | 0, i, x, a, hi, hx, ha => by
    have e : i = m := by omega
    subst hx
    subst e
    refine at_X11_hasSure ?_
    conv => whnf
    simp only [hb]
    refine ⟨fun _ => ?_, fun y9 => absurd (nI_le (Nat.le_refl _) (by omega)) y9⟩
    conv => whnf
    rcases ha with ⟨rfl, h⟩ | ⟨rfl, h⟩
    · first | exact ⟨Or.inr rfl, H1 h⟩ | exact ⟨Or.inr True.intro, H1 h⟩
    · first | exact ⟨Or.inl rfl, H0 h⟩ | exact ⟨Or.inl True.intro, H0 h⟩
  | k + 1, i, x, a, hi, hx, ha => by
    subst hx
    have hcl : (nI i).toNatClampNeg = i := nI_clamp (by omega)
    have hc9 : (nI (9 * i)).toNatClampNeg = 9 * i := nI_clamp (by omega)
    refine at_X11_hasSure ?_
    conv => whnf
    simp only [hb]
    refine ⟨fun y9 => absurd y9 (nI_ge (by omega) (by omega)), fun _ => ?_⟩
    conv => whnf
    rcases ha with ⟨rfl, h⟩ | ⟨rfl, h⟩
    · (first | refine ⟨fun _ => ?_, fun z9 => absurd z9 (by decide)⟩ | refine ⟨fun _ => ?_, fun z9 => False.elim z9⟩)
      conv => whnf
      exact hsf_lp hm hb H1 H0 k (i + 1) _ _ (by omega) (nI_1 i) (Or.inl ⟨rfl, HSp_s h⟩)
    · (first | refine ⟨fun z9 => absurd rfl z9, fun _ => ?_⟩ | refine ⟨fun z9 => absurd True.intro z9, fun _ => ?_⟩ | refine ⟨fun z9 => False.elim z9, fun _ => ?_⟩)
      conv => whnf
      refine ⟨vp_in_nI (by omega) (by decide), ?_⟩
      conv => whnf
      simp only [hcl]
      by_cases c1 : f 204 i = w
      · refine ⟨fun y9 => absurd c1 y9, fun _ => ?_⟩
        conv => whnf
        refine ⟨vp_in_nI (by omega) (by decide), ?_⟩
        conv => whnf
        simp only [hcl]
        by_cases c2 : f 205 i = 0
        · refine ⟨fun _ => ?_, fun y9 => absurd c2 y9⟩
          conv => whnf
          exact hsf_lp hm hb H1 H0 k (i + 1) _ _ (by omega) (nI_1 i) (Or.inr ⟨rfl, HSp_n h (fun z => z.2.1 c2)⟩)
        · refine ⟨fun y9 => absurd y9 c2, fun _ => ?_⟩
          conv => whnf
          simp only [nI_9m]
          refine ⟨vp_in_nI (by omega) (by decide), ?_⟩
          conv => whnf
          simp only [hc9]
          by_cases c3 : f 203 (9 * i) = y
          · refine ⟨fun y9 => absurd c3 y9, fun _ => ?_⟩
            conv => whnf
            exact hsf_lp hm hb H1 H0 k (i + 1) _ _ (by omega) (nI_1 i) (Or.inl ⟨rfl, ⟨i, by omega, c1, c2, c3⟩⟩)
          · refine ⟨fun _ => ?_, fun y9 => absurd y9 c3⟩
            conv => whnf
            exact hsf_lp hm hb H1 H0 k (i + 1) _ _ (by omega) (nI_1 i) (Or.inr ⟨rfl, HSp_n h (fun z => c3 z.2.2)⟩)
      · refine ⟨fun _ => ?_, fun y9 => absurd y9 c1⟩
        conv => whnf
        exact hsf_lp hm hb H1 H0 k (i + 1) _ _ (by omega) (nI_1 i) (Or.inr ⟨rfl, HSp_n h (fun z => c1 z.1)⟩)
set_option maxRecDepth 100000 in
set_option maxHeartbeats 4000000 in
theorem smf_hasSure {d L : Nat} {f : Nat → Nat → Int32} {g : Nat → Nat → Int64} {m : Nat} {w y : Int32} {R : Option Value → mH → Prop} (hd : 2 ≤ d) (hm : m ≤ 50) (hb : f 181 27 = nI m) (H1 : HSp f m w y → R (some (.int 1)) (shF L, f, g)) (H0 : ¬ HSp f m w y → R (some (.int 0)) (shF L, f, g)) : Run mtab d 212 [.ref 181, .int w, .int y] (shF L, f, g) R := by
  obtain ⟨d, rfl⟩ : ∃ e, d = e + 1 := ⟨d - 1, by omega⟩
  refine go_X11_hasSure rfl ?_
  conv => whnf
  exact hsf_lp hm hb H1 H0 m 0 _ _ (by omega) rfl (Or.inr ⟨rfl, fun ⟨j, h1, _⟩ => absurd h1 (Nat.not_lt_zero _)⟩)
set_option maxRecDepth 100000 in
set_option maxHeartbeats 8000000 in
theorem ctdf_lp {d L n m : Nat} {f : Nat → Nat → Int32} {g : Nat → Nat → Int64} {x1 x2 x3 : Int32} {R : Option Value → mH → Prop} (hd : 2 ≤ d) (hn : n ≤ 40) (hm : m ≤ 50) (hnb : f 181 0 = nI n) (hmb : f 181 27 = nI m) (G : ∀ r, r = ctv x3 (nI (cN (fun w => HSp f m (nI w) x1) n)) (nI (cN (fun w => HSp f m (nI w) x2) n)) (nI (cN (fun w => HSp f m (nI w) x1 ∧ HSp f m (nI w) x2) n)) → inr 0 4 x3 → R (some (.int r)) (shF L, f, g)) (q4 : inr 0 4 x3) :
    ∀ (k i : Nat) (x a b z : Int32) (s8 s9 : Option Value), i + k = n → x = nI i → a = nI (cN (fun w => HSp f m (nI w) x1) i) → b = nI (cN (fun w => HSp f m (nI w) x2) i) → z = nI (cN (fun w => HSp f m (nI w) x1 ∧ HSp f m (nI w) x2) i) → WPe pg_X11_counted none (Run mtab d) R (m_drop pg_X11_counted 33) [some (.ref 181), some (.int x1), some (.int x2), some (.int x3), some (.int a), some (.int b), some (.int z), some (.int x), s8, s9] [] (shF L, f, g)
  | 0, i, x, a, b, z, s8, s9, hi, hx, ha, hb, hz => by
    have e : i = n := by omega
    subst hx
    subst e
    rw [← ha, ← hb, ← hz] at G
    refine at_X11_counted ?_
    conv => whnf
    simp only [hnb]
    refine ⟨fun _ => ?_, fun y9 => absurd (nI_le (Nat.le_refl _) (by omega)) y9⟩
    conv => whnf
    by_cases t0 : x3 = 0
    · refine ⟨fun y9 => absurd t0 y9, fun _ => ?_⟩
      conv => whnf
      exact G _ (ctv_0 t0).symm q4
    · refine ⟨fun _ => ?_, fun y9 => absurd y9 t0⟩
      conv => whnf
      by_cases t1 : x3 = 1
      · refine ⟨fun y9 => absurd t1 y9, fun _ => ?_⟩
        conv => whnf
        exact G _ (ctv_1 t1).symm q4
      · refine ⟨fun _ => ?_, fun y9 => absurd y9 t1⟩
        conv => whnf
        by_cases t2 : x3 = 2
        · refine ⟨fun y9 => absurd t2 y9, fun _ => ?_⟩
          conv => whnf
          exact G _ (ctv_2 t2).symm q4
        · refine ⟨fun _ => ?_, fun y9 => absurd y9 t2⟩
          conv => whnf
          by_cases t4 : x3 = 4
          · refine ⟨fun y9 => absurd t4 y9, fun _ => ?_⟩
            conv => whnf
            exact G _ (ctv_4 t0 t1 t2 (by rw [t4]; decide)).symm q4
          · have t3 := i04 q4 t0 t1 t2 t4
            refine ⟨fun _ => ?_, fun y9 => absurd y9 t4⟩
            conv => whnf
            by_cases z0 : z = 0
            · refine ⟨fun y9 => absurd z0 y9, fun _ => ?_⟩
              conv => whnf
              exact G _ (ctv_30 t3 z0).symm q4
            · refine ⟨fun _ => ?_, fun y9 => absurd y9 z0⟩
              conv => whnf
              refine ⟨z0, ?_⟩
              conv => whnf
              exact G _ (ctv_3 t3 z0).symm q4
  | k + 1, i, x, a, b, z, s8, s9, hi, hx, ha, hb, hz => by
    subst hx
    subst ha
    subst hb
    subst hz
    refine at_X11_counted ?_
    conv => whnf
    simp only [hnb]
    refine ⟨fun y9 => absurd y9 (nI_ge (by omega) (by omega)), fun _ => ?_⟩
    conv => whnf
    refine smf_hasSure (m := m) (by omega) hm hmb (fun h1 => ?_) (fun h1 => ?_)
    · conv => whnf
      refine smf_hasSure (m := m) (by omega) hm hmb (fun h2 => ?_) (fun h2 => ?_)
      · conv => whnf
        (refine ⟨fun z9 => ?_, fun z9 => ?_⟩ <;> first | ((have c9 : (1 : Int32) = 0 := by with_reducible exact z9); exact absurd c9 (by decide)) | exact absurd (rfl : (0 : Int32) = 0) (by with_reducible exact z9) | exact absurd True.intro (by with_reducible exact z9) | exact False.elim (by with_reducible exact z9) | (conv => whnf))
        (refine ⟨fun z9 => ?_, fun z9 => ?_⟩ <;> first | ((have c9 : (1 : Int32) = 0 := by with_reducible exact z9); exact absurd c9 (by decide)) | exact absurd (rfl : (0 : Int32) = 0) (by with_reducible exact z9) | exact absurd True.intro (by with_reducible exact z9) | exact False.elim (by with_reducible exact z9) | (conv => whnf))
        (refine ⟨fun z9 => ?_, fun z9 => ?_⟩ <;> first | ((have c9 : (1 : Int32) = 0 := by with_reducible exact z9); exact absurd c9 (by decide)) | exact absurd (rfl : (0 : Int32) = 0) (by with_reducible exact z9) | exact absurd True.intro (by with_reducible exact z9) | exact False.elim (by with_reducible exact z9) | (conv => whnf))
        (refine ⟨fun z9 => ?_, fun z9 => ?_⟩ <;> first | ((have c9 : (1 : Int32) = 0 := by with_reducible exact z9); exact absurd c9 (by decide)) | exact absurd (rfl : (0 : Int32) = 0) (by with_reducible exact z9) | exact absurd True.intro (by with_reducible exact z9) | exact False.elim (by with_reducible exact z9) | (conv => whnf))
        exact ctdf_lp hd hn hm hnb hmb G q4 k (i + 1) _ _ _ _ _ _ (by omega) (nI_1 i) (cI_y (P := (fun w => HSp f m (nI w) x1)) h1) (cI_y (P := (fun w => HSp f m (nI w) x2)) h2) (cI_y (P := (fun w => HSp f m (nI w) x1 ∧ HSp f m (nI w) x2)) ⟨h1, h2⟩)
      · conv => whnf
        (refine ⟨fun z9 => ?_, fun z9 => ?_⟩ <;> first | ((have c9 : (1 : Int32) = 0 := by with_reducible exact z9); exact absurd c9 (by decide)) | exact absurd (rfl : (0 : Int32) = 0) (by with_reducible exact z9) | exact absurd True.intro (by with_reducible exact z9) | exact False.elim (by with_reducible exact z9) | (conv => whnf))
        (refine ⟨fun z9 => ?_, fun z9 => ?_⟩ <;> first | ((have c9 : (1 : Int32) = 0 := by with_reducible exact z9); exact absurd c9 (by decide)) | exact absurd (rfl : (0 : Int32) = 0) (by with_reducible exact z9) | exact absurd True.intro (by with_reducible exact z9) | exact False.elim (by with_reducible exact z9) | (conv => whnf))
        (refine ⟨fun z9 => ?_, fun z9 => ?_⟩ <;> first | ((have c9 : (1 : Int32) = 0 := by with_reducible exact z9); exact absurd c9 (by decide)) | exact absurd (rfl : (0 : Int32) = 0) (by with_reducible exact z9) | exact absurd True.intro (by with_reducible exact z9) | exact False.elim (by with_reducible exact z9) | (conv => whnf))
        (refine ⟨fun z9 => ?_, fun z9 => ?_⟩ <;> first | ((have c9 : (1 : Int32) = 0 := by with_reducible exact z9); exact absurd c9 (by decide)) | exact absurd (rfl : (0 : Int32) = 0) (by with_reducible exact z9) | exact absurd True.intro (by with_reducible exact z9) | exact False.elim (by with_reducible exact z9) | (conv => whnf))
        exact ctdf_lp hd hn hm hnb hmb G q4 k (i + 1) _ _ _ _ _ _ (by omega) (nI_1 i) (cI_y (P := (fun w => HSp f m (nI w) x1)) h1) (cI_n (P := (fun w => HSp f m (nI w) x2)) h2) (cI_n (P := (fun w => HSp f m (nI w) x1 ∧ HSp f m (nI w) x2)) (fun z9 => h2 z9.2))
    · conv => whnf
      refine smf_hasSure (m := m) (by omega) hm hmb (fun h2 => ?_) (fun h2 => ?_)
      · conv => whnf
        (refine ⟨fun z9 => ?_, fun z9 => ?_⟩ <;> first | ((have c9 : (1 : Int32) = 0 := by with_reducible exact z9); exact absurd c9 (by decide)) | exact absurd (rfl : (0 : Int32) = 0) (by with_reducible exact z9) | exact absurd True.intro (by with_reducible exact z9) | exact False.elim (by with_reducible exact z9) | (conv => whnf))
        (refine ⟨fun z9 => ?_, fun z9 => ?_⟩ <;> first | ((have c9 : (1 : Int32) = 0 := by with_reducible exact z9); exact absurd c9 (by decide)) | exact absurd (rfl : (0 : Int32) = 0) (by with_reducible exact z9) | exact absurd True.intro (by with_reducible exact z9) | exact False.elim (by with_reducible exact z9) | (conv => whnf))
        (refine ⟨fun z9 => ?_, fun z9 => ?_⟩ <;> first | ((have c9 : (1 : Int32) = 0 := by with_reducible exact z9); exact absurd c9 (by decide)) | exact absurd (rfl : (0 : Int32) = 0) (by with_reducible exact z9) | exact absurd True.intro (by with_reducible exact z9) | exact False.elim (by with_reducible exact z9) | (conv => whnf))
        exact ctdf_lp hd hn hm hnb hmb G q4 k (i + 1) _ _ _ _ _ _ (by omega) (nI_1 i) (cI_n (P := (fun w => HSp f m (nI w) x1)) h1) (cI_y (P := (fun w => HSp f m (nI w) x2)) h2) (cI_n (P := (fun w => HSp f m (nI w) x1 ∧ HSp f m (nI w) x2)) (fun z9 => h1 z9.1))
      · conv => whnf
        (refine ⟨fun z9 => ?_, fun z9 => ?_⟩ <;> first | ((have c9 : (1 : Int32) = 0 := by with_reducible exact z9); exact absurd c9 (by decide)) | exact absurd (rfl : (0 : Int32) = 0) (by with_reducible exact z9) | exact absurd True.intro (by with_reducible exact z9) | exact False.elim (by with_reducible exact z9) | (conv => whnf))
        (refine ⟨fun z9 => ?_, fun z9 => ?_⟩ <;> first | ((have c9 : (1 : Int32) = 0 := by with_reducible exact z9); exact absurd c9 (by decide)) | exact absurd (rfl : (0 : Int32) = 0) (by with_reducible exact z9) | exact absurd True.intro (by with_reducible exact z9) | exact False.elim (by with_reducible exact z9) | (conv => whnf))
        (refine ⟨fun z9 => ?_, fun z9 => ?_⟩ <;> first | ((have c9 : (1 : Int32) = 0 := by with_reducible exact z9); exact absurd c9 (by decide)) | exact absurd (rfl : (0 : Int32) = 0) (by with_reducible exact z9) | exact absurd True.intro (by with_reducible exact z9) | exact False.elim (by with_reducible exact z9) | (conv => whnf))
        exact ctdf_lp hd hn hm hnb hmb G q4 k (i + 1) _ _ _ _ _ _ (by omega) (nI_1 i) (cI_n (P := (fun w => HSp f m (nI w) x1)) h1) (cI_n (P := (fun w => HSp f m (nI w) x2)) h2) (cI_n (P := (fun w => HSp f m (nI w) x1 ∧ HSp f m (nI w) x2)) (fun z9 => h1 z9.1))
def SM_mentions (n c v h m : Nat) (f f2 : Nat → Nat → Int32) (x r : Int32) : Prop := (¬ inr 0 2 x ∧ r = -1 ∧ f2 = f) ∨ (inr 0 2 x ∧ JP n c v h m f f2 ∧ r = nI (cN (MNP f2 n v h x) m))
def SM_counted (n c v h m : Nat) (f f2 : Nat → Nat → Int32) (x1 x2 x3 r : Int32) : Prop := (¬ ctw x1 x2 x3 ∧ r = -1 ∧ f2 = f) ∨ (ctw x1 x2 x3 ∧ JP n c v h m f f2 ∧ r = ctv x3 (nI (cN (fun w => HSp f2 m (nI w) x1) n)) (nI (cN (fun w => HSp f2 m (nI w) x2) n)) (nI (cN (fun w => HSp f2 m (nI w) x1 ∧ HSp f2 m (nI w) x2) n)))
set_option maxRecDepth 100000 in
set_option maxHeartbeats 4000000 in
theorem smf_mentionsQ {d L : Nat} {f : Nat → Nat → Int32} {g : Nat → Nat → Int64} {n c v h m : Nat} {x : Int32} {R : Option Value → mH → Prop} (hd : 10 ≤ d) (hX : XI f) (hY : MY n c v f) (hJ : MJ f) (hS : SCo f n v h m) (H : ∀ r f', XI f' → kp [10, 22, 23] f f' → MY n c v f' → MJ f' → SM_mentions n c v h m f f' x r → R (some (.int r)) (shF L, f', g)) : Run mtab d 211 [.ref 181, .int x] (shF L, f, g) R := by
  obtain ⟨d, rfl⟩ : ∃ e, d = e + 1 := ⟨d - 1, by omega⟩
  refine go_X11_mentions rfl ?_
  conv => whnf
  refine ct_i_0_2 (by omega) (fun q => ?_) (fun q => ?_)
  · conv => whnf
    (refine ⟨fun z9 => ?_, fun z9 => ?_⟩ <;> first | ((have c9 : (1 : Int32) = 0 := by with_reducible exact z9); exact absurd c9 (by decide)) | exact absurd (rfl : (0 : Int32) = 0) (by with_reducible exact z9) | exact absurd True.intro (by with_reducible exact z9) | exact False.elim (by with_reducible exact z9) | (conv => whnf))
    refine smf_joinAll (n := n) (c := c) (v := v) (h := h) (m := m) (by omega) hX hY hJ hS (fun f' fb x' k' y' j' o' yc' fj' ja' => ?_)
    conv => whnf
    have s' := SCo_q fj' (SCo_o6 o' hS)
    exact mmn_lp (n := n) (v := v) (h := h) (m := m) (by omega) s' (H _ f' x' k' y' j' (Or.inr ⟨q, ⟨⟨fb, o', yc', fj'⟩, ja'⟩, rfl⟩)) m 0 _ _ (by omega) rfl rfl
  · conv => whnf
    (refine ⟨fun z9 => ?_, fun z9 => ?_⟩ <;> first | ((have c9 : (1 : Int32) = 0 := by with_reducible exact z9); exact absurd c9 (by decide)) | exact absurd (rfl : (0 : Int32) = 0) (by with_reducible exact z9) | exact absurd True.intro (by with_reducible exact z9) | exact False.elim (by with_reducible exact z9) | (conv => whnf))
    exact H _ f hX (kp_refl _ _) hY hJ (Or.inl ⟨q, rfl, rfl⟩)
set_option maxRecDepth 100000 in
set_option maxHeartbeats 4000000 in
theorem smf_countedQ {d L : Nat} {f : Nat → Nat → Int32} {g : Nat → Nat → Int64} {n c v h m : Nat} {x1 x2 x3 : Int32} {R : Option Value → mH → Prop} (hd : 10 ≤ d) (hX : XI f) (hY : MY n c v f) (hJ : MJ f) (hS : SCo f n v h m) (H : ∀ r f', XI f' → kp [10, 22, 23] f f' → MY n c v f' → MJ f' → SM_counted n c v h m f f' x1 x2 x3 r → R (some (.int r)) (shF L, f', g)) : Run mtab d 213 [.ref 181, .int x1, .int x2, .int x3] (shF L, f, g) R := by
  obtain ⟨d, rfl⟩ : ∃ e, d = e + 1 := ⟨d - 1, by omega⟩
  refine go_X11_counted rfl ?_
  conv => whnf
  refine ct_i_0_2 (by omega) (fun q1 => ?_) (fun q1 => ?_)
  · conv => whnf
    (refine ⟨fun z9 => ?_, fun z9 => ?_⟩ <;> first | ((have c9 : (1 : Int32) = 0 := by with_reducible exact z9); exact absurd c9 (by decide)) | exact absurd (rfl : (0 : Int32) = 0) (by with_reducible exact z9) | exact absurd True.intro (by with_reducible exact z9) | exact False.elim (by with_reducible exact z9) | (conv => whnf))
    refine ct_i_0_2 (by omega) (fun q2 => ?_) (fun q2 => ?_)
    · conv => whnf
      (refine ⟨fun z9 => ?_, fun z9 => ?_⟩ <;> first | ((have c9 : (1 : Int32) = 0 := by with_reducible exact z9); exact absurd c9 (by decide)) | exact absurd (rfl : (0 : Int32) = 0) (by with_reducible exact z9) | exact absurd True.intro (by with_reducible exact z9) | exact False.elim (by with_reducible exact z9) | (conv => whnf))
      by_cases q3 : x1 = x2
      · refine ⟨fun _ => ?_, fun y9 => absurd q3 y9⟩
        conv => whnf
        exact H _ f hX (kp_refl _ _) hY hJ (Or.inl ⟨fun hh => absurd q3 hh.2.2.1, rfl, rfl⟩)
      · refine ⟨fun y9 => absurd y9 q3, fun _ => ?_⟩
        conv => whnf
        refine ct_i_0_4 (by omega) (fun q4 => ?_) (fun q4 => ?_)
        · conv => whnf
          (refine ⟨fun z9 => ?_, fun z9 => ?_⟩ <;> first | ((have c9 : (1 : Int32) = 0 := by with_reducible exact z9); exact absurd c9 (by decide)) | exact absurd (rfl : (0 : Int32) = 0) (by with_reducible exact z9) | exact absurd True.intro (by with_reducible exact z9) | exact False.elim (by with_reducible exact z9) | (conv => whnf))
          refine smf_joinAll (n := n) (c := c) (v := v) (h := h) (m := m) (by omega) hX hY hJ hS (fun f' fb x' k' y' j' o' yc' fj' ja' => ?_)
          conv => whnf
          have s' := SCo_q fj' (SCo_o6 o' hS)
          exact ctdf_lp (f := f') (n := n) (m := m) (by omega) s'.1 s'.2.1 s'.2.2.2.2.1 s'.2.2.2.2.2.1 (fun r er _ => H r f' x' k' y' j' (Or.inr ⟨⟨q1, q2, q3, q4⟩, ⟨⟨fb, o', yc', fj'⟩, ja'⟩, er⟩)) q4 n 0 _ _ _ _ _ _ (by omega) rfl rfl rfl rfl
        · conv => whnf
          (refine ⟨fun z9 => ?_, fun z9 => ?_⟩ <;> first | ((have c9 : (1 : Int32) = 0 := by with_reducible exact z9); exact absurd c9 (by decide)) | exact absurd (rfl : (0 : Int32) = 0) (by with_reducible exact z9) | exact absurd True.intro (by with_reducible exact z9) | exact False.elim (by with_reducible exact z9) | (conv => whnf))
          exact H _ f hX (kp_refl _ _) hY hJ (Or.inl ⟨fun hh => absurd hh.2.2.2 q4, rfl, rfl⟩)
    · conv => whnf
      (refine ⟨fun z9 => ?_, fun z9 => ?_⟩ <;> first | ((have c9 : (1 : Int32) = 0 := by with_reducible exact z9); exact absurd c9 (by decide)) | exact absurd (rfl : (0 : Int32) = 0) (by with_reducible exact z9) | exact absurd True.intro (by with_reducible exact z9) | exact False.elim (by with_reducible exact z9) | (conv => whnf))
      exact H _ f hX (kp_refl _ _) hY hJ (Or.inl ⟨fun hh => absurd hh.2.1 q2, rfl, rfl⟩)
  · conv => whnf
    (refine ⟨fun z9 => ?_, fun z9 => ?_⟩ <;> first | ((have c9 : (1 : Int32) = 0 := by with_reducible exact z9); exact absurd c9 (by decide)) | exact absurd (rfl : (0 : Int32) = 0) (by with_reducible exact z9) | exact absurd True.intro (by with_reducible exact z9) | exact False.elim (by with_reducible exact z9) | (conv => whnf))
    exact H _ f hX (kp_refl _ _) hY hJ (Or.inl ⟨fun hh => absurd hh.1 q1, rfl, rfl⟩)
theorem Mst_ex {n r i w : Nat} {S : Nat → Nat → Int} (hn : n ≤ 40) (hr : r ≤ 8) (hS0 : ∀ p w, 0 ≤ S p w ∧ S p w ≤ 136) : ∃ y, Mst r n (S0 S i w) y := by
  obtain ⟨b, hb⟩ := wt_ex hn hr (S0_b (i := i) (v := w) hS0)
  exact ⟨_, Opt_mst (wt_opt hn hr hb)⟩
/-- each mention has an event -/
theorem ev_of {f fa : Nat → Nat → Int32} {n c v m j : Nat} (hMm : RM m f) (r1 : rkY f fa n c v) (hj : j < m) : ∃ e, e < 16 ∧ fa 141 j = nI e := by
  have e9 : fa 141 j = f 141 j := r1.2.1 141 j (by omega) (by omega) (by omega) (by omega) (by omega) (by omega) (by omega)
  obtain ⟨e, he, ee⟩ := inr_nat (n := 15) rfl (hMm.2.2.2 j hj).2.2.2.2.2.2.2.2.2.1.1.2.1
  exact ⟨e, by omega, e9.trans ee⟩
/-- what the model keeps of a place in an event's list -/
theorem JA_q2 {f f1 f2 fa : Nat → Nat → Int32} {n c v h m e q : Nat} {B : Nat → Nat → Nat} (hW : RW n f) (hC : RC c f) (hV : RV v f) (hO : RO h f) (hMm : RM m f) (hSb : ∀ e p w, 0 ≤ Scv fa n h m e p w ∧ Scv fa n h m e p w ≤ 136) (r1 : rkY f fa n c v) (k1 : fx 149 168 fa f1) (hB : BO fa n h m B) (jp : JP n c v h m f1 f2) (he : e < 16) (hq : q < gr (fa 141) (nI e) m) :
    gl (fa 141) (nI e) m q < m ∧ f2 204 (gl (fa 141) (nI e) m q) = (if 0 < Scv fa n h m e q (B e q) then nI (B e q) else -4) ∧ (0 < Scv fa n h m e q (B e q) → (f2 205 (gl (fa 141) (nI e) m q) = 0 ↔ ¬ Su (gr (fa 141) (nI e) m) n (Scv fa n h m e) (B e) q)) := by
  obtain ⟨g1, g2⟩ := (gl_all (E := fa 141) (e := nI e) m).1 q hq
  obtain ⟨jv, _⟩ := JA_at hW hC hV hO hMm g1 he g2 r1 k1 (hB e he) jp
  refine ⟨g1, jv.2.1 q hq, fun c1 => ?_⟩
  obtain ⟨y, hy⟩ := Mst_ex (i := q) (w := B e q) hW.1 (gr_le (fa 141) (nI e) m) (hSb e)
  rw [jv.2.2 q hq c1 y hy]
  by_cases c2 : y < vl (Scv fa n h m e) (B e) (gr (fa 141) (nI e) m)
  · rw [if_pos c2]
    exact ⟨fun z => absurd z (by decide), fun z => absurd ⟨c1, y, hy, c2⟩ z⟩
  · rw [if_neg c2]
    exact ⟨fun _ ⟨_, y', hy', l⟩ => c2 (by rw [Mst_un hy hy']; exact l), fun _ => rfl⟩
/-- who is in no list is not joined -/
theorem JA_in {f f1 f2 fa : Nat → Nat → Int32} {n c v h m j e : Nat} {B : Nat → Nat → Nat} (hW : RW n f) (hC : RC c f) (hV : RV v f) (hO : RO h f) (hMm : RM m f) (r1 : rkY f fa n c v) (k1 : fx 149 168 fa f1) (hB : BO fa n h m B) (jp : JP n c v h m f1 f2) (hj : j < m) (he : e < 16) (ee : fa 141 j = nI e) (h4 : ¬ f2 204 j = -4) : ∃ q, q < gr (fa 141) (nI e) m ∧ gl (fa 141) (nI e) m q = j := by
  obtain ⟨_, no⟩ := JA_at hW hC hV hO hMm hj he ee r1 k1 (hB e he) jp
  apply Classical.byContradiction
  intro z
  exact h4 (no (fun q hq z2 => z ⟨q, hq, z2⟩)).1
theorem Scv_b2 {f fa : Nat → Nat → Int32} {n c v h m : Nat} (hW : RW n f) (hO : RO h f) (hMm : RM m f) (hSz : SZ n f) (r1 : rkY f fa n c v) : ∀ e p w, 0 ≤ Scv fa n h m e p w ∧ Scv fa n h m e p w ≤ 136 := fun e => Scv_b (JH_of hW hO hMm hSz r1)
theorem fin_mentions {f f1 f2 : Nat → Nat → Int32} {n c v h m : Nat} {x v1 v2 : Int32} (hW : RW n f) (hC : RC c f) (hV : RV v f) (hO : RO h f) (hMm : RM m f) (hSz : SZ n f) (s1 : SX_mentions n c v h m f f1 x v1) (s2 : SM_mentions n c v h m f1 f2 x v2) : v1 = v2 := by
  have hm50 := hMm.1
  have hn40 := hW.1
  rcases s2 with ⟨q2, rfl, _⟩ | ⟨q2, jp, rfl⟩
  · rcases s1 with ⟨_, rfl, _⟩ | ⟨q, _⟩ | ⟨q, _⟩
    · rfl
    · exact absurd q q2
    · exact absurd q q2
  · rcases s1 with ⟨q, _⟩ | ⟨_, x0, r1, rfl⟩ | ⟨_, x0, fa, B, z, r1, k1, hB, hz, rfl⟩
    · exact absurd q2 q
    · obtain ⟨⟨fb, o, y, k2⟩, _⟩ := jp
      refine congrArg nI (cN_congr m (fun j hj => ?_))
      have e1 : cntl (fun i => 0 < scC f1 h j i) n 0 0 = cntl (fun i => 0 < scM f2 v h j i) n 0 0 := cntl_eq n (fun i hi => by rw [sce_eq hW hC hV hO hMm hj hi r1 o y, scM_q k2]) n 0 0 (by omega)
      show (cntl (fun i => 0 < scC f1 h j i) n 0 0 = 0) ↔ _
      rw [e1]
      exact ⟨fun z => Or.inl ⟨x0, z⟩, fun z => z.elim (fun z => z.2) (fun z => absurd x0 z.1)⟩
    · have hSb := Scv_b2 hW hO hMm hSz r1
      have m4 : (-4 : Int32) < 0 := by decide
      refine congrArg nI (cN_all (P := MNP f2 n v h x) (E := fa 141) (c := fun e => cjP z (gr (fa 141) (nI e) m) n (Scv fa n h m e) (B e)) (fun j hj => ev_of hMm r1 hj) (fun j e hj p ej => ?_) (fun e q he hq => ?_))
      · obtain ⟨e', he', ee'⟩ := ev_of hMm r1 hj
        rw [show nI e = nI e' from ej.symm.trans ee']
        refine JA_in hW hC hV hO hMm r1 k1 hB jp hj he' ee' (fun z => ?_)
        rcases p with p | p
        · exact x0 p.1
        · exact p.2.1 (by rw [z]; exact m4)
      · obtain ⟨g1, a1, a2⟩ := JA_q2 hW hC hV hO hMm hSb r1 k1 hB jp he hq
        by_cases c1 : 0 < Scv fa n h m e q (B e q)
        · have bn := S_n (n := n) Scv_Z c1
          rw [if_pos c1] at a1
          have a3 := a2 c1
          have n4 : ¬ f2 204 (gl (fa 141) (nI e) m q) < 0 := by
            rw [a1]
            exact nI_nlt (b := 0) (by omega) (by omega)
          constructor
          · intro z9
            refine Or.inr ⟨x0, n4, ?_⟩
            rcases hz with ⟨x2, rfl⟩ | ⟨x2, rfl⟩
            · exact Or.inr (fun w => (a3.mp w) (z9.2.resolve_left (by decide)))
            · obtain ⟨k, hk, rfl⟩ := inr_nat (n := 2) rfl q2
              have ek : k = 0 ∨ k = 1 ∨ k = 2 := by omega
              rcases ek with rfl | rfl | rfl
              · exact absurd rfl x0
              · exact Or.inl rfl
              · exact absurd rfl x2
          · intro z9
            refine ⟨c1, ?_⟩
            rcases z9 with z9 | ⟨_, _, z9⟩
            · exact absurd z9.1 x0
            · rcases hz with ⟨x2, rfl⟩ | ⟨x2, rfl⟩
              · refine Or.inr (Classical.byContradiction (fun w => ?_))
                rcases z9 with z9 | z9
                · rw [x2] at z9
                  exact absurd z9 (by decide)
                · exact z9 (a3.mpr w)
              · exact Or.inl rfl
        · rw [if_neg c1] at a1
          constructor
          · exact fun z9 => absurd z9.1 c1
          · intro z9
            rcases z9 with z9 | z9
            · exact absurd z9.1 x0
            · exact absurd (by rw [a1]; exact m4) z9.2.1
theorem SW_HS {f f1 f2 fa : Nat → Nat → Int32} {n c v h m w : Nat} {y : Int32} {B : Nat → Nat → Nat} (hW : RW n f) (hC : RC c f) (hV : RV v f) (hO : RO h f) (hMm : RM m f) (hSb : ∀ e p w, 0 ≤ Scv fa n h m e p w ∧ Scv fa n h m e p w ≤ 136) (r1 : rkY f fa n c v) (k1 : fx 149 168 fa f1) (hB : BO fa n h m B) (jp : JP n c v h m f1 f2) : (SWp y n (fa 140) (fun e => gr (fa 141) (nI e) m) (fun e => gl (fa 141) (nI e) m) (fun e => Scv fa n h m e) B 16 0) w ↔ (w < n ∧ HSp f2 m (nI w) y) := by
  have hm50 := hMm.1
  have hn40 := hW.1
  have kd : ∀ j, j < m → f2 203 (9 * j) = fa 140 j := fun j hj => by
    obtain ⟨⟨fb, o, yc, k2⟩, _⟩ := jp
    have fr1 : ∀ a i, (a < 127 ∨ 137 < a) → fa a i = f a i := fun a i z => r1.2.1 a i (by omega) (by omega) (by omega) (by omega) (by omega) (by omega) (by omega)
    rw [k2 203 _ (by omega) (by omega), o 203 _ (by omega) (by omega) (by omega) (by omega) (by omega) (by omega), k1 203 _ (by omega), fr1 203 _ (by omega), fr1 140 j (by omega)]
    exact (hMm.2.2.2 j hj).1.symm
  constructor
  · intro ⟨e, q, h1, h2, h3, h4, h5⟩
    obtain ⟨g1, a1, a2⟩ := JA_q2 hW hC hV hO hMm hSb r1 k1 hB jp (e := e) (by omega) h2
    have c1 := h4.1
    have bn := S_n (n := n) Scv_Z c1
    have h5' : B e q = w := h5
    rw [if_pos c1, h5'] at a1
    rw [h5'] at bn
    exact ⟨bn, gl (fa 141) (nI e) m q, g1, a1, fun z => (a2 c1).mp z h4, (kd _ g1).trans h3⟩
  · intro ⟨hw, j, hj, h1, h2, h3⟩
    obtain ⟨e, he, ee⟩ := ev_of hMm r1 hj
    obtain ⟨q, hq, hl⟩ := JA_in hW hC hV hO hMm r1 k1 hB jp hj he ee (by rw [h1]; exact nI_m4 (by omega))
    obtain ⟨g1, a1, a2⟩ := JA_q2 hW hC hV hO hMm hSb r1 k1 hB jp he hq
    rw [hl] at a1 a2
    by_cases c1 : 0 < Scv fa n h m e q (B e q)
    · have bn := S_n (n := n) Scv_Z c1
      rw [if_pos c1, h1] at a1
      have ew : w = B e q := (nI_eq (by omega) (by omega)).mp a1
      exact ⟨e, q, Or.inl he, hq, by
        show fa 140 (gl (fa 141) (nI e) m q) = y
        rw [hl, ← kd j hj]
        exact h3, Classical.byContradiction (fun z => h2 ((a2 c1).mpr z)), ew.symm⟩
    · rw [if_neg c1, h1] at a1
      exact absurd a1 (nI_m4 (by omega))
theorem fin_counted {f f1 f2 : Nat → Nat → Int32} {n c v h m : Nat} {x1 x2 x3 v1 v2 : Int32} (hW : RW n f) (hC : RC c f) (hV : RV v f) (hO : RO h f) (hMm : RM m f) (hSz : SZ n f) (s1 : SX_counted n c v h m f f1 x1 x2 x3 v1) (s2 : SM_counted n c v h m f1 f2 x1 x2 x3 v2) : v1 = v2 := by
  have hn40 := hW.1
  rcases s2 with ⟨q2, rfl, _⟩ | ⟨q2, jp, rfl⟩
  · rcases s1 with ⟨_, rfl, _⟩ | ⟨q, _⟩
    · rfl
    · exact absurd q q2
  · rcases s1 with ⟨q, _⟩ | ⟨_, fa, B, r1, k1, hB, rfl⟩
    · exact absurd q2 q
    · have hSb := Scv_b2 hW hO hMm hSz r1
      have key : ∀ y w, (SWp y n (fa 140) (fun e => gr (fa 141) (nI e) m) (fun e => gl (fa 141) (nI e) m) (fun e => Scv fa n h m e) B 16 0) w ↔ (w < n ∧ HSp f2 m (nI w) y) := fun y w => SW_HS hW hC hV hO hMm hSb r1 k1 hB jp
      have t : ∀ y, cN (SWp y n (fa 140) (fun e => gr (fa 141) (nI e) m) (fun e => gl (fa 141) (nI e) m) (fun e => Scv fa n h m e) B 16 0) 40 = cN (fun w => HSp f2 m (nI w) y) n := fun y => by
        rw [cN_more (P := (SWp y n (fa 140) (fun e => gr (fa 141) (nI e) m) (fun e => gl (fa 141) (nI e) m) (fun e => Scv fa n h m e) B 16 0)) (n := n) 40 hn40 (fun i h1 _ z => absurd ((key y i).mp z).1 (by omega))]
        exact cN_congr n (fun w hw => ⟨fun z => ((key y w).mp z).2, fun z => (key y w).mpr ⟨hw, z⟩⟩)
      have t3 : cN (fun w => (SWp x1 n (fa 140) (fun e => gr (fa 141) (nI e) m) (fun e => gl (fa 141) (nI e) m) (fun e => Scv fa n h m e) B 16 0) w ∧ (SWp x2 n (fa 140) (fun e => gr (fa 141) (nI e) m) (fun e => gl (fa 141) (nI e) m) (fun e => Scv fa n h m e) B 16 0) w) 40 = cN (fun w => HSp f2 m (nI w) x1 ∧ HSp f2 m (nI w) x2) n := by
        rw [cN_more (P := fun w => (SWp x1 n (fa 140) (fun e => gr (fa 141) (nI e) m) (fun e => gl (fa 141) (nI e) m) (fun e => Scv fa n h m e) B 16 0) w ∧ (SWp x2 n (fa 140) (fun e => gr (fa 141) (nI e) m) (fun e => gl (fa 141) (nI e) m) (fun e => Scv fa n h m e) B 16 0) w) (n := n) 40 hn40 (fun i h1 _ z => absurd ((key x1 i).mp z.1).1 (by omega))]
        exact cN_congr n (fun w hw => ⟨fun z => ⟨((key x1 w).mp z.1).2, ((key x2 w).mp z.2).2⟩, fun z => ⟨(key x1 w).mpr ⟨hw, z.1⟩, (key x2 w).mpr ⟨hw, z.2⟩⟩⟩)
      rw [t x1, t x2, t3]
/-- what holds between calls, with the joins that the model keeps -/
def GU (f : Nat → Nat → Int32) : Prop := GT f ∧ MJ f
theorem GU_x {l : List Nat} {f f' : Nat → Nat → Int32} (h : GU f) (x : XI f') (k : kp l f f') (hl : (((((okg l && oke l) && (okm l && ok21 l)) && ok11 l) && oke l) && okJn l) = true) : GU f' := by
  rw [Bool.and_eq_true] at hl
  exact ⟨GT_x h.1 x k hl.1, MJ_kp k hl.2 h.2⟩
theorem GU_m {l : List Nat} {f f' : Nat → Nat → Int32} (h : GU f) (x : XI f') (k : kp l f f') (m : ∃ n c v, MY n c v f') (j : MJ f') (hl : ((((okg l && oke l) && ok21 l) && ok11 l) && oke l) = true) : GU f' := ⟨GT_m h.1 x k m hl, j⟩
theorem GU_s {l l' : List Nat} {f f1 f2 : Nat → Nat → Int32} (h : GU f) (k1 : kp l f f1) (k2 : kp l' f1 f2) (j : GK f2) (m : ∃ n c v, MY n c v f2) (z : f2 = f1 ∨ f2 181 29 = 0 ∨ f2 181 39 = 0) (hl : (((((okw l && oke l) && ok21 l) && ok11 l) && oke l) && okJn l) = true) (hl' : ((((okw l' && oke l') && ok21 l') && ok11 l') && oke l') = true) : GU f2 := by
  rw [Bool.and_eq_true] at hl
  exact ⟨GT_s h.1 k1 k2 j m hl.1 hl', MJ_0 (MJ_kp k1 hl.2 h.2) z⟩
theorem GU_w {l l' : List Nat} {f f1 f2 : Nat → Nat → Int32} (h : GU f) (k1 : kp l f f1) (k2 : kp l' f1 f2) (j : GK f2) (m : ∃ n c v, MY n c v f2) (s : SZe f2) (z : f2 = f1 ∨ f2 181 29 = 0 ∨ f2 181 39 = 0) (hl : ((((okw l && oke l) && ok21 l) && oke l) && okJn l) = true) (hl' : (((okw l' && oke l') && ok21 l') && oke l') = true) : GU f2 := by
  rw [Bool.and_eq_true] at hl
  exact ⟨GT_w h.1 k1 k2 j m s hl.1 hl', MJ_0 (MJ_kp k1 hl.2 h.2) z⟩
theorem GU_j {l l' : List Nat} {f f1 f2 : Nat → Nat → Int32} (h : GU f) (k1 : kp l f f1) (k2 : kp l' f1 f2) (j : GK f2) (hl : (((((okw l && oke l) && (okm l && ok21 l)) && ok11 l) && oke l) && okJn l) = true) (hl' : (((((okw l' && oke l') && (okm l' && ok21 l')) && ok11 l') && oke l') && okJn l') = true) : GU f2 := by
  rw [Bool.and_eq_true] at hl hl'
  exact ⟨GT_j h.1 k1 k2 j hl.1 hl'.1, MJ_kp k2 hl'.2 (MJ_kp k1 hl.2 h.2)⟩
theorem GU_v {f f1 f2 : Nat → Nat → Int32} (h : GU f) (k1 : kp [4] f f1) (k2 : kp [10, 14, 22] f1 f2) (x : XI f2) (r : ∃ v, RV v f2) (m : ∃ n c v, MY n c v f2) (z : f2 = f1 ∨ f2 181 29 = 0 ∨ f2 181 39 = 0) : GU f2 := ⟨GT_v h.1 k1 k2 x r m, MJ_0 (MJ_kp k1 rfl h.2) z⟩
theorem GU_ed {f f1 f2 : Nat → Nat → Int32} (h : GU f) (x1 : XI f1) (k1 : kp [0, 7] f f1) (e1 : EI f1) (q1 : f1 168 7 = edn (f 168 7)) (x2 : XI f2) (k2 : kp [10, 17, 22, 23] f1 f2) (m : ∃ n c v, MY n c v f2) (q2 : f2 181 50 = edn (f1 181 50)) (r : RE2 f2) (j : MJ f2) : GU f2 := ⟨GT_ed h.1 x1 k1 e1 q1 x2 k2 m q2 r, j⟩
theorem GU_ini {f : Nat → Nat → Int32} (hf : ∀ a i, 6 ≤ a → f a i = if a < 227 then inix a i else 0) (h3 : ab3 f) (h2 : ab2 f) : GU f := ⟨GT_ini hf h3 h2, fun _ _ _ _ _ z _ => absurd (by rw [hf 181 29 (by decide), if_pos (by decide)]; rfl) z⟩
theorem jz_st {f f1 : Nat → Nat → Int32} (s : st0 f f1) : f1 = f ∨ f1 181 29 = 0 ∨ f1 181 39 = 0 := s.elim Or.inl (fun z => Or.inr (Or.inl z.2.2.2.2))
theorem jz_AddM {n : Nat} {f f1 : Nat → Nat → Int32} {kind of tu h w t lo hi r : Int32} (s : AddM n f f1 kind of tu h w t lo hi r) : f1 = f ∨ f1 181 29 = 0 ∨ f1 181 39 = 0 := by
  rcases s with ⟨_, _, rfl⟩ | ⟨hn, _, rfl⟩
  · exact Or.inl rfl
  · unfold madd
    exact Or.inr (Or.inl m_ui_s)
theorem jz_work {n : Nat} {f f1 : Nat → Nat → Int32} {x1 x2 x3 x4 x5 x6 r : Int32} (s : SM_work n f f1 x1 x2 x3 x4 x5 x6 r) : f1 = f ∨ f1 181 29 = 0 ∨ f1 181 39 = 0 := by
  rcases s with ⟨_, _, rfl⟩ | ⟨⟨_, ht⟩, s⟩
  · exact Or.inl rfl
  · exact jz_AddM s
theorem jz_version {n : Nat} {f f1 : Nat → Nat → Int32} {x1 x2 x3 x4 x5 x6 r : Int32} (s : SM_version n f f1 x1 x2 x3 x4 x5 x6 r) : f1 = f ∨ f1 181 29 = 0 ∨ f1 181 39 = 0 := by
  rcases s with ⟨_, _, rfl⟩ | ⟨j, _, _, ht, ⟨_, _, rfl⟩ | ⟨_, s⟩⟩
  · exact Or.inl rfl
  · exact Or.inl rfl
  · exact jz_AddM s
theorem jz_print {n : Nat} {f f1 : Nat → Nat → Int32} {x1 x2 x3 x4 x5 x6 x7 r : Int32} (s : SM_print n f f1 x1 x2 x3 x4 x5 x6 x7 r) : f1 = f ∨ f1 181 29 = 0 ∨ f1 181 39 = 0 := by
  rcases s with ⟨_, _, rfl⟩ | ⟨j, _, _, ht, s⟩
  · exact Or.inl rfl
  · exact jz_AddM s
theorem jz_clue {n c : Nat} {f f1 : Nat → Nat → Int32} {x1 x2 x3 r : Int32} (s : SM_clue n c f f1 x1 x2 x3 r) : f1 = f ∨ f1 181 29 = 0 ∨ f1 181 39 = 0 := by
  rcases s with ⟨_, _, rfl⟩ | ⟨hw, ⟨_, _, rfl⟩ | ⟨hc, _, rfl⟩⟩
  · exact Or.inl rfl
  · exact Or.inl rfl
  · unfold mcadd
    exact Or.inr (Or.inl m_ui_s)
theorem jz_vote {n h v : Nat} {f f1 : Nat → Nat → Int32} {x1 x2 x3 x4 x5 r : Int32} (s : SM_vote n h v f f1 x1 x2 x3 x4 x5 r) : f1 = f ∨ f1 181 29 = 0 ∨ f1 181 39 = 0 := by
  rcases s with ⟨_, _, rfl⟩ | ⟨j, _, _, _, ⟨_, _, rfl⟩ | ⟨_, _, _, rfl⟩ | ⟨_, hv, q, _, _, _, rfl⟩⟩
  · exact Or.inl rfl
  · exact Or.inl rfl
  · exact Or.inl rfl
  · unfold mvadd
    exact Or.inr (Or.inl m_ui_s)
