/-- whether one is met on the way from u on -/
def lnl (p : Nat → Int32) (y : Int32) : Nat → Int32 → Prop
  | 0, _ => False
  | k + 1, u => ¬ u < 0 ∧ (u = y ∨ lnl p y k (p u.toNatClampNeg))
/-- how many there are from i on -/
noncomputable def cntl (P : Nat → Prop) : Nat → Nat → Int32 → Int32
  | 0, _, a => a
  | k + 1, i, a => cntl P k (i + 1) (ci (P i) (a + 1) a)
theorem cnt_y {P : Nat → Prop} {k i : Nat} {a : Int32} (h : P i) : cntl P (k + 1) i a = cntl P k (i + 1) (a + 1) := by
  show cntl P k (i + 1) _ = _
  rw [ci_t h]
theorem cnt_n {P : Nat → Prop} {k i : Nat} {a : Int32} (h : ¬ P i) : cntl P (k + 1) i a = cntl P k (i + 1) a := by
  show cntl P k (i + 1) _ = _
  rw [ci_f h]
theorem cntl_eq {P Q : Nat → Prop} (n : Nat) (h : ∀ i, i < n → (P i ↔ Q i)) : ∀ (k i : Nat) (a : Int32), i + k = n → cntl P k i a = cntl Q k i a
  | 0, _, _, _ => rfl
  | k + 1, i, a, hi => by
    by_cases q : P i
    · rw [cnt_y q, cnt_y ((h i (by omega)).mp q)]
      exact cntl_eq n h k (i + 1) _ (by omega)
    · rw [cnt_n q, cnt_n (fun w => q ((h i (by omega)).mpr w))]
      exact cntl_eq n h k (i + 1) _ (by omega)
def LC (f : Nat → Nat → Int32) (y : Int32) (i : Nat) : Prop := lnl (fun j => f 8 j) y 40 (f 8 i)
def LM (f : Nat → Nat → Int32) (y : Int32) (i : Nat) : Prop := lnl (fun j => f 183 j) y i (f 183 i)
theorem OF_up {a b : Int32} {j k : Nat} (h : OF a b j) (hj : j ≤ k) (hk : k < 2 ^ 31) : OF a b k := by
  rcases h with h | ⟨h1, h2, h3⟩
  · exact Or.inl h
  · refine Or.inr ⟨h1, h2, ?_⟩
    rw [Int32.lt_iff_toInt_lt, nI_toInt (by omega)] at h3 ⊢
    omega
theorem ln_eq {f : Nat → Nat → Int32} {y : Int32} {n : Nat} (hn : n ≤ 40) (hO : ∀ j, j < n → OF (f 8 j) (f 183 j) j) : ∀ (t K : Nat) (a b : Int32), t ≤ n → t ≤ K → OF a b t → (lnl (fun j => f 8 j) y K a ↔ lnl (fun j => f 183 j) y t b)
  | 0, K, a, b, ht, hK, h => by
    rcases h with ⟨rfl, rfl⟩ | ⟨_, h2, h3⟩
    · constructor
      · intro z
        cases K with
        | zero => exact z
        | succ K => exact absurd (show (-4 : Int32) < 0 by decide) z.1
      · exact fun z => False.elim z
    · exact absurd h3 h2
  | t + 1, 0, a, b, ht, hK, h => by omega
  | t + 1, K + 1, a, b, ht, hK, h => by
    rcases h with ⟨rfl, rfl⟩ | ⟨rfl, h2, h3⟩
    · constructor
      · exact fun z => absurd (show (-4 : Int32) < 0 by decide) z.1
      · exact fun z => absurd (show (-1 : Int32) < 0 by decide) z.1
    · obtain ⟨u, hu, rfl⟩ := nI_of h2
      have hlt : u < t + 1 := by
        rw [Int32.lt_iff_toInt_lt, nI_toInt hu, nI_toInt (by omega)] at h3
        omega
      have hcl : (nI u).toNatClampNeg = u := nI_clamp hu
      have ih := ln_eq (y := y) hn hO t K (f 8 u) (f 183 u) (by omega) (by omega) (OF_up (hO u (by omega)) (by omega) (by omega))
      show (¬ nI u < 0 ∧ (nI u = y ∨ lnl (fun j => f 8 j) y K (f 8 (nI u).toNatClampNeg))) ↔ (¬ nI u < 0 ∧ (nI u = y ∨ lnl (fun j => f 183 j) y t (f 183 (nI u).toNatClampNeg)))
      rw [hcl]
      exact and_congr Iff.rfl (or_congr Iff.rfl ih)
theorem LC_LM {f : Nat → Nat → Int32} {n : Nat} (hR : RW n f) (y : Int32) : ∀ i, i < n → (LC f y i ↔ LM f y i) := fun i hi => by
  have hn := hR.1
  have hO : ∀ j, j < n → OF (f 8 j) (f 183 j) j := fun j hj => (hR.2.2.2.1 j hj).2.1
  exact ln_eq hn hO i 40 _ _ (by omega) (by omega) (hO i hi)
set_option maxRecDepth 100000 in
theorem ln_lp {d L : Nat} {f : Nat → Nat → Int32} {g : Nat → Nat → Int64} {w y : Int32} {R : Option Value → mH → Prop} (hX : XI f) :
    ∀ (k i : Nat) (x u : Int32), i + k = 40 → x = nI i → inr (-4) 39 u → (lnl (fun j => f 8 j) y k u → R (some (.int 1)) (shF L, f, g)) → (¬ lnl (fun j => f 8 j) y k u → R (some (.int 0)) (shF L, f, g)) → WPe pg_X8_isLeaning none (Run mtab d) R (m_drop pg_X8_isLeaning 7) [some (.ref 6), some (.int w), some (.int y), some (.int u), some (.int x)] [] (shF L, f, g)
  | 0, i, x, u, hi, hx, hu, H1, H0 => by
    have e : i = 40 := by omega
    subst hx
    subst e
    refine at_X8_isLeaning ?_
    conv => whnf
    refine ⟨fun c => ?_, fun c => absurd (by decide) c⟩
    conv => whnf
    exact ⟨Or.inl rfl, H0 (fun z => z)⟩
  | k + 1, i, x, u, hi, hx, hu, H1, H0 => by
    subst hx
    refine at_X8_isLeaning ?_
    conv => whnf
    refine ⟨fun c => absurd c (nI_ge (b := 40) (by omega) (by omega)), fun c => ?_⟩
    conv => whnf
    refine ⟨fun c1 => ?_, fun c1 => ?_⟩
    · conv => whnf
      exact ⟨Or.inl rfl, H0 (fun z => z.1 c1)⟩
    · conv => whnf
      refine ⟨fun c2 => ?_, fun c2 => ?_⟩
      · conv => whnf
        refine ⟨vpi (hi := 39) ⟨i32_nlt.mp c1, hu.2⟩ (by decide), ?_⟩
        conv => whnf
        exact ln_lp hX k (i + 1) _ _ (by omega) (nI_1 i) (xi_8 hX _) (fun z => H1 ⟨c1, Or.inr z⟩) (fun z => H0 (fun w => w.2.elim c2 z))
      · conv => whnf
        exact ⟨Or.inr rfl, H1 ⟨c1, Or.inl c2⟩⟩
set_option maxRecDepth 100000 in
set_option maxHeartbeats 4000000 in
theorem sf_isLeaning {d L : Nat} {f : Nat → Nat → Int32} {g : Nat → Nat → Int64} {j : Nat} {y : Int32} {R : Option Value → mH → Prop} (hd : 2 ≤ d) (hX : XI f) (hj : j < 40) (H1 : LC f y j → R (some (.int 1)) (shF L, f, g)) (H0 : ¬ LC f y j → R (some (.int 0)) (shF L, f, g)) : Run mtab d 76 [.ref 6, .int (nI j), .int y] (shF L, f, g) R := by
  obtain ⟨d, rfl⟩ : ∃ e, d = e + 1 := ⟨d - 1, by omega⟩
  refine go_X8_isLeaning rfl ?_
  conv => whnf
  have hcl : (nI j).toNatClampNeg = j := nI_clamp (by omega)
  refine ⟨vp_in_nI (by omega) (by decide), ?_⟩
  conv => whnf
  simp only [hcl]
  exact ln_lp hX 40 0 _ _ (by omega) rfl (xi_8 hX _) H1 H0
set_option maxRecDepth 100000 in
theorem lc_lp {d L n : Nat} {f : Nat → Nat → Int32} {g : Nat → Nat → Int64} {w : Int32} {R : Option Value → mH → Prop} (hd : 2 ≤ d) (hX : XI f) (hb : f 6 13 = nI n) (hm : n ≤ 40) :
    ∀ (k i : Nat) (x a : Int32), i + k = n → x = nI i → R (some (.int (cntl (LC f w) k i a))) (shF L, f, g) → WPe pg_X10_leaning none (Run mtab d) R (m_drop pg_X10_leaning 11) [some (.ref 5), some (.int w), some (.int a), some (.int x)] [] (shF L, f, g)
  | 0, i, x, a, hi, hx, H => by
    have e : i = n := by omega
    subst hx
    subst e
    refine at_X10_leaning ?_
    conv => whnf
    simp only [hb]
    refine ⟨fun c => ?_, fun c => absurd (nI_le (Nat.le_refl _) (by omega)) c⟩
    conv => whnf
    exact H
  | k + 1, i, x, a, hi, hx, H => by
    subst hx
    refine at_X10_leaning ?_
    conv => whnf
    simp only [hb]
    refine ⟨fun c => absurd c (nI_ge (b := n) (by omega) (by omega)), fun c => ?_⟩
    conv => whnf
    refine sf_isLeaning (by omega) hX (by omega) (fun q => ?_) (fun q => ?_)
    · conv => whnf
      (refine ⟨fun c => ?_, fun c => ?_⟩ <;> first | ((have c9 : (1 : Int32) = 0 := by with_reducible exact c); exact absurd c9 (by decide)) | exact absurd (rfl : (0 : Int32) = 0) (by with_reducible exact c) | exact absurd True.intro (by with_reducible exact c) | exact False.elim (by with_reducible exact c) | (conv => whnf))
      exact lc_lp hd hX hb hm k (i + 1) _ _ (by omega) (nI_1 i) (by rw [cnt_y (P := LC f w) (k := k) (i := i) (a := a) q] at H; exact H)
    · conv => whnf
      (refine ⟨fun c => ?_, fun c => ?_⟩ <;> first | ((have c9 : (1 : Int32) = 0 := by with_reducible exact c); exact absurd c9 (by decide)) | exact absurd (rfl : (0 : Int32) = 0) (by with_reducible exact c) | exact absurd True.intro (by with_reducible exact c) | exact False.elim (by with_reducible exact c) | (conv => whnf))
      exact lc_lp hd hX hb hm k (i + 1) _ _ (by omega) (nI_1 i) (by rw [cnt_n (P := LC f w) (k := k) (i := i) (a := a) q] at H; exact H)
def SX_leaning (n : Nat) (f : Nat → Nat → Int32) (x1 v : Int32) : Prop := (¬ hasw n x1 ∧ v = -1) ∨ (hasw n x1 ∧ v = cntl (LC f x1) n 0 0)
def SM_leaning (n : Nat) (f : Nat → Nat → Int32) (x1 v : Int32) : Prop := (¬ hasw n x1 ∧ v = -1) ∨ (hasw n x1 ∧ v = cntl (LM f x1) n 0 0)
set_option maxRecDepth 100000 in
set_option maxHeartbeats 4000000 in
theorem sf_leaning {d L : Nat} {f : Nat → Nat → Int32} {g : Nat → Nat → Int64} {n : Nat} {x1 : Int32} {R : Option Value → mH → Prop} (hd : 4 ≤ d) (hX : XI f) (hb : f 6 13 = nI n) (hm : n ≤ 40) (H : ∀ v, SX_leaning n f x1 v → R (some (.int v)) (shF L, f, g)) : Run mtab d 126 [.ref 5, .int x1] (shF L, f, g) R := by
  obtain ⟨d, rfl⟩ : ∃ e, d = e + 1 := ⟨d - 1, by omega⟩
  refine go_X10_leaning rfl ?_
  conv => whnf
  refine ct_has (by omega) hb hm (fun j hj e => ?_) (fun q => ?_)
  · subst e
    conv => whnf
    (refine ⟨fun c => ?_, fun c => ?_⟩ <;> first | ((have c9 : (1 : Int32) = 0 := by with_reducible exact c); exact absurd c9 (by decide)) | exact absurd (rfl : (0 : Int32) = 0) (by with_reducible exact c) | exact absurd True.intro (by with_reducible exact c) | exact False.elim (by with_reducible exact c) | (conv => whnf))
    exact lc_lp (by omega) hX hb hm n 0 _ _ (by omega) rfl (H _ (Or.inr ⟨⟨j, hj, rfl⟩, rfl⟩))
  · conv => whnf
    (refine ⟨fun c => ?_, fun c => ?_⟩ <;> first | ((have c9 : (1 : Int32) = 0 := by with_reducible exact c); exact absurd c9 (by decide)) | exact absurd (rfl : (0 : Int32) = 0) (by with_reducible exact c) | exact absurd True.intro (by with_reducible exact c) | exact False.elim (by with_reducible exact c) | (conv => whnf))
    exact H _ (Or.inl ⟨nhasw q, rfl⟩)
set_option maxRecDepth 100000 in
set_option maxHeartbeats 4000000 in
theorem lm_in {d L n p : Nat} {f : Nat → Nat → Int32} {g : Nat → Nat → Int64} {a y : Int32} {Q : Prop} {R : Option Value → mH → Prop} (hI : MI f) (hb : f 181 0 = nI n) (hm : n ≤ 40) (hp : p < n) (HO1 : Q → ∀ (x' : Int32) (s1 s2 : Option Value), x' = nI (p + 1) → WPe pg_X11_leaning none (Run mtab d) R (m_drop pg_X11_leaning 10) [some (.ref 181), some (.int y), some (.int (a + 1)), some (.int x'), s1, s2] [] (shF L, f, g)) (HO0 : ¬ Q → ∀ (x' : Int32) (s1 s2 : Option Value), x' = nI (p + 1) → WPe pg_X11_leaning none (Run mtab d) R (m_drop pg_X11_leaning 10) [some (.ref 181), some (.int y), some (.int (a + 0)), some (.int x'), s1, s2] [] (shF L, f, g)) :
    ∀ (t : Nat) (o b : Int32), t ≤ n → o.toInt < (t : Int) → (b = 0 ∨ b = 1) → (Q ↔ (¬ b = 0 ∨ lnl (fun j => f 183 j) y t o)) → WPe pg_X11_leaning none (Run mtab d) R (m_drop pg_X11_leaning 21) [some (.ref 181), some (.int y), some (.int a), some (.int (nI p)), some (.int b), some (.int o)] [] (shF L, f, g)
  | 0, o, b, ht, ho, hb1, hq => by
    have h0 : o < 0 := by
      rw [Int32.lt_iff_toInt_lt]
      have e0 : (0 : Int32).toInt = 0 := rfl
      omega
    have FW : ¬ lnl (fun j => f 183 j) y 0 o := fun z => z
    refine at_X11_leaning ?_
    conv => whnf
    refine ⟨fun c => ?_, fun c => absurd h0 c⟩
    · have hb01 := hb1
      rcases hb01 with rfl | rfl
      · conv => whnf
        (refine ⟨fun c => ?_, fun c => ?_⟩ <;> first | ((have c9 : (1 : Int32) = 0 := by with_reducible exact c); exact absurd c9 (by decide)) | exact absurd (rfl : (0 : Int32) = 0) (by with_reducible exact c) | exact absurd True.intro (by with_reducible exact c) | exact False.elim (by with_reducible exact c) | (conv => whnf))
        exact HO0 (fun z => (hq.mp z).elim (fun w => w rfl) (fun w => FW w)) _ _ _ (nI_1 p)
      · conv => whnf
        (refine ⟨fun c => ?_, fun c => ?_⟩ <;> first | ((have c9 : (1 : Int32) = 0 := by with_reducible exact c); exact absurd c9 (by decide)) | exact absurd (rfl : (0 : Int32) = 0) (by with_reducible exact c) | exact absurd True.intro (by with_reducible exact c) | exact False.elim (by with_reducible exact c) | (conv => whnf))
        exact HO1 (hq.mpr (Or.inl (by decide))) _ _ _ (nI_1 p)
  | t + 1, o, b, ht, ho, hb1, hq => by
    refine at_X11_leaning ?_
    conv => whnf
    refine ⟨fun c => ?_, fun c0 => ?_⟩
    · have FW : ¬ lnl (fun j => f 183 j) y (t + 1) o := fun z => z.1 c
      have hb01 := hb1
      rcases hb01 with rfl | rfl
      · conv => whnf
        (refine ⟨fun c => ?_, fun c => ?_⟩ <;> first | ((have c9 : (1 : Int32) = 0 := by with_reducible exact c); exact absurd c9 (by decide)) | exact absurd (rfl : (0 : Int32) = 0) (by with_reducible exact c) | exact absurd True.intro (by with_reducible exact c) | exact False.elim (by with_reducible exact c) | (conv => whnf))
        exact HO0 (fun z => (hq.mp z).elim (fun w => w rfl) (fun w => FW w)) _ _ _ (nI_1 p)
      · conv => whnf
        (refine ⟨fun c => ?_, fun c => ?_⟩ <;> first | ((have c9 : (1 : Int32) = 0 := by with_reducible exact c); exact absurd c9 (by decide)) | exact absurd (rfl : (0 : Int32) = 0) (by with_reducible exact c) | exact absurd True.intro (by with_reducible exact c) | exact False.elim (by with_reducible exact c) | (conv => whnf))
        exact HO1 (hq.mpr (Or.inl (by decide))) _ _ _ (nI_1 p)
    · obtain ⟨u, hu, rfl⟩ := par_lt ho c0
      have hcl : (nI u).toNatClampNeg = u := nI_clamp (by omega)
      have hpu := (hI n hm hb u (by omega)).2
      have hlt : (f 183 u).toInt < (t : Int) := by have := par_lt' hpu (by omega); omega
      have un : lnl (fun j => f 183 j) y (t + 1) (nI u) ↔ (nI u = y ∨ lnl (fun j => f 183 j) y t (f 183 u)) := by
        show (¬ nI u < 0 ∧ (nI u = y ∨ lnl (fun j => f 183 j) y t (f 183 (nI u).toNatClampNeg))) ↔ _
        rw [hcl]
        exact ⟨fun z => z.2, fun z => ⟨c0, z⟩⟩
      have on : ∀ b' : Int32, (b' = 0 ∨ b' = 1) → (Q ↔ (¬ b' = 0 ∨ lnl (fun j => f 183 j) y t (f 183 u))) → WPe pg_X11_leaning none (Run mtab d) R (m_drop pg_X11_leaning 21) [some (.ref 181), some (.int y), some (.int a), some (.int (nI p)), some (.int b'), some (.int (f 183 u))] [] (shF L, f, g) := fun b' z1 z2 => lm_in hI hb hm hp HO1 HO0 t _ b' (by omega) hlt z1 z2
      rcases hb1 with rfl | rfl
      · conv => whnf
        (refine ⟨fun c => ?_, fun c => ?_⟩ <;> first | ((have c9 : (1 : Int32) = 0 := by with_reducible exact c); exact absurd c9 (by decide)) | exact absurd (rfl : (0 : Int32) = 0) (by with_reducible exact c) | exact absurd True.intro (by with_reducible exact c) | exact False.elim (by with_reducible exact c) | (conv => whnf))
        refine ⟨fun c2 => ?_, fun c2 => ?_⟩
        · conv => whnf
          refine ⟨vp_in_nI (by omega) (by decide), ?_⟩
          conv => whnf
          simp only [hcl]
          exact on 0 (Or.inl rfl) (hq.trans (or_congr Iff.rfl (un.trans ⟨fun z => z.resolve_left c2, Or.inr⟩)))
        · conv => whnf
          refine ⟨vp_in_nI (by omega) (by decide), ?_⟩
          conv => whnf
          simp only [hcl]
          exact on 1 (Or.inr rfl) ⟨fun _ => Or.inl (by decide), fun _ => hq.mpr (Or.inr (un.mpr (Or.inl c2)))⟩
      · conv => whnf
        (refine ⟨fun c => ?_, fun c => ?_⟩ <;> first | ((have c9 : (1 : Int32) = 0 := by with_reducible exact c); exact absurd c9 (by decide)) | exact absurd (rfl : (0 : Int32) = 0) (by with_reducible exact c) | exact absurd True.intro (by with_reducible exact c) | exact False.elim (by with_reducible exact c) | (conv => whnf))
        refine ⟨vp_in_nI (by omega) (by decide), ?_⟩
        conv => whnf
        simp only [hcl]
        exact on 1 (Or.inr rfl) ⟨fun _ => Or.inl (by decide), fun _ => hq.mpr (Or.inl (by decide))⟩
set_option maxRecDepth 100000 in
theorem lm_lp {d L n : Nat} {f : Nat → Nat → Int32} {g : Nat → Nat → Int64} {y : Int32} {R : Option Value → mH → Prop} (hI : MI f) (hb : f 181 0 = nI n) (hm : n ≤ 40) :
    ∀ (k i : Nat) (x a : Int32) (s1 s2 : Option Value), i + k = n → x = nI i → R (some (.int (cntl (LM f y) k i a))) (shF L, f, g) → WPe pg_X11_leaning none (Run mtab d) R (m_drop pg_X11_leaning 10) [some (.ref 181), some (.int y), some (.int a), some (.int x), s1, s2] [] (shF L, f, g)
  | 0, i, x, a, s1, s2, hi, hx, H => by
    have e : i = n := by omega
    subst hx
    subst e
    refine at_X11_leaning ?_
    conv => whnf
    simp only [hb]
    refine ⟨fun c => ?_, fun c => absurd (nI_le (Nat.le_refl _) (by omega)) c⟩
    conv => whnf
    exact H
  | k + 1, i, x, a, s1, s2, hi, hx, H => by
    subst hx
    have hcl : (nI i).toNatClampNeg = i := nI_clamp (by omega)
    refine at_X11_leaning ?_
    conv => whnf
    simp only [hb]
    refine ⟨fun c => absurd c (nI_ge (b := n) (by omega) (by omega)), fun c => ?_⟩
    conv => whnf
    refine ⟨vp_in_nI (by omega) (by decide), ?_⟩
    conv => whnf
    simp only [hcl]
    refine lm_in (n := n) (p := i) (Q := LM f y i) hI hb hm (by omega) (fun q x' s1 s2 hx' => ?_) (fun q x' s1 s2 hx' => ?_) i _ _ (by omega) (par_lt' (hI n hm hb i (by omega)).2 (by omega)) (Or.inl rfl) ⟨fun z => Or.inr z, fun z => z.elim (fun w => absurd rfl w) (fun w => w)⟩
    · exact lm_lp hI hb hm k (i + 1) x' _ s1 s2 (by omega) hx' (by rw [cnt_y (P := LM f y) (k := k) (i := i) (a := a) q] at H; exact H)
    · have e0 : a + 0 = a := Int32.add_zero a
      rw [e0]
      exact lm_lp hI hb hm k (i + 1) x' _ s1 s2 (by omega) hx' (by rw [cnt_n (P := LM f y) (k := k) (i := i) (a := a) q] at H; exact H)
set_option maxRecDepth 100000 in
set_option maxHeartbeats 4000000 in
theorem smf_leaning {d L : Nat} {f : Nat → Nat → Int32} {g : Nat → Nat → Int64} {n : Nat} {x1 : Int32} {R : Option Value → mH → Prop} (hd : 3 ≤ d) (hI : MI f) (hb : f 181 0 = nI n) (hm : n ≤ 40) (H : ∀ v, SM_leaning n f x1 v → R (some (.int v)) (shF L, f, g)) : Run mtab d 231 [.ref 181, .int x1] (shF L, f, g) R := by
  obtain ⟨d, rfl⟩ : ∃ e, d = e + 1 := ⟨d - 1, by omega⟩
  refine go_X11_leaning rfl ?_
  conv => whnf
  refine ct_mIsWork (by omega) hb hm (fun j hj e => ?_) (fun q => ?_)
  · subst e
    conv => whnf
    (refine ⟨fun c => ?_, fun c => ?_⟩ <;> first | ((have c9 : (1 : Int32) = 0 := by with_reducible exact c); exact absurd c9 (by decide)) | exact absurd (rfl : (0 : Int32) = 0) (by with_reducible exact c) | exact absurd True.intro (by with_reducible exact c) | exact False.elim (by with_reducible exact c) | (conv => whnf))
    exact lm_lp hI hb hm n 0 _ _ _ _ (by omega) rfl (H _ (Or.inr ⟨⟨j, hj, rfl⟩, rfl⟩))
  · conv => whnf
    (refine ⟨fun c => ?_, fun c => ?_⟩ <;> first | ((have c9 : (1 : Int32) = 0 := by with_reducible exact c); exact absurd c9 (by decide)) | exact absurd (rfl : (0 : Int32) = 0) (by with_reducible exact c) | exact absurd True.intro (by with_reducible exact c) | exact False.elim (by with_reducible exact c) | (conv => whnf))
    exact H _ (Or.inl ⟨nhasw q, rfl⟩)
theorem fin_leaning {n : Nat} {f : Nat → Nat → Int32} {x1 v1 v2 : Int32} (hR : RW n f) (s1 : SX_leaning n f x1 v1) (s2 : SM_leaning n f x1 v2) : v1 = v2 := by
  rcases s1 with ⟨q1, rfl⟩ | ⟨p1, rfl⟩
  · rcases s2 with ⟨q2, rfl⟩ | ⟨p2, rfl⟩
    · rfl
    · exact absurd p2 q1
  · rcases s2 with ⟨q2, rfl⟩ | ⟨p2, rfl⟩
    · exact absurd p1 q2
    · exact cntl_eq n (LC_LM hR x1) n 0 0 (by omega)
