/-- whether one is met on the way from u on -/
def lnl (p : Nat → Int32) (y : Int32) : Nat → Int32 → Prop
  | 0, _ => False
  | k + 1, u => ¬ u < 0 ∧ (u = y ∨ lnl p y k (p u.toNatClampNeg))
/-- how many there are from i on -/
noncomputable def cntl (P : Nat → Prop) : Nat → Nat → Int32 → Int32
  | 0, _, a => a
  | k + 1, i, a => cntl P k (i + 1) (ci (P i) (a + 1) a)
theorem cnt_y {P : Nat → Prop} {k i : Nat} {a : Int32} (h : P i) : cntl P (k + 1) i a = cntl P k (i + 1) (a + 1) := by
  show cntl P k (i + 1) _ = _
  rw [ci_t h]
theorem cnt_n {P : Nat → Prop} {k i : Nat} {a : Int32} (h : ¬ P i) : cntl P (k + 1) i a = cntl P k (i + 1) a := by
  show cntl P k (i + 1) _ = _
  rw [ci_f h]
theorem cntl_eq {P Q : Nat → Prop} (n : Nat) (h : ∀ i, i < n → (P i ↔ Q i)) : ∀ (k i : Nat) (a : Int32), i + k = n → cntl P k i a = cntl Q k i a
  | 0, _, _, _ => rfl
  | k + 1, i, a, hi => by
    by_cases q : P i
    · rw [cnt_y q, cnt_y ((h i (by omega)).mp q)]
      exact cntl_eq n h k (i + 1) _ (by omega)
    · rw [cnt_n q, cnt_n (fun w => q ((h i (by omega)).mpr w))]
      exact cntl_eq n h k (i + 1) _ (by omega)
def LC (f : Nat → Nat → Int32) (y : Int32) (i : Nat) : Prop := lnl (fun j => f 8 j) y 40 (f 8 i)
def LM (f : Nat → Nat → Int32) (y : Int32) (i : Nat) : Prop := lnl (fun j => f 183 j) y i (f 183 i)
theorem OF_up {a b : Int32} {j k : Nat} (h : OF a b j) (hj : j ≤ k) (hk : k < 2 ^ 31) : OF a b k := by
  rcases h with h | ⟨h1, h2, h3⟩
  · exact Or.inl h
  · refine Or.inr ⟨h1, h2, ?_⟩
    rw [Int32.lt_iff_toInt_lt, nI_toInt (by omega)] at h3 ⊢
    omega
theorem ln_eq {f : Nat → Nat → Int32} {y : Int32} {n : Nat} (hn : n ≤ 40) (hO : ∀ j, j < n → OF (f 8 j) (f 183 j) j) : ∀ (t K : Nat) (a b : Int32), t ≤ n → t ≤ K → OF a b t → (lnl (fun j => f 8 j) y K a ↔ lnl (fun j => f 183 j) y t b)
  | 0, K, a, b, ht, hK, h => by
    rcases h with ⟨rfl, rfl⟩ | ⟨_, h2, h3⟩
    · constructor
      · intro z
        cases K with
        | zero => exact z
        | succ K => exact absurd (show (-4 : Int32) < 0 by decide) z.1
      · exact fun z => False.elim z
    · exact absurd h3 h2
  | t + 1, 0, a, b, ht, hK, h => by omega
  | t + 1, K + 1, a, b, ht, hK, h => by
    rcases h with ⟨rfl, rfl⟩ | ⟨rfl, h2, h3⟩
    · constructor
      · exact fun z => absurd (show (-4 : Int32) < 0 by decide) z.1
      · exact fun z => absurd (show (-1 : Int32) < 0 by decide) z.1
    · obtain ⟨u, hu, rfl⟩ := nI_of h2
      have hlt : u < t + 1 := by
        rw [Int32.lt_iff_toInt_lt, nI_toInt hu, nI_toInt (by omega)] at h3
        omega
      have hcl : (nI u).toNatClampNeg = u := nI_clamp hu
      have ih := ln_eq (y := y) hn hO t K (f 8 u) (f 183 u) (by omega) (by omega) (OF_up (hO u (by omega)) (by omega) (by omega))
      show (¬ nI u < 0 ∧ (nI u = y ∨ lnl (fun j => f 8 j) y K (f 8 (nI u).toNatClampNeg))) ↔ (¬ nI u < 0 ∧ (nI u = y ∨ lnl (fun j => f 183 j) y t (f 183 (nI u).toNatClampNeg)))
      rw [hcl]
      exact and_congr Iff.rfl (or_congr Iff.rfl ih)
theorem LC_LM {f : Nat → Nat → Int32} {n : Nat} (hR : RW n f) (y : Int32) : ∀ i, i < n → (LC f y i ↔ LM f y i) := fun i hi => by
  have hn := hR.1
  have hO : ∀ j, j < n → OF (f 8 j) (f 183 j) j := fun j hj => (hR.2.2.2.1 j hj).2.1
  exact ln_eq hn hO i 40 _ _ (by omega) (by omega) (hO i hi)
set_option maxRecDepth 100000 in
theorem ln_lp {d L : Nat} {f : Nat → Nat → Int32} {g : Nat → Nat → Int64} {w y : Int32} {R : Option Value → mH → Prop} (hX : XI f) :
    ∀ (k i : Nat) (x u : Int32), i + k = 40 → x = nI i → inr (-4) 39 u → (lnl (fun j => f 8 j) y k u → R (some (.int 1)) (shF L, f, g)) → (¬ lnl (fun j => f 8 j) y k u → R (some (.int 0)) (shF L, f, g)) → WPe pg_X8_isLeaning none (Run mtab d) R (m_drop pg_X8_isLeaning 7) [some (.ref 6), some (.int w), some (.int y), some (.int u), some (.int x)] [] (shF L, f, g)
  | 0, i, x, u, hi, hx, hu, H1, H0 => by
    have e : i = 40 := by omega
    subst hx
    subst e
    refine at_X8_isLeaning ?_
    conv => whnf
    refine ⟨fun c => ?_, fun c => absurd (by decide) c⟩
    conv => whnf
    exact ⟨Or.inl rfl, H0 (fun z => z)⟩
  | k + 1, i, x, u, hi, hx, hu, H1, H0 => by
    subst hx
    refine at_X8_isLeaning ?_
    conv => whnf
    refine ⟨fun c => absurd c (nI_ge (b := 40) (by omega) (by omega)), fun c => ?_⟩
    conv => whnf
    refine ⟨fun c1 => ?_, fun c1 => ?_⟩
    · conv => whnf
      exact ⟨Or.inl rfl, H0 (fun z => z.1 c1)⟩
    · conv => whnf
      refine ⟨fun c2 => ?_, fun c2 => ?_⟩
      · conv => whnf
        refine ⟨vpi (hi := 39) ⟨i32_nlt.mp c1, hu.2⟩ (by decide), ?_⟩
        conv => whnf
        exact ln_lp hX k (i + 1) _ _ (by omega) (nI_1 i) (xi_8 hX _) (fun z => H1 ⟨c1, Or.inr z⟩) (fun z => H0 (fun w => w.2.elim c2 z))
      · conv => whnf
        exact ⟨Or.inr rfl, H1 ⟨c1, Or.inl c2⟩⟩
set_option maxRecDepth 100000 in
set_option maxHeartbeats 4000000 in
theorem sf_isLeaning {d L : Nat} {f : Nat → Nat → Int32} {g : Nat → Nat → Int64} {j : Nat} {y : Int32} {R : Option Value → mH → Prop} (hd : 2 ≤ d) (hX : XI f) (hj : j < 40) (H1 : LC f y j → R (some (.int 1)) (shF L, f, g)) (H0 : ¬ LC f y j → R (some (.int 0)) (shF L, f, g)) : Run mtab d 76 [.ref 6, .int (nI j), .int y] (shF L, f, g) R := by
  obtain ⟨d, rfl⟩ : ∃ e, d = e + 1 := ⟨d - 1, by omega⟩
  refine go_X8_isLeaning rfl ?_
  conv => whnf
  have hcl : (nI j).toNatClampNeg = j := nI_clamp (by omega)
  refine ⟨vp_in_nI (by omega) (by decide), ?_⟩
  conv => whnf
  simp only [hcl]
  exact ln_lp hX 40 0 _ _ (by omega) rfl (xi_8 hX _) H1 H0
set_option maxRecDepth 100000 in
theorem lc_lp {d L n : Nat} {f : Nat → Nat → Int32} {g : Nat → Nat → Int64} {w : Int32} {R : Option Value → mH → Prop} (hd : 2 ≤ d) (hX : XI f) (hb : f 6 13 = nI n) (hm : n ≤ 40) :
    ∀ (k i : Nat) (x a : Int32), i + k = n → x = nI i → R (some (.int (cntl (LC f w) k i a))) (shF L, f, g) → WPe pg_X10_leaning none (Run mtab d) R (m_drop pg_X10_leaning 11) [some (.ref 5), some (.int w), some (.int a), some (.int x)] [] (shF L, f, g)
  | 0, i, x, a, hi, hx, H => by
    have e : i = n := by omega
    subst hx
    subst e
    refine at_X10_leaning ?_
    conv => whnf
    simp only [hb]
    refine ⟨fun c => ?_, fun c => absurd (nI_le (Nat.le_refl _) (by omega)) c⟩
    conv => whnf
    exact H
  | k + 1, i, x, a, hi, hx, H => by
    subst hx
    refine at_X10_leaning ?_
    conv => whnf
    simp only [hb]
    refine ⟨fun c => absurd c (nI_ge (b := n) (by omega) (by omega)), fun c => ?_⟩
    conv => whnf
    refine sf_isLeaning (by omega) hX (by omega) (fun q => ?_) (fun q => ?_)
    · conv => whnf
      (refine ⟨fun c => ?_, fun c => ?_⟩ <;> first | ((have c9 : (1 : Int32) = 0 := by with_reducible exact c); exact absurd c9 (by decide)) | exact absurd (rfl : (0 : Int32) = 0) (by with_reducible exact c) | exact absurd True.intro (by with_reducible exact c) | exact False.elim (by with_reducible exact c) | (conv => whnf))
      exact lc_lp hd hX hb hm k (i + 1) _ _ (by omega) (nI_1 i) (by rw [cnt_y (P := LC f w) (k := k) (i := i) (a := a) q] at H; exact H)
    · conv => whnf
      (refine ⟨fun c => ?_, fun c => ?_⟩ <;> first | ((have c9 : (1 : Int32) = 0 := by with_reducible exact c); exact absurd c9 (by decide)) | exact absurd (rfl : (0 : Int32) = 0) (by with_reducible exact c) | exact absurd True.intro (by with_reducible exact c) | exact False.elim (by with_reducible exact c) | (conv => whnf))
      exact lc_lp hd hX hb hm k (i + 1) _ _ (by omega) (nI_1 i) (by rw [cnt_n (P := LC f w) (k := k) (i := i) (a := a) q] at H; exact H)
def SX_leaning (n : Nat) (f : Nat → Nat → Int32) (x1 v : Int32) : Prop := (¬ hasw n x1 ∧ v = -1) ∨ (hasw n x1 ∧ v = cntl (LC f x1) n 0 0)
def SM_leaning (n : Nat) (f : Nat → Nat → Int32) (x1 v : Int32) : Prop := (¬ hasw n x1 ∧ v = -1) ∨ (hasw n x1 ∧ v = cntl (LM f x1) n 0 0)
set_option maxRecDepth 100000 in
set_option maxHeartbeats 4000000 in
theorem sf_leaning {d L : Nat} {f : Nat → Nat → Int32} {g : Nat → Nat → Int64} {n : Nat} {x1 : Int32} {R : Option Value → mH → Prop} (hd : 4 ≤ d) (hX : XI f) (hb : f 6 13 = nI n) (hm : n ≤ 40) (H : ∀ v, SX_leaning n f x1 v → R (some (.int v)) (shF L, f, g)) : Run mtab d 126 [.ref 5, .int x1] (shF L, f, g) R := by
  obtain ⟨d, rfl⟩ : ∃ e, d = e + 1 := ⟨d - 1, by omega⟩
  refine go_X10_leaning rfl ?_
  conv => whnf
  refine ct_has (by omega) hb hm (fun j hj e => ?_) (fun q => ?_)
  · subst e
    conv => whnf
    (refine ⟨fun c => ?_, fun c => ?_⟩ <;> first | ((have c9 : (1 : Int32) = 0 := by with_reducible exact c); exact absurd c9 (by decide)) | exact absurd (rfl : (0 : Int32) = 0) (by with_reducible exact c) | exact absurd True.intro (by with_reducible exact c) | exact False.elim (by with_reducible exact c) | (conv => whnf))
    exact lc_lp (by omega) hX hb hm n 0 _ _ (by omega) rfl (H _ (Or.inr ⟨⟨j, hj, rfl⟩, rfl⟩))
  · conv => whnf
    (refine ⟨fun c => ?_, fun c => ?_⟩ <;> first | ((have c9 : (1 : Int32) = 0 := by with_reducible exact c); exact absurd c9 (by decide)) | exact absurd (rfl : (0 : Int32) = 0) (by with_reducible exact c) | exact absurd True.intro (by with_reducible exact c) | exact False.elim (by with_reducible exact c) | (conv => whnf))
    exact H _ (Or.inl ⟨nhasw q, rfl⟩)
set_option maxRecDepth 100000 in
set_option maxHeartbeats 4000000 in
theorem lm_in {d L n p : Nat} {f : Nat → Nat → Int32} {g : Nat → Nat → Int64} {a y : Int32} {Q : Prop} {R : Option Value → mH → Prop} (hI : MI f) (hb : f 181 0 = nI n) (hm : n ≤ 40) (hp : p < n) (HO1 : Q → ∀ (x' : Int32) (s1 s2 : Option Value), x' = nI (p + 1) → WPe pg_X11_leaning none (Run mtab d) R (m_drop pg_X11_leaning 10) [some (.ref 181), some (.int y), some (.int (a + 1)), some (.int x'), s1, s2] [] (shF L, f, g)) (HO0 : ¬ Q → ∀ (x' : Int32) (s1 s2 : Option Value), x' = nI (p + 1) → WPe pg_X11_leaning none (Run mtab d) R (m_drop pg_X11_leaning 10) [some (.ref 181), some (.int y), some (.int (a + 0)), some (.int x'), s1, s2] [] (shF L, f, g)) :
    ∀ (t : Nat) (o b : Int32), t ≤ n → o.toInt < (t : Int) → (b = 0 ∨ b = 1) → (Q ↔ (¬ b = 0 ∨ lnl (fun j => f 183 j) y t o)) → WPe pg_X11_leaning none (Run mtab d) R (m_drop pg_X11_leaning 21) [some (.ref 181), some (.int y), some (.int a), some (.int (nI p)), some (.int b), some (.int o)] [] (shF L, f, g)
  | 0, o, b, ht, ho, hb1, hq => by
    have h0 : o < 0 := by
      rw [Int32.lt_iff_toInt_lt]
      have e0 : (0 : Int32).toInt = 0 := rfl
      omega
    have FW : ¬ lnl (fun j => f 183 j) y 0 o := fun z => z
    refine at_X11_leaning ?_
    conv => whnf
    refine ⟨fun c => ?_, fun c => absurd h0 c⟩
    · have hb01 := hb1
      rcases hb01 with rfl | rfl
      · conv => whnf
        (refine ⟨fun c => ?_, fun c => ?_⟩ <;> first | ((have c9 : (1 : Int32) = 0 := by with_reducible exact c); exact absurd c9 (by decide)) | exact absurd (rfl : (0 : Int32) = 0) (by with_reducible exact c) | exact absurd True.intro (by with_reducible exact c) | exact False.elim (by with_reducible exact c) | (conv => whnf))
        exact HO0 (fun z => (hq.mp z).elim (fun w => w rfl) (fun w => FW w)) _ _ _ (nI_1 p)
      · conv => whnf
        (refine ⟨fun c => ?_, fun c => ?_⟩ <;> first | ((have c9 : (1 : Int32) = 0 := by with_reducible exact c); exact absurd c9 (by decide)) | exact absurd (rfl : (0 : Int32) = 0) (by with_reducible exact c) | exact absurd True.intro (by with_reducible exact c) | exact False.elim (by with_reducible exact c) | (conv => whnf))
        exact HO1 (hq.mpr (Or.inl (by decide))) _ _ _ (nI_1 p)
  | t + 1, o, b, ht, ho, hb1, hq => by
    refine at_X11_leaning ?_
    conv => whnf
    refine ⟨fun c => ?_, fun c0 => ?_⟩
    · have FW : ¬ lnl (fun j => f 183 j) y (t + 1) o := fun z => z.1 c
      have hb01 := hb1
      rcases hb01 with rfl | rfl
      · conv => whnf
        (refine ⟨fun c => ?_, fun c => ?_⟩ <;> first | ((have c9 : (1 : Int32) = 0 := by with_reducible exact c); exact absurd c9 (by decide)) | exact absurd (rfl : (0 : Int32) = 0) (by with_reducible exact c) | exact absurd True.intro (by with_reducible exact c) | exact False.elim (by with_reducible exact c) | (conv => whnf))
        exact HO0 (fun z => (hq.mp z).elim (fun w => w rfl) (fun w => FW w)) _ _ _ (nI_1 p)
      · conv => whnf
        (refine ⟨fun c => ?_, fun c => ?_⟩ <;> first | ((have c9 : (1 : Int32) = 0 := by with_reducible exact c); exact absurd c9 (by decide)) | exact absurd (rfl : (0 : Int32) = 0) (by with_reducible exact c) | exact absurd True.intro (by with_reducible exact c) | exact False.elim (by with_reducible exact c) | (conv => whnf))
        exact HO1 (hq.mpr (Or.inl (by decide))) _ _ _ (nI_1 p)
    · obtain ⟨u, hu, rfl⟩ := par_lt ho c0
      have hcl : (nI u).toNatClampNeg = u := nI_clamp (by omega)
      have hpu := (hI n hm hb u (by omega)).2
      have hlt : (f 183 u).toInt < (t : Int) := by have := par_lt' hpu (by omega); omega
      have un : lnl (fun j => f 183 j) y (t + 1) (nI u) ↔ (nI u = y ∨ lnl (fun j => f 183 j) y t (f 183 u)) := by
        show (¬ nI u < 0 ∧ (nI u = y ∨ lnl (fun j => f 183 j) y t (f 183 (nI u).toNatClampNeg))) ↔ _
        rw [hcl]
        exact ⟨fun z => z.2, fun z => ⟨c0, z⟩⟩
      have on : ∀ b' : Int32, (b' = 0 ∨ b' = 1) → (Q ↔ (¬ b' = 0 ∨ lnl (fun j => f 183 j) y t (f 183 u))) → WPe pg_X11_leaning none (Run mtab d) R (m_drop pg_X11_leaning 21) [some (.ref 181), some (.int y), some (.int a), some (.int (nI p)), some (.int b'), some (.int (f 183 u))] [] (shF L, f, g) := fun b' z1 z2 => lm_in hI hb hm hp HO1 HO0 t _ b' (by omega) hlt z1 z2
      rcases hb1 with rfl | rfl
      · conv => whnf
        (refine ⟨fun c => ?_, fun c => ?_⟩ <;> first | ((have c9 : (1 : Int32) = 0 := by with_reducible exact c); exact absurd c9 (by decide)) | exact absurd (rfl : (0 : Int32) = 0) (by with_reducible exact c) | exact absurd True.intro (by with_reducible exact c) | exact False.elim (by with_reducible exact c) | (conv => whnf))
        refine ⟨fun c2 => ?_, fun c2 => ?_⟩
        · conv => whnf
          refine ⟨vp_in_nI (by omega) (by decide), ?_⟩
          conv => whnf
          simp only [hcl]
          exact on 0 (Or.inl rfl) (hq.trans (or_congr Iff.rfl (un.trans ⟨fun z => z.resolve_left c2, Or.inr⟩)))
        · conv => whnf
          refine ⟨vp_in_nI (by omega) (by decide), ?_⟩
          conv => whnf
          simp only [hcl]
          exact on 1 (Or.inr rfl) ⟨fun _ => Or.inl (by decide), fun _ => hq.mpr (Or.inr (un.mpr (Or.inl c2)))⟩
      · conv => whnf
        (refine ⟨fun c => ?_, fun c => ?_⟩ <;> first | ((have c9 : (1 : Int32) = 0 := by with_reducible exact c); exact absurd c9 (by decide)) | exact absurd (rfl : (0 : Int32) = 0) (by with_reducible exact c) | exact absurd True.intro (by with_reducible exact c) | exact False.elim (by with_reducible exact c) | (conv => whnf))
        refine ⟨vp_in_nI (by omega) (by decide), ?_⟩
        conv => whnf
        simp only [hcl]
        exact on 1 (Or.inr rfl) ⟨fun _ => Or.inl (by decide), fun _ => hq.mpr (Or.inl (by decide))⟩
set_option maxRecDepth 100000 in
theorem lm_lp {d L n : Nat} {f : Nat → Nat → Int32} {g : Nat → Nat → Int64} {y : Int32} {R : Option Value → mH → Prop} (hI : MI f) (hb : f 181 0 = nI n) (hm : n ≤ 40) :
    ∀ (k i : Nat) (x a : Int32) (s1 s2 : Option Value), i + k = n → x = nI i → R (some (.int (cntl (LM f y) k i a))) (shF L, f, g) → WPe pg_X11_leaning none (Run mtab d) R (m_drop pg_X11_leaning 10) [some (.ref 181), some (.int y), some (.int a), some (.int x), s1, s2] [] (shF L, f, g)
  | 0, i, x, a, s1, s2, hi, hx, H => by
    have e : i = n := by omega
    subst hx
    subst e
    refine at_X11_leaning ?_
    conv => whnf
    simp only [hb]
    refine ⟨fun c => ?_, fun c => absurd (nI_le (Nat.le_refl _) (by omega)) c⟩
    conv => whnf
    exact H
  | k + 1, i, x, a, s1, s2, hi, hx, H => by
    subst hx
    have hcl : (nI i).toNatClampNeg = i := nI_clamp (by omega)
    refine at_X11_leaning ?_
    conv => whnf
    simp only [hb]
    refine ⟨fun c => absurd c (nI_ge (b := n) (by omega) (by omega)), fun c => ?_⟩
    conv => whnf
    refine ⟨vp_in_nI (by omega) (by decide), ?_⟩
    conv => whnf
    simp only [hcl]
    refine lm_in (n := n) (p := i) (Q := LM f y i) hI hb hm (by omega) (fun q x' s1 s2 hx' => ?_) (fun q x' s1 s2 hx' => ?_) i _ _ (by omega) (par_lt' (hI n hm hb i (by omega)).2 (by omega)) (Or.inl rfl) ⟨fun z => Or.inr z, fun z => z.elim (fun w => absurd rfl w) (fun w => w)⟩
    · exact lm_lp hI hb hm k (i + 1) x' _ s1 s2 (by omega) hx' (by rw [cnt_y (P := LM f y) (k := k) (i := i) (a := a) q] at H; exact H)
    · have e0 : a + 0 = a := Int32.add_zero a
      rw [e0]
      exact lm_lp hI hb hm k (i + 1) x' _ s1 s2 (by omega) hx' (by rw [cnt_n (P := LM f y) (k := k) (i := i) (a := a) q] at H; exact H)
set_option maxRecDepth 100000 in
set_option maxHeartbeats 4000000 in
theorem smf_leaning {d L : Nat} {f : Nat → Nat → Int32} {g : Nat → Nat → Int64} {n : Nat} {x1 : Int32} {R : Option Value → mH → Prop} (hd : 3 ≤ d) (hI : MI f) (hb : f 181 0 = nI n) (hm : n ≤ 40) (H : ∀ v, SM_leaning n f x1 v → R (some (.int v)) (shF L, f, g)) : Run mtab d 231 [.ref 181, .int x1] (shF L, f, g) R := by
  obtain ⟨d, rfl⟩ : ∃ e, d = e + 1 := ⟨d - 1, by omega⟩
  refine go_X11_leaning rfl ?_
  conv => whnf
  refine ct_mIsWork (by omega) hb hm (fun j hj e => ?_) (fun q => ?_)
  · subst e
    conv => whnf
    (refine ⟨fun c => ?_, fun c => ?_⟩ <;> first | ((have c9 : (1 : Int32) = 0 := by with_reducible exact c); exact absurd c9 (by decide)) | exact absurd (rfl : (0 : Int32) = 0) (by with_reducible exact c) | exact absurd True.intro (by with_reducible exact c) | exact False.elim (by with_reducible exact c) | (conv => whnf))
    exact lm_lp hI hb hm n 0 _ _ _ _ (by omega) rfl (H _ (Or.inr ⟨⟨j, hj, rfl⟩, rfl⟩))
  · conv => whnf
    (refine ⟨fun c => ?_, fun c => ?_⟩ <;> first | ((have c9 : (1 : Int32) = 0 := by with_reducible exact c); exact absurd c9 (by decide)) | exact absurd (rfl : (0 : Int32) = 0) (by with_reducible exact c) | exact absurd True.intro (by with_reducible exact c) | exact False.elim (by with_reducible exact c) | (conv => whnf))
    exact H _ (Or.inl ⟨nhasw q, rfl⟩)
theorem fin_leaning {n : Nat} {f : Nat → Nat → Int32} {x1 v1 v2 : Int32} (hR : RW n f) (s1 : SX_leaning n f x1 v1) (s2 : SM_leaning n f x1 v2) : v1 = v2 := by
  rcases s1 with ⟨q1, rfl⟩ | ⟨p1, rfl⟩
  · rcases s2 with ⟨q2, rfl⟩ | ⟨p2, rfl⟩
    · rfl
    · exact absurd p2 q1
  · rcases s2 with ⟨q2, rfl⟩ | ⟨p2, rfl⟩
    · exact absurd p1 q2
    · exact cntl_eq n (LC_LM hR x1) n 0 0 (by omega)
/-- the tape up to its length -/
def tk (f : Nat → Nat → Int32) (a m : Nat) : Nat → Int32 := fun j => if j < m then f a j else 0
theorem tk_at {f : Nat → Nat → Int32} {a m j : Nat} (h : j < m) : tk f a m j = f a j := if_pos h
def skl (T : Nat → Int32) : Nat → Nat → Nat
  | 0, p => p
  | k + 1, p => if T p = 32 then skl T k (p + 1) else p
def sk (T : Nat → Int32) (m p : Nat) : Nat := skl T (m - p) p
theorem skl_le (T : Nat → Int32) : ∀ k p, p ≤ skl T k p ∧ skl T k p ≤ p + k
  | 0, p => ⟨Nat.le_refl _, Nat.le_refl _⟩
  | k + 1, p => by
    have ih := skl_le T k (p + 1)
    show p ≤ (if T p = 32 then skl T k (p + 1) else p) ∧ (if T p = 32 then skl T k (p + 1) else p) ≤ p + (k + 1)
    by_cases h : T p = 32
    · rw [if_pos h]
      omega
    · rw [if_neg h]
      omega
theorem skl_nb (T : Nat → Int32) : ∀ k p, skl T k p < p + k → ¬ T (skl T k p) = 32
  | 0, p, h => absurd h (by show ¬ p < p + 0; omega)
  | k + 1, p, h => by
    have ih := skl_nb T k (p + 1)
    by_cases q : T p = 32
    · have e : skl T (k + 1) p = skl T k (p + 1) := if_pos q
      rw [e] at h ⊢
      exact ih (by omega)
    · have e : skl T (k + 1) p = p := if_neg q
      rw [e]
      exact q
theorem sk_le {T : Nat → Int32} {m p : Nat} (h : p ≤ m) : p ≤ sk T m p ∧ sk T m p ≤ m := by
  have := skl_le T (m - p) p
  unfold sk
  omega
theorem sk_nb {T : Nat → Int32} {m p : Nat} (h : p ≤ m) (hl : sk T m p < m) : ¬ T (sk T m p) = 32 := skl_nb T (m - p) p (by unfold sk at hl; omega)
theorem sk_id {T : Nat → Int32} {m r : Nat} (h : r < m → ¬ T r = 32) : sk T m r = r := by
  unfold sk
  cases hk : m - r with
  | zero => rfl
  | succ k => exact if_neg (h (by omega))
def nvl (F : Int32 → Int32 → Int32) (T : Nat → Int32) : Nat → Nat → Int32 → Int32
  | 0, _, a => a
  | k + 1, p, a => if 48 ≤ T p ∧ T p ≤ 57 then nvl F T k (p + 1) (F a (T p)) else a
def nel (T : Nat → Int32) : Nat → Nat → Nat
  | 0, p => p
  | k + 1, p => if 48 ≤ T p ∧ T p ≤ 57 then nel T k (p + 1) else p
theorem nel_le (T : Nat → Int32) : ∀ k p, p ≤ nel T k p ∧ nel T k p ≤ p + k
  | 0, p => ⟨Nat.le_refl _, Nat.le_refl _⟩
  | k + 1, p => by
    have ih := nel_le T k (p + 1)
    show p ≤ (if 48 ≤ T p ∧ T p ≤ 57 then nel T k (p + 1) else p) ∧ (if 48 ≤ T p ∧ T p ≤ 57 then nel T k (p + 1) else p) ≤ p + (k + 1)
    by_cases h : 48 ≤ T p ∧ T p ≤ 57
    · rw [if_pos h]
      omega
    · rw [if_neg h]
      omega
def Fc (a c : Int32) : Int32 := mn (10 * a + c - 48) 99
def Fm (hi a c : Int32) : Int32 := if a ≤ hi then 10 * a + c - 48 else a
theorem dg_int {a c : Int32} (h1 : 0 ≤ a.toInt) (h2 : a.toInt ≤ 99) (h3 : 48 ≤ c.toInt) (h4 : c.toInt ≤ 57) : (10 * a + c - 48).toInt = 10 * a.toInt + c.toInt - 48 := by
  have e10 : (10 : Int32).toInt = 10 := rfl
  have e48 : (48 : Int32).toInt = 48 := rfl
  have m : (10 * a).toInt = 10 * a.toInt := by
    rw [Int32.toInt_mul, e10]
    exact Int.bmod_eq_of_le (by omega) (by omega)
  have s : (10 * a + c).toInt = 10 * a.toInt + c.toInt := by
    rw [Int32.toInt_add, m]
    exact Int.bmod_eq_of_le (by omega) (by omega)
  rw [Int32.toInt_sub, s, e48]
  exact Int.bmod_eq_of_le (by omega) (by omega)
def nrel (hi a b : Int32) : Prop := (a = b ∧ 0 ≤ b.toInt ∧ b.toInt ≤ hi.toInt) ∨ (hi.toInt < a.toInt ∧ hi.toInt < b.toInt ∧ a.toInt ≤ 99)
theorem nrel_step {hi a b c : Int32} (h8 : 8 ≤ hi.toInt) (h9 : hi.toInt ≤ 9) (hc : 48 ≤ c ∧ c ≤ 57) (h : nrel hi a b) : nrel hi (Fc a c) (Fm hi b c) := by
  have c1 : 48 ≤ c.toInt := Int32.le_iff_toInt_le.mp hc.1
  have c2 : c.toInt ≤ 57 := Int32.le_iff_toInt_le.mp hc.2
  have e99 : (99 : Int32).toInt = 99 := rfl
  unfold Fc Fm mn
  rcases h with ⟨rfl, h1, h2⟩ | ⟨h1, h2, h3⟩
  · have e := dg_int (a := a) (c := c) h1 (by omega) c1 c2
    have q : ¬ (99 : Int32) < 10 * a + c - 48 := by
      rw [Int32.lt_iff_toInt_lt, e, e99]
      omega
    have q2 : a ≤ hi := Int32.le_iff_toInt_le.mpr h2
    rw [if_neg q, if_pos q2]
    by_cases z : (10 * a + c - 48).toInt ≤ hi.toInt
    · exact Or.inl ⟨rfl, by rw [e]; omega, z⟩
    · exact Or.inr ⟨by omega, by omega, by rw [e]; omega⟩
  · have e := dg_int (a := a) (c := c) (by omega) h3 c1 c2
    have q2 : ¬ b ≤ hi := by
      rw [Int32.le_iff_toInt_le]
      omega
    rw [if_neg q2]
    refine Or.inr ?_
    by_cases q : (99 : Int32) < 10 * a + c - 48
    · rw [if_pos q, e99]
      omega
    · rw [if_neg q]
      have q3 : ¬ (99 : Int32).toInt < (10 * a + c - 48).toInt := fun z => q (Int32.lt_iff_toInt_lt.mpr z)
      rw [e, e99] at q3
      rw [e]
      omega
theorem nvl_rel {hi : Int32} {T : Nat → Int32} (h8 : 8 ≤ hi.toInt) (h9 : hi.toInt ≤ 9) : ∀ k p a b, nrel hi a b → nrel hi (nvl Fc T k p a) (nvl (Fm hi) T k p b)
  | 0, _, _, _, h => h
  | k + 1, p, a, b, h => by
    by_cases q : 48 ≤ T p ∧ T p ≤ 57
    · have e1 : nvl Fc T (k + 1) p a = nvl Fc T k (p + 1) (Fc a (T p)) := if_pos q
      have e2 : nvl (Fm hi) T (k + 1) p b = nvl (Fm hi) T k (p + 1) (Fm hi b (T p)) := if_pos q
      rw [e1, e2]
      exact nvl_rel h8 h9 k (p + 1) _ _ (nrel_step h8 h9 q h)
    · have e1 : nvl Fc T (k + 1) p a = a := if_neg q
      have e2 : nvl (Fm hi) T (k + 1) p b = b := if_neg q
      rw [e1, e2]
      exact h
theorem nrel_in {hi lo a b : Int32} (h : nrel hi a b) : ((lo ≤ a ∧ a ≤ hi) ↔ (lo ≤ b ∧ b ≤ hi)) ∧ ((lo ≤ b ∧ b ≤ hi) → a = b) := by
  rcases h with ⟨rfl, _, _⟩ | ⟨h1, h2, _⟩
  · exact ⟨Iff.rfl, fun _ => rfl⟩
  · have na : ¬ a ≤ hi := by
      rw [Int32.le_iff_toInt_le]
      omega
    have nb : ¬ b ≤ hi := by
      rw [Int32.le_iff_toInt_le]
      omega
    exact ⟨⟨fun z => absurd z.2 na, fun z => absurd z.2 nb⟩, fun z => absurd z.2 nb⟩
theorem nrel_0 {hi : Int32} (h8 : 8 ≤ hi.toInt) : nrel hi 0 0 := Or.inl ⟨rfl, by decide, by
  have e0 : (0 : Int32).toInt = 0 := rfl
  omega⟩
theorem let_cases (x : Int32) : m_let x = -1 ∨ m_let x = 0 ∨ m_let x = 1 ∨ m_let x = 2 ∨ m_let x = 3 := by
  unfold m_let
  by_cases h1 : x = 112
  · rw [if_pos h1]; exact Or.inr (Or.inl rfl)
  · rw [if_neg h1]
    by_cases h2 : x = 118
    · rw [if_pos h2]; exact Or.inr (Or.inr (Or.inl rfl))
    · rw [if_neg h2]
      by_cases h3 : x = 100
      · rw [if_pos h3]; exact Or.inr (Or.inr (Or.inr (Or.inl rfl)))
      · rw [if_neg h3]
        by_cases h4 : x = 114
        · rw [if_pos h4]; exact Or.inr (Or.inr (Or.inr (Or.inr rfl)))
        · rw [if_neg h4]; exact Or.inl rfl
/-! the spec: it stops at the first fault -/
def sgS (T : Nat → Int32) (m : Nat) (c : Int32) (p : Nat) : Except Nat Nat := if sk T m p < m ∧ T (sk T m p) = c then .ok (sk T m p + 1) else .error (sk T m p)
def nvS (T : Nat → Int32) (m : Nat) (hi : Int32) (p : Nat) : Int32 := nvl (Fm hi) T (m - sk T m p) (sk T m p) 0
def neS (T : Nat → Int32) (m : Nat) (p : Nat) : Nat := nel T (m - sk T m p) (sk T m p)
def nmS (T : Nat → Int32) (m : Nat) (lo hi : Int32) (p : Nat) : Except Nat (Int32 × Nat) := if lo ≤ nvS T m hi p ∧ nvS T m hi p ≤ hi then .ok (nvS T m hi p, neS T m p) else .error (sk T m p)
def kdS (T : Nat → Int32) (m p : Nat) : Except Nat (Int32 × Nat) := if sk T m p < m ∧ ¬ m_let (T (sk T m p)) = -1 then .ok (m_let (T (sk T m p)), sk T m p + 1) else .error (sk T m p)
def clS (T : Nat → Int32) (m p : Nat) : Except Nat (Int32 × Int32 × Int32 × Int32 × Nat) := match kdS T m p with
  | .error r => .error r
  | .ok (k, p1) => match nmS T m 1 8 p1 with
    | .error r => .error r
    | .ok (n1, p2) => match sgS T m 44 p2 with
      | .error r => .error r
      | .ok p3 => match nmS T m 1 9 p3 with
        | .error r => .error r
        | .ok (n2, p4) => match sgS T m 47 p4 with
          | .error r => .error r
          | .ok p5 => match nmS T m n2 9 p5 with
            | .error r => .error r
            | .ok (n3, p6) => .ok (k, n1, n2, n3, p6)
def updS (S : Nat → Nat → Int32) (k : Nat) (a b c : Int32) : Nat → Nat → Int32 := fun k' t => if k' = k then (if t = 0 then a else if t = 1 then b else c) else S k' t
def alS (T : Nat → Int32) (m : Nat) : Nat → Nat → Nat → (Nat → Nat → Int32) → Except Nat (Nat × (Nat → Nat → Int32))
  | 0, _, p, _ => .error p
  | k + 1, n, p, S => match clS T m p with
    | .error r => .error r
    | .ok (kd, a, b, c, p') => if sk T m p' < m then (if T (sk T m p') = 59 ∧ ¬ k = 0 then alS T m k (n + 1) (sk T m p' + 1) (updS S kd.toNatClampNeg a b c) else .error (sk T m p')) else .ok (n + 1, updS S kd.toNatClampNeg a b c)
/-! the class: it goes on behind a fault, q is the first one -/
def bl (q x : Int32) : Int32 := if q = -1 then x else q
theorem bl_n {q x : Int32} (h : ¬ q = -1) : bl q x = q := if_neg h
theorem bl_1 {x : Int32} : bl (-1) x = x := if_pos rfl
def sgC (T : Nat → Int32) (m : Nat) (c : Int32) (p : Nat) (q : Int32) : Nat × Int32 := if sk T m p < m ∧ T (sk T m p) = c then (sk T m p + 1, q) else (sk T m p, bl q (nI (sk T m p)))
def nvC (T : Nat → Int32) (m p : Nat) : Int32 := nvl Fc T (m - sk T m p) (sk T m p) 0
def nmC (T : Nat → Int32) (m : Nat) (lo hi : Int32) (p : Nat) (q : Int32) : Int32 × Nat × Int32 := (nvC T m p, neS T m p, if lo ≤ nvC T m p ∧ nvC T m p ≤ hi then q else bl q (nI (sk T m p)))
def kdC (T : Nat → Int32) (m p : Nat) (q : Int32) : Int32 × Nat × Int32 := if sk T m p < m ∧ ¬ m_let (T (sk T m p)) = -1 then (m_let (T (sk T m p)), sk T m p + 1, q) else (-1, sk T m p, bl q (nI (sk T m p)))
def c2 (T : Nat → Int32) (m p : Nat) (q : Int32) := nmC T m 1 8 (kdC T m p q).2.1 (kdC T m p q).2.2
def c3 (T : Nat → Int32) (m p : Nat) (q : Int32) := sgC T m 44 (c2 T m p q).2.1 (c2 T m p q).2.2
def c4 (T : Nat → Int32) (m p : Nat) (q : Int32) := nmC T m 1 9 (c3 T m p q).1 (c3 T m p q).2
def c5 (T : Nat → Int32) (m p : Nat) (q : Int32) := sgC T m 47 (c4 T m p q).2.1 (c4 T m p q).2.2
def c6 (T : Nat → Int32) (m p : Nat) (q : Int32) := nmC T m (c4 T m p q).1 9 (c5 T m p q).1 (c5 T m p q).2
def sC (T : Nat → Int32) (m p : Nat) (q : Int32) (S : Nat → Nat → Int32) : Nat → Nat → Int32 := if (kdC T m p q).1 < 0 then S else updS S (kdC T m p q).1.toNatClampNeg (c2 T m p q).1 (c4 T m p q).1 (c6 T m p q).1
def clsC (T : Nat → Int32) (m : Nat) : Nat → Nat → Nat → Int32 → (Nat → Nat → Int32) → Int32 × Int32 × (Nat → Nat → Int32)
  | 0, _, _, q, S => (4, q, S)
  | k + 1, i, p, q, S => if ¬ (c6 T m p q).2.2 = -1 ∨ sk T m (c6 T m p q).2.1 = m then (nI i, (c6 T m p q).2.2, sC T m p q S) else clsC T m k (i + 1) (sgC T m 59 (sk T m (c6 T m p q).2.1) (if i = 4 then bl (c6 T m p q).2.2 (nI (sk T m (c6 T m p q).2.1)) else (c6 T m p q).2.2)).1 (sgC T m 59 (sk T m (c6 T m p q).2.1) (if i = 4 then bl (c6 T m p q).2.2 (nI (sk T m (c6 T m p q).2.1)) else (c6 T m p q).2.2)).2 (sC T m p q S)
/-! places stay on the tape -/
theorem sgC_le {T : Nat → Int32} {m p : Nat} {c q : Int32} (h : p ≤ m) : (sgC T m c p q).1 ≤ m := by
  have := sk_le (T := T) h
  unfold sgC
  by_cases z : sk T m p < m ∧ T (sk T m p) = c
  · rw [if_pos z]
    exact z.1
  · rw [if_neg z]
    exact this.2
theorem kdC_le {T : Nat → Int32} {m p : Nat} {q : Int32} (h : p ≤ m) : (kdC T m p q).2.1 ≤ m := by
  have := sk_le (T := T) h
  unfold kdC
  by_cases z : sk T m p < m ∧ ¬ m_let (T (sk T m p)) = -1
  · rw [if_pos z]
    exact z.1
  · rw [if_neg z]
    exact this.2
theorem neS_le {T : Nat → Int32} {m p : Nat} (h : p ≤ m) : neS T m p ≤ m := by
  have h1 := sk_le (T := T) h
  have h2 := nel_le T (m - sk T m p) (sk T m p)
  unfold neS
  omega
theorem nmC_le {T : Nat → Int32} {m p : Nat} {lo hi q : Int32} (h : p ≤ m) : (nmC T m lo hi p q).2.1 ≤ m := neS_le h
/-! behind a fault it stays -/
theorem sgC_q {T : Nat → Int32} {m p : Nat} {c q : Int32} (h : ¬ q = -1) : (sgC T m c p q).2 = q := by
  unfold sgC
  by_cases z : sk T m p < m ∧ T (sk T m p) = c
  · rw [if_pos z]
  · rw [if_neg z]
    exact bl_n h
theorem nmC_q {T : Nat → Int32} {m p : Nat} {lo hi q : Int32} (h : ¬ q = -1) : (nmC T m lo hi p q).2.2 = q := by
  show (if lo ≤ nvC T m p ∧ nvC T m p ≤ hi then q else bl q (nI (sk T m p))) = q
  by_cases z : lo ≤ nvC T m p ∧ nvC T m p ≤ hi
  · rw [if_pos z]
  · rw [if_neg z]
    exact bl_n h
theorem c3_q {T : Nat → Int32} {m p : Nat} {q x : Int32} (h : (c2 T m p q).2.2 = x) (hx : ¬ x = -1) : (c3 T m p q).2 = x := by
  unfold c3
  rw [h]
  exact sgC_q hx
theorem c4_q {T : Nat → Int32} {m p : Nat} {q x : Int32} (h : (c3 T m p q).2 = x) (hx : ¬ x = -1) : (c4 T m p q).2.2 = x := by
  unfold c4
  rw [h]
  exact nmC_q hx
theorem c5_q {T : Nat → Int32} {m p : Nat} {q x : Int32} (h : (c4 T m p q).2.2 = x) (hx : ¬ x = -1) : (c5 T m p q).2 = x := by
  unfold c5
  rw [h]
  exact sgC_q hx
theorem c6_q {T : Nat → Int32} {m p : Nat} {q x : Int32} (h : (c5 T m p q).2 = x) (hx : ¬ x = -1) : (c6 T m p q).2.2 = x := by
  unfold c6
  rw [h]
  exact nmC_q hx
theorem c2_q {T : Nat → Int32} {m p : Nat} {q x : Int32} (h : (kdC T m p q).2.2 = x) (hx : ¬ x = -1) : (c2 T m p q).2.2 = x := by
  unfold c2
  rw [h]
  exact nmC_q hx
theorem kdC_q {T : Nat → Int32} {m p : Nat} {q : Int32} (h : ¬ q = -1) : (kdC T m p q).2.2 = q := by
  unfold kdC
  by_cases z : sk T m p < m ∧ ¬ m_let (T (sk T m p)) = -1
  · rw [if_pos z]
  · rw [if_neg z]
    exact bl_n h
theorem cl_q {T : Nat → Int32} {m p : Nat} {q : Int32} (h : ¬ q = -1) : (c6 T m p q).2.2 = q := c6_q (c5_q (c4_q (c3_q (c2_q (kdC_q h) h) h) h) h) h
theorem clsC_q {T : Nat → Int32} {m : Nat} {q : Int32} (h : ¬ q = -1) : ∀ (k i p : Nat) (S : Nat → Nat → Int32), (clsC T m k i p q S).2.1 = q
  | 0, _, _, _ => rfl
  | k + 1, i, p, S => by
    have e := cl_q (T := T) (m := m) (p := p) h
    show (if ¬ (c6 T m p q).2.2 = -1 ∨ sk T m (c6 T m p q).2.1 = m then _ else _ : Int32 × Int32 × (Nat → Nat → Int32)).2.1 = q
    rw [if_pos (Or.inl (by rw [e]; exact h))]
    exact e
theorem nI_n1 {r : Nat} (h : r ≤ 50) : ¬ nI r = -1 := fun e => by
  have := congrArg Int32.toInt e
  rw [nI_toInt (by omega)] at this
  have e1 : (-1 : Int32).toInt = -1 := rfl
  omega
/-! both, without a fault before -/
theorem sg_o {T : Nat → Int32} {m p p1 : Nat} {c q : Int32} (h : p ≤ m) (e : sgS T m c p = .ok p1) : sgC T m c p q = (p1, q) ∧ p1 ≤ m := by
  unfold sgS at e
  by_cases z : sk T m p < m ∧ T (sk T m p) = c
  · rw [if_pos z] at e
    cases e
    unfold sgC
    rw [if_pos z]
    exact ⟨rfl, z.1⟩
  · rw [if_neg z] at e
    cases e
theorem sg_e {T : Nat → Int32} {m p r : Nat} {c q : Int32} (h : p ≤ m) (e : sgS T m c p = .error r) : (sgC T m c p q).2 = bl q (nI r) ∧ r ≤ m := by
  have hs := sk_le (T := T) h
  unfold sgS at e
  by_cases z : sk T m p < m ∧ T (sk T m p) = c
  · rw [if_pos z] at e
    cases e
  · rw [if_neg z] at e
    cases e
    unfold sgC
    rw [if_neg z]
    exact ⟨rfl, hs.2⟩
theorem kd_o {T : Nat → Int32} {m p p1 : Nat} {k q : Int32} (h : p ≤ m) (e : kdS T m p = .ok (k, p1)) : kdC T m p q = (k, p1, q) ∧ p1 ≤ m ∧ ¬ k = -1 := by
  unfold kdS at e
  by_cases z : sk T m p < m ∧ ¬ m_let (T (sk T m p)) = -1
  · rw [if_pos z] at e
    cases e
    unfold kdC
    rw [if_pos z]
    exact ⟨rfl, z.1, z.2⟩
  · rw [if_neg z] at e
    cases e
theorem kd_e {T : Nat → Int32} {m p r : Nat} {q : Int32} (h : p ≤ m) (e : kdS T m p = .error r) : (kdC T m p q).2.2 = bl q (nI r) ∧ r ≤ m := by
  have hs := sk_le (T := T) h
  unfold kdS at e
  by_cases z : sk T m p < m ∧ ¬ m_let (T (sk T m p)) = -1
  · rw [if_pos z] at e
    cases e
  · rw [if_neg z] at e
    cases e
    unfold kdC
    rw [if_neg z]
    exact ⟨rfl, hs.2⟩
theorem nm_rel {T : Nat → Int32} {m p : Nat} {hi : Int32} (h8 : 8 ≤ hi.toInt) (h9 : hi.toInt ≤ 9) : nrel hi (nvC T m p) (nvS T m hi p) := nvl_rel h8 h9 _ _ _ _ (nrel_0 h8)
theorem nm_o {T : Nat → Int32} {m p p1 : Nat} {lo hi v q : Int32} (h8 : 8 ≤ hi.toInt) (h9 : hi.toInt ≤ 9) (h : p ≤ m) (e : nmS T m lo hi p = .ok (v, p1)) : nmC T m lo hi p q = (v, p1, q) ∧ p1 ≤ m ∧ lo ≤ v ∧ v ≤ hi := by
  have hr := nrel_in (lo := lo) (nm_rel (T := T) (m := m) (p := p) h8 h9)
  have hl := neS_le (T := T) h
  unfold nmS at e
  by_cases z : lo ≤ nvS T m hi p ∧ nvS T m hi p ≤ hi
  · rw [if_pos z] at e
    cases e
    refine ⟨?_, hl, z⟩
    show (nvC T m p, neS T m p, if lo ≤ nvC T m p ∧ nvC T m p ≤ hi then q else bl q (nI (sk T m p))) = _
    rw [if_pos (hr.1.mpr z), hr.2 z]
  · rw [if_neg z] at e
    cases e
theorem nm_er {T : Nat → Int32} {m p r : Nat} {lo hi q : Int32} (h8 : 8 ≤ hi.toInt) (h9 : hi.toInt ≤ 9) (h : p ≤ m) (e : nmS T m lo hi p = .error r) : (nmC T m lo hi p q).2.2 = bl q (nI r) ∧ r ≤ m := by
  have hr := nrel_in (lo := lo) (nm_rel (T := T) (m := m) (p := p) h8 h9)
  have hs := sk_le (T := T) h
  unfold nmS at e
  by_cases z : lo ≤ nvS T m hi p ∧ nvS T m hi p ≤ hi
  · rw [if_pos z] at e
    cases e
  · rw [if_neg z] at e
    cases e
    refine ⟨?_, hs.2⟩
    show (if lo ≤ nvC T m p ∧ nvC T m p ≤ hi then q else bl q (nI (sk T m p))) = _
    rw [if_neg (fun w => z (hr.1.mp w))]
theorem let_pos {x : Int32} (h : ¬ m_let x = -1) : ¬ m_let x < 0 := by
  rcases let_cases x with e | e | e | e | e
  · exact absurd e h
  all_goals rw [e]; decide
/-- a clause, both -/
theorem cl_both {T : Nat → Int32} {m p : Nat} {S : Nat → Nat → Int32} (hm : m ≤ 50) (h : p ≤ m) :
    (∀ r, clS T m p = .error r → r ≤ m ∧ (c6 T m p (-1)).2.2 = nI r) ∧ (∀ k a b c p', clS T m p = .ok (k, a, b, c, p') → p' ≤ m ∧ (c6 T m p (-1)).2.1 = p' ∧ (c6 T m p (-1)).2.2 = -1 ∧ sC T m p (-1) S = updS S k.toNatClampNeg a b c ∧ 1 ≤ a ∧ a ≤ 8) := by
  have e8 : (8 : Int32).toInt = 8 := rfl
  have e9 : (9 : Int32).toInt = 9 := rfl
  unfold clS
  cases h1 : kdS T m p with
  | error r1 =>
    obtain ⟨x1, y1⟩ := kd_e (q := -1) h h1
    rw [bl_1] at x1
    (try dsimp only)
    refine ⟨fun r e => ?_, fun k a b c p' e => by cases e⟩
    cases e
    have n1 := nI_n1 (r := r1) (by omega)
    exact ⟨y1, c6_q (c5_q (c4_q (c3_q (c2_q x1 n1) n1) n1) n1) n1⟩
  | ok v1 =>
    obtain ⟨k, p1⟩ := v1
    obtain ⟨x1, y1, z1⟩ := kd_o (q := -1) h h1
    have hk : kdS T m p = .ok (m_let (T (sk T m p)), sk T m p + 1) := by
      unfold kdS at h1 ⊢
      by_cases z : sk T m p < m ∧ ¬ m_let (T (sk T m p)) = -1
      · rw [if_pos z]
      · rw [if_neg z] at h1
        cases h1
    have hkp : ¬ k < 0 := by
      rw [hk] at h1
      cases h1
      exact let_pos z1
    have E2 : c2 T m p (-1) = nmC T m 1 8 p1 (-1) := by
      unfold c2
      rw [x1]
    dsimp only
    cases h2 : nmS T m 1 8 p1 with
    | error r2 =>
      obtain ⟨x2, y2⟩ := nm_er (q := -1) (by omega) (by omega) y1 h2
      rw [bl_1, ← E2] at x2
      (try dsimp only)
      refine ⟨fun r e => ?_, fun k a b c p' e => by cases e⟩
      cases e
      have n1 := nI_n1 (r := r2) (by omega)
      exact ⟨y2, c6_q (c5_q (c4_q (c3_q x2 n1) n1) n1) n1⟩
    | ok v2 =>
      obtain ⟨n1, p2⟩ := v2
      obtain ⟨x2, y2, z2⟩ := nm_o (q := -1) (by omega) (by omega) y1 h2
      rw [← E2] at x2
      have E3 : c3 T m p (-1) = sgC T m 44 p2 (-1) := by
        unfold c3
        rw [x2]
      dsimp only
      cases h3 : sgS T m 44 p2 with
      | error r3 =>
        obtain ⟨x3, y3⟩ := sg_e (q := -1) y2 h3
        rw [bl_1, ← E3] at x3
        (try dsimp only)
        refine ⟨fun r e => ?_, fun k a b c p' e => by cases e⟩
        cases e
        have n1 := nI_n1 (r := r3) (by omega)
        exact ⟨y3, c6_q (c5_q (c4_q x3 n1) n1) n1⟩
      | ok p3 =>
        obtain ⟨x3, y3⟩ := sg_o (q := -1) y2 h3
        rw [← E3] at x3
        have E4 : c4 T m p (-1) = nmC T m 1 9 p3 (-1) := by
          unfold c4
          rw [x3]
        dsimp only
        cases h4 : nmS T m 1 9 p3 with
        | error r4 =>
          obtain ⟨x4, y4⟩ := nm_er (q := -1) (by omega) (by omega) y3 h4
          rw [bl_1, ← E4] at x4
          (try dsimp only)
          refine ⟨fun r e => ?_, fun k a b c p' e => by cases e⟩
          cases e
          have n1 := nI_n1 (r := r4) (by omega)
          exact ⟨y4, c6_q (c5_q x4 n1) n1⟩
        | ok v4 =>
          obtain ⟨n2, p4⟩ := v4
          obtain ⟨x4, y4, z4⟩ := nm_o (q := -1) (by omega) (by omega) y3 h4
          rw [← E4] at x4
          have E5 : c5 T m p (-1) = sgC T m 47 p4 (-1) := by
            unfold c5
            rw [x4]
          dsimp only
          cases h5 : sgS T m 47 p4 with
          | error r5 =>
            obtain ⟨x5, y5⟩ := sg_e (q := -1) y4 h5
            rw [bl_1, ← E5] at x5
            (try dsimp only)
            refine ⟨fun r e => ?_, fun k a b c p' e => by cases e⟩
            cases e
            have n1 := nI_n1 (r := r5) (by omega)
            exact ⟨y5, c6_q x5 n1⟩
          | ok p5 =>
            obtain ⟨x5, y5⟩ := sg_o (q := -1) y4 h5
            rw [← E5] at x5
            have E6 : c6 T m p (-1) = nmC T m n2 9 p5 (-1) := by
              unfold c6
              rw [x5, x4]
            dsimp only
            cases h6 : nmS T m n2 9 p5 with
            | error r6 =>
              obtain ⟨x6, y6⟩ := nm_er (q := -1) (by omega) (by omega) y5 h6
              rw [bl_1, ← E6] at x6
              (try dsimp only)
              refine ⟨fun r e => ?_, fun k a b c p' e => by cases e⟩
              cases e
              exact ⟨y6, x6⟩
            | ok v6 =>
              obtain ⟨n3, p6⟩ := v6
              obtain ⟨x6, y6, z6⟩ := nm_o (q := -1) (by omega) (by omega) y5 h6
              rw [← E6] at x6
              (try dsimp only)
              refine ⟨fun r e => (by cases e), fun k' a b c p' e => ?_⟩
              cases e
              refine ⟨y6, by rw [x6], by rw [x6], ?_, z2⟩
              unfold sC
              rw [x1, x2, x4, x6]
              exact if_neg hkp
/-- all clauses, both -/
theorem al_both {T : Nat → Int32} {m : Nat} (hm : m ≤ 50) : ∀ (k n p : Nat) (S : Nat → Nat → Int32), k + 1 + n = 4 → p ≤ m →
    (∀ r, alS T m (k + 1) n p S = .error r → r ≤ m ∧ (clsC T m (k + 1) (n + 1) p (-1) S).2.1 = nI r) ∧ (∀ n' S', alS T m (k + 1) n p S = .ok (n', S') → n' ≤ 4 ∧ clsC T m (k + 1) (n + 1) p (-1) S = (nI n', -1, S')) := by
  intro k
  induction k with
  | zero =>
    intro n p S hn hp
    have hc := cl_both (T := T) (S := S) hm hp
    have hn3 : n = 3 := by omega
    subst hn3
    show (∀ r, (match clS T m p with
      | .error r => .error r
      | .ok (kd, a, b, c, p') => if sk T m p' < m then (if T (sk T m p') = 59 ∧ ¬ 0 = 0 then alS T m 0 (3 + 1) (sk T m p' + 1) (updS S kd.toNatClampNeg a b c) else .error (sk T m p')) else .ok (3 + 1, updS S kd.toNatClampNeg a b c) : Except Nat (Nat × (Nat → Nat → Int32))) = .error r → _) ∧ (∀ n' S', (match clS T m p with
      | .error r => .error r
      | .ok (kd, a, b, c, p') => if sk T m p' < m then (if T (sk T m p') = 59 ∧ ¬ 0 = 0 then alS T m 0 (3 + 1) (sk T m p' + 1) (updS S kd.toNatClampNeg a b c) else .error (sk T m p')) else .ok (3 + 1, updS S kd.toNatClampNeg a b c) : Except Nat (Nat × (Nat → Nat → Int32))) = .ok (n', S') → _)
    cases h1 : clS T m p with
    | error r1 =>
      obtain ⟨a1, a2⟩ := hc.1 r1 h1
      have nz := nI_n1 (r := r1) (by omega)
      dsimp only
      refine ⟨fun r e => ?_, fun n' S' e => by cases e⟩
      cases e
      refine ⟨a1, ?_⟩
      show (if ¬ (c6 T m p (-1)).2.2 = -1 ∨ sk T m (c6 T m p (-1)).2.1 = m then _ else _ : Int32 × Int32 × (Nat → Nat → Int32)).2.1 = _
      rw [if_pos (Or.inl (by rw [a2]; exact nz))]
      exact a2
    | ok v =>
      obtain ⟨kd, a, b, c, p'⟩ := v
      obtain ⟨b1, b2, b3, b4, b5⟩ := hc.2 kd a b c p' h1
      have hs := sk_le (T := T) b1
      dsimp only
      by_cases hl : sk T m p' < m
      · rw [if_pos hl, if_neg (fun z => z.2 rfl)]
        refine ⟨fun r e => ?_, fun n' S' e => by cases e⟩
        cases e
        refine ⟨hs.2, ?_⟩
        have nz := nI_n1 (r := sk T m p') (by omega)
        show (if ¬ (c6 T m p (-1)).2.2 = -1 ∨ sk T m (c6 T m p (-1)).2.1 = m then _ else _ : Int32 × Int32 × (Nat → Nat → Int32)).2.1 = _
        rw [b2, b3, if_neg (fun z => z.elim (fun w => w rfl) (fun w => by omega))]
        show (sgC T m 59 (sk T m p') (if 3 + 1 = 4 then bl (-1) (nI (sk T m p')) else -1)).2 = _
        rw [if_pos rfl, bl_1]
        exact sgC_q nz
      · rw [if_neg hl]
        refine ⟨fun r e => (by cases e), fun n' S' e => ?_⟩
        cases e
        refine ⟨by omega, ?_⟩
        show (if ¬ (c6 T m p (-1)).2.2 = -1 ∨ sk T m (c6 T m p (-1)).2.1 = m then _ else _ : Int32 × Int32 × (Nat → Nat → Int32)) = _
        rw [b2, b3, if_pos (Or.inr (by omega)), b4]
  | succ k ih =>
    intro n p S hn hp
    have hc := cl_both (T := T) (S := S) hm hp
    have ih2 := ih (n + 1)
    show (∀ r, (match clS T m p with
      | .error r => .error r
      | .ok (kd, a, b, c, p') => if sk T m p' < m then (if T (sk T m p') = 59 ∧ ¬ k + 1 = 0 then alS T m (k + 1) (n + 1) (sk T m p' + 1) (updS S kd.toNatClampNeg a b c) else .error (sk T m p')) else .ok (n + 1, updS S kd.toNatClampNeg a b c) : Except Nat (Nat × (Nat → Nat → Int32))) = .error r → _) ∧ (∀ n' S', (match clS T m p with
      | .error r => .error r
      | .ok (kd, a, b, c, p') => if sk T m p' < m then (if T (sk T m p') = 59 ∧ ¬ k + 1 = 0 then alS T m (k + 1) (n + 1) (sk T m p' + 1) (updS S kd.toNatClampNeg a b c) else .error (sk T m p')) else .ok (n + 1, updS S kd.toNatClampNeg a b c) : Except Nat (Nat × (Nat → Nat → Int32))) = .ok (n', S') → _)
    cases h1 : clS T m p with
    | error r1 =>
      obtain ⟨a1, a2⟩ := hc.1 r1 h1
      have nz := nI_n1 (r := r1) (by omega)
      dsimp only
      refine ⟨fun r e => ?_, fun n' S' e => by cases e⟩
      cases e
      refine ⟨a1, ?_⟩
      show (if ¬ (c6 T m p (-1)).2.2 = -1 ∨ sk T m (c6 T m p (-1)).2.1 = m then _ else _ : Int32 × Int32 × (Nat → Nat → Int32)).2.1 = _
      rw [if_pos (Or.inl (by rw [a2]; exact nz))]
      exact a2
    | ok v =>
      obtain ⟨kd, a, b, c, p'⟩ := v
      obtain ⟨b1, b2, b3, b4, b5⟩ := hc.2 kd a b c p' h1
      have hs := sk_le (T := T) b1
      have nz := nI_n1 (r := sk T m p') (by omega)
      have hE : ∀ z : ¬ sk T m p' = m, clsC T m (k + 1 + 1) (n + 1) p (-1) S = clsC T m (k + 1) (n + 1 + 1) (sgC T m 59 (sk T m p') (-1)).1 (sgC T m 59 (sk T m p') (-1)).2 (updS S kd.toNatClampNeg a b c) := fun z => by
        show (if ¬ (c6 T m p (-1)).2.2 = -1 ∨ sk T m (c6 T m p (-1)).2.1 = m then _ else _ : Int32 × Int32 × (Nat → Nat → Int32)) = _
        rw [b2, b3, if_neg (fun w => w.elim (fun u => u rfl) z), b4, if_neg (show ¬ n + 1 = 4 by omega)]
      dsimp only
      by_cases hl : sk T m p' < m
      · have hid : sk T m (sk T m p') = sk T m p' := sk_id (fun _ => sk_nb b1 hl)
        rw [if_pos hl]
        by_cases hq : T (sk T m p') = 59
        · rw [if_pos ⟨hq, by omega⟩, hE (by omega)]
          have e1 : sgC T m 59 (sk T m p') (-1) = (sk T m p' + 1, -1) := by
            unfold sgC
            rw [hid]
            exact if_pos ⟨hl, hq⟩
          rw [e1]
          exact ih2 (sk T m p' + 1) _ (by omega) (by omega)
        · rw [if_neg (fun z => hq z.1)]
          refine ⟨fun r e => ?_, fun n' S' e => by cases e⟩
          cases e
          refine ⟨hs.2, ?_⟩
          rw [hE (by omega)]
          have e1 : sgC T m 59 (sk T m p') (-1) = (sk T m p', nI (sk T m p')) := by
            unfold sgC
            rw [hid, bl_1]
            exact if_neg (fun z => hq z.2)
          rw [e1]
          exact clsC_q nz _ _ _ _
      · rw [if_neg hl]
        refine ⟨fun r e => (by cases e), fun n' S' e => ?_⟩
        cases e
        refine ⟨by omega, ?_⟩
        show (if ¬ (c6 T m p (-1)).2.2 = -1 ∨ sk T m (c6 T m p (-1)).2.1 = m then _ else _ : Int32 × Int32 × (Nat → Nat → Int32)) = _
        rw [b2, b3, if_pos (Or.inr (by omega)), b4]
/-! what is told, kind by kind -/
def SR (S S' : Nat → Nat → Int32) : Prop := ∀ k, k < 4 → S k 0 = S' k 0 ∧ (¬ S' k 0 = 0 → S k 1 = S' k 1 ∧ S k 2 = S' k 2)
theorem SR_upd {S S' : Nat → Nat → Int32} (h : SR S S') (j : Nat) (a b c : Int32) : SR (updS S j a b c) (updS S' j a b c) := fun k hk => by
  by_cases e : k = j
  · have key : ∀ (Z : Nat → Nat → Int32) (t : Nat), updS Z j a b c k t = (if t = 0 then a else if t = 1 then b else c) := fun Z t => if_pos e
    rw [key S 0, key S' 0, key S 1, key S' 1, key S 2, key S' 2]
    exact ⟨rfl, fun _ => ⟨rfl, rfl⟩⟩
  · have key : ∀ (Z : Nat → Nat → Int32) (t : Nat), updS Z j a b c k t = Z k t := fun Z t => if_neg e
    rw [key S 0, key S' 0, key S 1, key S' 1, key S 2, key S' 2]
    exact h k hk
theorem al_SR {T : Nat → Int32} {m : Nat} : ∀ (k n p : Nat) (S S' : Nat → Nat → Int32), SR S S' → (∀ r, alS T m k n p S = .error r → alS T m k n p S' = .error r) ∧ (∀ n' S1, alS T m k n p S = .ok (n', S1) → ∃ S1', alS T m k n p S' = .ok (n', S1') ∧ SR S1 S1') := by
  intro k
  induction k with
  | zero => exact fun n p S S' h => ⟨fun r e => e, fun n' S1 e => by cases e⟩
  | succ k ih =>
    intro n p S S' h
    show (∀ r, (match clS T m p with
      | .error r => .error r
      | .ok (kd, a, b, c, p') => if sk T m p' < m then (if T (sk T m p') = 59 ∧ ¬ k = 0 then alS T m k (n + 1) (sk T m p' + 1) (updS S kd.toNatClampNeg a b c) else .error (sk T m p')) else .ok (n + 1, updS S kd.toNatClampNeg a b c) : Except Nat (Nat × (Nat → Nat → Int32))) = .error r → (match clS T m p with
      | .error r => .error r
      | .ok (kd, a, b, c, p') => if sk T m p' < m then (if T (sk T m p') = 59 ∧ ¬ k = 0 then alS T m k (n + 1) (sk T m p' + 1) (updS S' kd.toNatClampNeg a b c) else .error (sk T m p')) else .ok (n + 1, updS S' kd.toNatClampNeg a b c) : Except Nat (Nat × (Nat → Nat → Int32))) = .error r) ∧ (∀ n' S1, (match clS T m p with
      | .error r => .error r
      | .ok (kd, a, b, c, p') => if sk T m p' < m then (if T (sk T m p') = 59 ∧ ¬ k = 0 then alS T m k (n + 1) (sk T m p' + 1) (updS S kd.toNatClampNeg a b c) else .error (sk T m p')) else .ok (n + 1, updS S kd.toNatClampNeg a b c) : Except Nat (Nat × (Nat → Nat → Int32))) = .ok (n', S1) → ∃ S1', (match clS T m p with
      | .error r => .error r
      | .ok (kd, a, b, c, p') => if sk T m p' < m then (if T (sk T m p') = 59 ∧ ¬ k = 0 then alS T m k (n + 1) (sk T m p' + 1) (updS S' kd.toNatClampNeg a b c) else .error (sk T m p')) else .ok (n + 1, updS S' kd.toNatClampNeg a b c) : Except Nat (Nat × (Nat → Nat → Int32))) = .ok (n', S1') ∧ SR S1 S1')
    cases h1 : clS T m p with
    | error r1 => exact ⟨fun r e => e, fun n' S1 e => by cases e⟩
    | ok v =>
      obtain ⟨kd, a, b, c, p'⟩ := v
      have hu := SR_upd h kd.toNatClampNeg a b c
      dsimp only
      by_cases hl : sk T m p' < m
      · rw [if_pos hl, if_pos hl]
        by_cases hq : T (sk T m p') = 59 ∧ ¬ k = 0
        · rw [if_pos hq, if_pos hq]
          exact ih (n + 1) _ _ _ hu
        · rw [if_neg hq, if_neg hq]
          exact ⟨fun r e => e, fun n' S1 e => by cases e⟩
      · rw [if_neg hl, if_neg hl]
        refine ⟨fun r e => (by cases e), fun n' S1 e => ?_⟩
        cases e
        exact ⟨_, rfl, hu⟩
/-- the rules of a kind: its own, or those of the kind above -/
def ec0 (S : Nat → Nat → Int32) (t : Nat) : Int32 := if S 0 0 = 0 then 1 else S 0 t
def ec2 (S : Nat → Nat → Int32) (t : Nat) : Int32 := if S 2 0 = 0 then ec0 S t else S 2 t
def eC (S : Nat → Nat → Int32) (k t : Nat) : Int32 := if k = 0 then ec0 S t else if k = 2 then ec2 S t else if k = 1 then (if S 1 0 = 0 then ec0 S t else S 1 t) else (if S 3 0 = 0 then ec2 S t else S 3 t)
theorem eC_SR {S S' : Nat → Nat → Int32} (h : SR S S') {k t : Nat} (ht : t < 3) : eC S k t = eC S' k t := by
  have one : ∀ j, j < 4 → ∀ X : Int32, (if S j 0 = 0 then X else S j t) = (if S' j 0 = 0 then X else S' j t) := fun j hj X => by
    obtain ⟨a, b⟩ := h j hj
    rw [a]
    by_cases z : S' j 0 = 0
    · rw [if_pos z, if_pos z]
    · rw [if_neg z, if_neg z]
      have ht3 : t = 0 ∨ t = 1 ∨ t = 2 := by omega
      rcases ht3 with rfl | rfl | rfl
      · exact a
      · exact (b z).1
      · exact (b z).2
  have e0 : ec0 S t = ec0 S' t := one 0 (by omega) 1
  have e2 : ec2 S t = ec2 S' t := by
    unfold ec2
    rw [e0]
    exact one 2 (by omega) _
  unfold eC
  rw [e0, e2, one 1 (by omega), one 3 (by omega)]
/-- the class at its tape: length m, place p, first fault q, S what is told of the kinds; the rest as in f0 -/
def cs (f0 : Nat → Nat → Int32) (m p : Nat) (q : Int32) (S : Nat → Nat → Int32) (f : Nat → Nat → Int32) : Prop := f 107 3 = nI m ∧ f 107 4 = nI p ∧ f 107 5 = q ∧ (∀ k t, k < 4 → t < 3 → f (114 + k) t = S k t) ∧ (∀ a i, ¬ a = 107 → ¬ (114 ≤ a ∧ a ≤ 117) → f a i = f0 a i)
theorem cs_p {f0 f : Nat → Nat → Int32} {m p p' : Nat} {q x : Int32} {S : Nat → Nat → Int32} (t : cs f0 m p q S f) (hx : x = nI p') : cs f0 m p' q S (m_ui f 107 4 x) := by
  obtain ⟨a, b, c, d, e⟩ := t
  refine ⟨?_, ?_, ?_, fun k t hk ht => ?_, fun a i h1 h2 => ?_⟩
  · rw [m_ui_o (by omega)]; exact a
  · rw [m_ui_s]; exact hx
  · rw [m_ui_o (by omega)]; exact c
  · rw [m_ui_o (by omega)]; exact d k t hk ht
  · rw [m_ui_o (by omega)]; exact e a i h1 h2
theorem cs_q {f0 f : Nat → Nat → Int32} {m p : Nat} {q x : Int32} {S : Nat → Nat → Int32} (t : cs f0 m p q S f) : cs f0 m p x S (m_ui f 107 5 x) := by
  obtain ⟨a, b, c, d, e⟩ := t
  refine ⟨?_, ?_, ?_, fun k t hk ht => ?_, fun a i h1 h2 => ?_⟩
  · rw [m_ui_o (by omega)]; exact a
  · rw [m_ui_o (by omega)]; exact b
  · rw [m_ui_s]
  · rw [m_ui_o (by omega)]; exact d k t hk ht
  · rw [m_ui_o (by omega)]; exact e a i h1 h2
theorem cs_u {f0 f : Nat → Nat → Int32} {m p j : Nat} {q a b c : Int32} {S : Nat → Nat → Int32} (t : cs f0 m p q S f) (hj : j < 4) : cs f0 m p q (updS S j a b c) (m_ui (m_ui (m_ui f (114 + j) 0 a) (114 + j) 1 b) (114 + j) 2 c) := by
  obtain ⟨a1, b1, c1, d, e⟩ := t
  refine ⟨?_, ?_, ?_, fun k t hk ht => ?_, fun a i h1 h2 => ?_⟩
  · rw [m_ui_o (by omega), m_ui_o (by omega), m_ui_o (by omega)]; exact a1
  · rw [m_ui_o (by omega), m_ui_o (by omega), m_ui_o (by omega)]; exact b1
  · rw [m_ui_o (by omega), m_ui_o (by omega), m_ui_o (by omega)]; exact c1
  · unfold updS
    by_cases z : k = j
    · subst z
      rw [if_pos rfl]
      have ht3 : t = 0 ∨ t = 1 ∨ t = 2 := by omega
      rcases ht3 with rfl | rfl | rfl
      · rw [m_ui_o (by omega), m_ui_o (by omega), m_ui_s, if_pos rfl]
      · rw [m_ui_o (by omega), m_ui_s, if_neg (by decide), if_pos rfl]
      · rw [m_ui_s, if_neg (by decide), if_neg (by decide)]
    · rw [if_neg z, m_ui_o (by omega), m_ui_o (by omega), m_ui_o (by omega)]
      exact d k t hk ht
  · rw [m_ui_o (by omega), m_ui_o (by omega), m_ui_o (by omega)]; exact e a i h1 h2
theorem cs_t {f0 f : Nat → Nat → Int32} {m p j : Nat} {q : Int32} {S : Nat → Nat → Int32} (t : cs f0 m p q S f) (hj : j < m) (hm : m ≤ 50) : f 118 (nI j).toNatClampNeg = tk f0 118 m j := by
  rw [nI_clamp (by omega), t.2.2.2.2 118 j (by omega) (by omega), tk_at hj]
theorem rf_ix {d : Nat} {x : Int32} {h : mH} {R : Option Value → mH → Prop} (hd : 5 ≤ d) (H : R (some (.int (m_let x))) h) : Run mtab d 2 [.ref 4, .int x] h R := by
  obtain ⟨d, rfl⟩ : ∃ e, d = e + 1 := ⟨d - 1, by omega⟩
  exact (⟨by omega, H⟩ : 4 ≤ d ∧ R (some (.int (m_let x))) h)
set_option maxRecDepth 100000 in
set_option maxHeartbeats 4000000 in
theorem sf_blame {d L : Nat} {f : Nat → Nat → Int32} {g : Nat → Nat → Int64} {m p : Nat} {f0 : Nat → Nat → Int32} {q x : Int32} {S : Nat → Nat → Int32} {R : Option Value → mH → Prop} (hd : 1 ≤ d) (t : cs f0 m p q S f) (H : ∀ f', cs f0 m p (bl q x) S f' → R none (shF L, f', g)) : Run mtab d 62 [.ref 107, .int x] (shF L, f, g) R := by
  obtain ⟨d, rfl⟩ : ∃ e, d = e + 1 := ⟨d - 1, by omega⟩
  refine go_X6_blame rfl ?_
  conv => whnf
  simp only [t.2.2.1]
  refine ⟨fun c => ?_, fun c => ?_⟩
  · conv => whnf
    exact H f (by rw [bl_n c]; exact t)
  · conv => whnf
    exact H _ (by
      have e : bl q x = x := if_pos c
      rw [e]
      exact cs_q t)
set_option maxRecDepth 100000 in
theorem sk_lp {d L m : Nat} {f0 : Nat → Nat → Int32} {q : Int32} {S : Nat → Nat → Int32} {g : Nat → Nat → Int64} {R : Option Value → mH → Prop} (hm : m ≤ 50) :
    ∀ (k p : Nat) (f : Nat → Nat → Int32), p + k = m → cs f0 m p q S f → (∀ f', cs f0 m (skl (tk f0 118 m) k p) q S f' → R none (shF L, f', g)) → WPe pg_X6_skipBlanks none (Run mtab d) R (m_drop pg_X6_skipBlanks 0) [some (.ref 107)] [] (shF L, f, g)
  | 0, p, f, hk, t, H => by
    refine at_X6_skipBlanks ?_
    conv => whnf
    simp only [t.1, t.2.1]
    refine ⟨fun c => ?_, fun c => absurd (nI_le (by omega) (by omega)) c⟩
    conv => whnf
    exact H f t
  | k + 1, p, f, hk, t, H => by
    have et := cs_t t (j := p) (by omega) hm
    refine at_X6_skipBlanks ?_
    conv => whnf
    simp only [t.1, t.2.1]
    refine ⟨fun c => absurd c (nI_ge (by omega) (by omega)), fun c => ?_⟩
    conv => whnf
    simp only [t.2.1]
    refine ⟨vp_in_nI (by omega) (by decide), ?_⟩
    conv => whnf
    simp only [et]
    refine ⟨fun c' => ?_, fun c' => ?_⟩
    · conv => whnf
      have e : skl (tk f0 118 m) (k + 1) p = p := if_neg c'
      rw [e] at H
      exact H f t
    · conv => whnf
      simp only [t.2.1]
      have e : skl (tk f0 118 m) (k + 1) p = skl (tk f0 118 m) k (p + 1) := if_pos c'
      rw [e] at H
      exact sk_lp hm k (p + 1) _ (by omega) (cs_p t (nI_1 p)) H
theorem sf_skip {d L m p : Nat} {f0 f : Nat → Nat → Int32} {g : Nat → Nat → Int64} {q : Int32} {S : Nat → Nat → Int32} {R : Option Value → mH → Prop} (hd : 1 ≤ d) (hm : m ≤ 50) (hp : p ≤ m) (t : cs f0 m p q S f) (H : ∀ f', cs f0 m (sk (tk f0 118 m) m p) q S f' → R none (shF L, f', g)) : Run mtab d 61 [.ref 107] (shF L, f, g) R := by
  obtain ⟨d, rfl⟩ : ∃ e, d = e + 1 := ⟨d - 1, by omega⟩
  refine run_wp (k := 55) (M := M_X6_skipBlanks) rfl rfl ?_
  have := sk_lp (d := d) (L := L) (g := g) hm (m - p) p f (by omega) t H
  rw [m_drop_0] at this
  exact this
set_option maxRecDepth 100000 in
set_option maxHeartbeats 4000000 in
theorem sf_readSign {d L : Nat} {f : Nat → Nat → Int32} {g : Nat → Nat → Int64} {m p : Nat} {f0 : Nat → Nat → Int32} {q : Int32} {S : Nat → Nat → Int32} {x : Int32} {R : Option Value → mH → Prop} (hd : 3 ≤ d) (hm : m ≤ 50) (hp : p ≤ m) (t : cs f0 m p q S f) (H : ∀ f', cs f0 m (sgC (tk f0 118 m) m x p q).1 (sgC (tk f0 118 m) m x p q).2 S f' → R none (shF L, f', g)) : Run mtab d 59 [.ref 107, .int x] (shF L, f, g) R := by
  obtain ⟨d, rfl⟩ : ∃ e, d = e + 1 := ⟨d - 1, by omega⟩
  refine go_X6_readSign rfl ?_
  conv => whnf
  refine sf_skip (by omega) hm hp t (fun f1 t1 => ?_)
  have hr := sk_le (T := (tk f0 118 m)) hp
  have u1 := t1.1
  have u2 := t1.2.1
  conv => whnf
  simp only [u1, u2]
  refine ⟨fun c => ?_, fun c => ?_⟩
  · conv => whnf
    simp only [u2]
    have e : sgC (tk f0 118 m) m x p q = (sk (tk f0 118 m) m p, bl q (nI (sk (tk f0 118 m) m p))) := if_neg (fun z => absurd c (nI_ge z.1 (by omega)))
    rw [e] at H
    refine sf_blame (by omega) t1 (fun f2 t2 => ?_)
    conv => whnf
    exact H f2 t2
  · have hl : sk (tk f0 118 m) m p < m := by
      rw [nI_leI (by omega) (by omega)] at c
      omega
    have et := cs_t t1 hl hm
    conv => whnf
    simp only [u2]
    refine ⟨vp_in_nI (by omega) (by decide), ?_⟩
    conv => whnf
    simp only [et]
    refine ⟨fun c2 => ?_, fun c2 => ?_⟩
    · conv => whnf
      simp only [u2]
      have e : sgC (tk f0 118 m) m x p q = (sk (tk f0 118 m) m p, bl q (nI (sk (tk f0 118 m) m p))) := if_neg (fun z => c2 z.2)
      rw [e] at H
      refine sf_blame (by omega) t1 (fun f2 t2 => ?_)
      conv => whnf
      exact H f2 t2
    · conv => whnf
      simp only [u2]
      have e : sgC (tk f0 118 m) m x p q = (sk (tk f0 118 m) m p + 1, q) := if_pos ⟨hl, c2⟩
      rw [e] at H
      exact H _ (cs_p t1 (nI_1 _))
set_option maxRecDepth 100000 in
set_option maxHeartbeats 4000000 in
theorem sf_readKind {d L : Nat} {f : Nat → Nat → Int32} {g : Nat → Nat → Int64} {m p : Nat} {f0 : Nat → Nat → Int32} {q : Int32} {S : Nat → Nat → Int32} {R : Option Value → mH → Prop} (hd : 6 ≤ d) (hm : m ≤ 50) (hp : p ≤ m) (t : cs f0 m p q S f) (H : ∀ f', cs f0 m (kdC (tk f0 118 m) m p q).2.1 (kdC (tk f0 118 m) m p q).2.2 S f' → R (some (.int (kdC (tk f0 118 m) m p q).1)) (shF L, f', g)) : Run mtab d 58 [.ref 107] (shF L, f, g) R := by
  obtain ⟨d, rfl⟩ : ∃ e, d = e + 1 := ⟨d - 1, by omega⟩
  refine go_X6_readKind rfl ?_
  conv => whnf
  refine sf_skip (by omega) hm hp t (fun f1 t1 => ?_)
  have hr := sk_le (T := (tk f0 118 m)) hp
  have u1 := t1.1
  have u2 := t1.2.1
  conv => whnf
  simp only [u1, u2]
  refine ⟨fun c => ?_, fun c => ?_⟩
  · conv => whnf
    refine ⟨fun c => absurd c (by decide), fun _ => ?_⟩
    conv => whnf
    simp only [u2]
    have e : kdC (tk f0 118 m) m p q = (-1, sk (tk f0 118 m) m p, bl q (nI (sk (tk f0 118 m) m p))) := if_neg (fun z => absurd c (nI_ge z.1 (by omega)))
    rw [e] at H
    refine sf_blame (by omega) t1 (fun f2 t2 => ?_)
    conv => whnf
    exact H f2 t2
  · have hl : sk (tk f0 118 m) m p < m := by
      rw [nI_leI (by omega) (by omega)] at c
      omega
    have et := cs_t t1 hl hm
    conv => whnf
    simp only [u2]
    refine ⟨vp_in_nI (by omega) (by decide), ?_⟩
    conv => whnf
    simp only [et]
    refine rf_ix (by omega) ?_
    conv => whnf
    refine ⟨fun c2 => ?_, fun c2 => ?_⟩
    · have hn : ¬ m_let ((tk f0 118 m) (sk (tk f0 118 m) m p)) = -1 := fun z => by
        rw [z] at c2
        exact absurd c2 (by decide)
      conv => whnf
      simp only [u2]
      have e : kdC (tk f0 118 m) m p q = (m_let ((tk f0 118 m) (sk (tk f0 118 m) m p)), sk (tk f0 118 m) m p + 1, q) := if_pos ⟨hl, hn⟩
      rw [e] at H
      exact H _ (cs_p t1 (nI_1 _))
    · have hn : m_let ((tk f0 118 m) (sk (tk f0 118 m) m p)) = -1 := by
        rcases let_cases ((tk f0 118 m) (sk (tk f0 118 m) m p)) with z | z | z | z | z
        · exact z
        all_goals (rw [z] at c2; exact absurd (by decide) c2)
      rw [hn]
      conv => whnf
      simp only [u2]
      have e : kdC (tk f0 118 m) m p q = (-1, sk (tk f0 118 m) m p, bl q (nI (sk (tk f0 118 m) m p))) := if_neg (fun z => z.2 hn)
      rw [e] at H
      refine sf_blame (by omega) t1 (fun f2 t2 => ?_)
      conv => whnf
      exact H f2 t2
set_option maxRecDepth 100000 in
set_option maxHeartbeats 4000000 in
theorem nc_lp {d L m r : Nat} {f0 : Nat → Nat → Int32} {g : Nat → Nat → Int64} {x y q : Int32} {S : Nat → Nat → Int32} {R : Option Value → mH → Prop} (hd : 2 ≤ d) (hm : m ≤ 50) :
    ∀ (k p : Nat) (a : Int32) (f : Nat → Nat → Int32), p + k = m → cs f0 m p q S f → (∀ f', cs f0 m (nel (tk f0 118 m) k p) (if x ≤ nvl Fc (tk f0 118 m) k p a ∧ nvl Fc (tk f0 118 m) k p a ≤ y then q else bl q (nI r)) S f' → R (some (.int (nvl Fc (tk f0 118 m) k p a))) (shF L, f', g)) → WPe pg_X6_readNumber none (Run mtab d) R (m_drop pg_X6_readNumber 7) [some (.ref 107), some (.int x), some (.int y), some (.int (nI r)), some (.int a)] [] (shF L, f, g)
  | 0, p, a, f, hk, t, H => by
    refine at_X6_readNumber ?_
    conv => whnf
    simp only [t.1, t.2.1]
    refine ⟨fun c => ?_, fun c => absurd (nI_le (by omega) (by omega)) c⟩
    conv => whnf
    have H2 : ∀ f', cs f0 m p (if x ≤ a ∧ a ≤ y then q else bl q (nI r)) S f' → R (some (.int a)) (shF L, f', g) := H
    refine ct_isWithin (by omega) (fun pp => ?_) (fun pp => ?_)
    · conv => whnf
      (refine ⟨fun c => ?_, fun c => ?_⟩ <;> first | ((have c9 : (1 : Int32) = 0 := by with_reducible exact c); exact absurd c9 (by decide)) | exact absurd (rfl : (0 : Int32) = 0) (by with_reducible exact c) | exact absurd True.intro (by with_reducible exact c) | exact False.elim (by with_reducible exact c) | (conv => whnf))
      have e : (if x ≤ a ∧ a ≤ y then q else bl q (nI r)) = q := if_pos pp
      rw [e] at H2
      exact H2 f t
    · conv => whnf
      (refine ⟨fun c => ?_, fun c => ?_⟩ <;> first | ((have c9 : (1 : Int32) = 0 := by with_reducible exact c); exact absurd c9 (by decide)) | exact absurd (rfl : (0 : Int32) = 0) (by with_reducible exact c) | exact absurd True.intro (by with_reducible exact c) | exact False.elim (by with_reducible exact c) | (conv => whnf))
      have e : (if x ≤ a ∧ a ≤ y then q else bl q (nI r)) = bl q (nI r) := if_neg pp
      rw [e] at H2
      refine sf_blame (by omega) t (fun f2 t2 => ?_)
      conv => whnf
      exact H2 f2 t2
  | k + 1, p, a, f, hk, t, H => by
    have et := cs_t t (j := p) (by omega) hm
    refine at_X6_readNumber ?_
    conv => whnf
    simp only [t.1, t.2.1]
    refine ⟨fun c => absurd c (nI_ge (by omega) (by omega)), fun cc => ?_⟩
    conv => whnf
    simp only [t.2.1]
    refine ⟨vp_in_nI (by omega) (by decide), ?_⟩
    conv => whnf
    simp only [et]
    refine ct_isWithin (by omega) (fun pp => ?_) (fun pp => ?_)
    · conv => whnf
      (refine ⟨fun c => ?_, fun c => ?_⟩ <;> first | ((have c9 : (1 : Int32) = 0 := by with_reducible exact c); exact absurd c9 (by decide)) | exact absurd (rfl : (0 : Int32) = 0) (by with_reducible exact c) | exact absurd True.intro (by with_reducible exact c) | exact False.elim (by with_reducible exact c) | (conv => whnf))
      simp only [t.2.1]
      refine ⟨vp_in_nI (by omega) (by decide), ?_⟩
      conv => whnf
      simp only [et]
      refine rp_min (by omega) ?_
      conv => whnf
      simp only [t.2.1]
      have e1 : nvl Fc (tk f0 118 m) (k + 1) p a = nvl Fc (tk f0 118 m) k (p + 1) (Fc a ((tk f0 118 m) p)) := if_pos pp
      have e2 : nel (tk f0 118 m) (k + 1) p = nel (tk f0 118 m) k (p + 1) := if_pos pp
      rw [e1, e2] at H
      exact nc_lp hd hm k (p + 1) _ _ (by omega) (cs_p t (nI_1 p)) H
    · have e1 : nvl Fc (tk f0 118 m) (k + 1) p a = a := if_neg pp
      have e2 : nel (tk f0 118 m) (k + 1) p = p := if_neg pp
      rw [e1, e2] at H
      conv => whnf
      (refine ⟨fun c => ?_, fun c => ?_⟩ <;> first | ((have c9 : (1 : Int32) = 0 := by with_reducible exact c); exact absurd c9 (by decide)) | exact absurd (rfl : (0 : Int32) = 0) (by with_reducible exact c) | exact absurd True.intro (by with_reducible exact c) | exact False.elim (by with_reducible exact c) | (conv => whnf))
      have H2 : ∀ f', cs f0 m p (if x ≤ a ∧ a ≤ y then q else bl q (nI r)) S f' → R (some (.int a)) (shF L, f', g) := H
      refine ct_isWithin (by omega) (fun pp => ?_) (fun pp => ?_)
      · conv => whnf
        (refine ⟨fun c => ?_, fun c => ?_⟩ <;> first | ((have c9 : (1 : Int32) = 0 := by with_reducible exact c); exact absurd c9 (by decide)) | exact absurd (rfl : (0 : Int32) = 0) (by with_reducible exact c) | exact absurd True.intro (by with_reducible exact c) | exact False.elim (by with_reducible exact c) | (conv => whnf))
        have e : (if x ≤ a ∧ a ≤ y then q else bl q (nI r)) = q := if_pos pp
        rw [e] at H2
        exact H2 f t
      · conv => whnf
        (refine ⟨fun c => ?_, fun c => ?_⟩ <;> first | ((have c9 : (1 : Int32) = 0 := by with_reducible exact c); exact absurd c9 (by decide)) | exact absurd (rfl : (0 : Int32) = 0) (by with_reducible exact c) | exact absurd True.intro (by with_reducible exact c) | exact False.elim (by with_reducible exact c) | (conv => whnf))
        have e : (if x ≤ a ∧ a ≤ y then q else bl q (nI r)) = bl q (nI r) := if_neg pp
        rw [e] at H2
        refine sf_blame (by omega) t (fun f2 t2 => ?_)
        conv => whnf
        exact H2 f2 t2
set_option maxRecDepth 100000 in
set_option maxHeartbeats 4000000 in
theorem sf_readNumber {d L : Nat} {f : Nat → Nat → Int32} {g : Nat → Nat → Int64} {m p : Nat} {f0 : Nat → Nat → Int32} {q : Int32} {S : Nat → Nat → Int32} {x y : Int32} {R : Option Value → mH → Prop} (hd : 4 ≤ d) (hm : m ≤ 50) (hp : p ≤ m) (t : cs f0 m p q S f) (H : ∀ f', cs f0 m (nmC (tk f0 118 m) m x y p q).2.1 (nmC (tk f0 118 m) m x y p q).2.2 S f' → R (some (.int (nmC (tk f0 118 m) m x y p q).1)) (shF L, f', g)) : Run mtab d 60 [.ref 107, .int x, .int y] (shF L, f, g) R := by
  obtain ⟨d, rfl⟩ : ∃ e, d = e + 1 := ⟨d - 1, by omega⟩
  refine go_X6_readNumber rfl ?_
  conv => whnf
  refine sf_skip (by omega) hm hp t (fun f1 t1 => ?_)
  have hr := sk_le (T := (tk f0 118 m)) hp
  have u2 := t1.2.1
  conv => whnf
  simp only [u2]
  exact nc_lp (by omega) hm (m - sk (tk f0 118 m) m p) (sk (tk f0 118 m) m p) _ _ (by omega) t1 H
set_option maxRecDepth 100000 in
set_option maxHeartbeats 4000000 in
theorem sf_readClause {d L : Nat} {f : Nat → Nat → Int32} {g : Nat → Nat → Int64} {m p : Nat} {f0 : Nat → Nat → Int32} {q : Int32} {S : Nat → Nat → Int32} {R : Option Value → mH → Prop} (hd : 7 ≤ d) (hm : m ≤ 50) (hp : p ≤ m) (t : cs f0 m p q S f) (H : ∀ f', cs f0 m (c6 (tk f0 118 m) m p q).2.1 (c6 (tk f0 118 m) m p q).2.2 (sC (tk f0 118 m) m p q S) f' → R none (shF L, f', g)) : Run mtab d 57 [.ref 107] (shF L, f, g) R := by
  obtain ⟨d, rfl⟩ : ∃ e, d = e + 1 := ⟨d - 1, by omega⟩
  refine go_X6_readClause rfl ?_
  conv => whnf
  refine sf_readKind (by omega) hm hp t (fun f1 t1 => ?_)
  have h1 : (kdC (tk f0 118 m) m p q).2.1 ≤ m := kdC_le hp
  conv => whnf
  refine sf_readNumber (by omega) hm h1 t1 (fun f2 t2 => ?_)
  have h2 : (c2 (tk f0 118 m) m p q).2.1 ≤ m := nmC_le h1
  conv => whnf
  refine sf_readSign (by omega) hm h2 t2 (fun f3 t3 => ?_)
  have h3 : (c3 (tk f0 118 m) m p q).1 ≤ m := sgC_le h2
  conv => whnf
  refine sf_readNumber (by omega) hm h3 t3 (fun f4 t4 => ?_)
  have h4 : (c4 (tk f0 118 m) m p q).2.1 ≤ m := nmC_le h3
  conv => whnf
  refine sf_readSign (by omega) hm h4 t4 (fun f5 t5 => ?_)
  have h5 : (c5 (tk f0 118 m) m p q).1 ≤ m := sgC_le h4
  conv => whnf
  refine sf_readNumber (by omega) hm h5 t5 (fun f6 t6 => ?_)
  have t7 : cs f0 m (c6 (tk f0 118 m) m p q).2.1 (c6 (tk f0 118 m) m p q).2.2 S f6 := t6
  have hv : inr (-1) 3 (kdC (tk f0 118 m) m p q).1 := by
    unfold kdC
    by_cases z : sk (tk f0 118 m) m p < m ∧ ¬ m_let ((tk f0 118 m) (sk (tk f0 118 m) m p)) = -1
    · rw [if_pos z]
      rcases let_cases ((tk f0 118 m) (sk (tk f0 118 m) m p)) with w | w | w | w | w
      all_goals (show inr (-1) 3 (m_let _); rw [w]; unfold inr; decide)
    · rw [if_neg z]
      show inr (-1) 3 (-1)
      unfold inr
      decide
  have H2 : ∀ v : Int32, (kdC (tk f0 118 m) m p q).1 = v → ∀ f', cs f0 m (c6 (tk f0 118 m) m p q).2.1 (c6 (tk f0 118 m) m p q).2.2 (if v < 0 then S else updS S v.toNatClampNeg (c2 (tk f0 118 m) m p q).1 (c4 (tk f0 118 m) m p q).1 (c6 (tk f0 118 m) m p q).1) f' → R none (shF L, f', g) := fun v hv => by
    subst hv
    exact H
  conv => whnf
  generalize hk : (kdC (tk f0 118 m) m p q).1 = v at hv ⊢
  have H3 := H2 v hk
  rcases inr_m13 hv with e | e | e | e | e
  · subst e
    conv => whnf
    refine ⟨fun _ => ?_, fun c => absurd (by decide) c⟩
    conv => whnf
    exact H3 f6 t7
  · subst e
    conv => whnf
    refine ⟨fun c => absurd c (by decide), fun _ => ?_⟩
    conv => whnf
    refine ⟨⟨by unfold vp_in; decide, by decide, by decide⟩, ?_⟩
    conv => whnf
    refine ⟨by unfold vp_in; decide, ?_⟩
    conv => whnf
    refine ⟨⟨by unfold vp_in; decide, by decide, by decide⟩, ?_⟩
    conv => whnf
    refine ⟨by unfold vp_in; decide, ?_⟩
    conv => whnf
    refine ⟨⟨by unfold vp_in; decide, by decide, by decide⟩, ?_⟩
    conv => whnf
    refine ⟨by unfold vp_in; decide, ?_⟩
    conv => whnf
    exact H3 _ (cs_u (j := 0) t7 (by decide))
  · subst e
    conv => whnf
    refine ⟨fun c => absurd c (by decide), fun _ => ?_⟩
    conv => whnf
    refine ⟨⟨by unfold vp_in; decide, by decide, by decide⟩, ?_⟩
    conv => whnf
    refine ⟨by unfold vp_in; decide, ?_⟩
    conv => whnf
    refine ⟨⟨by unfold vp_in; decide, by decide, by decide⟩, ?_⟩
    conv => whnf
    refine ⟨by unfold vp_in; decide, ?_⟩
    conv => whnf
    refine ⟨⟨by unfold vp_in; decide, by decide, by decide⟩, ?_⟩
    conv => whnf
    refine ⟨by unfold vp_in; decide, ?_⟩
    conv => whnf
    exact H3 _ (cs_u (j := 1) t7 (by decide))
  · subst e
    conv => whnf
    refine ⟨fun c => absurd c (by decide), fun _ => ?_⟩
    conv => whnf
    refine ⟨⟨by unfold vp_in; decide, by decide, by decide⟩, ?_⟩
    conv => whnf
    refine ⟨by unfold vp_in; decide, ?_⟩
    conv => whnf
    refine ⟨⟨by unfold vp_in; decide, by decide, by decide⟩, ?_⟩
    conv => whnf
    refine ⟨by unfold vp_in; decide, ?_⟩
    conv => whnf
    refine ⟨⟨by unfold vp_in; decide, by decide, by decide⟩, ?_⟩
    conv => whnf
    refine ⟨by unfold vp_in; decide, ?_⟩
    conv => whnf
    exact H3 _ (cs_u (j := 2) t7 (by decide))
  · subst e
    conv => whnf
    refine ⟨fun c => absurd c (by decide), fun _ => ?_⟩
    conv => whnf
    refine ⟨⟨by unfold vp_in; decide, by decide, by decide⟩, ?_⟩
    conv => whnf
    refine ⟨by unfold vp_in; decide, ?_⟩
    conv => whnf
    refine ⟨⟨by unfold vp_in; decide, by decide, by decide⟩, ?_⟩
    conv => whnf
    refine ⟨by unfold vp_in; decide, ?_⟩
    conv => whnf
    refine ⟨⟨by unfold vp_in; decide, by decide, by decide⟩, ?_⟩
    conv => whnf
    refine ⟨by unfold vp_in; decide, ?_⟩
    conv => whnf
    exact H3 _ (cs_u (j := 3) t7 (by decide))
set_option maxRecDepth 100000 in
set_option maxHeartbeats 4000000 in
theorem cc_lp {d L m : Nat} {f0 : Nat → Nat → Int32} {g : Nat → Nat → Int64} {R : Option Value → mH → Prop} (hd : 7 ≤ d) (hm : m ≤ 50) :
    ∀ (k i : Nat) (x : Int32) (p : Nat) (q : Int32) (S : Nat → Nat → Int32) (f : Nat → Nat → Int32), i + k = 5 → x = nI i → p ≤ m → cs f0 m p q S f → (∀ f' p', p' ≤ m → cs f0 m p' (clsC (tk f0 118 m) m k i p q S).2.1 (clsC (tk f0 118 m) m k i p q S).2.2 f' → R (some (.int (clsC (tk f0 118 m) m k i p q S).1)) (shF L, f', g)) → WPe pg_X6_readClauses none (Run mtab d) R (m_drop pg_X6_readClauses 2) [some (.ref 107), some (.int x)] [] (shF L, f, g)
  | 0, i, x, p, q, S, f, hk, hx, hp, t, H => by
    have e : i = 5 := by omega
    subst hx
    subst e
    refine at_X6_readClauses ?_
    conv => whnf
    refine ⟨fun c => ?_, fun c => absurd (by decide) c⟩
    conv => whnf
    exact H f p hp t
  | k + 1, i, x, p, q, S, f, hk, hx, hp, t, H => by
    subst hx
    refine at_X6_readClauses ?_
    conv => whnf
    refine ⟨fun c => absurd c (nI_nlt (a := 4) (b := i) (by omega) (by omega)), fun c => ?_⟩
    conv => whnf
    refine sf_readClause (by omega) hm hp t (fun f1 t1 => ?_)
    have h6 : (c6 (tk f0 118 m) m p q).2.1 ≤ m := nmC_le (sgC_le (nmC_le (sgC_le (nmC_le (kdC_le hp)))))
    conv => whnf
    refine sf_skip (by omega) hm h6 t1 (fun f2 t2 => ?_)
    have hr := sk_le (T := (tk f0 118 m)) h6
    have u1 := t2.1
    have u2 := t2.2.1
    have u3 := t2.2.2.1
    conv => whnf
    simp only [u3]
    have stop : (¬ (c6 (tk f0 118 m) m p q).2.2 = -1 ∨ sk (tk f0 118 m) m (c6 (tk f0 118 m) m p q).2.1 = m) → R (some (.int (nI i))) (shF L, f2, g) := fun z => by
      have e : (clsC (tk f0 118 m) m (k + 1) i p q S) = (nI i, (c6 (tk f0 118 m) m p q).2.2, sC (tk f0 118 m) m p q S) := if_pos z
      rw [e] at H
      exact H f2 _ hr.2 t2
    refine ⟨fun c1 => ?_, fun c1 => ?_⟩
    · conv => whnf
      exact stop (Or.inl c1)
    · conv => whnf
      simp only [u1, u2]
      refine ⟨fun c2 => ?_, fun c2 => ?_⟩
      · have hne : ¬ (¬ (c6 (tk f0 118 m) m p q).2.2 = -1 ∨ sk (tk f0 118 m) m (c6 (tk f0 118 m) m p q).2.1 = m) := fun z => z.elim (fun w => w c1) (fun w => c2 (by rw [w]))
        have e9 : clsC (tk f0 118 m) m (k + 1) i p q S = clsC (tk f0 118 m) m k (i + 1) (sgC (tk f0 118 m) m 59 (sk (tk f0 118 m) m (c6 (tk f0 118 m) m p q).2.1) (if i = 4 then bl (c6 (tk f0 118 m) m p q).2.2 (nI (sk (tk f0 118 m) m (c6 (tk f0 118 m) m p q).2.1)) else (c6 (tk f0 118 m) m p q).2.2)).1 (sgC (tk f0 118 m) m 59 (sk (tk f0 118 m) m (c6 (tk f0 118 m) m p q).2.1) (if i = 4 then bl (c6 (tk f0 118 m) m p q).2.2 (nI (sk (tk f0 118 m) m (c6 (tk f0 118 m) m p q).2.1)) else (c6 (tk f0 118 m) m p q).2.2)).2 (sC (tk f0 118 m) m p q S) := if_neg hne
        rw [e9] at H
        conv => whnf
        refine ⟨fun c3 => ?_, fun c3 => ?_⟩
        · have i4 : ¬ i = 4 := fun z => c3 (by rw [z]; rfl)
          rw [if_neg i4] at H
          conv => whnf
          refine sf_readSign (by omega) hm hr.2 t2 (fun f4 t4 => ?_)
          conv => whnf
          exact cc_lp hd hm k (i + 1) _ _ _ _ f4 (by omega) (nI_1 i) (sgC_le hr.2) t4 H
        · have i4 : i = 4 := (nI_eq (b := 4) (by omega) (by decide)).mp c3
          rw [if_pos i4] at H
          conv => whnf
          simp only [u2]
          refine sf_blame (by omega) t2 (fun f3 t3 => ?_)
          conv => whnf
          refine sf_readSign (by omega) hm hr.2 t3 (fun f4 t4 => ?_)
          conv => whnf
          exact cc_lp hd hm k (i + 1) _ _ _ _ f4 (by omega) (nI_1 i) (sgC_le hr.2) t4 H
      · conv => whnf
        exact stop (Or.inr ((nI_eq (by omega) (by omega)).mp c2))
set_option maxRecDepth 100000 in
set_option maxHeartbeats 4000000 in
theorem sf_readClauses {d L : Nat} {f : Nat → Nat → Int32} {g : Nat → Nat → Int64} {m p : Nat} {f0 : Nat → Nat → Int32} {q : Int32} {S : Nat → Nat → Int32} {R : Option Value → mH → Prop} (hd : 8 ≤ d) (hm : m ≤ 50) (hp : p ≤ m) (t : cs f0 m p q S f) (H : ∀ f' p', p' ≤ m → cs f0 m p' (clsC (tk f0 118 m) m 4 1 p q S).2.1 (clsC (tk f0 118 m) m 4 1 p q S).2.2 f' → R (some (.int (clsC (tk f0 118 m) m 4 1 p q S).1)) (shF L, f', g)) : Run mtab d 56 [.ref 107] (shF L, f, g) R := by
  obtain ⟨d, rfl⟩ : ∃ e, d = e + 1 := ⟨d - 1, by omega⟩
  refine go_X6_readClauses rfl ?_
  conv => whnf
  exact cc_lp (by omega) hm 4 1 _ p q S f (by omega) rfl hp t H
/-- the first k kinds have their rules -/
def es (f0 : Nat → Nat → Int32) (S : Nat → Nat → Int32) (k : Nat) (f : Nat → Nat → Int32) : Prop := (∀ j t, j < 4 → t < 3 → f (114 + j) t = S j t) ∧ (∀ j t, j < k → t < 3 → f (109 + j) t = eC S j t) ∧ (∀ a i, ¬ (109 ≤ a ∧ a ≤ 112) → f a i = f0 a i)
theorem es_cpy {f0 f : Nat → Nat → Int32} {S : Nat → Nat → Int32} {k x : Nat} (h : es f0 S k f) (hk : k < 4) (hx : ∀ t, t < 3 → f x t = eC S k t) : es f0 S (k + 1) (m_cpy f x (109 + k) 0 0 3) := by
  obtain ⟨a, b, c⟩ := h
  refine ⟨fun j t hj ht => ?_, fun j t hj ht => ?_, fun a i h1 => ?_⟩
  · rw [m_cpy_ap, if_neg (by omega)]
    exact a j t hj ht
  · rw [m_cpy_ap]
    by_cases e : j = k
    · subst e
      rw [if_pos rfl, if_pos (by omega), show 0 + (t - 0) = t by omega]
      exact hx t ht
    · rw [if_neg (by omega)]
      exact b j t (by omega) ht
  · rw [m_cpy_ap, if_neg (by omega)]
    exact c a i h1
/-- the rules where none are told -/
def ab2 (f : Nat → Nat → Int32) : Prop := f 2 0 = 1 ∧ f 2 1 = 1 ∧ f 2 2 = 1
theorem ab2_t {f : Nat → Nat → Int32} (h : ab2 f) {t : Nat} (ht : t < 3) : f 2 t = 1 := by
  have ht3 : t = 0 ∨ t = 1 ∨ t = 2 := by omega
  rcases ht3 with rfl | rfl | rfl
  · exact h.1
  · exact h.2.1
  · exact h.2.2
set_option maxRecDepth 100000 in
set_option maxHeartbeats 4000000 in
theorem ef_4 {d L : Nat} {f0 f : Nat → Nat → Int32} {g : Nat → Nat → Int64} {S : Nat → Nat → Int32} {s : Option Value} {R : Option Value → mH → Prop} (hd : 1 ≤ d) (hA : ab3 f0) (hB : ab2 f0) (h : es f0 S 4 f) (H : ∀ f', es f0 S 4 f' → R none (shF L, f', g)) : WPe pg_X6_enforce none (Run mtab d) R (m_drop pg_X6_enforce 2) [some (.ref 107), some (.int (0 + 1 + 1 + 1 + 1)), s] [] (shF L, f, g) := by
  refine at_X6_enforce ?_
  conv => whnf
  refine ⟨fun c => ?_, fun c => absurd (by decide) c⟩
  conv => whnf
  exact H _ h
set_option maxRecDepth 100000 in
set_option maxHeartbeats 4000000 in
theorem ef_3 {d L : Nat} {f0 f : Nat → Nat → Int32} {g : Nat → Nat → Int64} {S : Nat → Nat → Int32} {s : Option Value} {R : Option Value → mH → Prop} (hd : 1 ≤ d) (hA : ab3 f0) (hB : ab2 f0) (h : es f0 S 3 f) (H : ∀ f', es f0 S 4 f' → R none (shF L, f', g)) : WPe pg_X6_enforce none (Run mtab d) R (m_drop pg_X6_enforce 2) [some (.ref 107), some (.int (0 + 1 + 1 + 1)), s] [] (shF L, f, g) := by
  refine at_X6_enforce ?_
  conv => whnf
  refine ⟨fun c => absurd c (by decide), fun _ => ?_⟩
  conv => whnf
  refine ⟨⟨by unfold vp_in; decide, by decide, by decide⟩, ?_⟩
  conv => whnf
  refine ⟨by unfold vp_in; decide, ?_⟩
  conv => whnf
  refine ⟨fun c => ?_, fun c => ?_⟩
  · conv => whnf
    refine ⟨⟨by unfold vp_in; decide, by decide, by decide⟩, ?_⟩
    conv => whnf
    refine rp_cpy (a := 117) (b := 112) (by omega) rfl rfl rfl (by decide) ?_
    conv => whnf
    exact ef_4 hd hA hB (es_cpy (k := 3) h (by decide) (fun t ht => by
      show _ = (if S 3 0 = 0 then ec2 S t else S 3 t)
      rw [if_neg (fun z => c ((h.1 3 0 (by decide) (by decide)).trans z))]
      exact h.1 3 t (by decide) ht)) H
  · conv => whnf
    refine ⟨fun _ => ?_, fun c => absurd c (by decide)⟩
    conv => whnf
    refine ⟨by unfold vp_in; decide, ?_⟩
    have ha : f 3 (Int32.toNatClampNeg (0 + 1 + 1 + 1)) = 2 := (h.2.2 3 3 (by omega)).trans hA.2.2.2
    conv => whnf
    simp only [ha]
    refine ⟨⟨by unfold vp_in; decide, by decide, by decide⟩, ?_⟩
    conv => whnf
    refine ⟨⟨by unfold vp_in; decide, by decide, by decide⟩, ?_⟩
    conv => whnf
    refine rp_cpy (a := 111) (b := 112) (by omega) rfl rfl rfl (by decide) ?_
    conv => whnf
    exact ef_4 hd hA hB (es_cpy (k := 3) h (by decide) (fun t ht => by
      show _ = (if S 3 0 = 0 then ec2 S t else S 3 t)
      rw [if_pos (by rw [← h.1 3 0 (by decide) (by decide)]; exact c)]
      exact h.2.1 2 t (by decide) ht)) H
set_option maxRecDepth 100000 in
set_option maxHeartbeats 4000000 in
theorem ef_2 {d L : Nat} {f0 f : Nat → Nat → Int32} {g : Nat → Nat → Int64} {S : Nat → Nat → Int32} {s : Option Value} {R : Option Value → mH → Prop} (hd : 1 ≤ d) (hA : ab3 f0) (hB : ab2 f0) (h : es f0 S 2 f) (H : ∀ f', es f0 S 4 f' → R none (shF L, f', g)) : WPe pg_X6_enforce none (Run mtab d) R (m_drop pg_X6_enforce 2) [some (.ref 107), some (.int (0 + 1 + 1)), s] [] (shF L, f, g) := by
  refine at_X6_enforce ?_
  conv => whnf
  refine ⟨fun c => absurd c (by decide), fun _ => ?_⟩
  conv => whnf
  refine ⟨⟨by unfold vp_in; decide, by decide, by decide⟩, ?_⟩
  conv => whnf
  refine ⟨by unfold vp_in; decide, ?_⟩
  conv => whnf
  refine ⟨fun c => ?_, fun c => ?_⟩
  · conv => whnf
    refine ⟨⟨by unfold vp_in; decide, by decide, by decide⟩, ?_⟩
    conv => whnf
    refine rp_cpy (a := 116) (b := 111) (by omega) rfl rfl rfl (by decide) ?_
    conv => whnf
    exact ef_3 hd hA hB (es_cpy (k := 2) h (by decide) (fun t ht => by
      show _ = ec2 S t
      unfold ec2
      rw [if_neg (fun z => c ((h.1 2 0 (by decide) (by decide)).trans z))]
      exact h.1 2 t (by decide) ht)) H
  · conv => whnf
    refine ⟨fun _ => ?_, fun c => absurd c (by decide)⟩
    conv => whnf
    refine ⟨by unfold vp_in; decide, ?_⟩
    have ha : f 3 (Int32.toNatClampNeg (0 + 1 + 1)) = 0 := (h.2.2 3 2 (by omega)).trans hA.2.2.1
    conv => whnf
    simp only [ha]
    refine ⟨⟨by unfold vp_in; decide, by decide, by decide⟩, ?_⟩
    conv => whnf
    refine ⟨⟨by unfold vp_in; decide, by decide, by decide⟩, ?_⟩
    conv => whnf
    refine rp_cpy (a := 109) (b := 111) (by omega) rfl rfl rfl (by decide) ?_
    conv => whnf
    exact ef_3 hd hA hB (es_cpy (k := 2) h (by decide) (fun t ht => by
      show _ = ec2 S t
      unfold ec2
      rw [if_pos (by rw [← h.1 2 0 (by decide) (by decide)]; exact c)]
      exact h.2.1 0 t (by decide) ht)) H
set_option maxRecDepth 100000 in
set_option maxHeartbeats 4000000 in
theorem ef_1 {d L : Nat} {f0 f : Nat → Nat → Int32} {g : Nat → Nat → Int64} {S : Nat → Nat → Int32} {s : Option Value} {R : Option Value → mH → Prop} (hd : 1 ≤ d) (hA : ab3 f0) (hB : ab2 f0) (h : es f0 S 1 f) (H : ∀ f', es f0 S 4 f' → R none (shF L, f', g)) : WPe pg_X6_enforce none (Run mtab d) R (m_drop pg_X6_enforce 2) [some (.ref 107), some (.int (0 + 1)), s] [] (shF L, f, g) := by
  refine at_X6_enforce ?_
  conv => whnf
  refine ⟨fun c => absurd c (by decide), fun _ => ?_⟩
  conv => whnf
  refine ⟨⟨by unfold vp_in; decide, by decide, by decide⟩, ?_⟩
  conv => whnf
  refine ⟨by unfold vp_in; decide, ?_⟩
  conv => whnf
  refine ⟨fun c => ?_, fun c => ?_⟩
  · conv => whnf
    refine ⟨⟨by unfold vp_in; decide, by decide, by decide⟩, ?_⟩
    conv => whnf
    refine rp_cpy (a := 115) (b := 110) (by omega) rfl rfl rfl (by decide) ?_
    conv => whnf
    exact ef_2 hd hA hB (es_cpy (k := 1) h (by decide) (fun t ht => by
      show _ = (if S 1 0 = 0 then ec0 S t else S 1 t)
      rw [if_neg (fun z => c ((h.1 1 0 (by decide) (by decide)).trans z))]
      exact h.1 1 t (by decide) ht)) H
  · conv => whnf
    refine ⟨fun _ => ?_, fun c => absurd c (by decide)⟩
    conv => whnf
    refine ⟨by unfold vp_in; decide, ?_⟩
    have ha : f 3 (Int32.toNatClampNeg (0 + 1)) = 0 := (h.2.2 3 1 (by omega)).trans hA.2.1
    conv => whnf
    simp only [ha]
    refine ⟨⟨by unfold vp_in; decide, by decide, by decide⟩, ?_⟩
    conv => whnf
    refine ⟨⟨by unfold vp_in; decide, by decide, by decide⟩, ?_⟩
    conv => whnf
    refine rp_cpy (a := 109) (b := 110) (by omega) rfl rfl rfl (by decide) ?_
    conv => whnf
    exact ef_2 hd hA hB (es_cpy (k := 1) h (by decide) (fun t ht => by
      show _ = (if S 1 0 = 0 then ec0 S t else S 1 t)
      rw [if_pos (by rw [← h.1 1 0 (by decide) (by decide)]; exact c)]
      exact h.2.1 0 t (by decide) ht)) H
set_option maxRecDepth 100000 in
set_option maxHeartbeats 4000000 in
theorem ef_0 {d L : Nat} {f0 f : Nat → Nat → Int32} {g : Nat → Nat → Int64} {S : Nat → Nat → Int32} {s : Option Value} {R : Option Value → mH → Prop} (hd : 1 ≤ d) (hA : ab3 f0) (hB : ab2 f0) (h : es f0 S 0 f) (H : ∀ f', es f0 S 4 f' → R none (shF L, f', g)) : WPe pg_X6_enforce none (Run mtab d) R (m_drop pg_X6_enforce 2) [some (.ref 107), some (.int (0)), s] [] (shF L, f, g) := by
  refine at_X6_enforce ?_
  conv => whnf
  refine ⟨fun c => absurd c (by decide), fun _ => ?_⟩
  conv => whnf
  refine ⟨⟨by unfold vp_in; decide, by decide, by decide⟩, ?_⟩
  conv => whnf
  refine ⟨by unfold vp_in; decide, ?_⟩
  conv => whnf
  refine ⟨fun c => ?_, fun c => ?_⟩
  · conv => whnf
    refine ⟨⟨by unfold vp_in; decide, by decide, by decide⟩, ?_⟩
    conv => whnf
    refine rp_cpy (a := 114) (b := 109) (by omega) rfl rfl rfl (by decide) ?_
    conv => whnf
    exact ef_1 hd hA hB (es_cpy (k := 0) h (by decide) (fun t ht => by
      show _ = ec0 S t
      unfold ec0
      rw [if_neg (fun z => c ((h.1 0 0 (by decide) (by decide)).trans z))]
      exact h.1 0 t (by decide) ht)) H
  · conv => whnf
    refine ⟨fun c => absurd (by decide) c, fun _ => ?_⟩
    conv => whnf
    refine ⟨⟨by unfold vp_in; decide, by decide, by decide⟩, ?_⟩
    conv => whnf
    refine rp_cpy (a := 2) (b := 109) (by omega) rfl rfl rfl (by decide) ?_
    conv => whnf
    exact ef_1 hd hA hB (es_cpy (k := 0) h (by decide) (fun t ht => by
      show _ = ec0 S t
      unfold ec0
      rw [if_pos (by rw [← h.1 0 0 (by decide) (by decide)]; exact c), h.2.2 2 t (by omega)]
      exact ab2_t hB ht)) H
set_option maxRecDepth 100000 in
set_option maxHeartbeats 4000000 in
theorem sf_enforce {d L : Nat} {f : Nat → Nat → Int32} {g : Nat → Nat → Int64} {f0 : Nat → Nat → Int32} {S : Nat → Nat → Int32} {R : Option Value → mH → Prop} (hd : 2 ≤ d) (hA : ab3 f0) (hB : ab2 f0) (h : es f0 S 0 f) (H : ∀ f', es f0 S 4 f' → R none (shF L, f', g)) : Run mtab d 55 [.ref 107] (shF L, f, g) R := by
  obtain ⟨d, rfl⟩ : ∃ e, d = e + 1 := ⟨d - 1, by omega⟩
  refine go_X6_enforce rfl ?_
  conv => whnf
  exact ef_0 (by omega) hA hB h H
/-- what readTape leaves: fault q, answer v, rules told S -/
def rtC (f : Nat → Nat → Int32) (m : Nat) (f' : Nat → Nat → Int32) (v : Int32) : Prop := f' 107 3 = 0 ∧ (∀ a i, ¬ a = 107 → ¬ (109 ≤ a ∧ a ≤ 117) → f' a i = f a i) ∧ (∃ p : Nat, p ≤ 50 ∧ f' 107 4 = nI p) ∧ ((¬ (clsC (tk f 118 m) m 4 1 0 (-1) (fun k t => if t = 0 then 0 else f (114 + k) t)).2.1 = -1 ∧ v = -20 - (clsC (tk f 118 m) m 4 1 0 (-1) (fun k t => if t = 0 then 0 else f (114 + k) t)).2.1 ∧ (∀ j t, j < 4 → t < 3 → f' (109 + j) t = f (109 + j) t)) ∨ ((clsC (tk f 118 m) m 4 1 0 (-1) (fun k t => if t = 0 then 0 else f (114 + k) t)).2.1 = -1 ∧ v = (clsC (tk f 118 m) m 4 1 0 (-1) (fun k t => if t = 0 then 0 else f (114 + k) t)).1 ∧ (∀ j t, j < 4 → t < 3 → f' (109 + j) t = eC (clsC (tk f 118 m) m 4 1 0 (-1) (fun k t => if t = 0 then 0 else f (114 + k) t)).2.2 j t)))
theorem cs_ini {f : Nat → Nat → Int32} {m : Nat} (hb : f 107 3 = nI m) : cs f m 0 (-1) (fun k t => if t = 0 then 0 else f (114 + k) t) (m_ui (m_ui (m_ui (m_ui (m_ui (m_ui f 107 4 0) 107 5 (-1)) 114 0 0) 115 0 0) 116 0 0) 117 0 0) := by
  refine ⟨?_, ?_, ?_, fun k t hk ht => ?_, fun a i h1 h2 => ?_⟩
  · rw [m_ui_o (by omega), m_ui_o (by omega), m_ui_o (by omega), m_ui_o (by omega), m_ui_o (by omega), m_ui_o (by omega)]; exact hb
  · rw [m_ui_o (by omega), m_ui_o (by omega), m_ui_o (by omega), m_ui_o (by omega), m_ui_o (by omega), m_ui_s]; rfl
  · rw [m_ui_o (by omega), m_ui_o (by omega), m_ui_o (by omega), m_ui_o (by omega), m_ui_s]
  · show _ = (if t = 0 then 0 else f (114 + k) t)
    by_cases z : t = 0
    · subst z
      rw [if_pos rfl]
      have hk4 : k = 0 ∨ k = 1 ∨ k = 2 ∨ k = 3 := by omega
      rcases hk4 with rfl | rfl | rfl | rfl
      · rw [m_ui_o (by omega), m_ui_o (by omega), m_ui_o (by omega), m_ui_s]
      · rw [m_ui_o (by omega), m_ui_o (by omega), m_ui_s]
      · rw [m_ui_o (by omega), m_ui_s]
      · rw [m_ui_s]
    · rw [if_neg z, m_ui_o (by omega), m_ui_o (by omega), m_ui_o (by omega), m_ui_o (by omega), m_ui_o (by omega), m_ui_o (by omega)]
  · rw [m_ui_o (by omega), m_ui_o (by omega), m_ui_o (by omega), m_ui_o (by omega), m_ui_o (by omega), m_ui_o (by omega)]
set_option maxRecDepth 100000 in
set_option maxHeartbeats 4000000 in
theorem sf_readTape {d L : Nat} {f : Nat → Nat → Int32} {g : Nat → Nat → Int64} {m : Nat} {R : Option Value → mH → Prop} (hd : 9 ≤ d) (hm : m ≤ 50) (hb : f 107 3 = nI m) (hA : ab3 f) (hB : ab2 f) (H : ∀ v f', rtC f m f' v → R (some (.int v)) (shF L, f', g)) : Run mtab d 54 [.ref 107] (shF L, f, g) R := by
  obtain ⟨d, rfl⟩ : ∃ e, d = e + 1 := ⟨d - 1, by omega⟩
  refine go_X6_readTape rfl ?_
  conv => whnf
  refine at_X6_readTape ?_
  conv => whnf
  refine ⟨fun c => absurd c (by decide), fun _ => ?_⟩
  conv => whnf
  refine ⟨⟨by unfold vp_in; decide, by decide, by decide⟩, ?_⟩
  conv => whnf
  refine ⟨by unfold vp_in; decide, ?_⟩
  conv => whnf
  refine at_X6_readTape ?_
  conv => whnf
  refine ⟨fun c => absurd c (by decide), fun _ => ?_⟩
  conv => whnf
  refine ⟨⟨by unfold vp_in; decide, by decide, by decide⟩, ?_⟩
  conv => whnf
  refine ⟨by unfold vp_in; decide, ?_⟩
  conv => whnf
  refine at_X6_readTape ?_
  conv => whnf
  refine ⟨fun c => absurd c (by decide), fun _ => ?_⟩
  conv => whnf
  refine ⟨⟨by unfold vp_in; decide, by decide, by decide⟩, ?_⟩
  conv => whnf
  refine ⟨by unfold vp_in; decide, ?_⟩
  conv => whnf
  refine at_X6_readTape ?_
  conv => whnf
  refine ⟨fun c => absurd c (by decide), fun _ => ?_⟩
  conv => whnf
  refine ⟨⟨by unfold vp_in; decide, by decide, by decide⟩, ?_⟩
  conv => whnf
  refine ⟨by unfold vp_in; decide, ?_⟩
  conv => whnf
  refine at_X6_readTape ?_
  conv => whnf
  refine ⟨fun _ => ?_, fun c => absurd (by decide) c⟩
  conv => whnf
  refine sf_readClauses (m := m) (p := 0) (f0 := f) (q := -1) (S := (fun k t => if t = 0 then 0 else f (114 + k) t)) (by omega) hm (by omega) (cs_ini hb) (fun f1 p1 hp1 t1 => ?_)
  have w3 := t1.2.2.1
  have u3 : m_ui f1 107 3 0 107 5 = _ := (m_ui_o (by omega)).trans w3
  have fr : ∀ a i, ¬ a = 107 → ¬ (114 ≤ a ∧ a ≤ 117) → m_ui f1 107 3 0 a i = f a i := fun a i h1 h2 => by
    rw [m_ui_o (by omega)]
    exact t1.2.2.2.2 a i h1 h2
  have hp4 : m_ui f1 107 3 0 107 4 = nI p1 := (m_ui_o (by omega)).trans t1.2.1
  conv => whnf
  simp only [u3, w3]
  refine ⟨fun c => ?_, fun c => ?_⟩
  · conv => whnf
    refine sf_enforce (f0 := m_ui f1 107 3 0) (by omega) ⟨(fr 3 0 (by omega) (by omega)).trans hA.1, (fr 3 1 (by omega) (by omega)).trans hA.2.1, (fr 3 2 (by omega) (by omega)).trans hA.2.2.1, (fr 3 3 (by omega) (by omega)).trans hA.2.2.2⟩ ⟨(fr 2 0 (by omega) (by omega)).trans hB.1, (fr 2 1 (by omega) (by omega)).trans hB.2.1, (fr 2 2 (by omega) (by omega)).trans hB.2.2⟩ (S := (clsC (tk f 118 m) m 4 1 0 (-1) (fun k t => if t = 0 then 0 else f (114 + k) t)).2.2) ⟨fun j t hj ht => by rw [m_ui_o (by omega)]; exact t1.2.2.2.1 j t hj ht, fun j t hj ht => absurd hj (by omega), fun a i _ => rfl⟩ (fun f2 h2 => ?_)
    conv => whnf
    exact H _ _ ⟨(h2.2.2 107 3 (by omega)).trans m_ui_s, fun a i h1 h3 => (h2.2.2 a i (by omega)).trans (fr a i h1 (by omega)), ⟨p1, by omega, (h2.2.2 107 4 (by omega)).trans hp4⟩, Or.inr ⟨c, rfl, h2.2.1⟩⟩
  · conv => whnf
    simp only [u3, w3]
    exact H _ _ ⟨m_ui_s, fun a i h1 h3 => fr a i h1 (by omega), ⟨p1, by omega, hp4⟩, Or.inl ⟨c, rfl, fun j t hj ht => fr _ _ (by omega) (by omega)⟩⟩
set_option maxRecDepth 100000 in
set_option maxHeartbeats 4000000 in
theorem sf_rules {d L : Nat} {f : Nat → Nat → Int32} {g : Nat → Nat → Int64} {m : Nat} {R : Option Value → mH → Prop} (hd : 10 ≤ d) (hm : m ≤ 50) (hb : f 107 3 = nI m) (hA : ab3 f) (hB : ab2 f) (H : ∀ v f', rtC f m f' v → R (some (.int v)) (shF L, f', g)) : Run mtab d 120 [.ref 5] (shF L, f, g) R := by
  obtain ⟨d, rfl⟩ : ∃ e, d = e + 1 := ⟨d - 1, by omega⟩
  refine go_X10_rules rfl ?_
  conv => whnf
  refine sf_readTape (by omega) hm hb hA hB (fun v f1 h1 => ?_)
  conv => whnf
  exact H _ _ h1
set_option maxRecDepth 100000 in
set_option maxHeartbeats 4000000 in
theorem sf_rule {d L : Nat} {f : Nat → Nat → Int32} {g : Nat → Nat → Int64} {x1 x2 : Int32} {R : Option Value → mH → Prop} (hd : 2 ≤ d) (H : ∀ v, ((¬ (inr 0 3 x1 ∧ inr 0 2 x2) ∧ v = -1) ∨ (∃ k t, k < 4 ∧ t < 3 ∧ x1 = nI k ∧ x2 = nI t ∧ v = f (109 + k) t)) → R (some (.int v)) (shF L, f, g)) : Run mtab d 121 [.ref 5, .int x1, .int x2] (shF L, f, g) R := by
  obtain ⟨d, rfl⟩ : ∃ e, d = e + 1 := ⟨d - 1, by omega⟩
  refine go_X10_rule rfl ?_
  conv => whnf
  refine ct_isWithin (by omega) (fun p1 => ?_) (fun p1 => ?_)
  · obtain ⟨k, hk, rfl⟩ := inr_nat (n := 3) rfl p1
    conv => whnf
    (refine ⟨fun c => ?_, fun c => ?_⟩ <;> first | ((have c9 : (1 : Int32) = 0 := by with_reducible exact c); exact absurd c9 (by decide)) | exact absurd (rfl : (0 : Int32) = 0) (by with_reducible exact c) | exact absurd True.intro (by with_reducible exact c) | exact False.elim (by with_reducible exact c) | (conv => whnf))
    refine ct_isWithin (by omega) (fun p2 => ?_) (fun p2 => ?_)
    · obtain ⟨t, ht, rfl⟩ := inr_nat (n := 2) rfl p2
      have hct : (nI t).toNatClampNeg = t := nI_clamp (by omega)
      have H2 := H _ (Or.inr ⟨k, t, by omega, by omega, rfl, rfl, rfl⟩)
      have h4 : k = 0 ∨ k = 1 ∨ k = 2 ∨ k = 3 := by omega
      clear H p1
      rcases h4 with rfl | rfl | rfl | rfl
      · conv => whnf
        (refine ⟨fun c => ?_, fun c => ?_⟩ <;> first | ((have c9 : (1 : Int32) = 0 := by with_reducible exact c); exact absurd c9 (by decide)) | exact absurd (rfl : (0 : Int32) = 0) (by with_reducible exact c) | exact absurd True.intro (by with_reducible exact c) | exact False.elim (by with_reducible exact c) | (conv => whnf))
        refine ⟨⟨by unfold vp_in; decide, by decide, by decide⟩, ?_⟩
        conv => whnf
        refine ⟨vp_in_nI (by omega) (by decide), ?_⟩
        conv => whnf
        simp only [hct]
        exact H2
      · conv => whnf
        (refine ⟨fun c => ?_, fun c => ?_⟩ <;> first | ((have c9 : (1 : Int32) = 0 := by with_reducible exact c); exact absurd c9 (by decide)) | exact absurd (rfl : (0 : Int32) = 0) (by with_reducible exact c) | exact absurd True.intro (by with_reducible exact c) | exact False.elim (by with_reducible exact c) | (conv => whnf))
        refine ⟨⟨by unfold vp_in; decide, by decide, by decide⟩, ?_⟩
        conv => whnf
        refine ⟨vp_in_nI (by omega) (by decide), ?_⟩
        conv => whnf
        simp only [hct]
        exact H2
      · conv => whnf
        (refine ⟨fun c => ?_, fun c => ?_⟩ <;> first | ((have c9 : (1 : Int32) = 0 := by with_reducible exact c); exact absurd c9 (by decide)) | exact absurd (rfl : (0 : Int32) = 0) (by with_reducible exact c) | exact absurd True.intro (by with_reducible exact c) | exact False.elim (by with_reducible exact c) | (conv => whnf))
        refine ⟨⟨by unfold vp_in; decide, by decide, by decide⟩, ?_⟩
        conv => whnf
        refine ⟨vp_in_nI (by omega) (by decide), ?_⟩
        conv => whnf
        simp only [hct]
        exact H2
      · conv => whnf
        (refine ⟨fun c => ?_, fun c => ?_⟩ <;> first | ((have c9 : (1 : Int32) = 0 := by with_reducible exact c); exact absurd c9 (by decide)) | exact absurd (rfl : (0 : Int32) = 0) (by with_reducible exact c) | exact absurd True.intro (by with_reducible exact c) | exact False.elim (by with_reducible exact c) | (conv => whnf))
        refine ⟨⟨by unfold vp_in; decide, by decide, by decide⟩, ?_⟩
        conv => whnf
        refine ⟨vp_in_nI (by omega) (by decide), ?_⟩
        conv => whnf
        simp only [hct]
        exact H2
    · conv => whnf
      (refine ⟨fun c => ?_, fun c => ?_⟩ <;> first | ((have c9 : (1 : Int32) = 0 := by with_reducible exact c); exact absurd c9 (by decide)) | exact absurd (rfl : (0 : Int32) = 0) (by with_reducible exact c) | exact absurd True.intro (by with_reducible exact c) | exact False.elim (by with_reducible exact c) | (conv => whnf))
      exact H _ (Or.inl ⟨fun hh => p2 hh.2, rfl⟩)
  · conv => whnf
    (refine ⟨fun c => ?_, fun c => ?_⟩ <;> first | ((have c9 : (1 : Int32) = 0 := by with_reducible exact c); exact absurd c9 (by decide)) | exact absurd (rfl : (0 : Int32) = 0) (by with_reducible exact c) | exact absurd True.intro (by with_reducible exact c) | exact False.elim (by with_reducible exact c) | (conv => whnf))
    exact H _ (Or.inl ⟨fun hh => p1 hh.1, rfl⟩)
/-- the model at its tape: length m, place p, S what is told of the kinds; the rest as in f0 -/
def ms (f0 : Nat → Nat → Int32) (m p : Nat) (S : Nat → Nat → Int32) (f : Nat → Nat → Int32) : Prop := f 181 46 = nI m ∧ f 181 47 = nI p ∧ (∀ k t, k < 4 → t < 3 → f 216 (3 * k + t) = S k t) ∧ (∀ a i, ¬ (a = 181 ∧ i = 47) → ¬ a = 216 → f a i = f0 a i)
theorem ms_p {f0 f : Nat → Nat → Int32} {m p p' : Nat} {x : Int32} {S : Nat → Nat → Int32} (t : ms f0 m p S f) (hx : x = nI p') : ms f0 m p' S (m_ui f 181 47 x) := by
  obtain ⟨a, b, d, e⟩ := t
  refine ⟨?_, ?_, fun k t hk ht => ?_, fun a i h1 h2 => ?_⟩
  · rw [m_ui_o (by omega)]; exact a
  · rw [m_ui_s]; exact hx
  · rw [m_ui_o (by omega)]; exact d k t hk ht
  · rw [m_ui_o (by omega)]; exact e a i h1 h2
theorem ms_u {f0 f : Nat → Nat → Int32} {m p j : Nat} {a b c : Int32} {S : Nat → Nat → Int32} (t : ms f0 m p S f) : ms f0 m p (updS S j a b c) (m_ui (m_ui (m_ui f 216 (3 * j) a) 216 (3 * j + 1) b) 216 (3 * j + 2) c) := by
  obtain ⟨a1, b1, d, e⟩ := t
  refine ⟨?_, ?_, fun k t hk ht => ?_, fun a i h1 h2 => ?_⟩
  · rw [m_ui_o (by omega), m_ui_o (by omega), m_ui_o (by omega)]; exact a1
  · rw [m_ui_o (by omega), m_ui_o (by omega), m_ui_o (by omega)]; exact b1
  · unfold updS
    by_cases z : k = j
    · subst z
      rw [if_pos rfl]
      have ht3 : t = 0 ∨ t = 1 ∨ t = 2 := by omega
      rcases ht3 with rfl | rfl | rfl
      · rw [m_ui_o (by omega), m_ui_o (by omega), m_ui_s' (by omega), if_pos rfl]
      · rw [m_ui_o (by omega), m_ui_s, if_neg (by decide), if_pos rfl]
      · rw [m_ui_s, if_neg (by decide), if_neg (by decide)]
    · rw [if_neg z, m_ui_o (by omega), m_ui_o (by omega), m_ui_o (by omega)]
      exact d k t hk ht
  · rw [m_ui_o (by omega), m_ui_o (by omega), m_ui_o (by omega)]; exact e a i h1 h2
theorem ms_t {f0 f : Nat → Nat → Int32} {m p j : Nat} {S : Nat → Nat → Int32} (t : ms f0 m p S f) (hj : j < m) (hm : m ≤ 50) : f 217 (nI j).toNatClampNeg = tk f0 217 m j := by
  rw [nI_clamp (by omega), t.2.2.2 217 j (by omega) (by omega), tk_at hj]
def nx (T : Nat → Int32) (m r : Nat) : Int32 := if r < m then T r else -1
set_option maxRecDepth 100000 in
theorem nf_lp {d L m : Nat} {f0 : Nat → Nat → Int32} {S : Nat → Nat → Int32} {g : Nat → Nat → Int64} {R : Option Value → mH → Prop} (hm : m ≤ 50) :
    ∀ (k p : Nat) (f : Nat → Nat → Int32), p + k = m → ms f0 m p S f → (∀ f', ms f0 m (skl (tk f0 217 m) k p) S f' → R (some (.int (nx (tk f0 217 m) m (skl (tk f0 217 m) k p)))) (shF L, f', g)) → WPe pg_X11_next none (Run mtab d) R (m_drop pg_X11_next 0) [some (.ref 181)] [] (shF L, f, g)
  | 0, p, f, hk, t, H => by
    have u1 := t.1
    have u2 := t.2.1
    refine at_X11_next ?_
    conv => whnf
    simp only [u1, u2]
    refine ⟨fun c => ?_, fun c => absurd (nI_le (by omega) (by omega)) c⟩
    conv => whnf
    simp only [u1, u2]
    refine ⟨fun c => ?_, fun c => absurd (nI_le (by omega) (by omega)) c⟩
    conv => whnf
    have e : nx (tk f0 217 m) m p = -1 := if_neg (by omega)
    have H2 := H f t
    have H3 : R (some (.int (nx (tk f0 217 m) m p))) (shF L, f, g) := H2
    rw [e] at H3
    exact H3
  | k + 1, p, f, hk, t, H => by
    have u1 := t.1
    have u2 := t.2.1
    have et := ms_t t (j := p) (by omega) hm
    refine at_X11_next ?_
    conv => whnf
    simp only [u1, u2]
    refine ⟨fun c => absurd c (nI_ge (by omega) (by omega)), fun c => ?_⟩
    conv => whnf
    simp only [u2]
    refine ⟨vp_in_nI (by omega) (by decide), ?_⟩
    conv => whnf
    simp only [et]
    refine ⟨fun c' => ?_, fun c' => ?_⟩
    · have e : skl (tk f0 217 m) (k + 1) p = p := if_neg c'
      have e2 : nx (tk f0 217 m) m p = (tk f0 217 m) p := if_pos (by omega)
      rw [e] at H
      have H2 := H f t
      rw [e2] at H2
      conv => whnf
      simp only [u1, u2]
      refine ⟨fun c => absurd c (nI_ge (by omega) (by omega)), fun c => ?_⟩
      conv => whnf
      simp only [u2]
      refine ⟨vp_in_nI (by omega) (by decide), ?_⟩
      conv => whnf
      simp only [et]
      exact H2
    · conv => whnf
      simp only [u2]
      have e : skl (tk f0 217 m) (k + 1) p = skl (tk f0 217 m) k (p + 1) := if_pos c'
      rw [e] at H
      exact nf_lp hm k (p + 1) _ (by omega) (ms_p t (nI_1 p)) H
theorem smf_next {d L m p : Nat} {f0 f : Nat → Nat → Int32} {g : Nat → Nat → Int64} {S : Nat → Nat → Int32} {R : Option Value → mH → Prop} (hd : 1 ≤ d) (hm : m ≤ 50) (hp : p ≤ m) (t : ms f0 m p S f) (H : ∀ f', ms f0 m (sk (tk f0 217 m) m p) S f' → R (some (.int (nx (tk f0 217 m) m (sk (tk f0 217 m) m p)))) (shF L, f', g)) : Run mtab d 216 [.ref 181] (shF L, f, g) R := by
  obtain ⟨d, rfl⟩ : ∃ e, d = e + 1 := ⟨d - 1, by omega⟩
  refine run_wp (k := 210) (M := M_X11_next) rfl rfl ?_
  have := nf_lp (d := d) (L := L) (g := g) hm (m - p) p f (by omega) t H
  rw [m_drop_0] at this
  exact this
set_option maxRecDepth 100000 in
set_option maxHeartbeats 4000000 in
theorem nn_lp {d L m r : Nat} {f0 : Nat → Nat → Int32} {g : Nat → Nat → Int64} {x y ch : Int32} {S : Nat → Nat → Int32} {R : Option Value → mH → Prop} (hd : 1 ≤ d) (hm : m ≤ 50) (hrm : r ≤ m) (hx : 0 < x) (hch : ch < 0 → r = m) :
    ∀ (k p : Nat) (a : Int32) (f : Nat → Nat → Int32), p + k = m → r ≤ p → (p = r → a = 0) → ms f0 m p S f → ((x ≤ nvl (Fm y) (tk f0 217 m) k p a ∧ nvl (Fm y) (tk f0 217 m) k p a ≤ y) → ∀ f', ms f0 m (nel (tk f0 217 m) k p) S f' → R (some (.int (nvl (Fm y) (tk f0 217 m) k p a))) (shF L, f', g)) → (¬ (x ≤ nvl (Fm y) (tk f0 217 m) k p a ∧ nvl (Fm y) (tk f0 217 m) k p a ≤ y) → ∀ f', ms f0 m r S f' → R (some (.int (-1))) (shF L, f', g)) → WPe pg_X11_number none (Run mtab d) R (m_drop pg_X11_number 8) [some (.ref 181), some (.int x), some (.int y), some (.int ch), some (.int (nI r)), some (.int a)] [] (shF L, f, g)
  | 0, p, a, f, hk, hrp, hz0, t, HO, HE => by
    refine at_X11_number ?_
    conv => whnf
    simp only [t.1, t.2.1]
    refine ⟨fun c => ?_, fun c => absurd (nI_le (by omega) (by omega)) c⟩
    conv => whnf
    have HO2 : (x ≤ a ∧ a ≤ y) → ∀ f', ms f0 m p S f' → R (some (.int a)) (shF L, f', g) := HO
    have HE2 : ¬ (x ≤ a ∧ a ≤ y) → ∀ f', ms f0 m r S f' → R (some (.int (-1))) (shF L, f', g) := HE
    have no0 : a = 0 → ¬ (x ≤ a ∧ a ≤ y) := fun e z => by
      rw [e] at z
      exact absurd z.1 (i32_nle.mpr hx)
    refine ⟨fun c1 => ?_, fun c1 => ?_⟩
    · conv => whnf
      exact HE2 (no0 (hz0 (by have := hch c1; omega))) _ (ms_p t rfl)
    · conv => whnf
      simp only [t.2.1]
      refine ⟨fun c2 => ?_, fun c2 => ?_⟩
      · conv => whnf
        exact HE2 (no0 (hz0 ((nI_eq (by omega) (by omega)).mp c2))) _ (ms_p t rfl)
      · conv => whnf
        refine ct_i_v_v (by omega) (fun pp => ?_) (fun pp => ?_)
        · conv => whnf
          (refine ⟨fun c => ?_, fun c => ?_⟩ <;> first | ((have c9 : (1 : Int32) = 0 := by with_reducible exact c); exact absurd c9 (by decide)) | exact absurd (rfl : (0 : Int32) = 0) (by with_reducible exact c) | exact absurd True.intro (by with_reducible exact c) | exact False.elim (by with_reducible exact c) | (conv => whnf))
          exact HO2 pp f t
        · conv => whnf
          (refine ⟨fun c => ?_, fun c => ?_⟩ <;> first | ((have c9 : (1 : Int32) = 0 := by with_reducible exact c); exact absurd c9 (by decide)) | exact absurd (rfl : (0 : Int32) = 0) (by with_reducible exact c) | exact absurd True.intro (by with_reducible exact c) | exact False.elim (by with_reducible exact c) | (conv => whnf))
          exact HE2 pp _ (ms_p t rfl)
  | k + 1, p, a, f, hk, hrp, hz0, t, HO, HE => by
    have et := ms_t t (j := p) (by omega) hm
    refine at_X11_number ?_
    conv => whnf
    simp only [t.1, t.2.1]
    refine ⟨fun c => absurd c (nI_ge (by omega) (by omega)), fun cc => ?_⟩
    conv => whnf
    simp only [t.2.1]
    refine ⟨vp_in_nI (by omega) (by decide), ?_⟩
    conv => whnf
    simp only [et]
    refine ct_i_48_57 (by omega) (fun pp => ?_) (fun pp => ?_)
    · have e1 : nvl (Fm y) (tk f0 217 m) (k + 1) p a = nvl (Fm y) (tk f0 217 m) k (p + 1) (Fm y a ((tk f0 217 m) p)) := if_pos pp
      have e2 : nel (tk f0 217 m) (k + 1) p = nel (tk f0 217 m) k (p + 1) := if_pos pp
      rw [e1, e2] at HO
      rw [e1] at HE
      conv => whnf
      (refine ⟨fun c => ?_, fun c => ?_⟩ <;> first | ((have c9 : (1 : Int32) = 0 := by with_reducible exact c); exact absurd c9 (by decide)) | exact absurd (rfl : (0 : Int32) = 0) (by with_reducible exact c) | exact absurd True.intro (by with_reducible exact c) | exact False.elim (by with_reducible exact c) | (conv => whnf))
      refine ⟨fun c => ?_, fun c => ?_⟩
      · have e3 : Fm y a ((tk f0 217 m) p) = 10 * a + (tk f0 217 m) p - 48 := if_pos c
        rw [e3] at HO HE
        conv => whnf
        simp only [t.2.1]
        refine ⟨vp_in_nI (by omega) (by decide), ?_⟩
        conv => whnf
        simp only [t.2.1, et]
        exact nn_lp hd hm hrm hx hch k (p + 1) _ _ (by omega) (by omega) (fun z => by omega) (ms_p t (nI_1 p)) HO HE
      · have e3 : Fm y a ((tk f0 217 m) p) = a := if_neg c
        rw [e3] at HO HE
        conv => whnf
        simp only [t.2.1]
        exact nn_lp hd hm hrm hx hch k (p + 1) _ _ (by omega) (by omega) (fun z => by omega) (ms_p t (nI_1 p)) HO HE
    · have e1 : nvl (Fm y) (tk f0 217 m) (k + 1) p a = a := if_neg pp
      have e2 : nel (tk f0 217 m) (k + 1) p = p := if_neg pp
      rw [e1, e2] at HO
      rw [e1] at HE
      conv => whnf
      refine ⟨fun _ => ?_, fun c => absurd (by decide) c⟩
      conv => whnf
      have HO2 : (x ≤ a ∧ a ≤ y) → ∀ f', ms f0 m p S f' → R (some (.int a)) (shF L, f', g) := HO
      have HE2 : ¬ (x ≤ a ∧ a ≤ y) → ∀ f', ms f0 m r S f' → R (some (.int (-1))) (shF L, f', g) := HE
      have no0 : a = 0 → ¬ (x ≤ a ∧ a ≤ y) := fun e z => by
        rw [e] at z
        exact absurd z.1 (i32_nle.mpr hx)
      refine ⟨fun c1 => ?_, fun c1 => ?_⟩
      · conv => whnf
        exact HE2 (no0 (hz0 (by have := hch c1; omega))) _ (ms_p t rfl)
      · conv => whnf
        simp only [t.2.1]
        refine ⟨fun c2 => ?_, fun c2 => ?_⟩
        · conv => whnf
          exact HE2 (no0 (hz0 ((nI_eq (by omega) (by omega)).mp c2))) _ (ms_p t rfl)
        · conv => whnf
          refine ct_i_v_v (by omega) (fun pp => ?_) (fun pp => ?_)
          · conv => whnf
            (refine ⟨fun c => ?_, fun c => ?_⟩ <;> first | ((have c9 : (1 : Int32) = 0 := by with_reducible exact c); exact absurd c9 (by decide)) | exact absurd (rfl : (0 : Int32) = 0) (by with_reducible exact c) | exact absurd True.intro (by with_reducible exact c) | exact False.elim (by with_reducible exact c) | (conv => whnf))
            exact HO2 pp f t
          · conv => whnf
            (refine ⟨fun c => ?_, fun c => ?_⟩ <;> first | ((have c9 : (1 : Int32) = 0 := by with_reducible exact c); exact absurd c9 (by decide)) | exact absurd (rfl : (0 : Int32) = 0) (by with_reducible exact c) | exact absurd True.intro (by with_reducible exact c) | exact False.elim (by with_reducible exact c) | (conv => whnf))
            exact HE2 pp _ (ms_p t rfl)
set_option maxRecDepth 100000 in
set_option maxHeartbeats 4000000 in
theorem smf_number {d L : Nat} {f : Nat → Nat → Int32} {g : Nat → Nat → Int64} {m p : Nat} {f0 : Nat → Nat → Int32} {S : Nat → Nat → Int32} {x y : Int32} {R : Option Value → mH → Prop} (hd : 3 ≤ d) (hm : m ≤ 50) (hp : p ≤ m) (t : ms f0 m p S f) (hc : ∀ j, j < m → ¬ (tk f0 217 m) j < 0) (hx : 0 < x) (HO : ∀ v e, nmS (tk f0 217 m) m x y p = .ok (v, e) → ∀ f', ms f0 m e S f' → R (some (.int v)) (shF L, f', g)) (HE : ∀ r, nmS (tk f0 217 m) m x y p = .error r → ∀ f', ms f0 m r S f' → R (some (.int (-1))) (shF L, f', g)) : Run mtab d 217 [.ref 181, .int x, .int y] (shF L, f, g) R := by
  obtain ⟨d, rfl⟩ : ∃ e, d = e + 1 := ⟨d - 1, by omega⟩
  refine go_X11_number rfl ?_
  conv => whnf
  refine smf_next (by omega) hm hp t (fun f1 t1 => ?_)
  have hr := sk_le (T := (tk f0 217 m)) hp
  have u2 := t1.2.1
  have hch : nx (tk f0 217 m) m (sk (tk f0 217 m) m p) < 0 → sk (tk f0 217 m) m p = m := fun z => by
    by_cases q : sk (tk f0 217 m) m p < m
    · have e : nx (tk f0 217 m) m (sk (tk f0 217 m) m p) = (tk f0 217 m) (sk (tk f0 217 m) m p) := if_pos q
      rw [e] at z
      exact absurd z (hc _ q)
    · omega
  conv => whnf
  simp only [u2]
  exact nn_lp (by omega) hm hr.2 hx hch (m - sk (tk f0 217 m) m p) (sk (tk f0 217 m) m p) _ _ (by omega) (Nat.le_refl _) (fun _ => rfl) t1 (fun z => HO _ _ (if_pos z)) (fun z => HE _ (if_neg z))
set_option maxRecDepth 100000 in
set_option maxHeartbeats 4000000 in
theorem smf_takes {d L : Nat} {f : Nat → Nat → Int32} {g : Nat → Nat → Int64} {m p : Nat} {f0 : Nat → Nat → Int32} {S : Nat → Nat → Int32} {x : Int32} {R : Option Value → mH → Prop} (hd : 2 ≤ d) (hm : m ≤ 50) (hp : p ≤ m) (t : ms f0 m p S f) (hx : ¬ x = -1) (HO : ∀ e, sgS (tk f0 217 m) m x p = .ok e → ∀ f', ms f0 m e S f' → R (some (.int 1)) (shF L, f', g)) (HE : ∀ r, sgS (tk f0 217 m) m x p = .error r → ∀ f', ms f0 m r S f' → R (some (.int 0)) (shF L, f', g)) : Run mtab d 218 [.ref 181, .int x] (shF L, f, g) R := by
  obtain ⟨d, rfl⟩ : ∃ e, d = e + 1 := ⟨d - 1, by omega⟩
  refine go_X11_takes rfl ?_
  conv => whnf
  refine smf_next (by omega) hm hp t (fun f1 t1 => ?_)
  have hr := sk_le (T := (tk f0 217 m)) hp
  have u2 := t1.2.1
  conv => whnf
  refine ⟨fun c1 => ?_, fun c1 => ?_⟩
  · have hn : ¬ (sk (tk f0 217 m) m p < m ∧ (tk f0 217 m) (sk (tk f0 217 m) m p) = x) := fun z => c1 (by
      have e : nx (tk f0 217 m) m (sk (tk f0 217 m) m p) = (tk f0 217 m) (sk (tk f0 217 m) m p) := if_pos z.1
      rw [e]
      exact z.2)
    conv => whnf
    (refine ⟨fun c => ?_, fun c => ?_⟩ <;> first | ((have c9 : (1 : Int32) = 0 := by with_reducible exact c); exact absurd c9 (by decide)) | exact absurd (rfl : (0 : Int32) = 0) (by with_reducible exact c) | exact absurd True.intro (by with_reducible exact c) | exact False.elim (by with_reducible exact c) | (conv => whnf))
    simp only [u2]
    exact ⟨Or.inl True.intro, HE _ (if_neg hn) _ (ms_p t1 (Int32.add_zero _))⟩
  · have hy : sk (tk f0 217 m) m p < m ∧ (tk f0 217 m) (sk (tk f0 217 m) m p) = x := by
      by_cases q : sk (tk f0 217 m) m p < m
      · have e : nx (tk f0 217 m) m (sk (tk f0 217 m) m p) = (tk f0 217 m) (sk (tk f0 217 m) m p) := if_pos q
        rw [e] at c1
        exact ⟨q, c1⟩
      · have e : nx (tk f0 217 m) m (sk (tk f0 217 m) m p) = -1 := if_neg q
        rw [e] at c1
        exact absurd c1.symm hx
    conv => whnf
    (refine ⟨fun c => ?_, fun c => ?_⟩ <;> first | ((have c9 : (1 : Int32) = 0 := by with_reducible exact c); exact absurd c9 (by decide)) | exact absurd (rfl : (0 : Int32) = 0) (by with_reducible exact c) | exact absurd True.intro (by with_reducible exact c) | exact False.elim (by with_reducible exact c) | (conv => whnf))
    simp only [u2]
    exact ⟨Or.inr True.intro, HO _ (if_pos hy) _ (ms_p t1 (nI_1 _))⟩
set_option maxRecDepth 100000 in
set_option maxHeartbeats 4000000 in
theorem smf_readClause {d L : Nat} {f : Nat → Nat → Int32} {g : Nat → Nat → Int64} {m p : Nat} {f0 : Nat → Nat → Int32} {S : Nat → Nat → Int32} {R : Option Value → mH → Prop} (hd : 4 ≤ d) (hm : m ≤ 50) (hp : p ≤ m) (t : ms f0 m p S f) (hc : ∀ j, j < m → ¬ (tk f0 217 m) j < 0) (HO : ∀ k a b e p', clS (tk f0 217 m) m p = .ok (k, a, b, e, p') → ∀ f', ms f0 m p' (updS S k.toNatClampNeg a b e) f' → R (some (.int 1)) (shF L, f', g)) (HE : ∀ r, clS (tk f0 217 m) m p = .error r → ∀ f', ms f0 m r S f' → R (some (.int 0)) (shF L, f', g)) : Run mtab d 219 [.ref 181] (shF L, f, g) R := by
  obtain ⟨d, rfl⟩ : ∃ e, d = e + 1 := ⟨d - 1, by omega⟩
  refine go_X11_readClause rfl ?_
  conv => whnf
  refine smf_next (by omega) hm hp t (fun f1 t1 => ?_)
  have hr := sk_le (T := (tk f0 217 m)) hp
  have u2 := t1.2.1
  by_cases hl : sk (tk f0 217 m) m p < m
  · by_cases hk : (tk f0 217 m) (sk (tk f0 217 m) m p) = 112
    · have ev : nx (tk f0 217 m) m (sk (tk f0 217 m) m p) = 112 := (if_pos hl).trans hk
      have hL : m_let ((tk f0 217 m) (sk (tk f0 217 m) m p)) = 0 := by rw [hk]; rfl
      have h1 : kdS (tk f0 217 m) m p = .ok (0, sk (tk f0 217 m) m p + 1) := by
        unfold kdS
        rw [hL]
        exact if_pos ⟨hl, by decide⟩
      have hq1 : sk (tk f0 217 m) m p + 1 ≤ m := hl
      rw [ev]
      conv => whnf
      refine ⟨fun c => absurd rfl c, fun _ => ?_⟩
      conv => whnf
      refine ⟨fun _ => ?_, fun c => absurd (by decide) c⟩
      conv => whnf
      simp only [u2]
      have t1p := ms_p (x := nI (sk (tk f0 217 m) m p) + 1) t1 (nI_1 _)
      refine smf_number (by omega) hm hq1 t1p hc (by decide) (fun v2 e2 h2 f2 t2 => ?_) (fun r2 h2 f2 t2 => ?_)
      · have q2 := (nm_o (q := 0) (by decide) (by decide) hq1 h2).2
        have y2 := q2.2
        conv => whnf
        refine ⟨fun c => absurd c (i32_nlt.mpr (Int32.le_trans (by decide) y2.1)), fun _ => ?_⟩
        conv => whnf
        refine smf_takes (by omega) hm q2.1 t2 (by decide) (fun e3 h3 f3 t3 => ?_) (fun r3 h3 f3 t3 => ?_)
        · have q3 := (sg_o (q := 0) q2.1 h3).2
          conv => whnf
          (refine ⟨fun c => ?_, fun c => ?_⟩ <;> first | ((have c9 : (1 : Int32) = 0 := by with_reducible exact c); exact absurd c9 (by decide)) | exact absurd (rfl : (0 : Int32) = 0) (by with_reducible exact c) | exact absurd True.intro (by with_reducible exact c) | exact False.elim (by with_reducible exact c) | (conv => whnf))
          refine smf_number (by omega) hm q3 t3 hc (by decide) (fun v4 e4 h4 f4 t4 => ?_) (fun r4 h4 f4 t4 => ?_)
          · have q4 := (nm_o (q := 0) (by decide) (by decide) q3 h4).2
            have y4 := q4.2
            conv => whnf
            refine ⟨fun c => absurd c (i32_nlt.mpr (Int32.le_trans (by decide) y4.1)), fun _ => ?_⟩
            conv => whnf
            refine smf_takes (by omega) hm q4.1 t4 (by decide) (fun e5 h5 f5 t5 => ?_) (fun r5 h5 f5 t5 => ?_)
            · have q5 := (sg_o (q := 0) q4.1 h5).2
              conv => whnf
              (refine ⟨fun c => ?_, fun c => ?_⟩ <;> first | ((have c9 : (1 : Int32) = 0 := by with_reducible exact c); exact absurd c9 (by decide)) | exact absurd (rfl : (0 : Int32) = 0) (by with_reducible exact c) | exact absurd True.intro (by with_reducible exact c) | exact False.elim (by with_reducible exact c) | (conv => whnf))
              refine smf_number (by omega) hm q5 t5 hc (Int32.lt_of_lt_of_le (by decide) y4.1) (fun v6 e6 h6 f6 t6 => ?_) (fun r6 h6 f6 t6 => ?_)
              · have y6p := (nm_o (q := 0) (by decide) (by decide) q5 h6).2
                have y6 : (1 : Int32) ≤ v6 ∧ v6 ≤ 9 := ⟨Int32.le_trans y4.1 y6p.2.1, y6p.2.2⟩
                conv => whnf
                refine ⟨fun _ => ?_, fun c => absurd (Int32.le_trans (by decide) y6.1) c⟩
                conv => whnf
                refine ⟨by unfold vp_in; decide, ?_⟩
                conv => whnf
                refine ⟨by unfold vp_in; decide, ?_⟩
                conv => whnf
                refine ⟨by unfold vp_in; decide, ?_⟩
                conv => whnf
                exact ⟨Or.inr rfl, HO 0 _ _ _ _ (by simp only [clS, h1, h2, h3, h4, h5, h6]) _ (ms_u (j := 0) t6)⟩
              · conv => whnf
                refine ⟨fun c => absurd c (by decide), fun _ => ?_⟩
                conv => whnf
                exact ⟨Or.inl rfl, HE _ (by simp only [clS, h1, h2, h3, h4, h5, h6]) _ t6⟩
            · conv => whnf
              (refine ⟨fun c => ?_, fun c => ?_⟩ <;> first | ((have c9 : (1 : Int32) = 0 := by with_reducible exact c); exact absurd c9 (by decide)) | exact absurd (rfl : (0 : Int32) = 0) (by with_reducible exact c) | exact absurd True.intro (by with_reducible exact c) | exact False.elim (by with_reducible exact c) | (conv => whnf))
              exact ⟨Or.inl rfl, HE _ (by simp only [clS, h1, h2, h3, h4, h5]) _ t5⟩
          · conv => whnf
            refine ⟨fun _ => ?_, fun c => absurd (by decide) c⟩
            conv => whnf
            exact ⟨Or.inl rfl, HE _ (by simp only [clS, h1, h2, h3, h4]) _ t4⟩
        · conv => whnf
          (refine ⟨fun c => ?_, fun c => ?_⟩ <;> first | ((have c9 : (1 : Int32) = 0 := by with_reducible exact c); exact absurd c9 (by decide)) | exact absurd (rfl : (0 : Int32) = 0) (by with_reducible exact c) | exact absurd True.intro (by with_reducible exact c) | exact False.elim (by with_reducible exact c) | (conv => whnf))
          exact ⟨Or.inl rfl, HE _ (by simp only [clS, h1, h2, h3]) _ t3⟩
      · conv => whnf
        refine ⟨fun _ => ?_, fun c => absurd (by decide) c⟩
        conv => whnf
        exact ⟨Or.inl rfl, HE _ (by simp only [clS, h1, h2]) _ t2⟩
    · have k0 := hk
      clear hk
      by_cases hk : (tk f0 217 m) (sk (tk f0 217 m) m p) = 118
      · have ev : nx (tk f0 217 m) m (sk (tk f0 217 m) m p) = 118 := (if_pos hl).trans hk
        have hL : m_let ((tk f0 217 m) (sk (tk f0 217 m) m p)) = 1 := by rw [hk]; rfl
        have h1 : kdS (tk f0 217 m) m p = .ok (1, sk (tk f0 217 m) m p + 1) := by
          unfold kdS
          rw [hL]
          exact if_pos ⟨hl, by decide⟩
        have hq1 : sk (tk f0 217 m) m p + 1 ≤ m := hl
        rw [ev]
        conv => whnf
        refine ⟨fun _ => ?_, fun c => absurd c (by decide)⟩
        conv => whnf
        refine ⟨fun c => absurd rfl c, fun _ => ?_⟩
        conv => whnf
        refine ⟨fun _ => ?_, fun c => absurd (by decide) c⟩
        conv => whnf
        simp only [u2]
        have t1p := ms_p (x := nI (sk (tk f0 217 m) m p) + 1) t1 (nI_1 _)
        refine smf_number (by omega) hm hq1 t1p hc (by decide) (fun v2 e2 h2 f2 t2 => ?_) (fun r2 h2 f2 t2 => ?_)
        · have q2 := (nm_o (q := 0) (by decide) (by decide) hq1 h2).2
          have y2 := q2.2
          conv => whnf
          refine ⟨fun c => absurd c (i32_nlt.mpr (Int32.le_trans (by decide) y2.1)), fun _ => ?_⟩
          conv => whnf
          refine smf_takes (by omega) hm q2.1 t2 (by decide) (fun e3 h3 f3 t3 => ?_) (fun r3 h3 f3 t3 => ?_)
          · have q3 := (sg_o (q := 0) q2.1 h3).2
            conv => whnf
            (refine ⟨fun c => ?_, fun c => ?_⟩ <;> first | ((have c9 : (1 : Int32) = 0 := by with_reducible exact c); exact absurd c9 (by decide)) | exact absurd (rfl : (0 : Int32) = 0) (by with_reducible exact c) | exact absurd True.intro (by with_reducible exact c) | exact False.elim (by with_reducible exact c) | (conv => whnf))
            refine smf_number (by omega) hm q3 t3 hc (by decide) (fun v4 e4 h4 f4 t4 => ?_) (fun r4 h4 f4 t4 => ?_)
            · have q4 := (nm_o (q := 0) (by decide) (by decide) q3 h4).2
              have y4 := q4.2
              conv => whnf
              refine ⟨fun c => absurd c (i32_nlt.mpr (Int32.le_trans (by decide) y4.1)), fun _ => ?_⟩
              conv => whnf
              refine smf_takes (by omega) hm q4.1 t4 (by decide) (fun e5 h5 f5 t5 => ?_) (fun r5 h5 f5 t5 => ?_)
              · have q5 := (sg_o (q := 0) q4.1 h5).2
                conv => whnf
                (refine ⟨fun c => ?_, fun c => ?_⟩ <;> first | ((have c9 : (1 : Int32) = 0 := by with_reducible exact c); exact absurd c9 (by decide)) | exact absurd (rfl : (0 : Int32) = 0) (by with_reducible exact c) | exact absurd True.intro (by with_reducible exact c) | exact False.elim (by with_reducible exact c) | (conv => whnf))
                refine smf_number (by omega) hm q5 t5 hc (Int32.lt_of_lt_of_le (by decide) y4.1) (fun v6 e6 h6 f6 t6 => ?_) (fun r6 h6 f6 t6 => ?_)
                · have y6p := (nm_o (q := 0) (by decide) (by decide) q5 h6).2
                  have y6 : (1 : Int32) ≤ v6 ∧ v6 ≤ 9 := ⟨Int32.le_trans y4.1 y6p.2.1, y6p.2.2⟩
                  conv => whnf
                  refine ⟨fun _ => ?_, fun c => absurd (Int32.le_trans (by decide) y6.1) c⟩
                  conv => whnf
                  refine ⟨by unfold vp_in; decide, ?_⟩
                  conv => whnf
                  refine ⟨by unfold vp_in; decide, ?_⟩
                  conv => whnf
                  refine ⟨by unfold vp_in; decide, ?_⟩
                  conv => whnf
                  exact ⟨Or.inr rfl, HO 1 _ _ _ _ (by simp only [clS, h1, h2, h3, h4, h5, h6]) _ (ms_u (j := 1) t6)⟩
                · conv => whnf
                  refine ⟨fun c => absurd c (by decide), fun _ => ?_⟩
                  conv => whnf
                  exact ⟨Or.inl rfl, HE _ (by simp only [clS, h1, h2, h3, h4, h5, h6]) _ t6⟩
              · conv => whnf
                (refine ⟨fun c => ?_, fun c => ?_⟩ <;> first | ((have c9 : (1 : Int32) = 0 := by with_reducible exact c); exact absurd c9 (by decide)) | exact absurd (rfl : (0 : Int32) = 0) (by with_reducible exact c) | exact absurd True.intro (by with_reducible exact c) | exact False.elim (by with_reducible exact c) | (conv => whnf))
                exact ⟨Or.inl rfl, HE _ (by simp only [clS, h1, h2, h3, h4, h5]) _ t5⟩
            · conv => whnf
              refine ⟨fun _ => ?_, fun c => absurd (by decide) c⟩
              conv => whnf
              exact ⟨Or.inl rfl, HE _ (by simp only [clS, h1, h2, h3, h4]) _ t4⟩
          · conv => whnf
            (refine ⟨fun c => ?_, fun c => ?_⟩ <;> first | ((have c9 : (1 : Int32) = 0 := by with_reducible exact c); exact absurd c9 (by decide)) | exact absurd (rfl : (0 : Int32) = 0) (by with_reducible exact c) | exact absurd True.intro (by with_reducible exact c) | exact False.elim (by with_reducible exact c) | (conv => whnf))
            exact ⟨Or.inl rfl, HE _ (by simp only [clS, h1, h2, h3]) _ t3⟩
        · conv => whnf
          refine ⟨fun _ => ?_, fun c => absurd (by decide) c⟩
          conv => whnf
          exact ⟨Or.inl rfl, HE _ (by simp only [clS, h1, h2]) _ t2⟩
      · have k1 := hk
        clear hk
        by_cases hk : (tk f0 217 m) (sk (tk f0 217 m) m p) = 100
        · have ev : nx (tk f0 217 m) m (sk (tk f0 217 m) m p) = 100 := (if_pos hl).trans hk
          have hL : m_let ((tk f0 217 m) (sk (tk f0 217 m) m p)) = 2 := by rw [hk]; rfl
          have h1 : kdS (tk f0 217 m) m p = .ok (2, sk (tk f0 217 m) m p + 1) := by
            unfold kdS
            rw [hL]
            exact if_pos ⟨hl, by decide⟩
          have hq1 : sk (tk f0 217 m) m p + 1 ≤ m := hl
          rw [ev]
          conv => whnf
          refine ⟨fun _ => ?_, fun c => absurd c (by decide)⟩
          conv => whnf
          refine ⟨fun _ => ?_, fun c => absurd c (by decide)⟩
          conv => whnf
          refine ⟨fun c => absurd rfl c, fun _ => ?_⟩
          conv => whnf
          refine ⟨fun _ => ?_, fun c => absurd (by decide) c⟩
          conv => whnf
          simp only [u2]
          have t1p := ms_p (x := nI (sk (tk f0 217 m) m p) + 1) t1 (nI_1 _)
          refine smf_number (by omega) hm hq1 t1p hc (by decide) (fun v2 e2 h2 f2 t2 => ?_) (fun r2 h2 f2 t2 => ?_)
          · have q2 := (nm_o (q := 0) (by decide) (by decide) hq1 h2).2
            have y2 := q2.2
            conv => whnf
            refine ⟨fun c => absurd c (i32_nlt.mpr (Int32.le_trans (by decide) y2.1)), fun _ => ?_⟩
            conv => whnf
            refine smf_takes (by omega) hm q2.1 t2 (by decide) (fun e3 h3 f3 t3 => ?_) (fun r3 h3 f3 t3 => ?_)
            · have q3 := (sg_o (q := 0) q2.1 h3).2
              conv => whnf
              (refine ⟨fun c => ?_, fun c => ?_⟩ <;> first | ((have c9 : (1 : Int32) = 0 := by with_reducible exact c); exact absurd c9 (by decide)) | exact absurd (rfl : (0 : Int32) = 0) (by with_reducible exact c) | exact absurd True.intro (by with_reducible exact c) | exact False.elim (by with_reducible exact c) | (conv => whnf))
              refine smf_number (by omega) hm q3 t3 hc (by decide) (fun v4 e4 h4 f4 t4 => ?_) (fun r4 h4 f4 t4 => ?_)
              · have q4 := (nm_o (q := 0) (by decide) (by decide) q3 h4).2
                have y4 := q4.2
                conv => whnf
                refine ⟨fun c => absurd c (i32_nlt.mpr (Int32.le_trans (by decide) y4.1)), fun _ => ?_⟩
                conv => whnf
                refine smf_takes (by omega) hm q4.1 t4 (by decide) (fun e5 h5 f5 t5 => ?_) (fun r5 h5 f5 t5 => ?_)
                · have q5 := (sg_o (q := 0) q4.1 h5).2
                  conv => whnf
                  (refine ⟨fun c => ?_, fun c => ?_⟩ <;> first | ((have c9 : (1 : Int32) = 0 := by with_reducible exact c); exact absurd c9 (by decide)) | exact absurd (rfl : (0 : Int32) = 0) (by with_reducible exact c) | exact absurd True.intro (by with_reducible exact c) | exact False.elim (by with_reducible exact c) | (conv => whnf))
                  refine smf_number (by omega) hm q5 t5 hc (Int32.lt_of_lt_of_le (by decide) y4.1) (fun v6 e6 h6 f6 t6 => ?_) (fun r6 h6 f6 t6 => ?_)
                  · have y6p := (nm_o (q := 0) (by decide) (by decide) q5 h6).2
                    have y6 : (1 : Int32) ≤ v6 ∧ v6 ≤ 9 := ⟨Int32.le_trans y4.1 y6p.2.1, y6p.2.2⟩
                    conv => whnf
                    refine ⟨fun _ => ?_, fun c => absurd (Int32.le_trans (by decide) y6.1) c⟩
                    conv => whnf
                    refine ⟨by unfold vp_in; decide, ?_⟩
                    conv => whnf
                    refine ⟨by unfold vp_in; decide, ?_⟩
                    conv => whnf
                    refine ⟨by unfold vp_in; decide, ?_⟩
                    conv => whnf
                    exact ⟨Or.inr rfl, HO 2 _ _ _ _ (by simp only [clS, h1, h2, h3, h4, h5, h6]) _ (ms_u (j := 2) t6)⟩
                  · conv => whnf
                    refine ⟨fun c => absurd c (by decide), fun _ => ?_⟩
                    conv => whnf
                    exact ⟨Or.inl rfl, HE _ (by simp only [clS, h1, h2, h3, h4, h5, h6]) _ t6⟩
                · conv => whnf
                  (refine ⟨fun c => ?_, fun c => ?_⟩ <;> first | ((have c9 : (1 : Int32) = 0 := by with_reducible exact c); exact absurd c9 (by decide)) | exact absurd (rfl : (0 : Int32) = 0) (by with_reducible exact c) | exact absurd True.intro (by with_reducible exact c) | exact False.elim (by with_reducible exact c) | (conv => whnf))
                  exact ⟨Or.inl rfl, HE _ (by simp only [clS, h1, h2, h3, h4, h5]) _ t5⟩
              · conv => whnf
                refine ⟨fun _ => ?_, fun c => absurd (by decide) c⟩
                conv => whnf
                exact ⟨Or.inl rfl, HE _ (by simp only [clS, h1, h2, h3, h4]) _ t4⟩
            · conv => whnf
              (refine ⟨fun c => ?_, fun c => ?_⟩ <;> first | ((have c9 : (1 : Int32) = 0 := by with_reducible exact c); exact absurd c9 (by decide)) | exact absurd (rfl : (0 : Int32) = 0) (by with_reducible exact c) | exact absurd True.intro (by with_reducible exact c) | exact False.elim (by with_reducible exact c) | (conv => whnf))
              exact ⟨Or.inl rfl, HE _ (by simp only [clS, h1, h2, h3]) _ t3⟩
          · conv => whnf
            refine ⟨fun _ => ?_, fun c => absurd (by decide) c⟩
            conv => whnf
            exact ⟨Or.inl rfl, HE _ (by simp only [clS, h1, h2]) _ t2⟩
        · have k2 := hk
          clear hk
          by_cases hk : (tk f0 217 m) (sk (tk f0 217 m) m p) = 114
          · have ev : nx (tk f0 217 m) m (sk (tk f0 217 m) m p) = 114 := (if_pos hl).trans hk
            have hL : m_let ((tk f0 217 m) (sk (tk f0 217 m) m p)) = 3 := by rw [hk]; rfl
            have h1 : kdS (tk f0 217 m) m p = .ok (3, sk (tk f0 217 m) m p + 1) := by
              unfold kdS
              rw [hL]
              exact if_pos ⟨hl, by decide⟩
            have hq1 : sk (tk f0 217 m) m p + 1 ≤ m := hl
            rw [ev]
            conv => whnf
            refine ⟨fun _ => ?_, fun c => absurd c (by decide)⟩
            conv => whnf
            refine ⟨fun _ => ?_, fun c => absurd c (by decide)⟩
            conv => whnf
            refine ⟨fun _ => ?_, fun c => absurd c (by decide)⟩
            conv => whnf
            refine ⟨fun c => absurd rfl c, fun _ => ?_⟩
            conv => whnf
            refine ⟨fun _ => ?_, fun c => absurd (by decide) c⟩
            conv => whnf
            simp only [u2]
            have t1p := ms_p (x := nI (sk (tk f0 217 m) m p) + 1) t1 (nI_1 _)
            refine smf_number (by omega) hm hq1 t1p hc (by decide) (fun v2 e2 h2 f2 t2 => ?_) (fun r2 h2 f2 t2 => ?_)
            · have q2 := (nm_o (q := 0) (by decide) (by decide) hq1 h2).2
              have y2 := q2.2
              conv => whnf
              refine ⟨fun c => absurd c (i32_nlt.mpr (Int32.le_trans (by decide) y2.1)), fun _ => ?_⟩
              conv => whnf
              refine smf_takes (by omega) hm q2.1 t2 (by decide) (fun e3 h3 f3 t3 => ?_) (fun r3 h3 f3 t3 => ?_)
              · have q3 := (sg_o (q := 0) q2.1 h3).2
                conv => whnf
                (refine ⟨fun c => ?_, fun c => ?_⟩ <;> first | ((have c9 : (1 : Int32) = 0 := by with_reducible exact c); exact absurd c9 (by decide)) | exact absurd (rfl : (0 : Int32) = 0) (by with_reducible exact c) | exact absurd True.intro (by with_reducible exact c) | exact False.elim (by with_reducible exact c) | (conv => whnf))
                refine smf_number (by omega) hm q3 t3 hc (by decide) (fun v4 e4 h4 f4 t4 => ?_) (fun r4 h4 f4 t4 => ?_)
                · have q4 := (nm_o (q := 0) (by decide) (by decide) q3 h4).2
                  have y4 := q4.2
                  conv => whnf
                  refine ⟨fun c => absurd c (i32_nlt.mpr (Int32.le_trans (by decide) y4.1)), fun _ => ?_⟩
                  conv => whnf
                  refine smf_takes (by omega) hm q4.1 t4 (by decide) (fun e5 h5 f5 t5 => ?_) (fun r5 h5 f5 t5 => ?_)
                  · have q5 := (sg_o (q := 0) q4.1 h5).2
                    conv => whnf
                    (refine ⟨fun c => ?_, fun c => ?_⟩ <;> first | ((have c9 : (1 : Int32) = 0 := by with_reducible exact c); exact absurd c9 (by decide)) | exact absurd (rfl : (0 : Int32) = 0) (by with_reducible exact c) | exact absurd True.intro (by with_reducible exact c) | exact False.elim (by with_reducible exact c) | (conv => whnf))
                    refine smf_number (by omega) hm q5 t5 hc (Int32.lt_of_lt_of_le (by decide) y4.1) (fun v6 e6 h6 f6 t6 => ?_) (fun r6 h6 f6 t6 => ?_)
                    · have y6p := (nm_o (q := 0) (by decide) (by decide) q5 h6).2
                      have y6 : (1 : Int32) ≤ v6 ∧ v6 ≤ 9 := ⟨Int32.le_trans y4.1 y6p.2.1, y6p.2.2⟩
                      conv => whnf
                      refine ⟨fun _ => ?_, fun c => absurd (Int32.le_trans (by decide) y6.1) c⟩
                      conv => whnf
                      refine ⟨by unfold vp_in; decide, ?_⟩
                      conv => whnf
                      refine ⟨by unfold vp_in; decide, ?_⟩
                      conv => whnf
                      refine ⟨by unfold vp_in; decide, ?_⟩
                      conv => whnf
                      exact ⟨Or.inr rfl, HO 3 _ _ _ _ (by simp only [clS, h1, h2, h3, h4, h5, h6]) _ (ms_u (j := 3) t6)⟩
                    · conv => whnf
                      refine ⟨fun c => absurd c (by decide), fun _ => ?_⟩
                      conv => whnf
                      exact ⟨Or.inl rfl, HE _ (by simp only [clS, h1, h2, h3, h4, h5, h6]) _ t6⟩
                  · conv => whnf
                    (refine ⟨fun c => ?_, fun c => ?_⟩ <;> first | ((have c9 : (1 : Int32) = 0 := by with_reducible exact c); exact absurd c9 (by decide)) | exact absurd (rfl : (0 : Int32) = 0) (by with_reducible exact c) | exact absurd True.intro (by with_reducible exact c) | exact False.elim (by with_reducible exact c) | (conv => whnf))
                    exact ⟨Or.inl rfl, HE _ (by simp only [clS, h1, h2, h3, h4, h5]) _ t5⟩
                · conv => whnf
                  refine ⟨fun _ => ?_, fun c => absurd (by decide) c⟩
                  conv => whnf
                  exact ⟨Or.inl rfl, HE _ (by simp only [clS, h1, h2, h3, h4]) _ t4⟩
              · conv => whnf
                (refine ⟨fun c => ?_, fun c => ?_⟩ <;> first | ((have c9 : (1 : Int32) = 0 := by with_reducible exact c); exact absurd c9 (by decide)) | exact absurd (rfl : (0 : Int32) = 0) (by with_reducible exact c) | exact absurd True.intro (by with_reducible exact c) | exact False.elim (by with_reducible exact c) | (conv => whnf))
                exact ⟨Or.inl rfl, HE _ (by simp only [clS, h1, h2, h3]) _ t3⟩
            · conv => whnf
              refine ⟨fun _ => ?_, fun c => absurd (by decide) c⟩
              conv => whnf
              exact ⟨Or.inl rfl, HE _ (by simp only [clS, h1, h2]) _ t2⟩
          · have k3 := hk
            clear hk
            have hL : m_let ((tk f0 217 m) (sk (tk f0 217 m) m p)) = -1 := by
              unfold m_let
              rw [if_neg k0, if_neg k1, if_neg k2, if_neg k3]
            have h1 : kdS (tk f0 217 m) m p = .error (sk (tk f0 217 m) m p) := if_neg (fun z => z.2 hL)
            have ev : nx (tk f0 217 m) m (sk (tk f0 217 m) m p) = (tk f0 217 m) (sk (tk f0 217 m) m p) := if_pos hl
            rw [ev]
            conv => whnf
            refine ⟨fun _ => ?_, fun c => absurd c (k0)⟩
            conv => whnf
            refine ⟨fun _ => ?_, fun c => absurd c (k1)⟩
            conv => whnf
            refine ⟨fun _ => ?_, fun c => absurd c (k2)⟩
            conv => whnf
            refine ⟨fun _ => ?_, fun c => absurd c (k3)⟩
            conv => whnf
            refine ⟨fun c => absurd c (by decide), fun _ => ?_⟩
            conv => whnf
            exact ⟨Or.inl rfl, HE _ (by simp only [clS, h1]) _ t1⟩
  · have h1 : kdS (tk f0 217 m) m p = .error (sk (tk f0 217 m) m p) := if_neg (fun z => hl z.1)
    have ev : nx (tk f0 217 m) m (sk (tk f0 217 m) m p) = -1 := if_neg hl
    rw [ev]
    conv => whnf
    refine ⟨fun _ => ?_, fun c => absurd c (by decide)⟩
    conv => whnf
    refine ⟨fun _ => ?_, fun c => absurd c (by decide)⟩
    conv => whnf
    refine ⟨fun _ => ?_, fun c => absurd c (by decide)⟩
    conv => whnf
    refine ⟨fun _ => ?_, fun c => absurd c (by decide)⟩
    conv => whnf
    refine ⟨fun c => absurd c (by decide), fun _ => ?_⟩
    conv => whnf
    exact ⟨Or.inl rfl, HE _ (by simp only [clS, h1]) _ t1⟩
set_option maxRecDepth 100000 in
theorem ra_e {d L m : Nat} {f0 f : Nat → Nat → Int32} {g : Nat → Nat → Int64} {a : Int32} {s3 : Option Value} {R : Option Value → mH → Prop} (H : R (some (.int a)) (shF L, f, g)) : WPe pg_X11_readAll none (Run mtab d) R (m_drop pg_X11_readAll 19) [some (.ref 181), some (.int a), some (.int 0), s3] [] (shF L, f, g) := by
  refine at_X11_readAll ?_
  conv => whnf
  refine ⟨fun _ => ?_, fun c => absurd rfl c⟩
  conv => whnf
  exact H
set_option maxRecDepth 100000 in
set_option maxHeartbeats 4000000 in
theorem rf_lp {d L m : Nat} {f0 : Nat → Nat → Int32} {g : Nat → Nat → Int64} {R : Option Value → mH → Prop} (hd : 4 ≤ d) (hm : m ≤ 50) (hc : ∀ j, j < m → ¬ (tk f0 217 m) j < 0) :
    ∀ (k n p : Nat) (a : Int32) (s3 : Option Value) (S : Nat → Nat → Int32) (f : Nat → Nat → Int32), k + 1 + n = 4 → a = nI n → p ≤ m → ms f0 m p S f → (∀ n' S', alS (tk f0 217 m) m (k + 1) n p S = .ok (n', S') → ∀ f' p', p' ≤ m → ms f0 m p' S' f' → R (some (.int (nI n'))) (shF L, f', g)) → (∀ r, alS (tk f0 217 m) m (k + 1) n p S = .error r → ∀ f' S', ms f0 m r S' f' → R (some (.int (-1))) (shF L, f', g)) → WPe pg_X11_readAll none (Run mtab d) R (m_drop pg_X11_readAll 19) [some (.ref 181), some (.int a), some (.int 1), s3] [] (shF L, f, g) := by
  intro k
  induction k with
  | zero =>
    intro n p a s3 S f hn ha hp t HO HE
    have e3 : n = 3 := by omega
    subst e3
    subst ha
    refine at_X11_readAll ?_
    conv => whnf
    refine ⟨fun c => absurd c (by decide), fun _ => ?_⟩
    conv => whnf
    refine smf_readClause (by omega) hm hp t hc (fun k a b e p1 h1 f1 t1 => ?_) (fun r h1 f1 t1 => ?_)
    · have hp1 := ((cl_both (S := S) hm hp).2 k a b e p1 h1).1
      conv => whnf
      (refine ⟨fun c => ?_, fun c => ?_⟩ <;> first | ((have c9 : (1 : Int32) = 0 := by with_reducible exact c); exact absurd c9 (by decide)) | exact absurd (rfl : (0 : Int32) = 0) (by with_reducible exact c) | exact absurd True.intro (by with_reducible exact c) | exact False.elim (by with_reducible exact c) | (conv => whnf))
      refine smf_next (by omega) hm hp1 t1 (fun f2 t2 => ?_)
      have hr := sk_le (T := (tk f0 217 m)) hp1
      have u2 := t2.2.1
      by_cases hl : sk (tk f0 217 m) m p1 < m
      · have ev : nx (tk f0 217 m) m (sk (tk f0 217 m) m p1) = (tk f0 217 m) (sk (tk f0 217 m) m p1) := if_pos hl
        have eE : alS (tk f0 217 m) m (0 + 1) 3 p S = .error (sk (tk f0 217 m) m p1) := by
          simp only [alS, h1]
          rw [if_pos hl, if_neg (fun z => z.2 (by trivial))]
        rw [ev]
        conv => whnf
        refine ⟨fun c2 => absurd c2 (hc _ hl), fun c2 => ?_⟩
        conv => whnf
        refine ⟨fun c3 => ?_, fun c3 => ?_⟩
        · conv => whnf
          exact HE _ eE _ _ t2
        · conv => whnf
          refine ⟨fun c4 => absurd (by decide) c4, fun c4 => ?_⟩
          conv => whnf
          exact HE _ eE _ _ t2
      · have ev : nx (tk f0 217 m) m (sk (tk f0 217 m) m p1) = -1 := if_neg hl
        have eO : alS (tk f0 217 m) m (0 + 1) 3 p S = .ok (3 + 1, updS S k.toNatClampNeg a b e) := by
          simp only [alS, h1]
          rw [if_neg hl]
        rw [ev]
        conv => whnf
        refine ⟨fun _ => ?_, fun c => absurd (by decide) c⟩
        conv => whnf
        refine ⟨fun _ => ?_, fun c => absurd (by decide) c⟩
        conv => whnf
        (refine ⟨fun c => ?_, fun c => ?_⟩ <;> first | ((have c9 : (1 : Int32) = 0 := by with_reducible exact c); exact absurd c9 (by decide)) | exact absurd (rfl : (0 : Int32) = 0) (by with_reducible exact c) | exact absurd True.intro (by with_reducible exact c) | exact False.elim (by with_reducible exact c) | (conv => whnf))
        simp only [u2]
        exact ra_e (f0 := f0) (m := m) (HO _ _ eO _ _ hr.2 (ms_p t2 (Int32.add_zero _)))
    · have eE : alS (tk f0 217 m) m (0 + 1) 3 p S = .error r := by simp only [alS, h1]
      conv => whnf
      (refine ⟨fun c => ?_, fun c => ?_⟩ <;> first | ((have c9 : (1 : Int32) = 0 := by with_reducible exact c); exact absurd c9 (by decide)) | exact absurd (rfl : (0 : Int32) = 0) (by with_reducible exact c) | exact absurd True.intro (by with_reducible exact c) | exact False.elim (by with_reducible exact c) | (conv => whnf))
      exact HE _ eE _ _ t1
  | succ k ih =>
    intro n p a s3 S f hn ha hp t HO HE
    subst ha
    refine at_X11_readAll ?_
    conv => whnf
    refine ⟨fun c => absurd c (by decide), fun _ => ?_⟩
    conv => whnf
    refine smf_readClause (by omega) hm hp t hc (fun kk a b e p1 h1 f1 t1 => ?_) (fun r h1 f1 t1 => ?_)
    · have hp1 := ((cl_both (S := S) hm hp).2 kk a b e p1 h1).1
      conv => whnf
      (refine ⟨fun c => ?_, fun c => ?_⟩ <;> first | ((have c9 : (1 : Int32) = 0 := by with_reducible exact c); exact absurd c9 (by decide)) | exact absurd (rfl : (0 : Int32) = 0) (by with_reducible exact c) | exact absurd True.intro (by with_reducible exact c) | exact False.elim (by with_reducible exact c) | (conv => whnf))
      refine smf_next (by omega) hm hp1 t1 (fun f2 t2 => ?_)
      have hr := sk_le (T := (tk f0 217 m)) hp1
      have u2 := t2.2.1
      by_cases hl : sk (tk f0 217 m) m p1 < m
      · have ev : nx (tk f0 217 m) m (sk (tk f0 217 m) m p1) = (tk f0 217 m) (sk (tk f0 217 m) m p1) := if_pos hl
        rw [ev]
        conv => whnf
        refine ⟨fun c2 => absurd c2 (hc _ hl), fun c2 => ?_⟩
        conv => whnf
        refine ⟨fun c3 => ?_, fun c3 => ?_⟩
        · have eE : alS (tk f0 217 m) m (k + 1 + 1) n p S = .error (sk (tk f0 217 m) m p1) := by
            simp only [alS, h1]
            rw [if_pos hl, if_neg (fun z => c3 z.1)]
          conv => whnf
          exact HE _ eE _ _ t2
        · have eN : alS (tk f0 217 m) m (k + 1 + 1) n p S = alS (tk f0 217 m) m (k + 1) (n + 1) (sk (tk f0 217 m) m p1 + 1) (updS S kk.toNatClampNeg a b e) := by
            show (match clS (tk f0 217 m) m p with
              | .error r => .error r
              | .ok (kd, a, b, c, p') => if sk (tk f0 217 m) m p' < m then (if (tk f0 217 m) (sk (tk f0 217 m) m p') = 59 ∧ ¬ k + 1 = 0 then alS (tk f0 217 m) m (k + 1) (n + 1) (sk (tk f0 217 m) m p' + 1) (updS S kd.toNatClampNeg a b c) else .error (sk (tk f0 217 m) m p')) else .ok (n + 1, updS S kd.toNatClampNeg a b c) : Except Nat (Nat × (Nat → Nat → Int32))) = _
            rw [h1]
            dsimp only
            rw [if_pos hl, if_pos ⟨c3, by omega⟩]
          rw [eN] at HO HE
          conv => whnf
          refine ⟨fun c4 => ?_, fun c4 => absurd c4 (fin_c (by omega))⟩
          conv => whnf
          refine ⟨fun c => absurd c c2, fun _ => ?_⟩
          conv => whnf
          (refine ⟨fun c => ?_, fun c => ?_⟩ <;> first | ((have c9 : (1 : Int32) = 0 := by with_reducible exact c); exact absurd c9 (by decide)) | exact absurd (rfl : (0 : Int32) = 0) (by with_reducible exact c) | exact absurd True.intro (by with_reducible exact c) | exact False.elim (by with_reducible exact c) | (conv => whnf))
          simp only [u2]
          exact ih (n + 1) (sk (tk f0 217 m) m p1 + 1) _ _ _ _ (by omega) (nI_1 n) (by omega) (ms_p t2 (nI_1 _)) HO HE
      · have ev : nx (tk f0 217 m) m (sk (tk f0 217 m) m p1) = -1 := if_neg hl
        have eO : alS (tk f0 217 m) m (k + 1 + 1) n p S = .ok (n + 1, updS S kk.toNatClampNeg a b e) := by
          simp only [alS, h1]
          rw [if_neg hl]
        rw [ev]
        conv => whnf
        refine ⟨fun _ => ?_, fun c => absurd (by decide) c⟩
        conv => whnf
        refine ⟨fun _ => ?_, fun c => absurd (by decide) c⟩
        conv => whnf
        (refine ⟨fun c => ?_, fun c => ?_⟩ <;> first | ((have c9 : (1 : Int32) = 0 := by with_reducible exact c); exact absurd c9 (by decide)) | exact absurd (rfl : (0 : Int32) = 0) (by with_reducible exact c) | exact absurd True.intro (by with_reducible exact c) | exact False.elim (by with_reducible exact c) | (conv => whnf))
        simp only [u2, nI_1]
        exact ra_e (f0 := f0) (m := m) (HO _ _ eO _ _ hr.2 (ms_p t2 (Int32.add_zero _)))
    · have eE : alS (tk f0 217 m) m (k + 1 + 1) n p S = .error r := by simp only [alS, h1]
      conv => whnf
      (refine ⟨fun c => ?_, fun c => ?_⟩ <;> first | ((have c9 : (1 : Int32) = 0 := by with_reducible exact c); exact absurd c9 (by decide)) | exact absurd (rfl : (0 : Int32) = 0) (by with_reducible exact c) | exact absurd True.intro (by with_reducible exact c) | exact False.elim (by with_reducible exact c) | (conv => whnf))
      exact HE _ eE _ _ t1
set_option maxRecDepth 100000 in
theorem rz_lp {d L m : Nat} {f0 : Nat → Nat → Int32} {g : Nat → Nat → Int64} {R : Option Value → mH → Prop} (H : ∀ f', ms f0 m 0 (fun _ _ => 0) f' → WPe pg_X11_readAll none (Run mtab d) R (m_drop pg_X11_readAll 19) [some (.ref 181), some (.int 0), some (.int 1), none] [] (shF L, f', g)) :
    ∀ (k i : Nat) (x : Int32) (f : Nat → Nat → Int32), i + k = 12 → x = nI i → f 181 46 = nI m → f 181 47 = 0 → (∀ j, j < i → f 216 j = 0) → (∀ a i, ¬ (a = 181 ∧ i = 47) → ¬ a = 216 → f a i = f0 a i) → WPe pg_X11_readAll none (Run mtab d) R (m_drop pg_X11_readAll 5) [some (.ref 181), some (.int x), none, none] [] (shF L, f, g)
  | 0, i, x, f, hk, hx, h1, h2, h3, h4 => by
    have e : i = 12 := by omega
    subst hx
    subst e
    refine at_X11_readAll ?_
    conv => whnf
    refine ⟨fun c => ?_, fun c => absurd (by decide) c⟩
    conv => whnf
    exact H f ⟨h1, h2, fun k t hk ht => h3 _ (by omega), h4⟩
  | k + 1, i, x, f, hk, hx, h1, h2, h3, h4 => by
    subst hx
    have hcl : (nI i).toNatClampNeg = i := nI_clamp (by omega)
    refine at_X11_readAll ?_
    conv => whnf
    refine ⟨fun c => absurd c (nI_ge (b := 12) (by omega) (by omega)), fun c => ?_⟩
    conv => whnf
    refine ⟨vp_in_nI (by omega) (by decide), ?_⟩
    conv => whnf
    simp only [hcl]
    refine rz_lp H k (i + 1) _ _ (by omega) (nI_1 i) ?_ ?_ (fun j hj => ?_) (fun a i h5 h6 => ?_)
    · rw [m_ui_o (by omega)]; exact h1
    · rw [m_ui_o (by omega)]; exact h2
    · by_cases e : j = i
      · subst e
        rw [m_ui_s]
      · rw [m_ui_o (by omega)]
        exact h3 j (by omega)
    · rw [m_ui_o (by omega)]
      exact h4 a i h5 h6
set_option maxRecDepth 100000 in
set_option maxHeartbeats 4000000 in
theorem smf_readAll {d L : Nat} {f : Nat → Nat → Int32} {g : Nat → Nat → Int64} {m : Nat} {R : Option Value → mH → Prop} (hd : 5 ≤ d) (hm : m ≤ 50) (hb : f 181 46 = nI m) (hc : ∀ j, j < m → ¬ tk f 217 m j < 0) (HO : ∀ n' S', alS (tk f 217 m) m 4 0 0 (fun _ _ => 0) = .ok (n', S') → ∀ f' p', p' ≤ m → ms f m p' S' f' → R (some (.int (nI n'))) (shF L, f', g)) (HE : ∀ r, alS (tk f 217 m) m 4 0 0 (fun _ _ => 0) = .error r → ∀ f' S', ms f m r S' f' → R (some (.int (-1))) (shF L, f', g)) : Run mtab d 220 [.ref 181] (shF L, f, g) R := by
  obtain ⟨d, rfl⟩ : ∃ e, d = e + 1 := ⟨d - 1, by omega⟩
  refine go_X11_readAll rfl ?_
  conv => whnf
  refine rz_lp (m := m) (f0 := f) (fun f' t => rf_lp (by omega) hm hc 3 0 0 _ _ _ _ (by omega) rfl (by omega) t HO HE) 12 0 _ _ (by omega) rfl ?_ ?_ (fun j hj => absurd hj (by omega)) (fun a i h1 h2 => ?_)
  · rw [m_ui_o (by omega)]; exact hb
  · rw [m_ui_s]
  · rw [m_ui_o (by omega)]
/-- what the model's rules leave -/
def rtM (f : Nat → Nat → Int32) (m : Nat) (f' : Nat → Nat → Int32) (v : Int32) : Prop := f' 181 46 = 0 ∧ (∃ p : Nat, p ≤ 50 ∧ f' 181 47 = nI p) ∧ (∀ a i, ¬ (a = 181 ∧ i = 46) → ¬ (a = 181 ∧ i = 47) → ¬ (213 ≤ a ∧ a ≤ 216) → f' a i = f a i) ∧ ((∃ r, alS (tk f 217 m) m 4 0 0 (fun _ _ => 0) = .error r ∧ v = -20 - nI r ∧ (∀ j t, j < 4 → t < 3 → f' (213 + t) j = f (213 + t) j)) ∨ (∃ n' S', alS (tk f 217 m) m 4 0 0 (fun _ _ => 0) = .ok (n', S') ∧ v = nI n' ∧ (∀ j t, j < 4 → t < 3 → f' (213 + t) j = S' j t)))
set_option maxRecDepth 100000 in
set_option maxHeartbeats 4000000 in
theorem rc_lp {d L : Nat} {f0 : Nat → Nat → Int32} {g : Nat → Nat → Int64} {w : Int32} {S : Nat → Nat → Int32} {R : Option Value → mH → Prop} (H : ∀ f', (∀ j t, j < 4 → t < 3 → f' (213 + t) j = S j t) → (∀ a i, ¬ (213 ≤ a ∧ a ≤ 215) → f' a i = f0 a i) → R (some (.int w)) (shF L, f', g)) (h0 : ∀ j t, j < 4 → t < 3 → f0 216 (3 * j + t) = S j t) :
    ∀ (k i : Nat) (x : Int32) (f : Nat → Nat → Int32), i + k = 4 → x = nI i → (∀ j t, j < i → t < 3 → f (213 + t) j = S j t) → (∀ a i, ¬ (213 ≤ a ∧ a ≤ 215) → f a i = f0 a i) → WPe pg_X11_rules none (Run mtab d) R (m_drop pg_X11_rules 15) [some (.ref 181), some (.int w), some (.int x)] [] (shF L, f, g)
  | 0, i, x, f, hk, hx, h1, h2 => by
    have e : i = 4 := by omega
    subst hx
    subst e
    refine at_X11_rules ?_
    conv => whnf
    refine ⟨fun c => ?_, fun c => absurd (by decide) c⟩
    conv => whnf
    exact H f h1 h2
  | k + 1, i, x, f, hk, hx, h1, h2 => by
    subst hx
    have hcl : (nI i).toNatClampNeg = i := nI_clamp (by omega)
    have hc0 : (nI (3 * i)).toNatClampNeg = 3 * i := nI_clamp (by omega)
    have hc1 : (nI (3 * i + 1)).toNatClampNeg = 3 * i + 1 := nI_clamp (by omega)
    have hc2 : (nI (3 * i + 2)).toNatClampNeg = 3 * i + 2 := nI_clamp (by omega)
    have v0 : f 216 (3 * i) = S i 0 := (h2 216 _ (by omega)).trans (h0 i 0 (by omega) (by omega))
    have v1 : f 216 (3 * i + 1) = S i 1 := (h2 216 _ (by omega)).trans (h0 i 1 (by omega) (by omega))
    have v2 : f 216 (3 * i + 2) = S i 2 := (h2 216 _ (by omega)).trans (h0 i 2 (by omega) (by omega))
    refine at_X11_rules ?_
    conv => whnf
    refine ⟨fun c => absurd c (nI_ge (b := 4) (by omega) (by omega)), fun c => ?_⟩
    conv => whnf
    (try simp only [nI_3m, nI_1, nI_k _ 2 2 rfl])
    refine ⟨vp_in_nI (by omega) (by decide), ?_⟩
    conv => whnf
    (try simp only [nI_3m, nI_1, nI_k _ 2 2 rfl])
    refine ⟨vp_in_nI (by omega) (by decide), ?_⟩
    conv => whnf
    (try simp only [nI_3m, nI_1, nI_k _ 2 2 rfl])
    refine ⟨vp_in_nI (by omega) (by decide), ?_⟩
    conv => whnf
    (try simp only [nI_3m, nI_1, nI_k _ 2 2 rfl])
    refine ⟨vp_in_nI (by omega) (by decide), ?_⟩
    conv => whnf
    (try simp only [nI_3m, nI_1, nI_k _ 2 2 rfl])
    refine ⟨vp_in_nI (by omega) (by decide), ?_⟩
    conv => whnf
    (try simp only [nI_3m, nI_1, nI_k _ 2 2 rfl])
    refine ⟨vp_in_nI (by omega) (by decide), ?_⟩
    conv => whnf
    simp only [hcl, hc0, hc1, hc2, m_ui_ap, m_fil_ap, m_cpy_ap, Nat.reduceEqDiff, Nat.reduceLT, Nat.reduceLeDiff, eq_self, ↓reduceIte, false_and, and_false, true_and, and_true, and_self, nI_3m, nI_1, nI_k _ 2 2 rfl, v0, v1, v2]
    refine rc_lp H h0 k (i + 1) _ _ (by omega) (by first | rfl | exact nI_1 i) (fun j t hj ht => ?_) (fun a b h5 => ?_)
    · have ht3 : t = 0 ∨ t = 1 ∨ t = 2 := by omega
      by_cases e : j = i
      · subst e
        rcases ht3 with rfl | rfl | rfl
        · rw [m_ui_o (by omega), m_ui_o (by omega), m_ui_s]
        · rw [m_ui_o (by omega), m_ui_s]
        · rw [m_ui_s]
      · rw [m_ui_o (by omega), m_ui_o (by omega), m_ui_o (by omega)]
        exact h1 j t (by omega) ht
    · rw [m_ui_o (by omega), m_ui_o (by omega), m_ui_o (by omega)]
      exact h2 a b h5
set_option maxRecDepth 100000 in
set_option maxHeartbeats 4000000 in
theorem smf_rules {d L : Nat} {f : Nat → Nat → Int32} {g : Nat → Nat → Int64} {m : Nat} {R : Option Value → mH → Prop} (hd : 8 ≤ d) (hm : m ≤ 50) (hb : f 181 46 = nI m) (hc : ∀ j, j < m → ¬ tk f 217 m j < 0) (H : ∀ v f', rtM f m f' v → R (some (.int v)) (shF L, f', g)) : Run mtab d 221 [.ref 181] (shF L, f, g) R := by
  obtain ⟨d, rfl⟩ : ∃ e, d = e + 1 := ⟨d - 1, by omega⟩
  refine go_X11_rules rfl ?_
  conv => whnf
  refine smf_readAll (by omega) hm hb hc (fun n' S' h1 f1 p1 hp1 t1 => ?_) (fun r h1 f1 S1 t1 => ?_)
  · have hn : n' ≤ 4 := ((al_both (T := tk f 217 m) hm 3 0 0 (fun _ _ => 0) (by omega) (by omega)).2 n' S' h1).1
    conv => whnf
    refine ⟨fun _ => ?_, fun c => absurd (i32_nlt.mp (nI_pos (by omega))) c⟩
    conv => whnf
    refine rc_lp (f0 := m_ui f1 181 46 0) (S := S') (fun f2 a1 a2 => ?_) (fun j t hj ht => ?_) 4 0 _ _ (by omega) rfl (fun j t hj ht => absurd hj (by omega)) (fun a i _ => rfl)
    · refine H _ _ ⟨?_, ⟨p1, by omega, ?_⟩, fun a i h2 h3 h4 => ?_, Or.inr ⟨n', S', h1, rfl, a1⟩⟩
      · rw [a2 181 46 (by omega), m_ui_s]
      · rw [a2 181 47 (by omega), m_ui_o (by omega)]
        exact t1.2.1
      · rw [a2 a i (by omega), m_ui_o (by omega)]
        exact t1.2.2.2 a i h3 (by omega)
    · rw [m_ui_o (by omega)]
      exact t1.2.2.1 j t hj ht
  · have hr : r ≤ m := ((al_both (T := tk f 217 m) hm 3 0 0 (fun _ _ => 0) (by omega) (by omega)).1 r h1).1
    have u2 := t1.2.1
    have u3 : m_ui f1 181 46 0 181 47 = nI r := (m_ui_o (by omega)).trans u2
    conv => whnf
    refine ⟨fun c => absurd c (by decide), fun _ => ?_⟩
    conv => whnf
    simp only [u2, u3]
    refine H _ _ ⟨m_ui_s, ⟨r, by omega, u3⟩, fun a i h2 h3 h4 => ?_, Or.inl ⟨r, h1, rfl, fun j t hj ht => ?_⟩⟩
    · rw [m_ui_o (by omega)]
      exact t1.2.2.2 a i h3 (by omega)
    · rw [m_ui_o (by omega)]
      exact t1.2.2.2 _ _ (by omega) (by omega)
theorem ro_m {d L : Nat} {f : Nat → Nat → Int32} {g : Nat → Nat → Int64} {w : Int32} {R : Option Value → mH → Prop} (H : R (some (.int (-1))) (shF L, f, g)) : WPe pg_X11_ruleOf none (Run mtab d) R (m_drop pg_X11_ruleOf 2) [some (.ref 181), some (.int w), some (.int (-1))] [] (shF L, f, g) := by
  refine at_X11_ruleOf ?_
  conv => whnf
  refine ⟨fun _ => ?_, fun c => absurd (by decide) c⟩
  conv => whnf
  exact H
def rov : Nat → (Nat → Nat → Int32) → Int32
  | 0, f => if f 213 0 = 0 then -1 else 0
  | 1, f => if f 213 1 = 0 then (if f 213 0 = 0 then -1 else 0) else 1
  | 2, f => if f 213 2 = 0 then (if f 213 0 = 0 then -1 else 0) else 2
  | _, f => if f 213 3 = 0 then (if f 213 2 = 0 then (if f 213 0 = 0 then -1 else 0) else 2) else 3
set_option maxRecDepth 100000 in
theorem ro_0 {d L : Nat} {f : Nat → Nat → Int32} {g : Nat → Nat → Int64} {w : Int32} {R : Option Value → mH → Prop} (H : R (some (.int (rov 0 f))) (shF L, f, g)) : WPe pg_X11_ruleOf none (Run mtab d) R (m_drop pg_X11_ruleOf 2) [some (.ref 181), some (.int w), some (.int 0)] [] (shF L, f, g) := by
  refine at_X11_ruleOf ?_
  conv => whnf
  refine ⟨fun c => absurd c (by decide), fun _ => ?_⟩
  conv => whnf
  refine ⟨by unfold vp_in; decide, ?_⟩
  conv => whnf
  refine ⟨fun c => ?_, fun c => ?_⟩
  · conv => whnf
    have e : rov 0 f = 0 := if_neg c
    rw [e] at H
    exact H
  · have c1 : f 213 0 = 0 := c
    have e : rov 0 f = -1 := if_pos c1
    rw [e] at H
    conv => whnf
    refine ⟨fun c => absurd rfl c, fun _ => ?_⟩
    conv => whnf
    exact ro_m H
set_option maxRecDepth 100000 in
theorem ro_2 {d L : Nat} {f : Nat → Nat → Int32} {g : Nat → Nat → Int64} {w : Int32} {R : Option Value → mH → Prop} (H : R (some (.int (rov 2 f))) (shF L, f, g)) : WPe pg_X11_ruleOf none (Run mtab d) R (m_drop pg_X11_ruleOf 2) [some (.ref 181), some (.int w), some (.int 2)] [] (shF L, f, g) := by
  refine at_X11_ruleOf ?_
  conv => whnf
  refine ⟨fun c => absurd c (by decide), fun _ => ?_⟩
  conv => whnf
  refine ⟨by unfold vp_in; decide, ?_⟩
  conv => whnf
  refine ⟨fun c => ?_, fun c => ?_⟩
  · conv => whnf
    have e : rov 2 f = 2 := if_neg c
    rw [e] at H
    exact H
  · have c1 : f 213 2 = 0 := c
    have e : rov 2 f = rov 0 f := if_pos c1
    rw [e] at H
    conv => whnf
    refine ⟨fun _ => ?_, fun c => absurd c (by decide)⟩
    conv => whnf
    refine ⟨fun _ => ?_, fun c => absurd c (by decide)⟩
    conv => whnf
    exact ro_0 H
set_option maxRecDepth 100000 in
theorem ro_1 {d L : Nat} {f : Nat → Nat → Int32} {g : Nat → Nat → Int64} {w : Int32} {R : Option Value → mH → Prop} (H : R (some (.int (rov 1 f))) (shF L, f, g)) : WPe pg_X11_ruleOf none (Run mtab d) R (m_drop pg_X11_ruleOf 2) [some (.ref 181), some (.int w), some (.int 1)] [] (shF L, f, g) := by
  refine at_X11_ruleOf ?_
  conv => whnf
  refine ⟨fun c => absurd c (by decide), fun _ => ?_⟩
  conv => whnf
  refine ⟨by unfold vp_in; decide, ?_⟩
  conv => whnf
  refine ⟨fun c => ?_, fun c => ?_⟩
  · conv => whnf
    have e : rov 1 f = 1 := if_neg c
    rw [e] at H
    exact H
  · have c1 : f 213 1 = 0 := c
    have e : rov 1 f = rov 0 f := if_pos c1
    rw [e] at H
    conv => whnf
    refine ⟨fun _ => ?_, fun c => absurd c (by decide)⟩
    conv => whnf
    refine ⟨fun _ => ?_, fun c => absurd c (by decide)⟩
    conv => whnf
    exact ro_0 H
set_option maxRecDepth 100000 in
theorem ro_3 {d L : Nat} {f : Nat → Nat → Int32} {g : Nat → Nat → Int64} {w : Int32} {R : Option Value → mH → Prop} (H : R (some (.int (rov 3 f))) (shF L, f, g)) : WPe pg_X11_ruleOf none (Run mtab d) R (m_drop pg_X11_ruleOf 2) [some (.ref 181), some (.int w), some (.int 3)] [] (shF L, f, g) := by
  refine at_X11_ruleOf ?_
  conv => whnf
  refine ⟨fun c => absurd c (by decide), fun _ => ?_⟩
  conv => whnf
  refine ⟨by unfold vp_in; decide, ?_⟩
  conv => whnf
  refine ⟨fun c => ?_, fun c => ?_⟩
  · conv => whnf
    have e : rov 3 f = 3 := if_neg c
    rw [e] at H
    exact H
  · have c1 : f 213 3 = 0 := c
    have e : rov 3 f = rov 2 f := if_pos c1
    rw [e] at H
    conv => whnf
    refine ⟨fun _ => ?_, fun c => absurd c (by decide)⟩
    conv => whnf
    refine ⟨fun c => absurd rfl c, fun _ => ?_⟩
    conv => whnf
    exact ro_2 H
theorem c4_c {k : Nat} (hk : k < 4) : k = 0 ∨ k = 1 ∨ k = 2 ∨ k = 3 := by omega
set_option maxRecDepth 100000 in
set_option maxHeartbeats 4000000 in
theorem smf_ruleOf {d L : Nat} {f : Nat → Nat → Int32} {g : Nat → Nat → Int64} {k : Nat} {R : Option Value → mH → Prop} (hd : 1 ≤ d) (hk : k < 4) (H : R (some (.int (rov k f))) (shF L, f, g)) : Run mtab d 222 [.ref 181, .int (nI k)] (shF L, f, g) R := by
  obtain ⟨d, rfl⟩ : ∃ e, d = e + 1 := ⟨d - 1, by omega⟩
  refine go_X11_ruleOf rfl ?_
  conv => whnf
  rcases c4_c hk with rfl | rfl | rfl | rfl
  · exact ro_0 H
  · exact ro_1 H
  · exact ro_2 H
  · exact ro_3 H
theorem c3_c {t : Nat} (ht : t < 3) : t = 0 ∨ t = 1 ∨ t = 2 := by omega
set_option maxRecDepth 100000 in
set_option maxHeartbeats 4000000 in
theorem smf_rulePart {d L : Nat} {f : Nat → Nat → Int32} {g : Nat → Nat → Int64} {k t : Nat} {R : Option Value → mH → Prop} (hd : 2 ≤ d) (hk : k < 4) (ht : t < 3) (H : R (some (.int (eC (fun k t => f (213 + t) k) k t))) (shF L, f, g)) : Run mtab d 223 [.ref 181, .int (nI k), .int (nI t)] (shF L, f, g) R := by
  obtain ⟨d, rfl⟩ : ∃ e, d = e + 1 := ⟨d - 1, by omega⟩
  refine go_X11_rulePart rfl ?_
  conv => whnf
  refine smf_ruleOf (by omega) hk ?_
  rcases c4_c hk with rfl | rfl | rfl | rfl
  · rcases c3_c ht with rfl | rfl | rfl
    · by_cases z0 : f 213 0 = 0
      · have e : rov 0 f = -1 := by
          show (if f 213 0 = 0 then (-1 : Int32) else 0) = -1
          rw [if_pos z0]
        rw [e]
        conv => whnf
        refine ⟨fun c => absurd c (by decide), fun _ => ?_⟩
        conv => whnf
        have e2 : eC (fun k t => f (213 + t) k) 0 0 = 1 := by
          show (if f 213 0 = 0 then (1 : Int32) else f (213 + 0) 0) = 1
          rw [if_pos z0]
        rw [e2] at H
        exact H
      · have e : rov 0 f = 0 := by
          show (if f 213 0 = 0 then (-1 : Int32) else 0) = 0
          rw [if_neg z0]
        rw [e]
        conv => whnf
        refine ⟨fun _ => ?_, fun c => absurd (by decide) c⟩
        conv => whnf
        refine ⟨fun c => absurd rfl c, fun _ => ?_⟩
        conv => whnf
        refine ⟨by unfold vp_in; decide, ?_⟩
        conv => whnf
        have e2 : eC (fun k t => f (213 + t) k) 0 0 = f (213 + 0) 0 := by
          show (if f 213 0 = 0 then (1 : Int32) else f (213 + 0) 0) = _
          rw [if_neg z0]
        rw [e2] at H
        exact H
    · by_cases z0 : f 213 0 = 0
      · have e : rov 0 f = -1 := by
          show (if f 213 0 = 0 then (-1 : Int32) else 0) = -1
          rw [if_pos z0]
        rw [e]
        conv => whnf
        refine ⟨fun c => absurd c (by decide), fun _ => ?_⟩
        conv => whnf
        have e2 : eC (fun k t => f (213 + t) k) 0 1 = 1 := by
          show (if f 213 0 = 0 then (1 : Int32) else f (213 + 1) 0) = 1
          rw [if_pos z0]
        rw [e2] at H
        exact H
      · have e : rov 0 f = 0 := by
          show (if f 213 0 = 0 then (-1 : Int32) else 0) = 0
          rw [if_neg z0]
        rw [e]
        conv => whnf
        refine ⟨fun _ => ?_, fun c => absurd (by decide) c⟩
        conv => whnf
        refine ⟨fun _ => ?_, fun c => absurd c (by decide)⟩
        conv => whnf
        refine ⟨fun c => absurd rfl c, fun _ => ?_⟩
        conv => whnf
        refine ⟨by unfold vp_in; decide, ?_⟩
        conv => whnf
        have e2 : eC (fun k t => f (213 + t) k) 0 1 = f (213 + 1) 0 := by
          show (if f 213 0 = 0 then (1 : Int32) else f (213 + 1) 0) = _
          rw [if_neg z0]
        rw [e2] at H
        exact H
    · by_cases z0 : f 213 0 = 0
      · have e : rov 0 f = -1 := by
          show (if f 213 0 = 0 then (-1 : Int32) else 0) = -1
          rw [if_pos z0]
        rw [e]
        conv => whnf
        refine ⟨fun c => absurd c (by decide), fun _ => ?_⟩
        conv => whnf
        have e2 : eC (fun k t => f (213 + t) k) 0 2 = 1 := by
          show (if f 213 0 = 0 then (1 : Int32) else f (213 + 2) 0) = 1
          rw [if_pos z0]
        rw [e2] at H
        exact H
      · have e : rov 0 f = 0 := by
          show (if f 213 0 = 0 then (-1 : Int32) else 0) = 0
          rw [if_neg z0]
        rw [e]
        conv => whnf
        refine ⟨fun _ => ?_, fun c => absurd (by decide) c⟩
        conv => whnf
        refine ⟨fun _ => ?_, fun c => absurd c (by decide)⟩
        conv => whnf
        refine ⟨fun _ => ?_, fun c => absurd c (by decide)⟩
        conv => whnf
        refine ⟨by unfold vp_in; decide, ?_⟩
        conv => whnf
        have e2 : eC (fun k t => f (213 + t) k) 0 2 = f (213 + 2) 0 := by
          show (if f 213 0 = 0 then (1 : Int32) else f (213 + 2) 0) = _
          rw [if_neg z0]
        rw [e2] at H
        exact H
  · rcases c3_c ht with rfl | rfl | rfl
    · by_cases z1 : f 213 1 = 0
      · by_cases z0 : f 213 0 = 0
        · have e : rov 1 f = -1 := by
            show (if f 213 1 = 0 then (if f 213 0 = 0 then (-1 : Int32) else 0) else 1) = -1
            rw [if_pos z1, if_pos z0]
          rw [e]
          conv => whnf
          refine ⟨fun c => absurd c (by decide), fun _ => ?_⟩
          conv => whnf
          have e2 : eC (fun k t => f (213 + t) k) 1 0 = 1 := by
            show (if f 213 1 = 0 then (if f 213 0 = 0 then (1 : Int32) else f (213 + 0) 0) else f (213 + 0) 1) = 1
            rw [if_pos z1, if_pos z0]
          rw [e2] at H
          exact H
        · have e : rov 1 f = 0 := by
            show (if f 213 1 = 0 then (if f 213 0 = 0 then (-1 : Int32) else 0) else 1) = 0
            rw [if_pos z1, if_neg z0]
          rw [e]
          conv => whnf
          refine ⟨fun _ => ?_, fun c => absurd (by decide) c⟩
          conv => whnf
          refine ⟨fun c => absurd rfl c, fun _ => ?_⟩
          conv => whnf
          refine ⟨by unfold vp_in; decide, ?_⟩
          conv => whnf
          have e2 : eC (fun k t => f (213 + t) k) 1 0 = f (213 + 0) 0 := by
            show (if f 213 1 = 0 then (if f 213 0 = 0 then (1 : Int32) else f (213 + 0) 0) else f (213 + 0) 1) = _
            rw [if_pos z1, if_neg z0]
          rw [e2] at H
          exact H
      · have e : rov 1 f = 1 := by
          show (if f 213 1 = 0 then (if f 213 0 = 0 then (-1 : Int32) else 0) else 1) = 1
          rw [if_neg z1]
        rw [e]
        conv => whnf
        refine ⟨fun _ => ?_, fun c => absurd (by decide) c⟩
        conv => whnf
        refine ⟨fun c => absurd rfl c, fun _ => ?_⟩
        conv => whnf
        refine ⟨by unfold vp_in; decide, ?_⟩
        conv => whnf
        have e2 : eC (fun k t => f (213 + t) k) 1 0 = f (213 + 0) 1 := by
          show (if f 213 1 = 0 then (if f 213 0 = 0 then (1 : Int32) else f (213 + 0) 0) else f (213 + 0) 1) = _
          rw [if_neg z1]
        rw [e2] at H
        exact H
    · by_cases z1 : f 213 1 = 0
      · by_cases z0 : f 213 0 = 0
        · have e : rov 1 f = -1 := by
            show (if f 213 1 = 0 then (if f 213 0 = 0 then (-1 : Int32) else 0) else 1) = -1
            rw [if_pos z1, if_pos z0]
          rw [e]
          conv => whnf
          refine ⟨fun c => absurd c (by decide), fun _ => ?_⟩
          conv => whnf
          have e2 : eC (fun k t => f (213 + t) k) 1 1 = 1 := by
            show (if f 213 1 = 0 then (if f 213 0 = 0 then (1 : Int32) else f (213 + 1) 0) else f (213 + 1) 1) = 1
            rw [if_pos z1, if_pos z0]
          rw [e2] at H
          exact H
        · have e : rov 1 f = 0 := by
            show (if f 213 1 = 0 then (if f 213 0 = 0 then (-1 : Int32) else 0) else 1) = 0
            rw [if_pos z1, if_neg z0]
          rw [e]
          conv => whnf
          refine ⟨fun _ => ?_, fun c => absurd (by decide) c⟩
          conv => whnf
          refine ⟨fun _ => ?_, fun c => absurd c (by decide)⟩
          conv => whnf
          refine ⟨fun c => absurd rfl c, fun _ => ?_⟩
          conv => whnf
          refine ⟨by unfold vp_in; decide, ?_⟩
          conv => whnf
          have e2 : eC (fun k t => f (213 + t) k) 1 1 = f (213 + 1) 0 := by
            show (if f 213 1 = 0 then (if f 213 0 = 0 then (1 : Int32) else f (213 + 1) 0) else f (213 + 1) 1) = _
            rw [if_pos z1, if_neg z0]
          rw [e2] at H
          exact H
      · have e : rov 1 f = 1 := by
          show (if f 213 1 = 0 then (if f 213 0 = 0 then (-1 : Int32) else 0) else 1) = 1
          rw [if_neg z1]
        rw [e]
        conv => whnf
        refine ⟨fun _ => ?_, fun c => absurd (by decide) c⟩
        conv => whnf
        refine ⟨fun _ => ?_, fun c => absurd c (by decide)⟩
        conv => whnf
        refine ⟨fun c => absurd rfl c, fun _ => ?_⟩
        conv => whnf
        refine ⟨by unfold vp_in; decide, ?_⟩
        conv => whnf
        have e2 : eC (fun k t => f (213 + t) k) 1 1 = f (213 + 1) 1 := by
          show (if f 213 1 = 0 then (if f 213 0 = 0 then (1 : Int32) else f (213 + 1) 0) else f (213 + 1) 1) = _
          rw [if_neg z1]
        rw [e2] at H
        exact H
    · by_cases z1 : f 213 1 = 0
      · by_cases z0 : f 213 0 = 0
        · have e : rov 1 f = -1 := by
            show (if f 213 1 = 0 then (if f 213 0 = 0 then (-1 : Int32) else 0) else 1) = -1
            rw [if_pos z1, if_pos z0]
          rw [e]
          conv => whnf
          refine ⟨fun c => absurd c (by decide), fun _ => ?_⟩
          conv => whnf
          have e2 : eC (fun k t => f (213 + t) k) 1 2 = 1 := by
            show (if f 213 1 = 0 then (if f 213 0 = 0 then (1 : Int32) else f (213 + 2) 0) else f (213 + 2) 1) = 1
            rw [if_pos z1, if_pos z0]
          rw [e2] at H
          exact H
        · have e : rov 1 f = 0 := by
            show (if f 213 1 = 0 then (if f 213 0 = 0 then (-1 : Int32) else 0) else 1) = 0
            rw [if_pos z1, if_neg z0]
          rw [e]
          conv => whnf
          refine ⟨fun _ => ?_, fun c => absurd (by decide) c⟩
          conv => whnf
          refine ⟨fun _ => ?_, fun c => absurd c (by decide)⟩
          conv => whnf
          refine ⟨fun _ => ?_, fun c => absurd c (by decide)⟩
          conv => whnf
          refine ⟨by unfold vp_in; decide, ?_⟩
          conv => whnf
          have e2 : eC (fun k t => f (213 + t) k) 1 2 = f (213 + 2) 0 := by
            show (if f 213 1 = 0 then (if f 213 0 = 0 then (1 : Int32) else f (213 + 2) 0) else f (213 + 2) 1) = _
            rw [if_pos z1, if_neg z0]
          rw [e2] at H
          exact H
      · have e : rov 1 f = 1 := by
          show (if f 213 1 = 0 then (if f 213 0 = 0 then (-1 : Int32) else 0) else 1) = 1
          rw [if_neg z1]
        rw [e]
        conv => whnf
        refine ⟨fun _ => ?_, fun c => absurd (by decide) c⟩
        conv => whnf
        refine ⟨fun _ => ?_, fun c => absurd c (by decide)⟩
        conv => whnf
        refine ⟨fun _ => ?_, fun c => absurd c (by decide)⟩
        conv => whnf
        refine ⟨by unfold vp_in; decide, ?_⟩
        conv => whnf
        have e2 : eC (fun k t => f (213 + t) k) 1 2 = f (213 + 2) 1 := by
          show (if f 213 1 = 0 then (if f 213 0 = 0 then (1 : Int32) else f (213 + 2) 0) else f (213 + 2) 1) = _
          rw [if_neg z1]
        rw [e2] at H
        exact H
  · rcases c3_c ht with rfl | rfl | rfl
    · by_cases z2 : f 213 2 = 0
      · by_cases z0 : f 213 0 = 0
        · have e : rov 2 f = -1 := by
            show (if f 213 2 = 0 then (if f 213 0 = 0 then (-1 : Int32) else 0) else 2) = -1
            rw [if_pos z2, if_pos z0]
          rw [e]
          conv => whnf
          refine ⟨fun c => absurd c (by decide), fun _ => ?_⟩
          conv => whnf
          have e2 : eC (fun k t => f (213 + t) k) 2 0 = 1 := by
            show (if f 213 2 = 0 then (if f 213 0 = 0 then (1 : Int32) else f (213 + 0) 0) else f (213 + 0) 2) = 1
            rw [if_pos z2, if_pos z0]
          rw [e2] at H
          exact H
        · have e : rov 2 f = 0 := by
            show (if f 213 2 = 0 then (if f 213 0 = 0 then (-1 : Int32) else 0) else 2) = 0
            rw [if_pos z2, if_neg z0]
          rw [e]
          conv => whnf
          refine ⟨fun _ => ?_, fun c => absurd (by decide) c⟩
          conv => whnf
          refine ⟨fun c => absurd rfl c, fun _ => ?_⟩
          conv => whnf
          refine ⟨by unfold vp_in; decide, ?_⟩
          conv => whnf
          have e2 : eC (fun k t => f (213 + t) k) 2 0 = f (213 + 0) 0 := by
            show (if f 213 2 = 0 then (if f 213 0 = 0 then (1 : Int32) else f (213 + 0) 0) else f (213 + 0) 2) = _
            rw [if_pos z2, if_neg z0]
          rw [e2] at H
          exact H
      · have e : rov 2 f = 2 := by
          show (if f 213 2 = 0 then (if f 213 0 = 0 then (-1 : Int32) else 0) else 2) = 2
          rw [if_neg z2]
        rw [e]
        conv => whnf
        refine ⟨fun _ => ?_, fun c => absurd (by decide) c⟩
        conv => whnf
        refine ⟨fun c => absurd rfl c, fun _ => ?_⟩
        conv => whnf
        refine ⟨by unfold vp_in; decide, ?_⟩
        conv => whnf
        have e2 : eC (fun k t => f (213 + t) k) 2 0 = f (213 + 0) 2 := by
          show (if f 213 2 = 0 then (if f 213 0 = 0 then (1 : Int32) else f (213 + 0) 0) else f (213 + 0) 2) = _
          rw [if_neg z2]
        rw [e2] at H
        exact H
    · by_cases z2 : f 213 2 = 0
      · by_cases z0 : f 213 0 = 0
        · have e : rov 2 f = -1 := by
            show (if f 213 2 = 0 then (if f 213 0 = 0 then (-1 : Int32) else 0) else 2) = -1
            rw [if_pos z2, if_pos z0]
          rw [e]
          conv => whnf
          refine ⟨fun c => absurd c (by decide), fun _ => ?_⟩
          conv => whnf
          have e2 : eC (fun k t => f (213 + t) k) 2 1 = 1 := by
            show (if f 213 2 = 0 then (if f 213 0 = 0 then (1 : Int32) else f (213 + 1) 0) else f (213 + 1) 2) = 1
            rw [if_pos z2, if_pos z0]
          rw [e2] at H
          exact H
        · have e : rov 2 f = 0 := by
            show (if f 213 2 = 0 then (if f 213 0 = 0 then (-1 : Int32) else 0) else 2) = 0
            rw [if_pos z2, if_neg z0]
          rw [e]
          conv => whnf
          refine ⟨fun _ => ?_, fun c => absurd (by decide) c⟩
          conv => whnf
          refine ⟨fun _ => ?_, fun c => absurd c (by decide)⟩
          conv => whnf
          refine ⟨fun c => absurd rfl c, fun _ => ?_⟩
          conv => whnf
          refine ⟨by unfold vp_in; decide, ?_⟩
          conv => whnf
          have e2 : eC (fun k t => f (213 + t) k) 2 1 = f (213 + 1) 0 := by
            show (if f 213 2 = 0 then (if f 213 0 = 0 then (1 : Int32) else f (213 + 1) 0) else f (213 + 1) 2) = _
            rw [if_pos z2, if_neg z0]
          rw [e2] at H
          exact H
      · have e : rov 2 f = 2 := by
          show (if f 213 2 = 0 then (if f 213 0 = 0 then (-1 : Int32) else 0) else 2) = 2
          rw [if_neg z2]
        rw [e]
        conv => whnf
        refine ⟨fun _ => ?_, fun c => absurd (by decide) c⟩
        conv => whnf
        refine ⟨fun _ => ?_, fun c => absurd c (by decide)⟩
        conv => whnf
        refine ⟨fun c => absurd rfl c, fun _ => ?_⟩
        conv => whnf
        refine ⟨by unfold vp_in; decide, ?_⟩
        conv => whnf
        have e2 : eC (fun k t => f (213 + t) k) 2 1 = f (213 + 1) 2 := by
          show (if f 213 2 = 0 then (if f 213 0 = 0 then (1 : Int32) else f (213 + 1) 0) else f (213 + 1) 2) = _
          rw [if_neg z2]
        rw [e2] at H
        exact H
    · by_cases z2 : f 213 2 = 0
      · by_cases z0 : f 213 0 = 0
        · have e : rov 2 f = -1 := by
            show (if f 213 2 = 0 then (if f 213 0 = 0 then (-1 : Int32) else 0) else 2) = -1
            rw [if_pos z2, if_pos z0]
          rw [e]
          conv => whnf
          refine ⟨fun c => absurd c (by decide), fun _ => ?_⟩
          conv => whnf
          have e2 : eC (fun k t => f (213 + t) k) 2 2 = 1 := by
            show (if f 213 2 = 0 then (if f 213 0 = 0 then (1 : Int32) else f (213 + 2) 0) else f (213 + 2) 2) = 1
            rw [if_pos z2, if_pos z0]
          rw [e2] at H
          exact H
        · have e : rov 2 f = 0 := by
            show (if f 213 2 = 0 then (if f 213 0 = 0 then (-1 : Int32) else 0) else 2) = 0
            rw [if_pos z2, if_neg z0]
          rw [e]
          conv => whnf
          refine ⟨fun _ => ?_, fun c => absurd (by decide) c⟩
          conv => whnf
          refine ⟨fun _ => ?_, fun c => absurd c (by decide)⟩
          conv => whnf
          refine ⟨fun _ => ?_, fun c => absurd c (by decide)⟩
          conv => whnf
          refine ⟨by unfold vp_in; decide, ?_⟩
          conv => whnf
          have e2 : eC (fun k t => f (213 + t) k) 2 2 = f (213 + 2) 0 := by
            show (if f 213 2 = 0 then (if f 213 0 = 0 then (1 : Int32) else f (213 + 2) 0) else f (213 + 2) 2) = _
            rw [if_pos z2, if_neg z0]
          rw [e2] at H
          exact H
      · have e : rov 2 f = 2 := by
          show (if f 213 2 = 0 then (if f 213 0 = 0 then (-1 : Int32) else 0) else 2) = 2
          rw [if_neg z2]
        rw [e]
        conv => whnf
        refine ⟨fun _ => ?_, fun c => absurd (by decide) c⟩
        conv => whnf
        refine ⟨fun _ => ?_, fun c => absurd c (by decide)⟩
        conv => whnf
        refine ⟨fun _ => ?_, fun c => absurd c (by decide)⟩
        conv => whnf
        refine ⟨by unfold vp_in; decide, ?_⟩
        conv => whnf
        have e2 : eC (fun k t => f (213 + t) k) 2 2 = f (213 + 2) 2 := by
          show (if f 213 2 = 0 then (if f 213 0 = 0 then (1 : Int32) else f (213 + 2) 0) else f (213 + 2) 2) = _
          rw [if_neg z2]
        rw [e2] at H
        exact H
  · rcases c3_c ht with rfl | rfl | rfl
    · by_cases z3 : f 213 3 = 0
      · by_cases z2 : f 213 2 = 0
        · by_cases z0 : f 213 0 = 0
          · have e : rov 3 f = -1 := by
              show (if f 213 3 = 0 then (if f 213 2 = 0 then (if f 213 0 = 0 then (-1 : Int32) else 0) else 2) else 3) = -1
              rw [if_pos z3, if_pos z2, if_pos z0]
            rw [e]
            conv => whnf
            refine ⟨fun c => absurd c (by decide), fun _ => ?_⟩
            conv => whnf
            have e2 : eC (fun k t => f (213 + t) k) 3 0 = 1 := by
              show (if f 213 3 = 0 then (if f 213 2 = 0 then (if f 213 0 = 0 then (1 : Int32) else f (213 + 0) 0) else f (213 + 0) 2) else f (213 + 0) 3) = 1
              rw [if_pos z3, if_pos z2, if_pos z0]
            rw [e2] at H
            exact H
          · have e : rov 3 f = 0 := by
              show (if f 213 3 = 0 then (if f 213 2 = 0 then (if f 213 0 = 0 then (-1 : Int32) else 0) else 2) else 3) = 0
              rw [if_pos z3, if_pos z2, if_neg z0]
            rw [e]
            conv => whnf
            refine ⟨fun _ => ?_, fun c => absurd (by decide) c⟩
            conv => whnf
            refine ⟨fun c => absurd rfl c, fun _ => ?_⟩
            conv => whnf
            refine ⟨by unfold vp_in; decide, ?_⟩
            conv => whnf
            have e2 : eC (fun k t => f (213 + t) k) 3 0 = f (213 + 0) 0 := by
              show (if f 213 3 = 0 then (if f 213 2 = 0 then (if f 213 0 = 0 then (1 : Int32) else f (213 + 0) 0) else f (213 + 0) 2) else f (213 + 0) 3) = _
              rw [if_pos z3, if_pos z2, if_neg z0]
            rw [e2] at H
            exact H
        · have e : rov 3 f = 2 := by
            show (if f 213 3 = 0 then (if f 213 2 = 0 then (if f 213 0 = 0 then (-1 : Int32) else 0) else 2) else 3) = 2
            rw [if_pos z3, if_neg z2]
          rw [e]
          conv => whnf
          refine ⟨fun _ => ?_, fun c => absurd (by decide) c⟩
          conv => whnf
          refine ⟨fun c => absurd rfl c, fun _ => ?_⟩
          conv => whnf
          refine ⟨by unfold vp_in; decide, ?_⟩
          conv => whnf
          have e2 : eC (fun k t => f (213 + t) k) 3 0 = f (213 + 0) 2 := by
            show (if f 213 3 = 0 then (if f 213 2 = 0 then (if f 213 0 = 0 then (1 : Int32) else f (213 + 0) 0) else f (213 + 0) 2) else f (213 + 0) 3) = _
            rw [if_pos z3, if_neg z2]
          rw [e2] at H
          exact H
      · have e : rov 3 f = 3 := by
          show (if f 213 3 = 0 then (if f 213 2 = 0 then (if f 213 0 = 0 then (-1 : Int32) else 0) else 2) else 3) = 3
          rw [if_neg z3]
        rw [e]
        conv => whnf
        refine ⟨fun _ => ?_, fun c => absurd (by decide) c⟩
        conv => whnf
        refine ⟨fun c => absurd rfl c, fun _ => ?_⟩
        conv => whnf
        refine ⟨by unfold vp_in; decide, ?_⟩
        conv => whnf
        have e2 : eC (fun k t => f (213 + t) k) 3 0 = f (213 + 0) 3 := by
          show (if f 213 3 = 0 then (if f 213 2 = 0 then (if f 213 0 = 0 then (1 : Int32) else f (213 + 0) 0) else f (213 + 0) 2) else f (213 + 0) 3) = _
          rw [if_neg z3]
        rw [e2] at H
        exact H
    · by_cases z3 : f 213 3 = 0
      · by_cases z2 : f 213 2 = 0
        · by_cases z0 : f 213 0 = 0
          · have e : rov 3 f = -1 := by
              show (if f 213 3 = 0 then (if f 213 2 = 0 then (if f 213 0 = 0 then (-1 : Int32) else 0) else 2) else 3) = -1
              rw [if_pos z3, if_pos z2, if_pos z0]
            rw [e]
            conv => whnf
            refine ⟨fun c => absurd c (by decide), fun _ => ?_⟩
            conv => whnf
            have e2 : eC (fun k t => f (213 + t) k) 3 1 = 1 := by
              show (if f 213 3 = 0 then (if f 213 2 = 0 then (if f 213 0 = 0 then (1 : Int32) else f (213 + 1) 0) else f (213 + 1) 2) else f (213 + 1) 3) = 1
              rw [if_pos z3, if_pos z2, if_pos z0]
            rw [e2] at H
            exact H
          · have e : rov 3 f = 0 := by
              show (if f 213 3 = 0 then (if f 213 2 = 0 then (if f 213 0 = 0 then (-1 : Int32) else 0) else 2) else 3) = 0
              rw [if_pos z3, if_pos z2, if_neg z0]
            rw [e]
            conv => whnf
            refine ⟨fun _ => ?_, fun c => absurd (by decide) c⟩
            conv => whnf
            refine ⟨fun _ => ?_, fun c => absurd c (by decide)⟩
            conv => whnf
            refine ⟨fun c => absurd rfl c, fun _ => ?_⟩
            conv => whnf
            refine ⟨by unfold vp_in; decide, ?_⟩
            conv => whnf
            have e2 : eC (fun k t => f (213 + t) k) 3 1 = f (213 + 1) 0 := by
              show (if f 213 3 = 0 then (if f 213 2 = 0 then (if f 213 0 = 0 then (1 : Int32) else f (213 + 1) 0) else f (213 + 1) 2) else f (213 + 1) 3) = _
              rw [if_pos z3, if_pos z2, if_neg z0]
            rw [e2] at H
            exact H
        · have e : rov 3 f = 2 := by
            show (if f 213 3 = 0 then (if f 213 2 = 0 then (if f 213 0 = 0 then (-1 : Int32) else 0) else 2) else 3) = 2
            rw [if_pos z3, if_neg z2]
          rw [e]
          conv => whnf
          refine ⟨fun _ => ?_, fun c => absurd (by decide) c⟩
          conv => whnf
          refine ⟨fun _ => ?_, fun c => absurd c (by decide)⟩
          conv => whnf
          refine ⟨fun c => absurd rfl c, fun _ => ?_⟩
          conv => whnf
          refine ⟨by unfold vp_in; decide, ?_⟩
          conv => whnf
          have e2 : eC (fun k t => f (213 + t) k) 3 1 = f (213 + 1) 2 := by
            show (if f 213 3 = 0 then (if f 213 2 = 0 then (if f 213 0 = 0 then (1 : Int32) else f (213 + 1) 0) else f (213 + 1) 2) else f (213 + 1) 3) = _
            rw [if_pos z3, if_neg z2]
          rw [e2] at H
          exact H
      · have e : rov 3 f = 3 := by
          show (if f 213 3 = 0 then (if f 213 2 = 0 then (if f 213 0 = 0 then (-1 : Int32) else 0) else 2) else 3) = 3
          rw [if_neg z3]
        rw [e]
        conv => whnf
        refine ⟨fun _ => ?_, fun c => absurd (by decide) c⟩
        conv => whnf
        refine ⟨fun _ => ?_, fun c => absurd c (by decide)⟩
        conv => whnf
        refine ⟨fun c => absurd rfl c, fun _ => ?_⟩
        conv => whnf
        refine ⟨by unfold vp_in; decide, ?_⟩
        conv => whnf
        have e2 : eC (fun k t => f (213 + t) k) 3 1 = f (213 + 1) 3 := by
          show (if f 213 3 = 0 then (if f 213 2 = 0 then (if f 213 0 = 0 then (1 : Int32) else f (213 + 1) 0) else f (213 + 1) 2) else f (213 + 1) 3) = _
          rw [if_neg z3]
        rw [e2] at H
        exact H
    · by_cases z3 : f 213 3 = 0
      · by_cases z2 : f 213 2 = 0
        · by_cases z0 : f 213 0 = 0
          · have e : rov 3 f = -1 := by
              show (if f 213 3 = 0 then (if f 213 2 = 0 then (if f 213 0 = 0 then (-1 : Int32) else 0) else 2) else 3) = -1
              rw [if_pos z3, if_pos z2, if_pos z0]
            rw [e]
            conv => whnf
            refine ⟨fun c => absurd c (by decide), fun _ => ?_⟩
            conv => whnf
            have e2 : eC (fun k t => f (213 + t) k) 3 2 = 1 := by
              show (if f 213 3 = 0 then (if f 213 2 = 0 then (if f 213 0 = 0 then (1 : Int32) else f (213 + 2) 0) else f (213 + 2) 2) else f (213 + 2) 3) = 1
              rw [if_pos z3, if_pos z2, if_pos z0]
            rw [e2] at H
            exact H
          · have e : rov 3 f = 0 := by
              show (if f 213 3 = 0 then (if f 213 2 = 0 then (if f 213 0 = 0 then (-1 : Int32) else 0) else 2) else 3) = 0
              rw [if_pos z3, if_pos z2, if_neg z0]
            rw [e]
            conv => whnf
            refine ⟨fun _ => ?_, fun c => absurd (by decide) c⟩
            conv => whnf
            refine ⟨fun _ => ?_, fun c => absurd c (by decide)⟩
            conv => whnf
            refine ⟨fun _ => ?_, fun c => absurd c (by decide)⟩
            conv => whnf
            refine ⟨by unfold vp_in; decide, ?_⟩
            conv => whnf
            have e2 : eC (fun k t => f (213 + t) k) 3 2 = f (213 + 2) 0 := by
              show (if f 213 3 = 0 then (if f 213 2 = 0 then (if f 213 0 = 0 then (1 : Int32) else f (213 + 2) 0) else f (213 + 2) 2) else f (213 + 2) 3) = _
              rw [if_pos z3, if_pos z2, if_neg z0]
            rw [e2] at H
            exact H
        · have e : rov 3 f = 2 := by
            show (if f 213 3 = 0 then (if f 213 2 = 0 then (if f 213 0 = 0 then (-1 : Int32) else 0) else 2) else 3) = 2
            rw [if_pos z3, if_neg z2]
          rw [e]
          conv => whnf
          refine ⟨fun _ => ?_, fun c => absurd (by decide) c⟩
          conv => whnf
          refine ⟨fun _ => ?_, fun c => absurd c (by decide)⟩
          conv => whnf
          refine ⟨fun _ => ?_, fun c => absurd c (by decide)⟩
          conv => whnf
          refine ⟨by unfold vp_in; decide, ?_⟩
          conv => whnf
          have e2 : eC (fun k t => f (213 + t) k) 3 2 = f (213 + 2) 2 := by
            show (if f 213 3 = 0 then (if f 213 2 = 0 then (if f 213 0 = 0 then (1 : Int32) else f (213 + 2) 0) else f (213 + 2) 2) else f (213 + 2) 3) = _
            rw [if_pos z3, if_neg z2]
          rw [e2] at H
          exact H
      · have e : rov 3 f = 3 := by
          show (if f 213 3 = 0 then (if f 213 2 = 0 then (if f 213 0 = 0 then (-1 : Int32) else 0) else 2) else 3) = 3
          rw [if_neg z3]
        rw [e]
        conv => whnf
        refine ⟨fun _ => ?_, fun c => absurd (by decide) c⟩
        conv => whnf
        refine ⟨fun _ => ?_, fun c => absurd c (by decide)⟩
        conv => whnf
        refine ⟨fun _ => ?_, fun c => absurd c (by decide)⟩
        conv => whnf
        refine ⟨by unfold vp_in; decide, ?_⟩
        conv => whnf
        have e2 : eC (fun k t => f (213 + t) k) 3 2 = f (213 + 2) 3 := by
          show (if f 213 3 = 0 then (if f 213 2 = 0 then (if f 213 0 = 0 then (1 : Int32) else f (213 + 2) 0) else f (213 + 2) 2) else f (213 + 2) 3) = _
          rw [if_neg z3]
        rw [e2] at H
        exact H
set_option maxRecDepth 100000 in
set_option maxHeartbeats 4000000 in
theorem smf_rule {d L : Nat} {f : Nat → Nat → Int32} {g : Nat → Nat → Int64} {x1 x2 : Int32} {R : Option Value → mH → Prop} (hd : 4 ≤ d) (H : ∀ v, ((¬ (inr 0 3 x1 ∧ inr 0 2 x2) ∧ v = -1) ∨ (∃ k t, k < 4 ∧ t < 3 ∧ x1 = nI k ∧ x2 = nI t ∧ v = eC (fun k t => f (213 + t) k) k t)) → R (some (.int v)) (shF L, f, g)) : Run mtab d 224 [.ref 181, .int x1, .int x2] (shF L, f, g) R := by
  obtain ⟨d, rfl⟩ : ∃ e, d = e + 1 := ⟨d - 1, by omega⟩
  refine go_X11_rule rfl ?_
  conv => whnf
  refine ct_i_0_3 (by omega) (fun p1 => ?_) (fun p1 => ?_)
  · obtain ⟨k, hk, rfl⟩ := inr_nat (n := 3) rfl p1
    conv => whnf
    (refine ⟨fun c => ?_, fun c => ?_⟩ <;> first | ((have c9 : (1 : Int32) = 0 := by with_reducible exact c); exact absurd c9 (by decide)) | exact absurd (rfl : (0 : Int32) = 0) (by with_reducible exact c) | exact absurd True.intro (by with_reducible exact c) | exact False.elim (by with_reducible exact c) | (conv => whnf))
    refine ct_i_0_2 (by omega) (fun p2 => ?_) (fun p2 => ?_)
    · obtain ⟨t, ht, rfl⟩ := inr_nat (n := 2) rfl p2
      conv => whnf
      (refine ⟨fun c => ?_, fun c => ?_⟩ <;> first | ((have c9 : (1 : Int32) = 0 := by with_reducible exact c); exact absurd c9 (by decide)) | exact absurd (rfl : (0 : Int32) = 0) (by with_reducible exact c) | exact absurd True.intro (by with_reducible exact c) | exact False.elim (by with_reducible exact c) | (conv => whnf))
      refine smf_rulePart (by omega) (by omega) (by omega) ?_
      conv => whnf
      exact H _ (Or.inr ⟨k, t, by omega, by omega, rfl, rfl, rfl⟩)
    · conv => whnf
      (refine ⟨fun c => ?_, fun c => ?_⟩ <;> first | ((have c9 : (1 : Int32) = 0 := by with_reducible exact c); exact absurd c9 (by decide)) | exact absurd (rfl : (0 : Int32) = 0) (by with_reducible exact c) | exact absurd True.intro (by with_reducible exact c) | exact False.elim (by with_reducible exact c) | (conv => whnf))
      exact H _ (Or.inl ⟨fun hh => p2 hh.2, rfl⟩)
  · conv => whnf
    (refine ⟨fun c => ?_, fun c => ?_⟩ <;> first | ((have c9 : (1 : Int32) = 0 := by with_reducible exact c); exact absurd c9 (by decide)) | exact absurd (rfl : (0 : Int32) = 0) (by with_reducible exact c) | exact absurd True.intro (by with_reducible exact c) | exact False.elim (by with_reducible exact c) | (conv => whnf))
    exact H _ (Or.inl ⟨fun hh => p1 hh.1, rfl⟩)
