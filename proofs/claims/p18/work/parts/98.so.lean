def EXo (f : Nat → Nat → Int32) (n p i : Nat) : Prop := ∃ o, i ≤ o ∧ o < n ∧ ¬ f 127 o = 1 ∧ LC f (nI o) p
theorem EXo_s {f : Nat → Nat → Int32} {n p i : Nat} (h : ¬ (¬ f 127 i = 1 ∧ LC f (nI i) p)) : EXo f n p i ↔ EXo f n p (i + 1) := by
  constructor
  · rintro ⟨o, h1, h2, h3, h4⟩
    by_cases e : o = i
    · subst e
      exact absurd ⟨h3, h4⟩ h
    · exact ⟨o, by omega, h2, h3, h4⟩
  · rintro ⟨o, h1, h2, h3, h4⟩
    exact ⟨o, by omega, h2, h3, h4⟩
set_option maxRecDepth 100000 in
theorem lo_lp {d L n p : Nat} {f : Nat → Nat → Int32} {g : Nat → Nat → Int64} {R : Option Value → mH → Prop} (hd : 2 ≤ d) (hX : XI f) (hb : f 6 13 = nI n) (hm : n ≤ 40) (hp : p < 40) :
    ∀ (k i : Nat) (x : Int32), i + k = n → x = nI i → (EXo f n p i → R (some (.int 1)) (shF L, f, g)) → (¬ EXo f n p i → R (some (.int 0)) (shF L, f, g)) → WPe pg_X10_leansOnOneNotIn none (Run mtab d) R (m_drop pg_X10_leansOnOneNotIn 2) [some (.ref 5), some (.int (nI p)), some (.int x)] [] (shF L, f, g)
  | 0, i, x, hi, hx, H1, H0 => by
    have e : i = n := by omega
    subst hx
    subst e
    refine at_X10_leansOnOneNotIn ?_
    conv => whnf
    simp only [hb]
    refine ⟨fun c => ?_, fun c => absurd (nI_le (Nat.le_refl _) (by omega)) c⟩
    conv => whnf
    exact ⟨Or.inl rfl, H0 (fun ⟨o, h1, h2, _⟩ => by omega)⟩
  | k + 1, i, x, hi, hx, H1, H0 => by
    subst hx
    have hcl : (nI i).toNatClampNeg = i := nI_clamp (by omega)
    refine at_X10_leansOnOneNotIn ?_
    conv => whnf
    simp only [hb]
    refine ⟨fun c => absurd c (nI_ge (b := n) (by omega) (by omega)), fun c => ?_⟩
    conv => whnf
    refine ⟨vp_in_nI (by omega) (by decide), ?_⟩
    conv => whnf
    simp only [hcl]
    refine ⟨fun c1 => ?_, fun c1 => ?_⟩
    · conv => whnf
      exact lo_lp hd hX hb hm hp k (i + 1) _ (by omega) (nI_1 i) (fun q5 => H1 ((EXo_s (fun z => z.1 c1)).mpr q5)) (fun q5 => H0 (fun w => q5 ((EXo_s (fun z => z.1 c1)).mp w)))
    · conv => whnf
      refine sf_isLeaning (by omega) hX hp (fun q => ?_) (fun q => ?_)
      · conv => whnf
        (refine ⟨fun c => ?_, fun c => ?_⟩ <;> first | ((have c9 : (1 : Int32) = 0 := by with_reducible exact c); exact absurd c9 (by decide)) | exact absurd (rfl : (0 : Int32) = 0) (by with_reducible exact c) | exact absurd True.intro (by with_reducible exact c) | exact False.elim (by with_reducible exact c) | (conv => whnf))
        exact ⟨Or.inr rfl, H1 ⟨i, Nat.le_refl _, by omega, c1, q⟩⟩
      · conv => whnf
        (refine ⟨fun c => ?_, fun c => ?_⟩ <;> first | ((have c9 : (1 : Int32) = 0 := by with_reducible exact c); exact absurd c9 (by decide)) | exact absurd (rfl : (0 : Int32) = 0) (by with_reducible exact c) | exact absurd True.intro (by with_reducible exact c) | exact False.elim (by with_reducible exact c) | (conv => whnf))
        exact lo_lp hd hX hb hm hp k (i + 1) _ (by omega) (nI_1 i) (fun q5 => H1 ((EXo_s (fun z => q z.2)).mpr q5)) (fun q5 => H0 (fun w => q5 ((EXo_s (fun z => q z.2)).mp w)))
set_option maxRecDepth 100000 in
set_option maxHeartbeats 4000000 in
theorem sf_leansOn {d L : Nat} {f : Nat → Nat → Int32} {g : Nat → Nat → Int64} {n p : Nat} {R : Option Value → mH → Prop} (hd : 3 ≤ d) (hX : XI f) (hb : f 6 13 = nI n) (hm : n ≤ 40) (hp : p < 40) (H1 : EXo f n p 0 → R (some (.int 1)) (shF L, f, g)) (H0 : ¬ EXo f n p 0 → R (some (.int 0)) (shF L, f, g)) : Run mtab d 145 [.ref 5, .int (nI p)] (shF L, f, g) R := by
  obtain ⟨d, rfl⟩ : ∃ e, d = e + 1 := ⟨d - 1, by omega⟩
  refine go_X10_leansOnOneNotIn rfl ?_
  conv => whnf
  exact lo_lp (by omega) hX hb hm hp n 0 _ (by omega) rfl H1 H0
set_option maxRecDepth 100000 in
theorem us_lp {d L n : Nat} {f : Nat → Nat → Int32} {g : Nat → Nat → Int64} {w y : Int32} {R : Option Value → mH → Prop} (hd : 3 ≤ d) (hX : XI f) (hb : f 6 13 = nI n) (hm : n ≤ 40) :
    ∀ (k i : Nat) (x a : Int32), i + k = n → x = nI i → R (some (.int (cntl (fun i => f 127 i = 1 ∧ EXo f n i 0) k i a))) (shF L, f, g) → WPe pg_X10_unsure none (Run mtab d) R (m_drop pg_X10_unsure 16) [some (.ref 5), some (.int w), some (.int y), some (.int a), some (.int x)] [] (shF L, f, g)
  | 0, i, x, a, hi, hx, H => by
    have e : i = n := by omega
    subst hx
    subst e
    refine at_X10_unsure ?_
    conv => whnf
    simp only [hb]
    refine ⟨fun c => ?_, fun c => absurd (nI_le (Nat.le_refl _) (by omega)) c⟩
    conv => whnf
    exact H
  | k + 1, i, x, a, hi, hx, H => by
    subst hx
    have hcl : (nI i).toNatClampNeg = i := nI_clamp (by omega)
    refine at_X10_unsure ?_
    conv => whnf
    simp only [hb]
    refine ⟨fun c => absurd c (nI_ge (b := n) (by omega) (by omega)), fun c => ?_⟩
    conv => whnf
    refine ⟨vp_in_nI (by omega) (by decide), ?_⟩
    conv => whnf
    simp only [hcl]
    refine ⟨fun c1 => ?_, fun c1 => ?_⟩
    · conv => whnf
      exact us_lp hd hX hb hm k (i + 1) _ _ (by omega) (nI_1 i) (by rw [cnt_n (P := (fun i => f 127 i = 1 ∧ EXo f n i 0)) (k := k) (i := i) (a := a) (fun z => c1 z.1)] at H; exact H)
    · conv => whnf
      refine sf_leansOn (by omega) hX hb hm (by omega) (fun q => ?_) (fun q => ?_)
      · conv => whnf
        (refine ⟨fun c => ?_, fun c => ?_⟩ <;> first | ((have c9 : (1 : Int32) = 0 := by with_reducible exact c); exact absurd c9 (by decide)) | exact absurd (rfl : (0 : Int32) = 0) (by with_reducible exact c) | exact absurd True.intro (by with_reducible exact c) | exact False.elim (by with_reducible exact c) | (conv => whnf))
        exact us_lp hd hX hb hm k (i + 1) _ _ (by omega) (nI_1 i) (by rw [cnt_y (P := (fun i => f 127 i = 1 ∧ EXo f n i 0)) (k := k) (i := i) (a := a) (⟨c1, q⟩)] at H; exact H)
      · conv => whnf
        (refine ⟨fun c => ?_, fun c => ?_⟩ <;> first | ((have c9 : (1 : Int32) = 0 := by with_reducible exact c); exact absurd c9 (by decide)) | exact absurd (rfl : (0 : Int32) = 0) (by with_reducible exact c) | exact absurd True.intro (by with_reducible exact c) | exact False.elim (by with_reducible exact c) | (conv => whnf))
        exact us_lp hd hX hb hm k (i + 1) _ _ (by omega) (nI_1 i) (by rw [cnt_n (P := (fun i => f 127 i = 1 ∧ EXo f n i 0)) (k := k) (i := i) (a := a) (fun z => q z.2)] at H; exact H)
def SX_unsure (n c : Nat) (f f1 : Nat → Nat → Int32) (x1 x2 v : Int32) : Prop := (¬ asofw c x1 x2 ∧ v = -1 ∧ f1 = f) ∨ (∃ m, m ≤ c ∧ x2 = nI m ∧ asofw c x1 x2 ∧ stF f f1 x1 m ∧ v = cntl (fun i => f1 127 i = 1 ∧ EXo f1 n i 0) n 0 0)
set_option maxRecDepth 100000 in
set_option maxHeartbeats 4000000 in
theorem sf_unsure {d L : Nat} {f : Nat → Nat → Int32} {g : Nat → Nat → Int64} {n c0 : Nat} {x1 x2 : Int32} {R : Option Value → mH → Prop} (hd : 5 ≤ d) (hX : XI f) (hb : f 6 13 = nI n) (hm : n ≤ 40) (hvb : f 119 7 = nI c0) (hvm : c0 ≤ 60) (H : ∀ v f1, SX_unsure n c0 f f1 x1 x2 v → R (some (.int v)) (shF L, f1, g)) : Run mtab d 125 [.ref 5, .int x1, .int x2] (shF L, f, g) R := by
  obtain ⟨d, rfl⟩ : ∃ e, d = e + 1 := ⟨d - 1, by omega⟩
  refine go_X10_unsure rfl ?_
  conv => whnf
  refine sf_isAsOf (by omega) hvb (fun p => ?_) (fun p => ?_)
  · obtain ⟨m, hm9, e⟩ := as_n hvm p
    subst e
    conv => whnf
    (refine ⟨fun c => ?_, fun c => ?_⟩ <;> first | ((have c9 : (1 : Int32) = 0 := by with_reducible exact c); exact absurd c9 (by decide)) | exact absurd (rfl : (0 : Int32) = 0) (by with_reducible exact c) | exact absurd True.intro (by with_reducible exact c) | exact False.elim (by with_reducible exact c) | (conv => whnf))
    refine sf_reckonV (by omega) hX (by omega) (fun f1 h1 => ?_)
    conv => whnf
    exact us_lp (by omega) (stF_XI hX h1) ((h1.2 6 13 (by omega) (by omega)).trans hb) hm n 0 _ _ (by omega) rfl (H _ _ (Or.inr ⟨m, hm9, rfl, p, h1, rfl⟩))
  · conv => whnf
    (refine ⟨fun c => ?_, fun c => ?_⟩ <;> first | ((have c9 : (1 : Int32) = 0 := by with_reducible exact c); exact absurd c9 (by decide)) | exact absurd (rfl : (0 : Int32) = 0) (by with_reducible exact c) | exact absurd True.intro (by with_reducible exact c) | exact False.elim (by with_reducible exact c) | (conv => whnf))
    exact H _ _ (Or.inl ⟨p, rfl, rfl⟩)
def lnq (p : Nat → Int32) (Q : Int32 → Prop) : Nat → Int32 → Prop
  | 0, _ => False
  | k + 1, u => ¬ u < 0 ∧ (Q u ∨ lnq p Q k (p u.toNatClampNeg))
theorem lnq_ex {p : Nat → Int32} {Q : Int32 → Prop} : ∀ (k : Nat) (u : Int32), lnq p Q k u ↔ ∃ y, Q y ∧ lnl p y k u
  | 0, u => ⟨fun z => False.elim z, fun ⟨y, _, z⟩ => False.elim z⟩
  | k + 1, u => by
    have ih := lnq_ex (p := p) (Q := Q) k (p u.toNatClampNeg)
    constructor
    · rintro ⟨h, q | q⟩
      · exact ⟨u, q, h, Or.inl rfl⟩
      · obtain ⟨y, hy, z⟩ := ih.mp q
        exact ⟨y, hy, h, Or.inr z⟩
    · rintro ⟨y, hy, h, q | q⟩
      · subst q
        exact ⟨h, Or.inl hy⟩
      · exact ⟨h, Or.inr (ih.mpr ⟨y, hy, q⟩)⟩
theorem lnl_in {f : Nat → Nat → Int32} {n : Nat} (hI : MI f) (hb : f 181 0 = nI n) (hm : n ≤ 40) {y : Int32} : ∀ (t : Nat) (u : Int32), t ≤ n → u.toInt < (t : Int) → lnl (fun j => f 183 j) y t u → ∃ o, o < t ∧ y = nI o
  | 0, u, _, _, z => False.elim z
  | t + 1, u, ht, hu, z => by
    obtain ⟨h, q⟩ := z
    obtain ⟨j, hj, rfl⟩ := par_lt hu h
    rcases q with q | q
    · exact ⟨j, hj, q.symm⟩
    · have hcl : (nI j).toNatClampNeg = j := nI_clamp (by omega)
      have q2 : lnl (fun j => f 183 j) y t (f 183 j) := by
        have q3 : lnl (fun j => f 183 j) y t (f 183 (nI j).toNatClampNeg) := q
        rw [hcl] at q3
        exact q3
      have hlt := par_lt' (hI n hm hb j (by omega)).2 (by omega)
      obtain ⟨o, ho, e⟩ := lnl_in hI hb hm t (f 183 j) (by omega) (by omega) q2
      exact ⟨o, by omega, e⟩
def UM (f : Nat → Nat → Int32) (day : Int32) (v i : Nat) : Prop := lnq (fun j => f 183 j) (fun u => ¬ (smp f day u v).1 = 1) i (f 183 i) ∧ (smp f day (nI i) v).1 = 1
set_option maxRecDepth 100000 in
set_option maxHeartbeats 4000000 in
theorem um_in {d L n p v : Nat} {f : Nat → Nat → Int32} {g : Nat → Nat → Int64} {a day : Int32} {P : Prop} {R : Option Value → mH → Prop} (hd : 1 ≤ d) (hv : v ≤ 60) (hI : MI f) (hb : f 181 0 = nI n) (hm : n ≤ 40) (hp : p < n) (HO1 : (P ∧ (smp f day (nI p) v).1 = 1) → ∀ (x' : Int32) (s1 s2 : Option Value), x' = nI (p + 1) → WPe pg_X11_unsure none (Run mtab d) R (m_drop pg_X11_unsure 11) [some (.ref 181), some (.int day), some (.int (nI v)), some (.int (a + 1)), some (.int x'), s1, s2] [] (shF L, f, g)) (HO0 : ¬ (P ∧ (smp f day (nI p) v).1 = 1) → ∀ (x' : Int32) (s1 s2 : Option Value), x' = nI (p + 1) → WPe pg_X11_unsure none (Run mtab d) R (m_drop pg_X11_unsure 11) [some (.ref 181), some (.int day), some (.int (nI v)), some (.int (a + 0)), some (.int x'), s1, s2] [] (shF L, f, g)) :
    ∀ (t : Nat) (o b : Int32), t ≤ n → o.toInt < (t : Int) → (b = 0 ∨ b = 1) → (P ↔ (¬ b = 0 ∨ lnq (fun j => f 183 j) (fun u => ¬ (smp f day u v).1 = 1) t o)) → WPe pg_X11_unsure none (Run mtab d) R (m_drop pg_X11_unsure 22) [some (.ref 181), some (.int day), some (.int (nI v)), some (.int a), some (.int (nI p)), some (.int b), some (.int o)] [] (shF L, f, g)
  | 0, o, b, ht, ho, hb1, hq => by
    have h0 : o < 0 := by
      rw [Int32.lt_iff_toInt_lt]
      have e0 : (0 : Int32).toInt = 0 := rfl
      omega
    have FW : ¬ lnq (fun j => f 183 j) (fun u => ¬ (smp f day u v).1 = 1) 0 o := fun z => z
    refine at_X11_unsure ?_
    conv => whnf
    refine ⟨fun c => ?_, fun c => absurd h0 c⟩
    · rcases hb1 with rfl | rfl
      · conv => whnf
        (refine ⟨fun c => ?_, fun c => ?_⟩ <;> first | ((have c9 : (1 : Int32) = 0 := by with_reducible exact c); exact absurd c9 (by decide)) | exact absurd (rfl : (0 : Int32) = 0) (by with_reducible exact c) | exact absurd True.intro (by with_reducible exact c) | exact False.elim (by with_reducible exact c) | (conv => whnf))
        exact HO0 (fun z => (hq.mp z.1).elim (fun w => w rfl) (fun w => FW w)) _ _ _ (nI_1 p)
      · conv => whnf
        (refine ⟨fun c => ?_, fun c => ?_⟩ <;> first | ((have c9 : (1 : Int32) = 0 := by with_reducible exact c); exact absurd c9 (by decide)) | exact absurd (rfl : (0 : Int32) = 0) (by with_reducible exact c) | exact absurd True.intro (by with_reducible exact c) | exact False.elim (by with_reducible exact c) | (conv => whnf))
        refine smf_stateOf (by omega) hv ?_
        conv => whnf
        refine ⟨fun c9 => ?_, fun c9 => ?_⟩
        · conv => whnf
          exact HO0 (fun z => c9 z.2) _ _ _ (nI_1 p)
        · conv => whnf
          exact HO1 ⟨hq.mpr (Or.inl (by decide)), c9⟩ _ _ _ (nI_1 p)
  | t + 1, o, b, ht, ho, hb1, hq => by
    refine at_X11_unsure ?_
    conv => whnf
    refine ⟨fun c => ?_, fun c0 => ?_⟩
    · have FW : ¬ lnq (fun j => f 183 j) (fun u => ¬ (smp f day u v).1 = 1) (t + 1) o := fun z => z.1 c
      rcases hb1 with rfl | rfl
      · conv => whnf
        (refine ⟨fun c => ?_, fun c => ?_⟩ <;> first | ((have c9 : (1 : Int32) = 0 := by with_reducible exact c); exact absurd c9 (by decide)) | exact absurd (rfl : (0 : Int32) = 0) (by with_reducible exact c) | exact absurd True.intro (by with_reducible exact c) | exact False.elim (by with_reducible exact c) | (conv => whnf))
        exact HO0 (fun z => (hq.mp z.1).elim (fun w => w rfl) (fun w => FW w)) _ _ _ (nI_1 p)
      · conv => whnf
        (refine ⟨fun c => ?_, fun c => ?_⟩ <;> first | ((have c9 : (1 : Int32) = 0 := by with_reducible exact c); exact absurd c9 (by decide)) | exact absurd (rfl : (0 : Int32) = 0) (by with_reducible exact c) | exact absurd True.intro (by with_reducible exact c) | exact False.elim (by with_reducible exact c) | (conv => whnf))
        refine smf_stateOf (by omega) hv ?_
        conv => whnf
        refine ⟨fun c9 => ?_, fun c9 => ?_⟩
        · conv => whnf
          exact HO0 (fun z => c9 z.2) _ _ _ (nI_1 p)
        · conv => whnf
          exact HO1 ⟨hq.mpr (Or.inl (by decide)), c9⟩ _ _ _ (nI_1 p)
    · obtain ⟨u, hu, rfl⟩ := par_lt ho c0
      have hcl : (nI u).toNatClampNeg = u := nI_clamp (by omega)
      have hpu := (hI n hm hb u (by omega)).2
      have hlt : (f 183 u).toInt < (t : Int) := by have := par_lt' hpu (by omega); omega
      have un : lnq (fun j => f 183 j) (fun u => ¬ (smp f day u v).1 = 1) (t + 1) (nI u) ↔ (¬ (smp f day (nI u) v).1 = 1 ∨ lnq (fun j => f 183 j) (fun u => ¬ (smp f day u v).1 = 1) t (f 183 u)) := by
        show (¬ nI u < 0 ∧ (¬ (smp f day (nI u) v).1 = 1 ∨ lnq (fun j => f 183 j) (fun u => ¬ (smp f day u v).1 = 1) t (f 183 (nI u).toNatClampNeg))) ↔ _
        rw [hcl]
        exact ⟨fun z => z.2, fun z => ⟨c0, z⟩⟩
      have on : ∀ b' : Int32, (b' = 0 ∨ b' = 1) → (P ↔ (¬ b' = 0 ∨ lnq (fun j => f 183 j) (fun u => ¬ (smp f day u v).1 = 1) t (f 183 u))) → WPe pg_X11_unsure none (Run mtab d) R (m_drop pg_X11_unsure 22) [some (.ref 181), some (.int day), some (.int (nI v)), some (.int a), some (.int (nI p)), some (.int b'), some (.int (f 183 u))] [] (shF L, f, g) := fun b' z1 z2 => um_in hd hv hI hb hm hp HO1 HO0 t _ b' (by omega) hlt z1 z2
      rcases hb1 with rfl | rfl
      · conv => whnf
        (refine ⟨fun c => ?_, fun c => ?_⟩ <;> first | ((have c9 : (1 : Int32) = 0 := by with_reducible exact c); exact absurd c9 (by decide)) | exact absurd (rfl : (0 : Int32) = 0) (by with_reducible exact c) | exact absurd True.intro (by with_reducible exact c) | exact False.elim (by with_reducible exact c) | (conv => whnf))
        refine smf_stateOf (by omega) hv ?_
        conv => whnf
        refine ⟨fun c2 => ?_, fun c2 => ?_⟩
        · conv => whnf
          refine ⟨vp_in_nI (by omega) (by decide), ?_⟩
          conv => whnf
          simp only [hcl]
          exact on 0 (Or.inl rfl) (hq.trans (or_congr Iff.rfl (un.trans ⟨fun z => z.resolve_left (fun w => w c2), Or.inr⟩)))
        · conv => whnf
          refine ⟨vp_in_nI (by omega) (by decide), ?_⟩
          conv => whnf
          simp only [hcl]
          exact on 1 (Or.inr rfl) ⟨fun _ => Or.inl (by decide), fun _ => hq.mpr (Or.inr (un.mpr (Or.inl c2)))⟩
      · conv => whnf
        (refine ⟨fun c => ?_, fun c => ?_⟩ <;> first | ((have c9 : (1 : Int32) = 0 := by with_reducible exact c); exact absurd c9 (by decide)) | exact absurd (rfl : (0 : Int32) = 0) (by with_reducible exact c) | exact absurd True.intro (by with_reducible exact c) | exact False.elim (by with_reducible exact c) | (conv => whnf))
        refine ⟨vp_in_nI (by omega) (by decide), ?_⟩
        conv => whnf
        simp only [hcl]
        exact on 1 (Or.inr rfl) ⟨fun _ => Or.inl (by decide), fun _ => hq.mpr (Or.inl (by decide))⟩
set_option maxRecDepth 100000 in
theorem um_lp {d L n v : Nat} {f : Nat → Nat → Int32} {g : Nat → Nat → Int64} {day : Int32} {R : Option Value → mH → Prop} (hd : 1 ≤ d) (hv : v ≤ 60) (hI : MI f) (hb : f 181 0 = nI n) (hm : n ≤ 40) :
    ∀ (k i : Nat) (x a : Int32) (s1 s2 : Option Value), i + k = n → x = nI i → R (some (.int (cntl (UM f day v) k i a))) (shF L, f, g) → WPe pg_X11_unsure none (Run mtab d) R (m_drop pg_X11_unsure 11) [some (.ref 181), some (.int day), some (.int (nI v)), some (.int a), some (.int x), s1, s2] [] (shF L, f, g)
  | 0, i, x, a, s1, s2, hi, hx, H => by
    have e : i = n := by omega
    subst hx
    subst e
    refine at_X11_unsure ?_
    conv => whnf
    simp only [hb]
    refine ⟨fun c => ?_, fun c => absurd (nI_le (Nat.le_refl _) (by omega)) c⟩
    conv => whnf
    exact H
  | k + 1, i, x, a, s1, s2, hi, hx, H => by
    subst hx
    have hcl : (nI i).toNatClampNeg = i := nI_clamp (by omega)
    refine at_X11_unsure ?_
    conv => whnf
    simp only [hb]
    refine ⟨fun c => absurd c (nI_ge (b := n) (by omega) (by omega)), fun c => ?_⟩
    conv => whnf
    refine ⟨vp_in_nI (by omega) (by decide), ?_⟩
    conv => whnf
    simp only [hcl]
    refine um_in (n := n) (p := i) (P := lnq (fun j => f 183 j) (fun u => ¬ (smp f day u v).1 = 1) i (f 183 i)) hd hv hI hb hm (by omega) (fun q x' s1 s2 hx' => ?_) (fun q x' s1 s2 hx' => ?_) i _ _ (by omega) (par_lt' (hI n hm hb i (by omega)).2 (by omega)) (Or.inl rfl) ⟨fun z => Or.inr z, fun z => z.elim (fun w => absurd rfl w) (fun w => w)⟩
    · exact um_lp hd hv hI hb hm k (i + 1) x' _ s1 s2 (by omega) hx' (by rw [cnt_y (P := UM f day v) (k := k) (i := i) (a := a) q] at H; exact H)
    · have e0 : a + 0 = a := Int32.add_zero a
      rw [e0]
      exact um_lp hd hv hI hb hm k (i + 1) x' _ s1 s2 (by omega) hx' (by rw [cnt_n (P := UM f day v) (k := k) (i := i) (a := a) q] at H; exact H)
def SM_unsure (n c : Nat) (f : Nat → Nat → Int32) (x1 x2 v : Int32) : Prop := (¬ asofw c x1 x2 ∧ v = -1) ∨ (∃ m, m ≤ c ∧ x2 = nI m ∧ asofw c x1 x2 ∧ v = cntl (UM f x1 m) n 0 0)
set_option maxRecDepth 100000 in
set_option maxHeartbeats 4000000 in
theorem smf_unsure {d L : Nat} {f : Nat → Nat → Int32} {g : Nat → Nat → Int64} {n c0 : Nat} {x1 x2 : Int32} {R : Option Value → mH → Prop} (hd : 3 ≤ d) (hI : MI f) (hb : f 181 0 = nI n) (hm : n ≤ 40) (hvb : f 181 48 = nI c0) (hvm : c0 ≤ 60) (H : ∀ v, SM_unsure n c0 f x1 x2 v → R (some (.int v)) (shF L, f, g)) : Run mtab d 230 [.ref 181, .int x1, .int x2] (shF L, f, g) R := by
  obtain ⟨d, rfl⟩ : ∃ e, d = e + 1 := ⟨d - 1, by omega⟩
  refine go_X11_unsure rfl ?_
  conv => whnf
  refine smf_isAsOf (by omega) hvb (fun p => ?_) (fun p => ?_)
  · obtain ⟨m, hm9, e⟩ := as_n hvm p
    subst e
    conv => whnf
    (refine ⟨fun c => ?_, fun c => ?_⟩ <;> first | ((have c9 : (1 : Int32) = 0 := by with_reducible exact c); exact absurd c9 (by decide)) | exact absurd (rfl : (0 : Int32) = 0) (by with_reducible exact c) | exact absurd True.intro (by with_reducible exact c) | exact False.elim (by with_reducible exact c) | (conv => whnf))
    exact um_lp (by omega) (by omega) hI hb hm n 0 _ _ _ _ (by omega) rfl (H _ (Or.inr ⟨m, hm9, rfl, p, rfl⟩))
  · conv => whnf
    (refine ⟨fun c => ?_, fun c => ?_⟩ <;> first | ((have c9 : (1 : Int32) = 0 := by with_reducible exact c); exact absurd c9 (by decide)) | exact absurd (rfl : (0 : Int32) = 0) (by with_reducible exact c) | exact absurd True.intro (by with_reducible exact c) | exact False.elim (by with_reducible exact c) | (conv => whnf))
    exact H _ (Or.inl ⟨p, rfl⟩)
theorem kx_unsure {n c : Nat} {f f1 : Nat → Nat → Int32} {x1 x2 v : Int32} (s : SX_unsure n c f f1 x1 x2 v) : kp [0] f f1 := by
  rcases s with ⟨_, _, rfl⟩ | ⟨m, _, _, _, h, _⟩
  · exact kp_refl _ _
  · exact stF_kp h
theorem XI_unsure {n c : Nat} {f f1 : Nat → Nat → Int32} {x1 x2 v : Int32} (hX : XI f) (s : SX_unsure n c f f1 x1 x2 v) : XI f1 := by
  rcases s with ⟨_, _, rfl⟩ | ⟨m, _, _, _, h, _⟩
  · exact hX
  · exact stF_XI hX h
theorem fin_unsure {n c : Nat} {f f1 : Nat → Nat → Int32} {x1 x2 v1 v2 : Int32} (hW : RW n f) (hI : MI f) (hV : RV c f) (s1 : SX_unsure n c f f1 x1 x2 v1) (s2 : SM_unsure n c f1 x1 x2 v2) : v1 = v2 := by
  have k1 := kx_unsure s1
  have hc := hV.1
  have hn := hW.1
  rcases s1 with ⟨q1, rfl, rfl⟩ | ⟨m, hm, e3, p, h, rfl⟩
  · rcases s2 with ⟨q2, rfl⟩ | ⟨m, hm, e3, p, rfl⟩
    · rfl
    · exact absurd p q1
  · rcases s2 with ⟨q2, rfl⟩ | ⟨m', hm', e3', p', rfl⟩
    · exact absurd p q2
    · have em : m = m' := (nI_eq (by omega) (by omega)).mp (e3.symm.trans e3')
      subst em
      refine cntl_eq n (fun i hi => ?_) n 0 0 (by omega)
      have e8 : f1 8 = f 8 := funext (fun j => k1 8 j rfl)
      have e183 : f1 183 = f 183 := funext (fun j => k1 183 j rfl)
      have est : ∀ o, o < n → f1 127 o = (smp f1 x1 (nI o) m).1 := fun o ho => by
        rw [(h.1 o (by omega)).1, smp_kp (fun i => k1 218 i rfl)]
        exact (st_eq hV x1 (nI o) m hm).1
      have hL : ∀ o, (LC f1 (nI o) i ↔ lnl (fun j => f1 183 j) (nI o) i (f1 183 i)) := fun o => by
        have := LC_LM hW (nI o) i hi
        unfold LC LM at this
        unfold LC
        rw [e8, e183]
        exact this
      unfold UM
      rw [lnq_ex, est i hi, and_comm]
      refine and_congr ?_ Iff.rfl
      constructor
      · rintro ⟨o, _, ho, h3, h4⟩
        exact ⟨nI o, by rw [← est o ho]; exact h3, (hL o).mp h4⟩
      · rintro ⟨y, hy, z⟩
        have z2 := z
        rw [e183] at z2
        obtain ⟨o, ho, e⟩ := lnl_in hI hW.2.2.1 hn i (f 183 i) (by omega) (par_lt' (hI n hn hW.2.2.1 i hi).2 (by omega)) z2
        subst e
        exact ⟨o, Nat.zero_le _, by omega, by rw [est o (by omega)]; exact hy, (hL o).mpr z⟩
