/-- the class at its tape: length m, place p, first fault q, S what is told of the kinds; the rest as in f0 -/
def cs (f0 : Nat → Nat → Int32) (m p : Nat) (q : Int32) (S : Nat → Nat → Int32) (f : Nat → Nat → Int32) : Prop := f 107 3 = nI m ∧ f 107 4 = nI p ∧ f 107 5 = q ∧ (∀ k t, k < 4 → t < 3 → f (114 + k) t = S k t) ∧ (∀ a i, ¬ a = 107 → ¬ (114 ≤ a ∧ a ≤ 117) → f a i = f0 a i)
theorem cs_p {f0 f : Nat → Nat → Int32} {m p p' : Nat} {q x : Int32} {S : Nat → Nat → Int32} (t : cs f0 m p q S f) (hx : x = nI p') : cs f0 m p' q S (m_ui f 107 4 x) := by
  obtain ⟨a, b, c, d, e⟩ := t
  refine ⟨?_, ?_, ?_, fun k t hk ht => ?_, fun a i h1 h2 => ?_⟩
  · rw [m_ui_o (by omega)]; exact a
  · rw [m_ui_s]; exact hx
  · rw [m_ui_o (by omega)]; exact c
  · rw [m_ui_o (by omega)]; exact d k t hk ht
  · rw [m_ui_o (by omega)]; exact e a i h1 h2
theorem cs_q {f0 f : Nat → Nat → Int32} {m p : Nat} {q x : Int32} {S : Nat → Nat → Int32} (t : cs f0 m p q S f) : cs f0 m p x S (m_ui f 107 5 x) := by
  obtain ⟨a, b, c, d, e⟩ := t
  refine ⟨?_, ?_, ?_, fun k t hk ht => ?_, fun a i h1 h2 => ?_⟩
  · rw [m_ui_o (by omega)]; exact a
  · rw [m_ui_o (by omega)]; exact b
  · rw [m_ui_s]
  · rw [m_ui_o (by omega)]; exact d k t hk ht
  · rw [m_ui_o (by omega)]; exact e a i h1 h2
theorem cs_u {f0 f : Nat → Nat → Int32} {m p j : Nat} {q a b c : Int32} {S : Nat → Nat → Int32} (t : cs f0 m p q S f) (hj : j < 4) : cs f0 m p q (updS S j a b c) (m_ui (m_ui (m_ui f (114 + j) 0 a) (114 + j) 1 b) (114 + j) 2 c) := by
  obtain ⟨a1, b1, c1, d, e⟩ := t
  refine ⟨?_, ?_, ?_, fun k t hk ht => ?_, fun a i h1 h2 => ?_⟩
  · rw [m_ui_o (by omega), m_ui_o (by omega), m_ui_o (by omega)]; exact a1
  · rw [m_ui_o (by omega), m_ui_o (by omega), m_ui_o (by omega)]; exact b1
  · rw [m_ui_o (by omega), m_ui_o (by omega), m_ui_o (by omega)]; exact c1
  · unfold updS
    by_cases z : k = j
    · subst z
      rw [if_pos rfl]
      have ht3 : t = 0 ∨ t = 1 ∨ t = 2 := by omega
      rcases ht3 with rfl | rfl | rfl
      · rw [m_ui_o (by omega), m_ui_o (by omega), m_ui_s, if_pos rfl]
      · rw [m_ui_o (by omega), m_ui_s, if_neg (by decide), if_pos rfl]
      · rw [m_ui_s, if_neg (by decide), if_neg (by decide)]
    · rw [if_neg z, m_ui_o (by omega), m_ui_o (by omega), m_ui_o (by omega)]
      exact d k t hk ht
  · rw [m_ui_o (by omega), m_ui_o (by omega), m_ui_o (by omega)]; exact e a i h1 h2
theorem cs_t {f0 f : Nat → Nat → Int32} {m p j : Nat} {q : Int32} {S : Nat → Nat → Int32} (t : cs f0 m p q S f) (hj : j < m) (hm : m ≤ 50) : f 118 (nI j).toNatClampNeg = tk f0 118 m j := by
  rw [nI_clamp (by omega), t.2.2.2.2 118 j (by omega) (by omega), tk_at hj]
theorem rf_ix {d : Nat} {x : Int32} {h : mH} {R : Option Value → mH → Prop} (hd : 5 ≤ d) (H : R (some (.int (m_let x))) h) : Run mtab d 2 [.ref 4, .int x] h R := by
  obtain ⟨d, rfl⟩ : ∃ e, d = e + 1 := ⟨d - 1, by omega⟩
  exact (⟨by omega, H⟩ : 4 ≤ d ∧ R (some (.int (m_let x))) h)
set_option maxRecDepth 100000 in
set_option maxHeartbeats 4000000 in
theorem sf_blame {d L : Nat} {f : Nat → Nat → Int32} {g : Nat → Nat → Int64} {m p : Nat} {f0 : Nat → Nat → Int32} {q x : Int32} {S : Nat → Nat → Int32} {R : Option Value → mH → Prop} (hd : 1 ≤ d) (t : cs f0 m p q S f) (H : ∀ f', cs f0 m p (bl q x) S f' → R none (shF L, f', g)) : Run mtab d 62 [.ref 107, .int x] (shF L, f, g) R := by
  obtain ⟨d, rfl⟩ : ∃ e, d = e + 1 := ⟨d - 1, by omega⟩
  refine go_X6_blame rfl ?_
  conv => whnf
  simp only [t.2.2.1]
  refine ⟨fun c => ?_, fun c => ?_⟩
  · conv => whnf
    exact H f (by rw [bl_n c]; exact t)
  · conv => whnf
    exact H _ (by
      have e : bl q x = x := if_pos c
      rw [e]
      exact cs_q t)
set_option maxRecDepth 100000 in
theorem sk_lp {d L m : Nat} {f0 : Nat → Nat → Int32} {q : Int32} {S : Nat → Nat → Int32} {g : Nat → Nat → Int64} {R : Option Value → mH → Prop} (hm : m ≤ 50) :
    ∀ (k p : Nat) (f : Nat → Nat → Int32), p + k = m → cs f0 m p q S f → (∀ f', cs f0 m (skl (tk f0 118 m) k p) q S f' → R none (shF L, f', g)) → WPe pg_X6_skipBlanks none (Run mtab d) R (m_drop pg_X6_skipBlanks 0) [some (.ref 107)] [] (shF L, f, g)
  | 0, p, f, hk, t, H => by
    refine at_X6_skipBlanks ?_
    conv => whnf
    simp only [t.1, t.2.1]
    refine ⟨fun c => ?_, fun c => absurd (nI_le (by omega) (by omega)) c⟩
    conv => whnf
    exact H f t
  | k + 1, p, f, hk, t, H => by
    have et := cs_t t (j := p) (by omega) hm
    refine at_X6_skipBlanks ?_
    conv => whnf
    simp only [t.1, t.2.1]
    refine ⟨fun c => absurd c (nI_ge (by omega) (by omega)), fun c => ?_⟩
    conv => whnf
    simp only [t.2.1]
    refine ⟨vp_in_nI (by omega) (by decide), ?_⟩
    conv => whnf
    simp only [et]
    refine ⟨fun c' => ?_, fun c' => ?_⟩
    · conv => whnf
      have e : skl (tk f0 118 m) (k + 1) p = p := if_neg c'
      rw [e] at H
      exact H f t
    · conv => whnf
      simp only [t.2.1]
      have e : skl (tk f0 118 m) (k + 1) p = skl (tk f0 118 m) k (p + 1) := if_pos c'
      rw [e] at H
      exact sk_lp hm k (p + 1) _ (by omega) (cs_p t (nI_1 p)) H
theorem sf_skip {d L m p : Nat} {f0 f : Nat → Nat → Int32} {g : Nat → Nat → Int64} {q : Int32} {S : Nat → Nat → Int32} {R : Option Value → mH → Prop} (hd : 1 ≤ d) (hm : m ≤ 50) (hp : p ≤ m) (t : cs f0 m p q S f) (H : ∀ f', cs f0 m (sk (tk f0 118 m) m p) q S f' → R none (shF L, f', g)) : Run mtab d 61 [.ref 107] (shF L, f, g) R := by
  obtain ⟨d, rfl⟩ : ∃ e, d = e + 1 := ⟨d - 1, by omega⟩
  refine run_wp (k := 55) (M := M_X6_skipBlanks) rfl rfl ?_
  have := sk_lp (d := d) (L := L) (g := g) hm (m - p) p f (by omega) t H
  rw [m_drop_0] at this
  exact this
set_option maxRecDepth 100000 in
set_option maxHeartbeats 4000000 in
theorem sf_readSign {d L : Nat} {f : Nat → Nat → Int32} {g : Nat → Nat → Int64} {m p : Nat} {f0 : Nat → Nat → Int32} {q : Int32} {S : Nat → Nat → Int32} {x : Int32} {R : Option Value → mH → Prop} (hd : 3 ≤ d) (hm : m ≤ 50) (hp : p ≤ m) (t : cs f0 m p q S f) (H : ∀ f', cs f0 m (sgC (tk f0 118 m) m x p q).1 (sgC (tk f0 118 m) m x p q).2 S f' → R none (shF L, f', g)) : Run mtab d 59 [.ref 107, .int x] (shF L, f, g) R := by
  obtain ⟨d, rfl⟩ : ∃ e, d = e + 1 := ⟨d - 1, by omega⟩
  refine go_X6_readSign rfl ?_
  conv => whnf
  refine sf_skip (by omega) hm hp t (fun f1 t1 => ?_)
  have hr := sk_le (T := (tk f0 118 m)) hp
  have u1 := t1.1
  have u2 := t1.2.1
  conv => whnf
  simp only [u1, u2]
  refine ⟨fun c => ?_, fun c => ?_⟩
  · conv => whnf
    simp only [u2]
    have e : sgC (tk f0 118 m) m x p q = (sk (tk f0 118 m) m p, bl q (nI (sk (tk f0 118 m) m p))) := if_neg (fun z => absurd c (nI_ge z.1 (by omega)))
    rw [e] at H
    refine sf_blame (by omega) t1 (fun f2 t2 => ?_)
    conv => whnf
    exact H f2 t2
  · have hl : sk (tk f0 118 m) m p < m := by
      rw [nI_leI (by omega) (by omega)] at c
      omega
    have et := cs_t t1 hl hm
    conv => whnf
    simp only [u2]
    refine ⟨vp_in_nI (by omega) (by decide), ?_⟩
    conv => whnf
    simp only [et]
    refine ⟨fun c2 => ?_, fun c2 => ?_⟩
    · conv => whnf
      simp only [u2]
      have e : sgC (tk f0 118 m) m x p q = (sk (tk f0 118 m) m p, bl q (nI (sk (tk f0 118 m) m p))) := if_neg (fun z => c2 z.2)
      rw [e] at H
      refine sf_blame (by omega) t1 (fun f2 t2 => ?_)
      conv => whnf
      exact H f2 t2
    · conv => whnf
      simp only [u2]
      have e : sgC (tk f0 118 m) m x p q = (sk (tk f0 118 m) m p + 1, q) := if_pos ⟨hl, c2⟩
      rw [e] at H
      exact H _ (cs_p t1 (nI_1 _))
set_option maxRecDepth 100000 in
set_option maxHeartbeats 4000000 in
theorem sf_readKind {d L : Nat} {f : Nat → Nat → Int32} {g : Nat → Nat → Int64} {m p : Nat} {f0 : Nat → Nat → Int32} {q : Int32} {S : Nat → Nat → Int32} {R : Option Value → mH → Prop} (hd : 6 ≤ d) (hm : m ≤ 50) (hp : p ≤ m) (t : cs f0 m p q S f) (H : ∀ f', cs f0 m (kdC (tk f0 118 m) m p q).2.1 (kdC (tk f0 118 m) m p q).2.2 S f' → R (some (.int (kdC (tk f0 118 m) m p q).1)) (shF L, f', g)) : Run mtab d 58 [.ref 107] (shF L, f, g) R := by
  obtain ⟨d, rfl⟩ : ∃ e, d = e + 1 := ⟨d - 1, by omega⟩
  refine go_X6_readKind rfl ?_
  conv => whnf
  refine sf_skip (by omega) hm hp t (fun f1 t1 => ?_)
  have hr := sk_le (T := (tk f0 118 m)) hp
  have u1 := t1.1
  have u2 := t1.2.1
  conv => whnf
  simp only [u1, u2]
  refine ⟨fun c => ?_, fun c => ?_⟩
  · conv => whnf
    refine ⟨fun c => absurd c (by decide), fun _ => ?_⟩
    conv => whnf
    simp only [u2]
    have e : kdC (tk f0 118 m) m p q = (-1, sk (tk f0 118 m) m p, bl q (nI (sk (tk f0 118 m) m p))) := if_neg (fun z => absurd c (nI_ge z.1 (by omega)))
    rw [e] at H
    refine sf_blame (by omega) t1 (fun f2 t2 => ?_)
    conv => whnf
    exact H f2 t2
  · have hl : sk (tk f0 118 m) m p < m := by
      rw [nI_leI (by omega) (by omega)] at c
      omega
    have et := cs_t t1 hl hm
    conv => whnf
    simp only [u2]
    refine ⟨vp_in_nI (by omega) (by decide), ?_⟩
    conv => whnf
    simp only [et]
    refine rf_ix (by omega) ?_
    conv => whnf
    refine ⟨fun c2 => ?_, fun c2 => ?_⟩
    · have hn : ¬ m_let ((tk f0 118 m) (sk (tk f0 118 m) m p)) = -1 := fun z => by
        rw [z] at c2
        exact absurd c2 (by decide)
      conv => whnf
      simp only [u2]
      have e : kdC (tk f0 118 m) m p q = (m_let ((tk f0 118 m) (sk (tk f0 118 m) m p)), sk (tk f0 118 m) m p + 1, q) := if_pos ⟨hl, hn⟩
      rw [e] at H
      exact H _ (cs_p t1 (nI_1 _))
    · have hn : m_let ((tk f0 118 m) (sk (tk f0 118 m) m p)) = -1 := by
        rcases let_cases ((tk f0 118 m) (sk (tk f0 118 m) m p)) with z | z | z | z | z
        · exact z
        all_goals (rw [z] at c2; exact absurd (by decide) c2)
      rw [hn]
      conv => whnf
      simp only [u2]
      have e : kdC (tk f0 118 m) m p q = (-1, sk (tk f0 118 m) m p, bl q (nI (sk (tk f0 118 m) m p))) := if_neg (fun z => z.2 hn)
      rw [e] at H
      refine sf_blame (by omega) t1 (fun f2 t2 => ?_)
      conv => whnf
      exact H f2 t2
set_option maxRecDepth 100000 in
set_option maxHeartbeats 4000000 in
theorem nc_lp {d L m r : Nat} {f0 : Nat → Nat → Int32} {g : Nat → Nat → Int64} {x y q : Int32} {S : Nat → Nat → Int32} {R : Option Value → mH → Prop} (hd : 2 ≤ d) (hm : m ≤ 50) :
    ∀ (k p : Nat) (a : Int32) (f : Nat → Nat → Int32), p + k = m → cs f0 m p q S f → (∀ f', cs f0 m (nel (tk f0 118 m) k p) (if x ≤ nvl Fc (tk f0 118 m) k p a ∧ nvl Fc (tk f0 118 m) k p a ≤ y then q else bl q (nI r)) S f' → R (some (.int (nvl Fc (tk f0 118 m) k p a))) (shF L, f', g)) → WPe pg_X6_readNumber none (Run mtab d) R (m_drop pg_X6_readNumber 7) [some (.ref 107), some (.int x), some (.int y), some (.int (nI r)), some (.int a)] [] (shF L, f, g)
  | 0, p, a, f, hk, t, H => by
    refine at_X6_readNumber ?_
    conv => whnf
    simp only [t.1, t.2.1]
    refine ⟨fun c => ?_, fun c => absurd (nI_le (by omega) (by omega)) c⟩
    conv => whnf
    have H2 : ∀ f', cs f0 m p (if x ≤ a ∧ a ≤ y then q else bl q (nI r)) S f' → R (some (.int a)) (shF L, f', g) := H
    refine ct_isWithin (by omega) (fun pp => ?_) (fun pp => ?_)
    · conv => whnf
      (refine ⟨fun c => ?_, fun c => ?_⟩ <;> first | ((have c9 : (1 : Int32) = 0 := by with_reducible exact c); exact absurd c9 (by decide)) | exact absurd (rfl : (0 : Int32) = 0) (by with_reducible exact c) | exact absurd True.intro (by with_reducible exact c) | exact False.elim (by with_reducible exact c) | (conv => whnf))
      have e : (if x ≤ a ∧ a ≤ y then q else bl q (nI r)) = q := if_pos pp
      rw [e] at H2
      exact H2 f t
    · conv => whnf
      (refine ⟨fun c => ?_, fun c => ?_⟩ <;> first | ((have c9 : (1 : Int32) = 0 := by with_reducible exact c); exact absurd c9 (by decide)) | exact absurd (rfl : (0 : Int32) = 0) (by with_reducible exact c) | exact absurd True.intro (by with_reducible exact c) | exact False.elim (by with_reducible exact c) | (conv => whnf))
      have e : (if x ≤ a ∧ a ≤ y then q else bl q (nI r)) = bl q (nI r) := if_neg pp
      rw [e] at H2
      refine sf_blame (by omega) t (fun f2 t2 => ?_)
      conv => whnf
      exact H2 f2 t2
  | k + 1, p, a, f, hk, t, H => by
    have et := cs_t t (j := p) (by omega) hm
    refine at_X6_readNumber ?_
    conv => whnf
    simp only [t.1, t.2.1]
    refine ⟨fun c => absurd c (nI_ge (by omega) (by omega)), fun cc => ?_⟩
    conv => whnf
    simp only [t.2.1]
    refine ⟨vp_in_nI (by omega) (by decide), ?_⟩
    conv => whnf
    simp only [et]
    refine ct_isWithin (by omega) (fun pp => ?_) (fun pp => ?_)
    · conv => whnf
      (refine ⟨fun c => ?_, fun c => ?_⟩ <;> first | ((have c9 : (1 : Int32) = 0 := by with_reducible exact c); exact absurd c9 (by decide)) | exact absurd (rfl : (0 : Int32) = 0) (by with_reducible exact c) | exact absurd True.intro (by with_reducible exact c) | exact False.elim (by with_reducible exact c) | (conv => whnf))
      simp only [t.2.1]
      refine ⟨vp_in_nI (by omega) (by decide), ?_⟩
      conv => whnf
      simp only [et]
      refine rp_min (by omega) ?_
      conv => whnf
      simp only [t.2.1]
      have e1 : nvl Fc (tk f0 118 m) (k + 1) p a = nvl Fc (tk f0 118 m) k (p + 1) (Fc a ((tk f0 118 m) p)) := if_pos pp
      have e2 : nel (tk f0 118 m) (k + 1) p = nel (tk f0 118 m) k (p + 1) := if_pos pp
      rw [e1, e2] at H
      exact nc_lp hd hm k (p + 1) _ _ (by omega) (cs_p t (nI_1 p)) H
    · have e1 : nvl Fc (tk f0 118 m) (k + 1) p a = a := if_neg pp
      have e2 : nel (tk f0 118 m) (k + 1) p = p := if_neg pp
      rw [e1, e2] at H
      conv => whnf
      (refine ⟨fun c => ?_, fun c => ?_⟩ <;> first | ((have c9 : (1 : Int32) = 0 := by with_reducible exact c); exact absurd c9 (by decide)) | exact absurd (rfl : (0 : Int32) = 0) (by with_reducible exact c) | exact absurd True.intro (by with_reducible exact c) | exact False.elim (by with_reducible exact c) | (conv => whnf))
      have H2 : ∀ f', cs f0 m p (if x ≤ a ∧ a ≤ y then q else bl q (nI r)) S f' → R (some (.int a)) (shF L, f', g) := H
      refine ct_isWithin (by omega) (fun pp => ?_) (fun pp => ?_)
      · conv => whnf
        (refine ⟨fun c => ?_, fun c => ?_⟩ <;> first | ((have c9 : (1 : Int32) = 0 := by with_reducible exact c); exact absurd c9 (by decide)) | exact absurd (rfl : (0 : Int32) = 0) (by with_reducible exact c) | exact absurd True.intro (by with_reducible exact c) | exact False.elim (by with_reducible exact c) | (conv => whnf))
        have e : (if x ≤ a ∧ a ≤ y then q else bl q (nI r)) = q := if_pos pp
        rw [e] at H2
        exact H2 f t
      · conv => whnf
        (refine ⟨fun c => ?_, fun c => ?_⟩ <;> first | ((have c9 : (1 : Int32) = 0 := by with_reducible exact c); exact absurd c9 (by decide)) | exact absurd (rfl : (0 : Int32) = 0) (by with_reducible exact c) | exact absurd True.intro (by with_reducible exact c) | exact False.elim (by with_reducible exact c) | (conv => whnf))
        have e : (if x ≤ a ∧ a ≤ y then q else bl q (nI r)) = bl q (nI r) := if_neg pp
        rw [e] at H2
        refine sf_blame (by omega) t (fun f2 t2 => ?_)
        conv => whnf
        exact H2 f2 t2
set_option maxRecDepth 100000 in
set_option maxHeartbeats 4000000 in
theorem sf_readNumber {d L : Nat} {f : Nat → Nat → Int32} {g : Nat → Nat → Int64} {m p : Nat} {f0 : Nat → Nat → Int32} {q : Int32} {S : Nat → Nat → Int32} {x y : Int32} {R : Option Value → mH → Prop} (hd : 4 ≤ d) (hm : m ≤ 50) (hp : p ≤ m) (t : cs f0 m p q S f) (H : ∀ f', cs f0 m (nmC (tk f0 118 m) m x y p q).2.1 (nmC (tk f0 118 m) m x y p q).2.2 S f' → R (some (.int (nmC (tk f0 118 m) m x y p q).1)) (shF L, f', g)) : Run mtab d 60 [.ref 107, .int x, .int y] (shF L, f, g) R := by
  obtain ⟨d, rfl⟩ : ∃ e, d = e + 1 := ⟨d - 1, by omega⟩
  refine go_X6_readNumber rfl ?_
  conv => whnf
  refine sf_skip (by omega) hm hp t (fun f1 t1 => ?_)
  have hr := sk_le (T := (tk f0 118 m)) hp
  have u2 := t1.2.1
  conv => whnf
  simp only [u2]
  exact nc_lp (by omega) hm (m - sk (tk f0 118 m) m p) (sk (tk f0 118 m) m p) _ _ (by omega) t1 H
set_option maxRecDepth 100000 in
set_option maxHeartbeats 4000000 in
theorem sf_readClause {d L : Nat} {f : Nat → Nat → Int32} {g : Nat → Nat → Int64} {m p : Nat} {f0 : Nat → Nat → Int32} {q : Int32} {S : Nat → Nat → Int32} {R : Option Value → mH → Prop} (hd : 7 ≤ d) (hm : m ≤ 50) (hp : p ≤ m) (t : cs f0 m p q S f) (H : ∀ f', cs f0 m (c6 (tk f0 118 m) m p q).2.1 (c6 (tk f0 118 m) m p q).2.2 (sC (tk f0 118 m) m p q S) f' → R none (shF L, f', g)) : Run mtab d 57 [.ref 107] (shF L, f, g) R := by
  obtain ⟨d, rfl⟩ : ∃ e, d = e + 1 := ⟨d - 1, by omega⟩
  refine go_X6_readClause rfl ?_
  conv => whnf
  refine sf_readKind (by omega) hm hp t (fun f1 t1 => ?_)
  have h1 : (kdC (tk f0 118 m) m p q).2.1 ≤ m := kdC_le hp
  conv => whnf
  refine sf_readNumber (by omega) hm h1 t1 (fun f2 t2 => ?_)
  have h2 : (c2 (tk f0 118 m) m p q).2.1 ≤ m := nmC_le h1
  conv => whnf
  refine sf_readSign (by omega) hm h2 t2 (fun f3 t3 => ?_)
  have h3 : (c3 (tk f0 118 m) m p q).1 ≤ m := sgC_le h2
  conv => whnf
  refine sf_readNumber (by omega) hm h3 t3 (fun f4 t4 => ?_)
  have h4 : (c4 (tk f0 118 m) m p q).2.1 ≤ m := nmC_le h3
  conv => whnf
  refine sf_readSign (by omega) hm h4 t4 (fun f5 t5 => ?_)
  have h5 : (c5 (tk f0 118 m) m p q).1 ≤ m := sgC_le h4
  conv => whnf
  refine sf_readNumber (by omega) hm h5 t5 (fun f6 t6 => ?_)
  have t7 : cs f0 m (c6 (tk f0 118 m) m p q).2.1 (c6 (tk f0 118 m) m p q).2.2 S f6 := t6
  have hv : inr (-1) 3 (kdC (tk f0 118 m) m p q).1 := by
    unfold kdC
    by_cases z : sk (tk f0 118 m) m p < m ∧ ¬ m_let ((tk f0 118 m) (sk (tk f0 118 m) m p)) = -1
    · rw [if_pos z]
      rcases let_cases ((tk f0 118 m) (sk (tk f0 118 m) m p)) with w | w | w | w | w
      all_goals (show inr (-1) 3 (m_let _); rw [w]; unfold inr; decide)
    · rw [if_neg z]
      show inr (-1) 3 (-1)
      unfold inr
      decide
  have H2 : ∀ v : Int32, (kdC (tk f0 118 m) m p q).1 = v → ∀ f', cs f0 m (c6 (tk f0 118 m) m p q).2.1 (c6 (tk f0 118 m) m p q).2.2 (if v < 0 then S else updS S v.toNatClampNeg (c2 (tk f0 118 m) m p q).1 (c4 (tk f0 118 m) m p q).1 (c6 (tk f0 118 m) m p q).1) f' → R none (shF L, f', g) := fun v hv => by
    subst hv
    exact H
  conv => whnf
  generalize hk : (kdC (tk f0 118 m) m p q).1 = v at hv ⊢
  have H3 := H2 v hk
  rcases inr_m13 hv with e | e | e | e | e
  · subst e
    conv => whnf
    refine ⟨fun _ => ?_, fun c => absurd (by decide) c⟩
    conv => whnf
    exact H3 f6 t7
  · subst e
    conv => whnf
    refine ⟨fun c => absurd c (by decide), fun _ => ?_⟩
    conv => whnf
    refine ⟨⟨by unfold vp_in; decide, by decide, by decide⟩, ?_⟩
    conv => whnf
    refine ⟨by unfold vp_in; decide, ?_⟩
    conv => whnf
    refine ⟨⟨by unfold vp_in; decide, by decide, by decide⟩, ?_⟩
    conv => whnf
    refine ⟨by unfold vp_in; decide, ?_⟩
    conv => whnf
    refine ⟨⟨by unfold vp_in; decide, by decide, by decide⟩, ?_⟩
    conv => whnf
    refine ⟨by unfold vp_in; decide, ?_⟩
    conv => whnf
    exact H3 _ (cs_u (j := 0) t7 (by decide))
  · subst e
    conv => whnf
    refine ⟨fun c => absurd c (by decide), fun _ => ?_⟩
    conv => whnf
    refine ⟨⟨by unfold vp_in; decide, by decide, by decide⟩, ?_⟩
    conv => whnf
    refine ⟨by unfold vp_in; decide, ?_⟩
    conv => whnf
    refine ⟨⟨by unfold vp_in; decide, by decide, by decide⟩, ?_⟩
    conv => whnf
    refine ⟨by unfold vp_in; decide, ?_⟩
    conv => whnf
    refine ⟨⟨by unfold vp_in; decide, by decide, by decide⟩, ?_⟩
    conv => whnf
    refine ⟨by unfold vp_in; decide, ?_⟩
    conv => whnf
    exact H3 _ (cs_u (j := 1) t7 (by decide))
  · subst e
    conv => whnf
    refine ⟨fun c => absurd c (by decide), fun _ => ?_⟩
    conv => whnf
    refine ⟨⟨by unfold vp_in; decide, by decide, by decide⟩, ?_⟩
    conv => whnf
    refine ⟨by unfold vp_in; decide, ?_⟩
    conv => whnf
    refine ⟨⟨by unfold vp_in; decide, by decide, by decide⟩, ?_⟩
    conv => whnf
    refine ⟨by unfold vp_in; decide, ?_⟩
    conv => whnf
    refine ⟨⟨by unfold vp_in; decide, by decide, by decide⟩, ?_⟩
    conv => whnf
    refine ⟨by unfold vp_in; decide, ?_⟩
    conv => whnf
    exact H3 _ (cs_u (j := 2) t7 (by decide))
  · subst e
    conv => whnf
    refine ⟨fun c => absurd c (by decide), fun _ => ?_⟩
    conv => whnf
    refine ⟨⟨by unfold vp_in; decide, by decide, by decide⟩, ?_⟩
    conv => whnf
    refine ⟨by unfold vp_in; decide, ?_⟩
    conv => whnf
    refine ⟨⟨by unfold vp_in; decide, by decide, by decide⟩, ?_⟩
    conv => whnf
    refine ⟨by unfold vp_in; decide, ?_⟩
    conv => whnf
    refine ⟨⟨by unfold vp_in; decide, by decide, by decide⟩, ?_⟩
    conv => whnf
    refine ⟨by unfold vp_in; decide, ?_⟩
    conv => whnf
    exact H3 _ (cs_u (j := 3) t7 (by decide))
set_option maxRecDepth 100000 in
set_option maxHeartbeats 4000000 in
theorem cc_lp {d L m : Nat} {f0 : Nat → Nat → Int32} {g : Nat → Nat → Int64} {R : Option Value → mH → Prop} (hd : 7 ≤ d) (hm : m ≤ 50) :
    ∀ (k i : Nat) (x : Int32) (p : Nat) (q : Int32) (S : Nat → Nat → Int32) (f : Nat → Nat → Int32), i + k = 5 → x = nI i → p ≤ m → cs f0 m p q S f → (∀ f' p', p' ≤ m → cs f0 m p' (clsC (tk f0 118 m) m k i p q S).2.1 (clsC (tk f0 118 m) m k i p q S).2.2 f' → R (some (.int (clsC (tk f0 118 m) m k i p q S).1)) (shF L, f', g)) → WPe pg_X6_readClauses none (Run mtab d) R (m_drop pg_X6_readClauses 2) [some (.ref 107), some (.int x)] [] (shF L, f, g)
  | 0, i, x, p, q, S, f, hk, hx, hp, t, H => by
    have e : i = 5 := by omega
    subst hx
    subst e
    refine at_X6_readClauses ?_
    conv => whnf
    refine ⟨fun c => ?_, fun c => absurd (by decide) c⟩
    conv => whnf
    exact H f p hp t
  | k + 1, i, x, p, q, S, f, hk, hx, hp, t, H => by
    subst hx
    refine at_X6_readClauses ?_
    conv => whnf
    refine ⟨fun c => absurd c (nI_nlt (a := 4) (b := i) (by omega) (by omega)), fun c => ?_⟩
    conv => whnf
    refine sf_readClause (by omega) hm hp t (fun f1 t1 => ?_)
    have h6 : (c6 (tk f0 118 m) m p q).2.1 ≤ m := nmC_le (sgC_le (nmC_le (sgC_le (nmC_le (kdC_le hp)))))
    conv => whnf
    refine sf_skip (by omega) hm h6 t1 (fun f2 t2 => ?_)
    have hr := sk_le (T := (tk f0 118 m)) h6
    have u1 := t2.1
    have u2 := t2.2.1
    have u3 := t2.2.2.1
    conv => whnf
    simp only [u3]
    have stop : (¬ (c6 (tk f0 118 m) m p q).2.2 = -1 ∨ sk (tk f0 118 m) m (c6 (tk f0 118 m) m p q).2.1 = m) → R (some (.int (nI i))) (shF L, f2, g) := fun z => by
      have e : (clsC (tk f0 118 m) m (k + 1) i p q S) = (nI i, (c6 (tk f0 118 m) m p q).2.2, sC (tk f0 118 m) m p q S) := if_pos z
      rw [e] at H
      exact H f2 _ hr.2 t2
    refine ⟨fun c1 => ?_, fun c1 => ?_⟩
    · conv => whnf
      exact stop (Or.inl c1)
    · conv => whnf
      simp only [u1, u2]
      refine ⟨fun c2 => ?_, fun c2 => ?_⟩
      · have hne : ¬ (¬ (c6 (tk f0 118 m) m p q).2.2 = -1 ∨ sk (tk f0 118 m) m (c6 (tk f0 118 m) m p q).2.1 = m) := fun z => z.elim (fun w => w c1) (fun w => c2 (by rw [w]))
        have e9 : clsC (tk f0 118 m) m (k + 1) i p q S = clsC (tk f0 118 m) m k (i + 1) (sgC (tk f0 118 m) m 59 (sk (tk f0 118 m) m (c6 (tk f0 118 m) m p q).2.1) (if i = 4 then bl (c6 (tk f0 118 m) m p q).2.2 (nI (sk (tk f0 118 m) m (c6 (tk f0 118 m) m p q).2.1)) else (c6 (tk f0 118 m) m p q).2.2)).1 (sgC (tk f0 118 m) m 59 (sk (tk f0 118 m) m (c6 (tk f0 118 m) m p q).2.1) (if i = 4 then bl (c6 (tk f0 118 m) m p q).2.2 (nI (sk (tk f0 118 m) m (c6 (tk f0 118 m) m p q).2.1)) else (c6 (tk f0 118 m) m p q).2.2)).2 (sC (tk f0 118 m) m p q S) := if_neg hne
        rw [e9] at H
        conv => whnf
        refine ⟨fun c3 => ?_, fun c3 => ?_⟩
        · have i4 : ¬ i = 4 := fun z => c3 (by rw [z]; rfl)
          rw [if_neg i4] at H
          conv => whnf
          refine sf_readSign (by omega) hm hr.2 t2 (fun f4 t4 => ?_)
          conv => whnf
          exact cc_lp hd hm k (i + 1) _ _ _ _ f4 (by omega) (nI_1 i) (sgC_le hr.2) t4 H
        · have i4 : i = 4 := (nI_eq (b := 4) (by omega) (by decide)).mp c3
          rw [if_pos i4] at H
          conv => whnf
          simp only [u2]
          refine sf_blame (by omega) t2 (fun f3 t3 => ?_)
          conv => whnf
          refine sf_readSign (by omega) hm hr.2 t3 (fun f4 t4 => ?_)
          conv => whnf
          exact cc_lp hd hm k (i + 1) _ _ _ _ f4 (by omega) (nI_1 i) (sgC_le hr.2) t4 H
      · conv => whnf
        exact stop (Or.inr ((nI_eq (by omega) (by omega)).mp c2))
set_option maxRecDepth 100000 in
set_option maxHeartbeats 4000000 in
theorem sf_readClauses {d L : Nat} {f : Nat → Nat → Int32} {g : Nat → Nat → Int64} {m p : Nat} {f0 : Nat → Nat → Int32} {q : Int32} {S : Nat → Nat → Int32} {R : Option Value → mH → Prop} (hd : 8 ≤ d) (hm : m ≤ 50) (hp : p ≤ m) (t : cs f0 m p q S f) (H : ∀ f' p', p' ≤ m → cs f0 m p' (clsC (tk f0 118 m) m 4 1 p q S).2.1 (clsC (tk f0 118 m) m 4 1 p q S).2.2 f' → R (some (.int (clsC (tk f0 118 m) m 4 1 p q S).1)) (shF L, f', g)) : Run mtab d 56 [.ref 107] (shF L, f, g) R := by
  obtain ⟨d, rfl⟩ : ∃ e, d = e + 1 := ⟨d - 1, by omega⟩
  refine go_X6_readClauses rfl ?_
  conv => whnf
  exact cc_lp (by omega) hm 4 1 _ p q S f (by omega) rfl hp t H
/-- the first k kinds have their rules -/
def es (f0 : Nat → Nat → Int32) (S : Nat → Nat → Int32) (k : Nat) (f : Nat → Nat → Int32) : Prop := (∀ j t, j < 4 → t < 3 → f (114 + j) t = S j t) ∧ (∀ j t, j < k → t < 3 → f (109 + j) t = eC S j t) ∧ (∀ a i, ¬ (109 ≤ a ∧ a ≤ 112) → f a i = f0 a i)
theorem es_cpy {f0 f : Nat → Nat → Int32} {S : Nat → Nat → Int32} {k x : Nat} (h : es f0 S k f) (hk : k < 4) (hx : ∀ t, t < 3 → f x t = eC S k t) : es f0 S (k + 1) (m_cpy f x (109 + k) 0 0 3) := by
  obtain ⟨a, b, c⟩ := h
  refine ⟨fun j t hj ht => ?_, fun j t hj ht => ?_, fun a i h1 => ?_⟩
  · rw [m_cpy_ap, if_neg (by omega)]
    exact a j t hj ht
  · rw [m_cpy_ap]
    by_cases e : j = k
    · subst e
      rw [if_pos rfl, if_pos (by omega), show 0 + (t - 0) = t by omega]
      exact hx t ht
    · rw [if_neg (by omega)]
      exact b j t (by omega) ht
  · rw [m_cpy_ap, if_neg (by omega)]
    exact c a i h1
/-- the rules where none are told -/
def ab2 (f : Nat → Nat → Int32) : Prop := f 2 0 = 1 ∧ f 2 1 = 1 ∧ f 2 2 = 1
theorem ab2_t {f : Nat → Nat → Int32} (h : ab2 f) {t : Nat} (ht : t < 3) : f 2 t = 1 := by
  have ht3 : t = 0 ∨ t = 1 ∨ t = 2 := by omega
  rcases ht3 with rfl | rfl | rfl
  · exact h.1
  · exact h.2.1
  · exact h.2.2
set_option maxRecDepth 100000 in
set_option maxHeartbeats 4000000 in
theorem ef_4 {d L : Nat} {f0 f : Nat → Nat → Int32} {g : Nat → Nat → Int64} {S : Nat → Nat → Int32} {s : Option Value} {R : Option Value → mH → Prop} (hd : 1 ≤ d) (hA : ab3 f0) (hB : ab2 f0) (h : es f0 S 4 f) (H : ∀ f', es f0 S 4 f' → R none (shF L, f', g)) : WPe pg_X6_enforce none (Run mtab d) R (m_drop pg_X6_enforce 2) [some (.ref 107), some (.int (0 + 1 + 1 + 1 + 1)), s] [] (shF L, f, g) := by
  refine at_X6_enforce ?_
  conv => whnf
  refine ⟨fun c => ?_, fun c => absurd (by decide) c⟩
  conv => whnf
  exact H _ h
set_option maxRecDepth 100000 in
set_option maxHeartbeats 4000000 in
theorem ef_3 {d L : Nat} {f0 f : Nat → Nat → Int32} {g : Nat → Nat → Int64} {S : Nat → Nat → Int32} {s : Option Value} {R : Option Value → mH → Prop} (hd : 1 ≤ d) (hA : ab3 f0) (hB : ab2 f0) (h : es f0 S 3 f) (H : ∀ f', es f0 S 4 f' → R none (shF L, f', g)) : WPe pg_X6_enforce none (Run mtab d) R (m_drop pg_X6_enforce 2) [some (.ref 107), some (.int (0 + 1 + 1 + 1)), s] [] (shF L, f, g) := by
  refine at_X6_enforce ?_
  conv => whnf
  refine ⟨fun c => absurd c (by decide), fun _ => ?_⟩
  conv => whnf
  refine ⟨⟨by unfold vp_in; decide, by decide, by decide⟩, ?_⟩
  conv => whnf
  refine ⟨by unfold vp_in; decide, ?_⟩
  conv => whnf
  refine ⟨fun c => ?_, fun c => ?_⟩
  · conv => whnf
    refine ⟨⟨by unfold vp_in; decide, by decide, by decide⟩, ?_⟩
    conv => whnf
    refine rp_cpy (a := 117) (b := 112) (by omega) rfl rfl rfl (by decide) ?_
    conv => whnf
    exact ef_4 hd hA hB (es_cpy (k := 3) h (by decide) (fun t ht => by
      show _ = (if S 3 0 = 0 then ec2 S t else S 3 t)
      rw [if_neg (fun z => c ((h.1 3 0 (by decide) (by decide)).trans z))]
      exact h.1 3 t (by decide) ht)) H
  · conv => whnf
    refine ⟨fun _ => ?_, fun c => absurd c (by decide)⟩
    conv => whnf
    refine ⟨by unfold vp_in; decide, ?_⟩
    have ha : f 3 (Int32.toNatClampNeg (0 + 1 + 1 + 1)) = 2 := (h.2.2 3 3 (by omega)).trans hA.2.2.2
    conv => whnf
    simp only [ha]
    refine ⟨⟨by unfold vp_in; decide, by decide, by decide⟩, ?_⟩
    conv => whnf
    refine ⟨⟨by unfold vp_in; decide, by decide, by decide⟩, ?_⟩
    conv => whnf
    refine rp_cpy (a := 111) (b := 112) (by omega) rfl rfl rfl (by decide) ?_
    conv => whnf
    exact ef_4 hd hA hB (es_cpy (k := 3) h (by decide) (fun t ht => by
      show _ = (if S 3 0 = 0 then ec2 S t else S 3 t)
      rw [if_pos (by rw [← h.1 3 0 (by decide) (by decide)]; exact c)]
      exact h.2.1 2 t (by decide) ht)) H
set_option maxRecDepth 100000 in
set_option maxHeartbeats 4000000 in
theorem ef_2 {d L : Nat} {f0 f : Nat → Nat → Int32} {g : Nat → Nat → Int64} {S : Nat → Nat → Int32} {s : Option Value} {R : Option Value → mH → Prop} (hd : 1 ≤ d) (hA : ab3 f0) (hB : ab2 f0) (h : es f0 S 2 f) (H : ∀ f', es f0 S 4 f' → R none (shF L, f', g)) : WPe pg_X6_enforce none (Run mtab d) R (m_drop pg_X6_enforce 2) [some (.ref 107), some (.int (0 + 1 + 1)), s] [] (shF L, f, g) := by
  refine at_X6_enforce ?_
  conv => whnf
  refine ⟨fun c => absurd c (by decide), fun _ => ?_⟩
  conv => whnf
  refine ⟨⟨by unfold vp_in; decide, by decide, by decide⟩, ?_⟩
  conv => whnf
  refine ⟨by unfold vp_in; decide, ?_⟩
  conv => whnf
  refine ⟨fun c => ?_, fun c => ?_⟩
  · conv => whnf
    refine ⟨⟨by unfold vp_in; decide, by decide, by decide⟩, ?_⟩
    conv => whnf
    refine rp_cpy (a := 116) (b := 111) (by omega) rfl rfl rfl (by decide) ?_
    conv => whnf
    exact ef_3 hd hA hB (es_cpy (k := 2) h (by decide) (fun t ht => by
      show _ = ec2 S t
      unfold ec2
      rw [if_neg (fun z => c ((h.1 2 0 (by decide) (by decide)).trans z))]
      exact h.1 2 t (by decide) ht)) H
  · conv => whnf
    refine ⟨fun _ => ?_, fun c => absurd c (by decide)⟩
    conv => whnf
    refine ⟨by unfold vp_in; decide, ?_⟩
    have ha : f 3 (Int32.toNatClampNeg (0 + 1 + 1)) = 0 := (h.2.2 3 2 (by omega)).trans hA.2.2.1
    conv => whnf
    simp only [ha]
    refine ⟨⟨by unfold vp_in; decide, by decide, by decide⟩, ?_⟩
    conv => whnf
    refine ⟨⟨by unfold vp_in; decide, by decide, by decide⟩, ?_⟩
    conv => whnf
    refine rp_cpy (a := 109) (b := 111) (by omega) rfl rfl rfl (by decide) ?_
    conv => whnf
    exact ef_3 hd hA hB (es_cpy (k := 2) h (by decide) (fun t ht => by
      show _ = ec2 S t
      unfold ec2
      rw [if_pos (by rw [← h.1 2 0 (by decide) (by decide)]; exact c)]
      exact h.2.1 0 t (by decide) ht)) H
set_option maxRecDepth 100000 in
set_option maxHeartbeats 4000000 in
theorem ef_1 {d L : Nat} {f0 f : Nat → Nat → Int32} {g : Nat → Nat → Int64} {S : Nat → Nat → Int32} {s : Option Value} {R : Option Value → mH → Prop} (hd : 1 ≤ d) (hA : ab3 f0) (hB : ab2 f0) (h : es f0 S 1 f) (H : ∀ f', es f0 S 4 f' → R none (shF L, f', g)) : WPe pg_X6_enforce none (Run mtab d) R (m_drop pg_X6_enforce 2) [some (.ref 107), some (.int (0 + 1)), s] [] (shF L, f, g) := by
  refine at_X6_enforce ?_
  conv => whnf
  refine ⟨fun c => absurd c (by decide), fun _ => ?_⟩
  conv => whnf
  refine ⟨⟨by unfold vp_in; decide, by decide, by decide⟩, ?_⟩
  conv => whnf
  refine ⟨by unfold vp_in; decide, ?_⟩
  conv => whnf
  refine ⟨fun c => ?_, fun c => ?_⟩
  · conv => whnf
    refine ⟨⟨by unfold vp_in; decide, by decide, by decide⟩, ?_⟩
    conv => whnf
    refine rp_cpy (a := 115) (b := 110) (by omega) rfl rfl rfl (by decide) ?_
    conv => whnf
    exact ef_2 hd hA hB (es_cpy (k := 1) h (by decide) (fun t ht => by
      show _ = (if S 1 0 = 0 then ec0 S t else S 1 t)
      rw [if_neg (fun z => c ((h.1 1 0 (by decide) (by decide)).trans z))]
      exact h.1 1 t (by decide) ht)) H
  · conv => whnf
    refine ⟨fun _ => ?_, fun c => absurd c (by decide)⟩
    conv => whnf
    refine ⟨by unfold vp_in; decide, ?_⟩
    have ha : f 3 (Int32.toNatClampNeg (0 + 1)) = 0 := (h.2.2 3 1 (by omega)).trans hA.2.1
    conv => whnf
    simp only [ha]
    refine ⟨⟨by unfold vp_in; decide, by decide, by decide⟩, ?_⟩
    conv => whnf
    refine ⟨⟨by unfold vp_in; decide, by decide, by decide⟩, ?_⟩
    conv => whnf
    refine rp_cpy (a := 109) (b := 110) (by omega) rfl rfl rfl (by decide) ?_
    conv => whnf
    exact ef_2 hd hA hB (es_cpy (k := 1) h (by decide) (fun t ht => by
      show _ = (if S 1 0 = 0 then ec0 S t else S 1 t)
      rw [if_pos (by rw [← h.1 1 0 (by decide) (by decide)]; exact c)]
      exact h.2.1 0 t (by decide) ht)) H
set_option maxRecDepth 100000 in
set_option maxHeartbeats 4000000 in
theorem ef_0 {d L : Nat} {f0 f : Nat → Nat → Int32} {g : Nat → Nat → Int64} {S : Nat → Nat → Int32} {s : Option Value} {R : Option Value → mH → Prop} (hd : 1 ≤ d) (hA : ab3 f0) (hB : ab2 f0) (h : es f0 S 0 f) (H : ∀ f', es f0 S 4 f' → R none (shF L, f', g)) : WPe pg_X6_enforce none (Run mtab d) R (m_drop pg_X6_enforce 2) [some (.ref 107), some (.int (0)), s] [] (shF L, f, g) := by
  refine at_X6_enforce ?_
  conv => whnf
  refine ⟨fun c => absurd c (by decide), fun _ => ?_⟩
  conv => whnf
  refine ⟨⟨by unfold vp_in; decide, by decide, by decide⟩, ?_⟩
  conv => whnf
  refine ⟨by unfold vp_in; decide, ?_⟩
  conv => whnf
  refine ⟨fun c => ?_, fun c => ?_⟩
  · conv => whnf
    refine ⟨⟨by unfold vp_in; decide, by decide, by decide⟩, ?_⟩
    conv => whnf
    refine rp_cpy (a := 114) (b := 109) (by omega) rfl rfl rfl (by decide) ?_
    conv => whnf
    exact ef_1 hd hA hB (es_cpy (k := 0) h (by decide) (fun t ht => by
      show _ = ec0 S t
      unfold ec0
      rw [if_neg (fun z => c ((h.1 0 0 (by decide) (by decide)).trans z))]
      exact h.1 0 t (by decide) ht)) H
  · conv => whnf
    refine ⟨fun c => absurd (by decide) c, fun _ => ?_⟩
    conv => whnf
    refine ⟨⟨by unfold vp_in; decide, by decide, by decide⟩, ?_⟩
    conv => whnf
    refine rp_cpy (a := 2) (b := 109) (by omega) rfl rfl rfl (by decide) ?_
    conv => whnf
    exact ef_1 hd hA hB (es_cpy (k := 0) h (by decide) (fun t ht => by
      show _ = ec0 S t
      unfold ec0
      rw [if_pos (by rw [← h.1 0 0 (by decide) (by decide)]; exact c), h.2.2 2 t (by omega)]
      exact ab2_t hB ht)) H
set_option maxRecDepth 100000 in
set_option maxHeartbeats 4000000 in
theorem sf_enforce {d L : Nat} {f : Nat → Nat → Int32} {g : Nat → Nat → Int64} {f0 : Nat → Nat → Int32} {S : Nat → Nat → Int32} {R : Option Value → mH → Prop} (hd : 2 ≤ d) (hA : ab3 f0) (hB : ab2 f0) (h : es f0 S 0 f) (H : ∀ f', es f0 S 4 f' → R none (shF L, f', g)) : Run mtab d 55 [.ref 107] (shF L, f, g) R := by
  obtain ⟨d, rfl⟩ : ∃ e, d = e + 1 := ⟨d - 1, by omega⟩
  refine go_X6_enforce rfl ?_
  conv => whnf
  exact ef_0 (by omega) hA hB h H
/-- what readTape leaves: fault q, answer v, rules told S -/
def rtC (f : Nat → Nat → Int32) (m : Nat) (f' : Nat → Nat → Int32) (v : Int32) : Prop := f' 107 3 = 0 ∧ (∀ a i, ¬ a = 107 → ¬ (109 ≤ a ∧ a ≤ 117) → f' a i = f a i) ∧ (∃ p : Nat, p ≤ 50 ∧ f' 107 4 = nI p) ∧ ((¬ (clsC (tk f 118 m) m 4 1 0 (-1) (fun k t => if t = 0 then 0 else f (114 + k) t)).2.1 = -1 ∧ v = -20 - (clsC (tk f 118 m) m 4 1 0 (-1) (fun k t => if t = 0 then 0 else f (114 + k) t)).2.1 ∧ (∀ j t, j < 4 → t < 3 → f' (109 + j) t = f (109 + j) t)) ∨ ((clsC (tk f 118 m) m 4 1 0 (-1) (fun k t => if t = 0 then 0 else f (114 + k) t)).2.1 = -1 ∧ v = (clsC (tk f 118 m) m 4 1 0 (-1) (fun k t => if t = 0 then 0 else f (114 + k) t)).1 ∧ (∀ j t, j < 4 → t < 3 → f' (109 + j) t = eC (clsC (tk f 118 m) m 4 1 0 (-1) (fun k t => if t = 0 then 0 else f (114 + k) t)).2.2 j t)))
theorem cs_ini {f : Nat → Nat → Int32} {m : Nat} (hb : f 107 3 = nI m) : cs f m 0 (-1) (fun k t => if t = 0 then 0 else f (114 + k) t) (m_ui (m_ui (m_ui (m_ui (m_ui (m_ui f 107 4 0) 107 5 (-1)) 114 0 0) 115 0 0) 116 0 0) 117 0 0) := by
  refine ⟨?_, ?_, ?_, fun k t hk ht => ?_, fun a i h1 h2 => ?_⟩
  · rw [m_ui_o (by omega), m_ui_o (by omega), m_ui_o (by omega), m_ui_o (by omega), m_ui_o (by omega), m_ui_o (by omega)]; exact hb
  · rw [m_ui_o (by omega), m_ui_o (by omega), m_ui_o (by omega), m_ui_o (by omega), m_ui_o (by omega), m_ui_s]; rfl
  · rw [m_ui_o (by omega), m_ui_o (by omega), m_ui_o (by omega), m_ui_o (by omega), m_ui_s]
  · show _ = (if t = 0 then 0 else f (114 + k) t)
    by_cases z : t = 0
    · subst z
      rw [if_pos rfl]
      have hk4 : k = 0 ∨ k = 1 ∨ k = 2 ∨ k = 3 := by omega
      rcases hk4 with rfl | rfl | rfl | rfl
      · rw [m_ui_o (by omega), m_ui_o (by omega), m_ui_o (by omega), m_ui_s]
      · rw [m_ui_o (by omega), m_ui_o (by omega), m_ui_s]
      · rw [m_ui_o (by omega), m_ui_s]
      · rw [m_ui_s]
    · rw [if_neg z, m_ui_o (by omega), m_ui_o (by omega), m_ui_o (by omega), m_ui_o (by omega), m_ui_o (by omega), m_ui_o (by omega)]
  · rw [m_ui_o (by omega), m_ui_o (by omega), m_ui_o (by omega), m_ui_o (by omega), m_ui_o (by omega), m_ui_o (by omega)]
set_option maxRecDepth 100000 in
set_option maxHeartbeats 4000000 in
theorem sf_readTape {d L : Nat} {f : Nat → Nat → Int32} {g : Nat → Nat → Int64} {m : Nat} {R : Option Value → mH → Prop} (hd : 9 ≤ d) (hm : m ≤ 50) (hb : f 107 3 = nI m) (hA : ab3 f) (hB : ab2 f) (H : ∀ v f', rtC f m f' v → R (some (.int v)) (shF L, f', g)) : Run mtab d 54 [.ref 107] (shF L, f, g) R := by
  obtain ⟨d, rfl⟩ : ∃ e, d = e + 1 := ⟨d - 1, by omega⟩
  refine go_X6_readTape rfl ?_
  conv => whnf
  refine at_X6_readTape ?_
  conv => whnf
  refine ⟨fun c => absurd c (by decide), fun _ => ?_⟩
  conv => whnf
  refine ⟨⟨by unfold vp_in; decide, by decide, by decide⟩, ?_⟩
  conv => whnf
  refine ⟨by unfold vp_in; decide, ?_⟩
  conv => whnf
  refine at_X6_readTape ?_
  conv => whnf
  refine ⟨fun c => absurd c (by decide), fun _ => ?_⟩
  conv => whnf
  refine ⟨⟨by unfold vp_in; decide, by decide, by decide⟩, ?_⟩
  conv => whnf
  refine ⟨by unfold vp_in; decide, ?_⟩
  conv => whnf
  refine at_X6_readTape ?_
  conv => whnf
  refine ⟨fun c => absurd c (by decide), fun _ => ?_⟩
  conv => whnf
  refine ⟨⟨by unfold vp_in; decide, by decide, by decide⟩, ?_⟩
  conv => whnf
  refine ⟨by unfold vp_in; decide, ?_⟩
  conv => whnf
  refine at_X6_readTape ?_
  conv => whnf
  refine ⟨fun c => absurd c (by decide), fun _ => ?_⟩
  conv => whnf
  refine ⟨⟨by unfold vp_in; decide, by decide, by decide⟩, ?_⟩
  conv => whnf
  refine ⟨by unfold vp_in; decide, ?_⟩
  conv => whnf
  refine at_X6_readTape ?_
  conv => whnf
  refine ⟨fun _ => ?_, fun c => absurd (by decide) c⟩
  conv => whnf
  refine sf_readClauses (m := m) (p := 0) (f0 := f) (q := -1) (S := (fun k t => if t = 0 then 0 else f (114 + k) t)) (by omega) hm (by omega) (cs_ini hb) (fun f1 p1 hp1 t1 => ?_)
  have w3 := t1.2.2.1
  have u3 : m_ui f1 107 3 0 107 5 = _ := (m_ui_o (by omega)).trans w3
  have fr : ∀ a i, ¬ a = 107 → ¬ (114 ≤ a ∧ a ≤ 117) → m_ui f1 107 3 0 a i = f a i := fun a i h1 h2 => by
    rw [m_ui_o (by omega)]
    exact t1.2.2.2.2 a i h1 h2
  have hp4 : m_ui f1 107 3 0 107 4 = nI p1 := (m_ui_o (by omega)).trans t1.2.1
  conv => whnf
  simp only [u3, w3]
  refine ⟨fun c => ?_, fun c => ?_⟩
  · conv => whnf
    refine sf_enforce (f0 := m_ui f1 107 3 0) (by omega) ⟨(fr 3 0 (by omega) (by omega)).trans hA.1, (fr 3 1 (by omega) (by omega)).trans hA.2.1, (fr 3 2 (by omega) (by omega)).trans hA.2.2.1, (fr 3 3 (by omega) (by omega)).trans hA.2.2.2⟩ ⟨(fr 2 0 (by omega) (by omega)).trans hB.1, (fr 2 1 (by omega) (by omega)).trans hB.2.1, (fr 2 2 (by omega) (by omega)).trans hB.2.2⟩ (S := (clsC (tk f 118 m) m 4 1 0 (-1) (fun k t => if t = 0 then 0 else f (114 + k) t)).2.2) ⟨fun j t hj ht => by rw [m_ui_o (by omega)]; exact t1.2.2.2.1 j t hj ht, fun j t hj ht => absurd hj (by omega), fun a i _ => rfl⟩ (fun f2 h2 => ?_)
    conv => whnf
    exact H _ _ ⟨(h2.2.2 107 3 (by omega)).trans m_ui_s, fun a i h1 h3 => (h2.2.2 a i (by omega)).trans (fr a i h1 (by omega)), ⟨p1, by omega, (h2.2.2 107 4 (by omega)).trans hp4⟩, Or.inr ⟨c, rfl, h2.2.1⟩⟩
  · conv => whnf
    simp only [u3, w3]
    exact H _ _ ⟨m_ui_s, fun a i h1 h3 => fr a i h1 (by omega), ⟨p1, by omega, hp4⟩, Or.inl ⟨c, rfl, fun j t hj ht => fr _ _ (by omega) (by omega)⟩⟩
set_option maxRecDepth 100000 in
set_option maxHeartbeats 4000000 in
theorem sf_rules {d L : Nat} {f : Nat → Nat → Int32} {g : Nat → Nat → Int64} {m : Nat} {R : Option Value → mH → Prop} (hd : 10 ≤ d) (hm : m ≤ 50) (hb : f 107 3 = nI m) (hA : ab3 f) (hB : ab2 f) (H : ∀ v f', rtC f m f' v → R (some (.int v)) (shF L, f', g)) : Run mtab d 120 [.ref 5] (shF L, f, g) R := by
  obtain ⟨d, rfl⟩ : ∃ e, d = e + 1 := ⟨d - 1, by omega⟩
  refine go_X10_rules rfl ?_
  conv => whnf
  refine sf_readTape (by omega) hm hb hA hB (fun v f1 h1 => ?_)
  conv => whnf
  exact H _ _ h1
set_option maxRecDepth 100000 in
set_option maxHeartbeats 4000000 in
theorem sf_rule {d L : Nat} {f : Nat → Nat → Int32} {g : Nat → Nat → Int64} {x1 x2 : Int32} {R : Option Value → mH → Prop} (hd : 2 ≤ d) (H : ∀ v, ((¬ (inr 0 3 x1 ∧ inr 0 2 x2) ∧ v = -1) ∨ (∃ k t, k < 4 ∧ t < 3 ∧ x1 = nI k ∧ x2 = nI t ∧ v = f (109 + k) t)) → R (some (.int v)) (shF L, f, g)) : Run mtab d 121 [.ref 5, .int x1, .int x2] (shF L, f, g) R := by
  obtain ⟨d, rfl⟩ : ∃ e, d = e + 1 := ⟨d - 1, by omega⟩
  refine go_X10_rule rfl ?_
  conv => whnf
  refine ct_isWithin (by omega) (fun p1 => ?_) (fun p1 => ?_)
  · obtain ⟨k, hk, rfl⟩ := inr_nat (n := 3) rfl p1
    conv => whnf
    (refine ⟨fun c => ?_, fun c => ?_⟩ <;> first | ((have c9 : (1 : Int32) = 0 := by with_reducible exact c); exact absurd c9 (by decide)) | exact absurd (rfl : (0 : Int32) = 0) (by with_reducible exact c) | exact absurd True.intro (by with_reducible exact c) | exact False.elim (by with_reducible exact c) | (conv => whnf))
    refine ct_isWithin (by omega) (fun p2 => ?_) (fun p2 => ?_)
    · obtain ⟨t, ht, rfl⟩ := inr_nat (n := 2) rfl p2
      have hct : (nI t).toNatClampNeg = t := nI_clamp (by omega)
      have H2 := H _ (Or.inr ⟨k, t, by omega, by omega, rfl, rfl, rfl⟩)
      have h4 : k = 0 ∨ k = 1 ∨ k = 2 ∨ k = 3 := by omega
      clear H p1
      rcases h4 with rfl | rfl | rfl | rfl
      · conv => whnf
        (refine ⟨fun c => ?_, fun c => ?_⟩ <;> first | ((have c9 : (1 : Int32) = 0 := by with_reducible exact c); exact absurd c9 (by decide)) | exact absurd (rfl : (0 : Int32) = 0) (by with_reducible exact c) | exact absurd True.intro (by with_reducible exact c) | exact False.elim (by with_reducible exact c) | (conv => whnf))
        refine ⟨⟨by unfold vp_in; decide, by decide, by decide⟩, ?_⟩
        conv => whnf
        refine ⟨vp_in_nI (by omega) (by decide), ?_⟩
        conv => whnf
        simp only [hct]
        exact H2
      · conv => whnf
        (refine ⟨fun c => ?_, fun c => ?_⟩ <;> first | ((have c9 : (1 : Int32) = 0 := by with_reducible exact c); exact absurd c9 (by decide)) | exact absurd (rfl : (0 : Int32) = 0) (by with_reducible exact c) | exact absurd True.intro (by with_reducible exact c) | exact False.elim (by with_reducible exact c) | (conv => whnf))
        refine ⟨⟨by unfold vp_in; decide, by decide, by decide⟩, ?_⟩
        conv => whnf
        refine ⟨vp_in_nI (by omega) (by decide), ?_⟩
        conv => whnf
        simp only [hct]
        exact H2
      · conv => whnf
        (refine ⟨fun c => ?_, fun c => ?_⟩ <;> first | ((have c9 : (1 : Int32) = 0 := by with_reducible exact c); exact absurd c9 (by decide)) | exact absurd (rfl : (0 : Int32) = 0) (by with_reducible exact c) | exact absurd True.intro (by with_reducible exact c) | exact False.elim (by with_reducible exact c) | (conv => whnf))
        refine ⟨⟨by unfold vp_in; decide, by decide, by decide⟩, ?_⟩
        conv => whnf
        refine ⟨vp_in_nI (by omega) (by decide), ?_⟩
        conv => whnf
        simp only [hct]
        exact H2
      · conv => whnf
        (refine ⟨fun c => ?_, fun c => ?_⟩ <;> first | ((have c9 : (1 : Int32) = 0 := by with_reducible exact c); exact absurd c9 (by decide)) | exact absurd (rfl : (0 : Int32) = 0) (by with_reducible exact c) | exact absurd True.intro (by with_reducible exact c) | exact False.elim (by with_reducible exact c) | (conv => whnf))
        refine ⟨⟨by unfold vp_in; decide, by decide, by decide⟩, ?_⟩
        conv => whnf
        refine ⟨vp_in_nI (by omega) (by decide), ?_⟩
        conv => whnf
        simp only [hct]
        exact H2
    · conv => whnf
      (refine ⟨fun c => ?_, fun c => ?_⟩ <;> first | ((have c9 : (1 : Int32) = 0 := by with_reducible exact c); exact absurd c9 (by decide)) | exact absurd (rfl : (0 : Int32) = 0) (by with_reducible exact c) | exact absurd True.intro (by with_reducible exact c) | exact False.elim (by with_reducible exact c) | (conv => whnf))
      exact H _ (Or.inl ⟨fun hh => p2 hh.2, rfl⟩)
  · conv => whnf
    (refine ⟨fun c => ?_, fun c => ?_⟩ <;> first | ((have c9 : (1 : Int32) = 0 := by with_reducible exact c); exact absurd c9 (by decide)) | exact absurd (rfl : (0 : Int32) = 0) (by with_reducible exact c) | exact absurd True.intro (by with_reducible exact c) | exact False.elim (by with_reducible exact c) | (conv => whnf))
    exact H _ (Or.inl ⟨fun hh => p1 hh.1, rfl⟩)
