/-- the model at its tape: length m, place p, S what is told of the kinds; the rest as in f0 -/
def ms (f0 : Nat → Nat → Int32) (m p : Nat) (S : Nat → Nat → Int32) (f : Nat → Nat → Int32) : Prop := f 181 46 = nI m ∧ f 181 47 = nI p ∧ (∀ k t, k < 4 → t < 3 → f 216 (3 * k + t) = S k t) ∧ (∀ a i, ¬ (a = 181 ∧ i = 47) → ¬ a = 216 → f a i = f0 a i)
theorem ms_p {f0 f : Nat → Nat → Int32} {m p p' : Nat} {x : Int32} {S : Nat → Nat → Int32} (t : ms f0 m p S f) (hx : x = nI p') : ms f0 m p' S (m_ui f 181 47 x) := by
  obtain ⟨a, b, d, e⟩ := t
  refine ⟨?_, ?_, fun k t hk ht => ?_, fun a i h1 h2 => ?_⟩
  · rw [m_ui_o (by omega)]; exact a
  · rw [m_ui_s]; exact hx
  · rw [m_ui_o (by omega)]; exact d k t hk ht
  · rw [m_ui_o (by omega)]; exact e a i h1 h2
theorem ms_u {f0 f : Nat → Nat → Int32} {m p j : Nat} {a b c : Int32} {S : Nat → Nat → Int32} (t : ms f0 m p S f) : ms f0 m p (updS S j a b c) (m_ui (m_ui (m_ui f 216 (3 * j) a) 216 (3 * j + 1) b) 216 (3 * j + 2) c) := by
  obtain ⟨a1, b1, d, e⟩ := t
  refine ⟨?_, ?_, fun k t hk ht => ?_, fun a i h1 h2 => ?_⟩
  · rw [m_ui_o (by omega), m_ui_o (by omega), m_ui_o (by omega)]; exact a1
  · rw [m_ui_o (by omega), m_ui_o (by omega), m_ui_o (by omega)]; exact b1
  · unfold updS
    by_cases z : k = j
    · subst z
      rw [if_pos rfl]
      have ht3 : t = 0 ∨ t = 1 ∨ t = 2 := by omega
      rcases ht3 with rfl | rfl | rfl
      · rw [m_ui_o (by omega), m_ui_o (by omega), m_ui_s' (by omega), if_pos rfl]
      · rw [m_ui_o (by omega), m_ui_s, if_neg (by decide), if_pos rfl]
      · rw [m_ui_s, if_neg (by decide), if_neg (by decide)]
    · rw [if_neg z, m_ui_o (by omega), m_ui_o (by omega), m_ui_o (by omega)]
      exact d k t hk ht
  · rw [m_ui_o (by omega), m_ui_o (by omega), m_ui_o (by omega)]; exact e a i h1 h2
theorem ms_t {f0 f : Nat → Nat → Int32} {m p j : Nat} {S : Nat → Nat → Int32} (t : ms f0 m p S f) (hj : j < m) (hm : m ≤ 50) : f 217 (nI j).toNatClampNeg = tk f0 217 m j := by
  rw [nI_clamp (by omega), t.2.2.2 217 j (by omega) (by omega), tk_at hj]
def nx (T : Nat → Int32) (m r : Nat) : Int32 := if r < m then T r else -1
set_option maxRecDepth 100000 in
theorem nf_lp {d L m : Nat} {f0 : Nat → Nat → Int32} {S : Nat → Nat → Int32} {g : Nat → Nat → Int64} {R : Option Value → mH → Prop} (hm : m ≤ 50) :
    ∀ (k p : Nat) (f : Nat → Nat → Int32), p + k = m → ms f0 m p S f → (∀ f', ms f0 m (skl (tk f0 217 m) k p) S f' → R (some (.int (nx (tk f0 217 m) m (skl (tk f0 217 m) k p)))) (shF L, f', g)) → WPe pg_X11_next none (Run mtab d) R (m_drop pg_X11_next 0) [some (.ref 181)] [] (shF L, f, g)
  | 0, p, f, hk, t, H => by
    have u1 := t.1
    have u2 := t.2.1
    refine at_X11_next ?_
    conv => whnf
    simp only [u1, u2]
    refine ⟨fun c => ?_, fun c => absurd (nI_le (by omega) (by omega)) c⟩
    conv => whnf
    simp only [u1, u2]
    refine ⟨fun c => ?_, fun c => absurd (nI_le (by omega) (by omega)) c⟩
    conv => whnf
    have e : nx (tk f0 217 m) m p = -1 := if_neg (by omega)
    have H2 := H f t
    have H3 : R (some (.int (nx (tk f0 217 m) m p))) (shF L, f, g) := H2
    rw [e] at H3
    exact H3
  | k + 1, p, f, hk, t, H => by
    have u1 := t.1
    have u2 := t.2.1
    have et := ms_t t (j := p) (by omega) hm
    refine at_X11_next ?_
    conv => whnf
    simp only [u1, u2]
    refine ⟨fun c => absurd c (nI_ge (by omega) (by omega)), fun c => ?_⟩
    conv => whnf
    simp only [u2]
    refine ⟨vp_in_nI (by omega) (by decide), ?_⟩
    conv => whnf
    simp only [et]
    refine ⟨fun c' => ?_, fun c' => ?_⟩
    · have e : skl (tk f0 217 m) (k + 1) p = p := if_neg c'
      have e2 : nx (tk f0 217 m) m p = (tk f0 217 m) p := if_pos (by omega)
      rw [e] at H
      have H2 := H f t
      rw [e2] at H2
      conv => whnf
      simp only [u1, u2]
      refine ⟨fun c => absurd c (nI_ge (by omega) (by omega)), fun c => ?_⟩
      conv => whnf
      simp only [u2]
      refine ⟨vp_in_nI (by omega) (by decide), ?_⟩
      conv => whnf
      simp only [et]
      exact H2
    · conv => whnf
      simp only [u2]
      have e : skl (tk f0 217 m) (k + 1) p = skl (tk f0 217 m) k (p + 1) := if_pos c'
      rw [e] at H
      exact nf_lp hm k (p + 1) _ (by omega) (ms_p t (nI_1 p)) H
theorem smf_next {d L m p : Nat} {f0 f : Nat → Nat → Int32} {g : Nat → Nat → Int64} {S : Nat → Nat → Int32} {R : Option Value → mH → Prop} (hd : 1 ≤ d) (hm : m ≤ 50) (hp : p ≤ m) (t : ms f0 m p S f) (H : ∀ f', ms f0 m (sk (tk f0 217 m) m p) S f' → R (some (.int (nx (tk f0 217 m) m (sk (tk f0 217 m) m p)))) (shF L, f', g)) : Run mtab d 216 [.ref 181] (shF L, f, g) R := by
  obtain ⟨d, rfl⟩ : ∃ e, d = e + 1 := ⟨d - 1, by omega⟩
  refine run_wp (k := 210) (M := M_X11_next) rfl rfl ?_
  have := nf_lp (d := d) (L := L) (g := g) hm (m - p) p f (by omega) t H
  rw [m_drop_0] at this
  exact this
set_option maxRecDepth 100000 in
set_option maxHeartbeats 4000000 in
theorem nn_lp {d L m r : Nat} {f0 : Nat → Nat → Int32} {g : Nat → Nat → Int64} {x y ch : Int32} {S : Nat → Nat → Int32} {R : Option Value → mH → Prop} (hd : 1 ≤ d) (hm : m ≤ 50) (hrm : r ≤ m) (hx : 0 < x) (hch : ch < 0 → r = m) :
    ∀ (k p : Nat) (a : Int32) (f : Nat → Nat → Int32), p + k = m → r ≤ p → (p = r → a = 0) → ms f0 m p S f → ((x ≤ nvl (Fm y) (tk f0 217 m) k p a ∧ nvl (Fm y) (tk f0 217 m) k p a ≤ y) → ∀ f', ms f0 m (nel (tk f0 217 m) k p) S f' → R (some (.int (nvl (Fm y) (tk f0 217 m) k p a))) (shF L, f', g)) → (¬ (x ≤ nvl (Fm y) (tk f0 217 m) k p a ∧ nvl (Fm y) (tk f0 217 m) k p a ≤ y) → ∀ f', ms f0 m r S f' → R (some (.int (-1))) (shF L, f', g)) → WPe pg_X11_number none (Run mtab d) R (m_drop pg_X11_number 8) [some (.ref 181), some (.int x), some (.int y), some (.int ch), some (.int (nI r)), some (.int a)] [] (shF L, f, g)
  | 0, p, a, f, hk, hrp, hz0, t, HO, HE => by
    refine at_X11_number ?_
    conv => whnf
    simp only [t.1, t.2.1]
    refine ⟨fun c => ?_, fun c => absurd (nI_le (by omega) (by omega)) c⟩
    conv => whnf
    have HO2 : (x ≤ a ∧ a ≤ y) → ∀ f', ms f0 m p S f' → R (some (.int a)) (shF L, f', g) := HO
    have HE2 : ¬ (x ≤ a ∧ a ≤ y) → ∀ f', ms f0 m r S f' → R (some (.int (-1))) (shF L, f', g) := HE
    have no0 : a = 0 → ¬ (x ≤ a ∧ a ≤ y) := fun e z => by
      rw [e] at z
      exact absurd z.1 (i32_nle.mpr hx)
    refine ⟨fun c1 => ?_, fun c1 => ?_⟩
    · conv => whnf
      exact HE2 (no0 (hz0 (by have := hch c1; omega))) _ (ms_p t rfl)
    · conv => whnf
      simp only [t.2.1]
      refine ⟨fun c2 => ?_, fun c2 => ?_⟩
      · conv => whnf
        exact HE2 (no0 (hz0 ((nI_eq (by omega) (by omega)).mp c2))) _ (ms_p t rfl)
      · conv => whnf
        refine ct_i_v_v (by omega) (fun pp => ?_) (fun pp => ?_)
        · conv => whnf
          (refine ⟨fun c => ?_, fun c => ?_⟩ <;> first | ((have c9 : (1 : Int32) = 0 := by with_reducible exact c); exact absurd c9 (by decide)) | exact absurd (rfl : (0 : Int32) = 0) (by with_reducible exact c) | exact absurd True.intro (by with_reducible exact c) | exact False.elim (by with_reducible exact c) | (conv => whnf))
          exact HO2 pp f t
        · conv => whnf
          (refine ⟨fun c => ?_, fun c => ?_⟩ <;> first | ((have c9 : (1 : Int32) = 0 := by with_reducible exact c); exact absurd c9 (by decide)) | exact absurd (rfl : (0 : Int32) = 0) (by with_reducible exact c) | exact absurd True.intro (by with_reducible exact c) | exact False.elim (by with_reducible exact c) | (conv => whnf))
          exact HE2 pp _ (ms_p t rfl)
  | k + 1, p, a, f, hk, hrp, hz0, t, HO, HE => by
    have et := ms_t t (j := p) (by omega) hm
    refine at_X11_number ?_
    conv => whnf
    simp only [t.1, t.2.1]
    refine ⟨fun c => absurd c (nI_ge (by omega) (by omega)), fun cc => ?_⟩
    conv => whnf
    simp only [t.2.1]
    refine ⟨vp_in_nI (by omega) (by decide), ?_⟩
    conv => whnf
    simp only [et]
    refine ct_i_48_57 (by omega) (fun pp => ?_) (fun pp => ?_)
    · have e1 : nvl (Fm y) (tk f0 217 m) (k + 1) p a = nvl (Fm y) (tk f0 217 m) k (p + 1) (Fm y a ((tk f0 217 m) p)) := if_pos pp
      have e2 : nel (tk f0 217 m) (k + 1) p = nel (tk f0 217 m) k (p + 1) := if_pos pp
      rw [e1, e2] at HO
      rw [e1] at HE
      conv => whnf
      (refine ⟨fun c => ?_, fun c => ?_⟩ <;> first | ((have c9 : (1 : Int32) = 0 := by with_reducible exact c); exact absurd c9 (by decide)) | exact absurd (rfl : (0 : Int32) = 0) (by with_reducible exact c) | exact absurd True.intro (by with_reducible exact c) | exact False.elim (by with_reducible exact c) | (conv => whnf))
      refine ⟨fun c => ?_, fun c => ?_⟩
      · have e3 : Fm y a ((tk f0 217 m) p) = 10 * a + (tk f0 217 m) p - 48 := if_pos c
        rw [e3] at HO HE
        conv => whnf
        simp only [t.2.1]
        refine ⟨vp_in_nI (by omega) (by decide), ?_⟩
        conv => whnf
        simp only [t.2.1, et]
        exact nn_lp hd hm hrm hx hch k (p + 1) _ _ (by omega) (by omega) (fun z => by omega) (ms_p t (nI_1 p)) HO HE
      · have e3 : Fm y a ((tk f0 217 m) p) = a := if_neg c
        rw [e3] at HO HE
        conv => whnf
        simp only [t.2.1]
        exact nn_lp hd hm hrm hx hch k (p + 1) _ _ (by omega) (by omega) (fun z => by omega) (ms_p t (nI_1 p)) HO HE
    · have e1 : nvl (Fm y) (tk f0 217 m) (k + 1) p a = a := if_neg pp
      have e2 : nel (tk f0 217 m) (k + 1) p = p := if_neg pp
      rw [e1, e2] at HO
      rw [e1] at HE
      conv => whnf
      refine ⟨fun _ => ?_, fun c => absurd (by decide) c⟩
      conv => whnf
      have HO2 : (x ≤ a ∧ a ≤ y) → ∀ f', ms f0 m p S f' → R (some (.int a)) (shF L, f', g) := HO
      have HE2 : ¬ (x ≤ a ∧ a ≤ y) → ∀ f', ms f0 m r S f' → R (some (.int (-1))) (shF L, f', g) := HE
      have no0 : a = 0 → ¬ (x ≤ a ∧ a ≤ y) := fun e z => by
        rw [e] at z
        exact absurd z.1 (i32_nle.mpr hx)
      refine ⟨fun c1 => ?_, fun c1 => ?_⟩
      · conv => whnf
        exact HE2 (no0 (hz0 (by have := hch c1; omega))) _ (ms_p t rfl)
      · conv => whnf
        simp only [t.2.1]
        refine ⟨fun c2 => ?_, fun c2 => ?_⟩
        · conv => whnf
          exact HE2 (no0 (hz0 ((nI_eq (by omega) (by omega)).mp c2))) _ (ms_p t rfl)
        · conv => whnf
          refine ct_i_v_v (by omega) (fun pp => ?_) (fun pp => ?_)
          · conv => whnf
            (refine ⟨fun c => ?_, fun c => ?_⟩ <;> first | ((have c9 : (1 : Int32) = 0 := by with_reducible exact c); exact absurd c9 (by decide)) | exact absurd (rfl : (0 : Int32) = 0) (by with_reducible exact c) | exact absurd True.intro (by with_reducible exact c) | exact False.elim (by with_reducible exact c) | (conv => whnf))
            exact HO2 pp f t
          · conv => whnf
            (refine ⟨fun c => ?_, fun c => ?_⟩ <;> first | ((have c9 : (1 : Int32) = 0 := by with_reducible exact c); exact absurd c9 (by decide)) | exact absurd (rfl : (0 : Int32) = 0) (by with_reducible exact c) | exact absurd True.intro (by with_reducible exact c) | exact False.elim (by with_reducible exact c) | (conv => whnf))
            exact HE2 pp _ (ms_p t rfl)
set_option maxRecDepth 100000 in
set_option maxHeartbeats 4000000 in
theorem smf_number {d L : Nat} {f : Nat → Nat → Int32} {g : Nat → Nat → Int64} {m p : Nat} {f0 : Nat → Nat → Int32} {S : Nat → Nat → Int32} {x y : Int32} {R : Option Value → mH → Prop} (hd : 3 ≤ d) (hm : m ≤ 50) (hp : p ≤ m) (t : ms f0 m p S f) (hc : ∀ j, j < m → ¬ (tk f0 217 m) j < 0) (hx : 0 < x) (HO : ∀ v e, nmS (tk f0 217 m) m x y p = .ok (v, e) → ∀ f', ms f0 m e S f' → R (some (.int v)) (shF L, f', g)) (HE : ∀ r, nmS (tk f0 217 m) m x y p = .error r → ∀ f', ms f0 m r S f' → R (some (.int (-1))) (shF L, f', g)) : Run mtab d 217 [.ref 181, .int x, .int y] (shF L, f, g) R := by
  obtain ⟨d, rfl⟩ : ∃ e, d = e + 1 := ⟨d - 1, by omega⟩
  refine go_X11_number rfl ?_
  conv => whnf
  refine smf_next (by omega) hm hp t (fun f1 t1 => ?_)
  have hr := sk_le (T := (tk f0 217 m)) hp
  have u2 := t1.2.1
  have hch : nx (tk f0 217 m) m (sk (tk f0 217 m) m p) < 0 → sk (tk f0 217 m) m p = m := fun z => by
    by_cases q : sk (tk f0 217 m) m p < m
    · have e : nx (tk f0 217 m) m (sk (tk f0 217 m) m p) = (tk f0 217 m) (sk (tk f0 217 m) m p) := if_pos q
      rw [e] at z
      exact absurd z (hc _ q)
    · omega
  conv => whnf
  simp only [u2]
  exact nn_lp (by omega) hm hr.2 hx hch (m - sk (tk f0 217 m) m p) (sk (tk f0 217 m) m p) _ _ (by omega) (Nat.le_refl _) (fun _ => rfl) t1 (fun z => HO _ _ (if_pos z)) (fun z => HE _ (if_neg z))
set_option maxRecDepth 100000 in
set_option maxHeartbeats 4000000 in
theorem smf_takes {d L : Nat} {f : Nat → Nat → Int32} {g : Nat → Nat → Int64} {m p : Nat} {f0 : Nat → Nat → Int32} {S : Nat → Nat → Int32} {x : Int32} {R : Option Value → mH → Prop} (hd : 2 ≤ d) (hm : m ≤ 50) (hp : p ≤ m) (t : ms f0 m p S f) (hx : ¬ x = -1) (HO : ∀ e, sgS (tk f0 217 m) m x p = .ok e → ∀ f', ms f0 m e S f' → R (some (.int 1)) (shF L, f', g)) (HE : ∀ r, sgS (tk f0 217 m) m x p = .error r → ∀ f', ms f0 m r S f' → R (some (.int 0)) (shF L, f', g)) : Run mtab d 218 [.ref 181, .int x] (shF L, f, g) R := by
  obtain ⟨d, rfl⟩ : ∃ e, d = e + 1 := ⟨d - 1, by omega⟩
  refine go_X11_takes rfl ?_
  conv => whnf
  refine smf_next (by omega) hm hp t (fun f1 t1 => ?_)
  have hr := sk_le (T := (tk f0 217 m)) hp
  have u2 := t1.2.1
  conv => whnf
  refine ⟨fun c1 => ?_, fun c1 => ?_⟩
  · have hn : ¬ (sk (tk f0 217 m) m p < m ∧ (tk f0 217 m) (sk (tk f0 217 m) m p) = x) := fun z => c1 (by
      have e : nx (tk f0 217 m) m (sk (tk f0 217 m) m p) = (tk f0 217 m) (sk (tk f0 217 m) m p) := if_pos z.1
      rw [e]
      exact z.2)
    conv => whnf
    (refine ⟨fun c => ?_, fun c => ?_⟩ <;> first | ((have c9 : (1 : Int32) = 0 := by with_reducible exact c); exact absurd c9 (by decide)) | exact absurd (rfl : (0 : Int32) = 0) (by with_reducible exact c) | exact absurd True.intro (by with_reducible exact c) | exact False.elim (by with_reducible exact c) | (conv => whnf))
    simp only [u2]
    exact ⟨Or.inl True.intro, HE _ (if_neg hn) _ (ms_p t1 (Int32.add_zero _))⟩
  · have hy : sk (tk f0 217 m) m p < m ∧ (tk f0 217 m) (sk (tk f0 217 m) m p) = x := by
      by_cases q : sk (tk f0 217 m) m p < m
      · have e : nx (tk f0 217 m) m (sk (tk f0 217 m) m p) = (tk f0 217 m) (sk (tk f0 217 m) m p) := if_pos q
        rw [e] at c1
        exact ⟨q, c1⟩
      · have e : nx (tk f0 217 m) m (sk (tk f0 217 m) m p) = -1 := if_neg q
        rw [e] at c1
        exact absurd c1.symm hx
    conv => whnf
    (refine ⟨fun c => ?_, fun c => ?_⟩ <;> first | ((have c9 : (1 : Int32) = 0 := by with_reducible exact c); exact absurd c9 (by decide)) | exact absurd (rfl : (0 : Int32) = 0) (by with_reducible exact c) | exact absurd True.intro (by with_reducible exact c) | exact False.elim (by with_reducible exact c) | (conv => whnf))
    simp only [u2]
    exact ⟨Or.inr True.intro, HO _ (if_pos hy) _ (ms_p t1 (nI_1 _))⟩
set_option maxRecDepth 100000 in
set_option maxHeartbeats 4000000 in
theorem smf_readClause {d L : Nat} {f : Nat → Nat → Int32} {g : Nat → Nat → Int64} {m p : Nat} {f0 : Nat → Nat → Int32} {S : Nat → Nat → Int32} {R : Option Value → mH → Prop} (hd : 4 ≤ d) (hm : m ≤ 50) (hp : p ≤ m) (t : ms f0 m p S f) (hc : ∀ j, j < m → ¬ (tk f0 217 m) j < 0) (HO : ∀ k a b e p', clS (tk f0 217 m) m p = .ok (k, a, b, e, p') → ∀ f', ms f0 m p' (updS S k.toNatClampNeg a b e) f' → R (some (.int 1)) (shF L, f', g)) (HE : ∀ r, clS (tk f0 217 m) m p = .error r → ∀ f', ms f0 m r S f' → R (some (.int 0)) (shF L, f', g)) : Run mtab d 219 [.ref 181] (shF L, f, g) R := by
  obtain ⟨d, rfl⟩ : ∃ e, d = e + 1 := ⟨d - 1, by omega⟩
  refine go_X11_readClause rfl ?_
  conv => whnf
  refine smf_next (by omega) hm hp t (fun f1 t1 => ?_)
  have hr := sk_le (T := (tk f0 217 m)) hp
  have u2 := t1.2.1
  by_cases hl : sk (tk f0 217 m) m p < m
  · by_cases hk : (tk f0 217 m) (sk (tk f0 217 m) m p) = 112
    · have ev : nx (tk f0 217 m) m (sk (tk f0 217 m) m p) = 112 := (if_pos hl).trans hk
      have hL : m_let ((tk f0 217 m) (sk (tk f0 217 m) m p)) = 0 := by rw [hk]; rfl
      have h1 : kdS (tk f0 217 m) m p = .ok (0, sk (tk f0 217 m) m p + 1) := by
        unfold kdS
        rw [hL]
        exact if_pos ⟨hl, by decide⟩
      have hq1 : sk (tk f0 217 m) m p + 1 ≤ m := hl
      rw [ev]
      conv => whnf
      refine ⟨fun c => absurd rfl c, fun _ => ?_⟩
      conv => whnf
      refine ⟨fun _ => ?_, fun c => absurd (by decide) c⟩
      conv => whnf
      simp only [u2]
      have t1p := ms_p (x := nI (sk (tk f0 217 m) m p) + 1) t1 (nI_1 _)
      refine smf_number (by omega) hm hq1 t1p hc (by decide) (fun v2 e2 h2 f2 t2 => ?_) (fun r2 h2 f2 t2 => ?_)
      · have q2 := (nm_o (q := 0) (by decide) (by decide) hq1 h2).2
        have y2 := q2.2
        conv => whnf
        refine ⟨fun c => absurd c (i32_nlt.mpr (Int32.le_trans (by decide) y2.1)), fun _ => ?_⟩
        conv => whnf
        refine smf_takes (by omega) hm q2.1 t2 (by decide) (fun e3 h3 f3 t3 => ?_) (fun r3 h3 f3 t3 => ?_)
        · have q3 := (sg_o (q := 0) q2.1 h3).2
          conv => whnf
          (refine ⟨fun c => ?_, fun c => ?_⟩ <;> first | ((have c9 : (1 : Int32) = 0 := by with_reducible exact c); exact absurd c9 (by decide)) | exact absurd (rfl : (0 : Int32) = 0) (by with_reducible exact c) | exact absurd True.intro (by with_reducible exact c) | exact False.elim (by with_reducible exact c) | (conv => whnf))
          refine smf_number (by omega) hm q3 t3 hc (by decide) (fun v4 e4 h4 f4 t4 => ?_) (fun r4 h4 f4 t4 => ?_)
          · have q4 := (nm_o (q := 0) (by decide) (by decide) q3 h4).2
            have y4 := q4.2
            conv => whnf
            refine ⟨fun c => absurd c (i32_nlt.mpr (Int32.le_trans (by decide) y4.1)), fun _ => ?_⟩
            conv => whnf
            refine smf_takes (by omega) hm q4.1 t4 (by decide) (fun e5 h5 f5 t5 => ?_) (fun r5 h5 f5 t5 => ?_)
            · have q5 := (sg_o (q := 0) q4.1 h5).2
              conv => whnf
              (refine ⟨fun c => ?_, fun c => ?_⟩ <;> first | ((have c9 : (1 : Int32) = 0 := by with_reducible exact c); exact absurd c9 (by decide)) | exact absurd (rfl : (0 : Int32) = 0) (by with_reducible exact c) | exact absurd True.intro (by with_reducible exact c) | exact False.elim (by with_reducible exact c) | (conv => whnf))
              refine smf_number (by omega) hm q5 t5 hc (Int32.lt_of_lt_of_le (by decide) y4.1) (fun v6 e6 h6 f6 t6 => ?_) (fun r6 h6 f6 t6 => ?_)
              · have y6p := (nm_o (q := 0) (by decide) (by decide) q5 h6).2
                have y6 : (1 : Int32) ≤ v6 ∧ v6 ≤ 9 := ⟨Int32.le_trans y4.1 y6p.2.1, y6p.2.2⟩
                conv => whnf
                refine ⟨fun _ => ?_, fun c => absurd (Int32.le_trans (by decide) y6.1) c⟩
                conv => whnf
                refine ⟨by unfold vp_in; decide, ?_⟩
                conv => whnf
                refine ⟨by unfold vp_in; decide, ?_⟩
                conv => whnf
                refine ⟨by unfold vp_in; decide, ?_⟩
                conv => whnf
                exact ⟨Or.inr rfl, HO 0 _ _ _ _ (by simp only [clS, h1, h2, h3, h4, h5, h6]) _ (ms_u (j := 0) t6)⟩
              · conv => whnf
                refine ⟨fun c => absurd c (by decide), fun _ => ?_⟩
                conv => whnf
                exact ⟨Or.inl rfl, HE _ (by simp only [clS, h1, h2, h3, h4, h5, h6]) _ t6⟩
            · conv => whnf
              (refine ⟨fun c => ?_, fun c => ?_⟩ <;> first | ((have c9 : (1 : Int32) = 0 := by with_reducible exact c); exact absurd c9 (by decide)) | exact absurd (rfl : (0 : Int32) = 0) (by with_reducible exact c) | exact absurd True.intro (by with_reducible exact c) | exact False.elim (by with_reducible exact c) | (conv => whnf))
              exact ⟨Or.inl rfl, HE _ (by simp only [clS, h1, h2, h3, h4, h5]) _ t5⟩
          · conv => whnf
            refine ⟨fun _ => ?_, fun c => absurd (by decide) c⟩
            conv => whnf
            exact ⟨Or.inl rfl, HE _ (by simp only [clS, h1, h2, h3, h4]) _ t4⟩
        · conv => whnf
          (refine ⟨fun c => ?_, fun c => ?_⟩ <;> first | ((have c9 : (1 : Int32) = 0 := by with_reducible exact c); exact absurd c9 (by decide)) | exact absurd (rfl : (0 : Int32) = 0) (by with_reducible exact c) | exact absurd True.intro (by with_reducible exact c) | exact False.elim (by with_reducible exact c) | (conv => whnf))
          exact ⟨Or.inl rfl, HE _ (by simp only [clS, h1, h2, h3]) _ t3⟩
      · conv => whnf
        refine ⟨fun _ => ?_, fun c => absurd (by decide) c⟩
        conv => whnf
        exact ⟨Or.inl rfl, HE _ (by simp only [clS, h1, h2]) _ t2⟩
    · have k0 := hk
      clear hk
      by_cases hk : (tk f0 217 m) (sk (tk f0 217 m) m p) = 118
      · have ev : nx (tk f0 217 m) m (sk (tk f0 217 m) m p) = 118 := (if_pos hl).trans hk
        have hL : m_let ((tk f0 217 m) (sk (tk f0 217 m) m p)) = 1 := by rw [hk]; rfl
        have h1 : kdS (tk f0 217 m) m p = .ok (1, sk (tk f0 217 m) m p + 1) := by
          unfold kdS
          rw [hL]
          exact if_pos ⟨hl, by decide⟩
        have hq1 : sk (tk f0 217 m) m p + 1 ≤ m := hl
        rw [ev]
        conv => whnf
        refine ⟨fun _ => ?_, fun c => absurd c (by decide)⟩
        conv => whnf
        refine ⟨fun c => absurd rfl c, fun _ => ?_⟩
        conv => whnf
        refine ⟨fun _ => ?_, fun c => absurd (by decide) c⟩
        conv => whnf
        simp only [u2]
        have t1p := ms_p (x := nI (sk (tk f0 217 m) m p) + 1) t1 (nI_1 _)
        refine smf_number (by omega) hm hq1 t1p hc (by decide) (fun v2 e2 h2 f2 t2 => ?_) (fun r2 h2 f2 t2 => ?_)
        · have q2 := (nm_o (q := 0) (by decide) (by decide) hq1 h2).2
          have y2 := q2.2
          conv => whnf
          refine ⟨fun c => absurd c (i32_nlt.mpr (Int32.le_trans (by decide) y2.1)), fun _ => ?_⟩
          conv => whnf
          refine smf_takes (by omega) hm q2.1 t2 (by decide) (fun e3 h3 f3 t3 => ?_) (fun r3 h3 f3 t3 => ?_)
          · have q3 := (sg_o (q := 0) q2.1 h3).2
            conv => whnf
            (refine ⟨fun c => ?_, fun c => ?_⟩ <;> first | ((have c9 : (1 : Int32) = 0 := by with_reducible exact c); exact absurd c9 (by decide)) | exact absurd (rfl : (0 : Int32) = 0) (by with_reducible exact c) | exact absurd True.intro (by with_reducible exact c) | exact False.elim (by with_reducible exact c) | (conv => whnf))
            refine smf_number (by omega) hm q3 t3 hc (by decide) (fun v4 e4 h4 f4 t4 => ?_) (fun r4 h4 f4 t4 => ?_)
            · have q4 := (nm_o (q := 0) (by decide) (by decide) q3 h4).2
              have y4 := q4.2
              conv => whnf
              refine ⟨fun c => absurd c (i32_nlt.mpr (Int32.le_trans (by decide) y4.1)), fun _ => ?_⟩
              conv => whnf
              refine smf_takes (by omega) hm q4.1 t4 (by decide) (fun e5 h5 f5 t5 => ?_) (fun r5 h5 f5 t5 => ?_)
              · have q5 := (sg_o (q := 0) q4.1 h5).2
                conv => whnf
                (refine ⟨fun c => ?_, fun c => ?_⟩ <;> first | ((have c9 : (1 : Int32) = 0 := by with_reducible exact c); exact absurd c9 (by decide)) | exact absurd (rfl : (0 : Int32) = 0) (by with_reducible exact c) | exact absurd True.intro (by with_reducible exact c) | exact False.elim (by with_reducible exact c) | (conv => whnf))
                refine smf_number (by omega) hm q5 t5 hc (Int32.lt_of_lt_of_le (by decide) y4.1) (fun v6 e6 h6 f6 t6 => ?_) (fun r6 h6 f6 t6 => ?_)
                · have y6p := (nm_o (q := 0) (by decide) (by decide) q5 h6).2
                  have y6 : (1 : Int32) ≤ v6 ∧ v6 ≤ 9 := ⟨Int32.le_trans y4.1 y6p.2.1, y6p.2.2⟩
                  conv => whnf
                  refine ⟨fun _ => ?_, fun c => absurd (Int32.le_trans (by decide) y6.1) c⟩
                  conv => whnf
                  refine ⟨by unfold vp_in; decide, ?_⟩
                  conv => whnf
                  refine ⟨by unfold vp_in; decide, ?_⟩
                  conv => whnf
                  refine ⟨by unfold vp_in; decide, ?_⟩
                  conv => whnf
                  exact ⟨Or.inr rfl, HO 1 _ _ _ _ (by simp only [clS, h1, h2, h3, h4, h5, h6]) _ (ms_u (j := 1) t6)⟩
                · conv => whnf
                  refine ⟨fun c => absurd c (by decide), fun _ => ?_⟩
                  conv => whnf
                  exact ⟨Or.inl rfl, HE _ (by simp only [clS, h1, h2, h3, h4, h5, h6]) _ t6⟩
              · conv => whnf
                (refine ⟨fun c => ?_, fun c => ?_⟩ <;> first | ((have c9 : (1 : Int32) = 0 := by with_reducible exact c); exact absurd c9 (by decide)) | exact absurd (rfl : (0 : Int32) = 0) (by with_reducible exact c) | exact absurd True.intro (by with_reducible exact c) | exact False.elim (by with_reducible exact c) | (conv => whnf))
                exact ⟨Or.inl rfl, HE _ (by simp only [clS, h1, h2, h3, h4, h5]) _ t5⟩
            · conv => whnf
              refine ⟨fun _ => ?_, fun c => absurd (by decide) c⟩
              conv => whnf
              exact ⟨Or.inl rfl, HE _ (by simp only [clS, h1, h2, h3, h4]) _ t4⟩
          · conv => whnf
            (refine ⟨fun c => ?_, fun c => ?_⟩ <;> first | ((have c9 : (1 : Int32) = 0 := by with_reducible exact c); exact absurd c9 (by decide)) | exact absurd (rfl : (0 : Int32) = 0) (by with_reducible exact c) | exact absurd True.intro (by with_reducible exact c) | exact False.elim (by with_reducible exact c) | (conv => whnf))
            exact ⟨Or.inl rfl, HE _ (by simp only [clS, h1, h2, h3]) _ t3⟩
        · conv => whnf
          refine ⟨fun _ => ?_, fun c => absurd (by decide) c⟩
          conv => whnf
          exact ⟨Or.inl rfl, HE _ (by simp only [clS, h1, h2]) _ t2⟩
      · have k1 := hk
        clear hk
        by_cases hk : (tk f0 217 m) (sk (tk f0 217 m) m p) = 100
        · have ev : nx (tk f0 217 m) m (sk (tk f0 217 m) m p) = 100 := (if_pos hl).trans hk
          have hL : m_let ((tk f0 217 m) (sk (tk f0 217 m) m p)) = 2 := by rw [hk]; rfl
          have h1 : kdS (tk f0 217 m) m p = .ok (2, sk (tk f0 217 m) m p + 1) := by
            unfold kdS
            rw [hL]
            exact if_pos ⟨hl, by decide⟩
          have hq1 : sk (tk f0 217 m) m p + 1 ≤ m := hl
          rw [ev]
          conv => whnf
          refine ⟨fun _ => ?_, fun c => absurd c (by decide)⟩
          conv => whnf
          refine ⟨fun _ => ?_, fun c => absurd c (by decide)⟩
          conv => whnf
          refine ⟨fun c => absurd rfl c, fun _ => ?_⟩
          conv => whnf
          refine ⟨fun _ => ?_, fun c => absurd (by decide) c⟩
          conv => whnf
          simp only [u2]
          have t1p := ms_p (x := nI (sk (tk f0 217 m) m p) + 1) t1 (nI_1 _)
          refine smf_number (by omega) hm hq1 t1p hc (by decide) (fun v2 e2 h2 f2 t2 => ?_) (fun r2 h2 f2 t2 => ?_)
          · have q2 := (nm_o (q := 0) (by decide) (by decide) hq1 h2).2
            have y2 := q2.2
            conv => whnf
            refine ⟨fun c => absurd c (i32_nlt.mpr (Int32.le_trans (by decide) y2.1)), fun _ => ?_⟩
            conv => whnf
            refine smf_takes (by omega) hm q2.1 t2 (by decide) (fun e3 h3 f3 t3 => ?_) (fun r3 h3 f3 t3 => ?_)
            · have q3 := (sg_o (q := 0) q2.1 h3).2
              conv => whnf
              (refine ⟨fun c => ?_, fun c => ?_⟩ <;> first | ((have c9 : (1 : Int32) = 0 := by with_reducible exact c); exact absurd c9 (by decide)) | exact absurd (rfl : (0 : Int32) = 0) (by with_reducible exact c) | exact absurd True.intro (by with_reducible exact c) | exact False.elim (by with_reducible exact c) | (conv => whnf))
              refine smf_number (by omega) hm q3 t3 hc (by decide) (fun v4 e4 h4 f4 t4 => ?_) (fun r4 h4 f4 t4 => ?_)
              · have q4 := (nm_o (q := 0) (by decide) (by decide) q3 h4).2
                have y4 := q4.2
                conv => whnf
                refine ⟨fun c => absurd c (i32_nlt.mpr (Int32.le_trans (by decide) y4.1)), fun _ => ?_⟩
                conv => whnf
                refine smf_takes (by omega) hm q4.1 t4 (by decide) (fun e5 h5 f5 t5 => ?_) (fun r5 h5 f5 t5 => ?_)
                · have q5 := (sg_o (q := 0) q4.1 h5).2
                  conv => whnf
                  (refine ⟨fun c => ?_, fun c => ?_⟩ <;> first | ((have c9 : (1 : Int32) = 0 := by with_reducible exact c); exact absurd c9 (by decide)) | exact absurd (rfl : (0 : Int32) = 0) (by with_reducible exact c) | exact absurd True.intro (by with_reducible exact c) | exact False.elim (by with_reducible exact c) | (conv => whnf))
                  refine smf_number (by omega) hm q5 t5 hc (Int32.lt_of_lt_of_le (by decide) y4.1) (fun v6 e6 h6 f6 t6 => ?_) (fun r6 h6 f6 t6 => ?_)
                  · have y6p := (nm_o (q := 0) (by decide) (by decide) q5 h6).2
                    have y6 : (1 : Int32) ≤ v6 ∧ v6 ≤ 9 := ⟨Int32.le_trans y4.1 y6p.2.1, y6p.2.2⟩
                    conv => whnf
                    refine ⟨fun _ => ?_, fun c => absurd (Int32.le_trans (by decide) y6.1) c⟩
                    conv => whnf
                    refine ⟨by unfold vp_in; decide, ?_⟩
                    conv => whnf
                    refine ⟨by unfold vp_in; decide, ?_⟩
                    conv => whnf
                    refine ⟨by unfold vp_in; decide, ?_⟩
                    conv => whnf
                    exact ⟨Or.inr rfl, HO 2 _ _ _ _ (by simp only [clS, h1, h2, h3, h4, h5, h6]) _ (ms_u (j := 2) t6)⟩
                  · conv => whnf
                    refine ⟨fun c => absurd c (by decide), fun _ => ?_⟩
                    conv => whnf
                    exact ⟨Or.inl rfl, HE _ (by simp only [clS, h1, h2, h3, h4, h5, h6]) _ t6⟩
                · conv => whnf
                  (refine ⟨fun c => ?_, fun c => ?_⟩ <;> first | ((have c9 : (1 : Int32) = 0 := by with_reducible exact c); exact absurd c9 (by decide)) | exact absurd (rfl : (0 : Int32) = 0) (by with_reducible exact c) | exact absurd True.intro (by with_reducible exact c) | exact False.elim (by with_reducible exact c) | (conv => whnf))
                  exact ⟨Or.inl rfl, HE _ (by simp only [clS, h1, h2, h3, h4, h5]) _ t5⟩
              · conv => whnf
                refine ⟨fun _ => ?_, fun c => absurd (by decide) c⟩
                conv => whnf
                exact ⟨Or.inl rfl, HE _ (by simp only [clS, h1, h2, h3, h4]) _ t4⟩
            · conv => whnf
              (refine ⟨fun c => ?_, fun c => ?_⟩ <;> first | ((have c9 : (1 : Int32) = 0 := by with_reducible exact c); exact absurd c9 (by decide)) | exact absurd (rfl : (0 : Int32) = 0) (by with_reducible exact c) | exact absurd True.intro (by with_reducible exact c) | exact False.elim (by with_reducible exact c) | (conv => whnf))
              exact ⟨Or.inl rfl, HE _ (by simp only [clS, h1, h2, h3]) _ t3⟩
          · conv => whnf
            refine ⟨fun _ => ?_, fun c => absurd (by decide) c⟩
            conv => whnf
            exact ⟨Or.inl rfl, HE _ (by simp only [clS, h1, h2]) _ t2⟩
        · have k2 := hk
          clear hk
          by_cases hk : (tk f0 217 m) (sk (tk f0 217 m) m p) = 114
          · have ev : nx (tk f0 217 m) m (sk (tk f0 217 m) m p) = 114 := (if_pos hl).trans hk
            have hL : m_let ((tk f0 217 m) (sk (tk f0 217 m) m p)) = 3 := by rw [hk]; rfl
            have h1 : kdS (tk f0 217 m) m p = .ok (3, sk (tk f0 217 m) m p + 1) := by
              unfold kdS
              rw [hL]
              exact if_pos ⟨hl, by decide⟩
            have hq1 : sk (tk f0 217 m) m p + 1 ≤ m := hl
            rw [ev]
            conv => whnf
            refine ⟨fun _ => ?_, fun c => absurd c (by decide)⟩
            conv => whnf
            refine ⟨fun _ => ?_, fun c => absurd c (by decide)⟩
            conv => whnf
            refine ⟨fun _ => ?_, fun c => absurd c (by decide)⟩
            conv => whnf
            refine ⟨fun c => absurd rfl c, fun _ => ?_⟩
            conv => whnf
            refine ⟨fun _ => ?_, fun c => absurd (by decide) c⟩
            conv => whnf
            simp only [u2]
            have t1p := ms_p (x := nI (sk (tk f0 217 m) m p) + 1) t1 (nI_1 _)
            refine smf_number (by omega) hm hq1 t1p hc (by decide) (fun v2 e2 h2 f2 t2 => ?_) (fun r2 h2 f2 t2 => ?_)
            · have q2 := (nm_o (q := 0) (by decide) (by decide) hq1 h2).2
              have y2 := q2.2
              conv => whnf
              refine ⟨fun c => absurd c (i32_nlt.mpr (Int32.le_trans (by decide) y2.1)), fun _ => ?_⟩
              conv => whnf
              refine smf_takes (by omega) hm q2.1 t2 (by decide) (fun e3 h3 f3 t3 => ?_) (fun r3 h3 f3 t3 => ?_)
              · have q3 := (sg_o (q := 0) q2.1 h3).2
                conv => whnf
                (refine ⟨fun c => ?_, fun c => ?_⟩ <;> first | ((have c9 : (1 : Int32) = 0 := by with_reducible exact c); exact absurd c9 (by decide)) | exact absurd (rfl : (0 : Int32) = 0) (by with_reducible exact c) | exact absurd True.intro (by with_reducible exact c) | exact False.elim (by with_reducible exact c) | (conv => whnf))
                refine smf_number (by omega) hm q3 t3 hc (by decide) (fun v4 e4 h4 f4 t4 => ?_) (fun r4 h4 f4 t4 => ?_)
                · have q4 := (nm_o (q := 0) (by decide) (by decide) q3 h4).2
                  have y4 := q4.2
                  conv => whnf
                  refine ⟨fun c => absurd c (i32_nlt.mpr (Int32.le_trans (by decide) y4.1)), fun _ => ?_⟩
                  conv => whnf
                  refine smf_takes (by omega) hm q4.1 t4 (by decide) (fun e5 h5 f5 t5 => ?_) (fun r5 h5 f5 t5 => ?_)
                  · have q5 := (sg_o (q := 0) q4.1 h5).2
                    conv => whnf
                    (refine ⟨fun c => ?_, fun c => ?_⟩ <;> first | ((have c9 : (1 : Int32) = 0 := by with_reducible exact c); exact absurd c9 (by decide)) | exact absurd (rfl : (0 : Int32) = 0) (by with_reducible exact c) | exact absurd True.intro (by with_reducible exact c) | exact False.elim (by with_reducible exact c) | (conv => whnf))
                    refine smf_number (by omega) hm q5 t5 hc (Int32.lt_of_lt_of_le (by decide) y4.1) (fun v6 e6 h6 f6 t6 => ?_) (fun r6 h6 f6 t6 => ?_)
                    · have y6p := (nm_o (q := 0) (by decide) (by decide) q5 h6).2
                      have y6 : (1 : Int32) ≤ v6 ∧ v6 ≤ 9 := ⟨Int32.le_trans y4.1 y6p.2.1, y6p.2.2⟩
                      conv => whnf
                      refine ⟨fun _ => ?_, fun c => absurd (Int32.le_trans (by decide) y6.1) c⟩
                      conv => whnf
                      refine ⟨by unfold vp_in; decide, ?_⟩
                      conv => whnf
                      refine ⟨by unfold vp_in; decide, ?_⟩
                      conv => whnf
                      refine ⟨by unfold vp_in; decide, ?_⟩
                      conv => whnf
                      exact ⟨Or.inr rfl, HO 3 _ _ _ _ (by simp only [clS, h1, h2, h3, h4, h5, h6]) _ (ms_u (j := 3) t6)⟩
                    · conv => whnf
                      refine ⟨fun c => absurd c (by decide), fun _ => ?_⟩
                      conv => whnf
                      exact ⟨Or.inl rfl, HE _ (by simp only [clS, h1, h2, h3, h4, h5, h6]) _ t6⟩
                  · conv => whnf
                    (refine ⟨fun c => ?_, fun c => ?_⟩ <;> first | ((have c9 : (1 : Int32) = 0 := by with_reducible exact c); exact absurd c9 (by decide)) | exact absurd (rfl : (0 : Int32) = 0) (by with_reducible exact c) | exact absurd True.intro (by with_reducible exact c) | exact False.elim (by with_reducible exact c) | (conv => whnf))
                    exact ⟨Or.inl rfl, HE _ (by simp only [clS, h1, h2, h3, h4, h5]) _ t5⟩
                · conv => whnf
                  refine ⟨fun _ => ?_, fun c => absurd (by decide) c⟩
                  conv => whnf
                  exact ⟨Or.inl rfl, HE _ (by simp only [clS, h1, h2, h3, h4]) _ t4⟩
              · conv => whnf
                (refine ⟨fun c => ?_, fun c => ?_⟩ <;> first | ((have c9 : (1 : Int32) = 0 := by with_reducible exact c); exact absurd c9 (by decide)) | exact absurd (rfl : (0 : Int32) = 0) (by with_reducible exact c) | exact absurd True.intro (by with_reducible exact c) | exact False.elim (by with_reducible exact c) | (conv => whnf))
                exact ⟨Or.inl rfl, HE _ (by simp only [clS, h1, h2, h3]) _ t3⟩
            · conv => whnf
              refine ⟨fun _ => ?_, fun c => absurd (by decide) c⟩
              conv => whnf
              exact ⟨Or.inl rfl, HE _ (by simp only [clS, h1, h2]) _ t2⟩
          · have k3 := hk
            clear hk
            have hL : m_let ((tk f0 217 m) (sk (tk f0 217 m) m p)) = -1 := by
              unfold m_let
              rw [if_neg k0, if_neg k1, if_neg k2, if_neg k3]
            have h1 : kdS (tk f0 217 m) m p = .error (sk (tk f0 217 m) m p) := if_neg (fun z => z.2 hL)
            have ev : nx (tk f0 217 m) m (sk (tk f0 217 m) m p) = (tk f0 217 m) (sk (tk f0 217 m) m p) := if_pos hl
            rw [ev]
            conv => whnf
            refine ⟨fun _ => ?_, fun c => absurd c (k0)⟩
            conv => whnf
            refine ⟨fun _ => ?_, fun c => absurd c (k1)⟩
            conv => whnf
            refine ⟨fun _ => ?_, fun c => absurd c (k2)⟩
            conv => whnf
            refine ⟨fun _ => ?_, fun c => absurd c (k3)⟩
            conv => whnf
            refine ⟨fun c => absurd c (by decide), fun _ => ?_⟩
            conv => whnf
            exact ⟨Or.inl rfl, HE _ (by simp only [clS, h1]) _ t1⟩
  · have h1 : kdS (tk f0 217 m) m p = .error (sk (tk f0 217 m) m p) := if_neg (fun z => hl z.1)
    have ev : nx (tk f0 217 m) m (sk (tk f0 217 m) m p) = -1 := if_neg hl
    rw [ev]
    conv => whnf
    refine ⟨fun _ => ?_, fun c => absurd c (by decide)⟩
    conv => whnf
    refine ⟨fun _ => ?_, fun c => absurd c (by decide)⟩
    conv => whnf
    refine ⟨fun _ => ?_, fun c => absurd c (by decide)⟩
    conv => whnf
    refine ⟨fun _ => ?_, fun c => absurd c (by decide)⟩
    conv => whnf
    refine ⟨fun c => absurd c (by decide), fun _ => ?_⟩
    conv => whnf
    exact ⟨Or.inl rfl, HE _ (by simp only [clS, h1]) _ t1⟩
