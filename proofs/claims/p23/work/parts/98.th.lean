set_option maxRecDepth 100000 in
set_option maxHeartbeats 4000000 in
theorem smf_isAhead {d L : Nat} {f : Nat → Nat → Int32} {g : Nat → Nat → Int64} {p u : Nat} {R : Option Value → mH → Prop} (hd : 1 ≤ d) (hp : p < 40) (hu : u < p) (H1 : (f 200 p + f 201 p) < (f 200 u + f 201 u) → R (some (.int 1)) (shF L, f, g)) (H0 : ¬ (f 200 p + f 201 p) < (f 200 u + f 201 u) → R (some (.int 0)) (shF L, f, g)) : Run mtab d 232 [.ref 181, .int (nI p), .int (nI u)] (shF L, f, g) R := by
  obtain ⟨d, rfl⟩ : ∃ e, d = e + 1 := ⟨d - 1, by omega⟩
  refine go_X11_isAhead rfl ?_
  conv => whnf
  have hcp : (nI p).toNatClampNeg = p := nI_clamp (by omega)
  have hcu : (nI u).toNatClampNeg = u := nI_clamp (by omega)
  refine ⟨vp_in_nI (by omega) (by decide), ?_⟩
  conv => whnf
  refine ⟨vp_in_nI (by omega) (by decide), ?_⟩
  conv => whnf
  refine ⟨vp_in_nI (by omega) (by decide), ?_⟩
  conv => whnf
  refine ⟨vp_in_nI (by omega) (by decide), ?_⟩
  conv => whnf
  simp only [hcp, hcu]
  refine ⟨fun c1 => ?_, fun c1 => ?_⟩
  · conv => whnf
    have G := H1 c1
    first | exact ⟨Or.inr rfl, G⟩ | exact G
  · conv => whnf
    refine ⟨fun c2 => ?_, fun c2 => ?_⟩
    · conv => whnf
      have G := H0 c1
      first | exact ⟨Or.inl rfl, G⟩ | exact G
    · conv => whnf
      refine ⟨fun c3 => ?_, fun c3 => absurd (nI_le (by omega) (by omega)) c3⟩
      conv => whnf
      have G := H0 c1
      first | exact ⟨Or.inl rfl, G⟩ | exact G
set_option maxRecDepth 100000 in
set_option maxHeartbeats 4000000 in
theorem msf_in {d L p q : Nat} {f0 : Nat → Nat → Int32} {g : Nat → Nat → Int64} {o : Nat → Nat} {s4 s5 s6 s7 : Option Value} {R : Option Value → mH → Prop} (hd : 1 ≤ d) (hp : p < 40) (hq : q ≤ p) (ho : ∀ i, i < q → o i < p)
    (HO : ∀ (b' x' : Int32) (s3 : Option Value) (f' : Nat → Nat → Int32), b' = nI (q + 1) → x' = nI (p + 1) → XI f' → (∀ i, i < q + 1 → f' 223 i = nI (insO o (insP (fun u => f0 200 u + f0 201 u) o p q) p i)) → (∀ a i, ¬ a = 223 → f' a i = f0 a i) → WPe pg_X11_edition none (Run mtab d) R (m_drop pg_X11_edition 12) [some (.ref 181), some (.int b'), some (.int x'), s3, s4, s5, s6, s7] [] (shF L, f', g)) :
    ∀ (t : Nat) (y : Int32) (f : Nat → Nat → Int32), t ≤ q → y = nI t → insP (fun u => f0 200 u + f0 201 u) o p q = insP (fun u => f0 200 u + f0 201 u) o p t → (∀ i, i < t → f 223 i = nI (o i)) → (∀ i, t < i → i ≤ q → f 223 i = nI (o (i - 1))) → (∀ a i, ¬ a = 223 → f a i = f0 a i) → XI f → WPe pg_X11_edition none (Run mtab d) R (m_drop pg_X11_edition 26) [some (.ref 181), some (.int (nI q)), some (.int (nI p)), some (.int y), s4, s5, s6, s7] [] (shF L, f, g)
  | 0, y, f, ht, hy, INS, hA, hB, hF, hX => by
    subst hy
    have hc0 : (nI 0).toNatClampNeg = 0 := nI_clamp (by omega)
    refine at_X11_edition ?_
    conv => whnf
    refine ⟨fun c => ?_, fun c => absurd (by decide) c⟩
    conv => whnf
    refine ⟨vp_in_nI (by omega) (by decide), ?_⟩
    conv => whnf
    simp only [hc0]
    refine HO _ _ _ _ (nI_1 q) (nI_1 p) (XI_ui hX (show inr 0 39 _ from inr_n (m := 39) (by omega) rfl (by decide))) (fun i hi => ?_) (fun a b h => (m_ui_o (fun e => h e.1)).trans (hF a b h))
    rw [show insP (fun u => f0 200 u + f0 201 u) o p q = 0 from INS]
    by_cases e : i = 0
    · subst e
      rw [m_ui_s]
      have e9 : insO o (0) p (0) = p := by
        unfold insO
        rw [if_neg (by omega), if_pos rfl]
      rw [e9]
    · rw [m_ui_o (by omega)]
      unfold insO
      by_cases e2 : i < 0
      · rw [if_pos e2]
        exact hA i e2
      · rw [if_neg e2, if_neg e]
        exact hB i (by omega) (by omega)
  | t + 1, y, f, ht, hy, INS, hA, hB, hF, hX => by
    subst hy
    have hp1 : nI (t + 1) - 1 = nI t := nI_pred t
    have hct : (nI t).toNatClampNeg = t := nI_clamp (by omega)
    have hct1 : (nI (t + 1)).toNatClampNeg = t + 1 := nI_clamp (by omega)
    have e223 : f 223 t = nI (o t) := hA t (by omega)
    have hot := ho t (by omega)
    have g200 : ∀ u, f 200 u = f0 200 u := fun u => hF 200 u (by omega)
    have g201 : ∀ u, f 201 u = f0 201 u := fun u => hF 201 u (by omega)
    refine at_X11_edition ?_
    conv => whnf
    refine ⟨fun c => absurd c (nI_nle (by omega) (by omega)), fun c => ?_⟩
    conv => whnf
    simp only [hp1]
    refine ⟨vp_in_nI (by omega) (by decide), ?_⟩
    conv => whnf
    simp only [hct, e223]
    refine smf_isAhead (by omega) hp hot (fun c2 => ?_) (fun c2 => ?_)
    · simp only [g200, g201] at c2
      rw [insP_y c2] at INS
      conv => whnf
      (refine ⟨fun z9 => ?_, fun z9 => ?_⟩ <;> first | ((have c9 : (1 : Int32) = 0 := by with_reducible exact z9); exact absurd c9 (by decide)) | exact absurd (rfl : (0 : Int32) = 0) (by with_reducible exact z9) | exact absurd True.intro (by with_reducible exact z9) | exact False.elim (by with_reducible exact z9) | (conv => whnf))
      simp only [hp1]
      refine ⟨vp_in_nI (by omega) (by decide), ?_⟩
      conv => whnf
      refine ⟨vp_in_nI (by omega) (by decide), ?_⟩
      conv => whnf
      simp only [hct, hct1, e223]
      refine msf_in hd hp hq ho HO t _ _ (by omega) (by rw [← Int32.sub_eq_add_neg, nI_pred]) INS (fun i hi => ?_) (fun i h1 h2 => ?_) (fun a b h => (m_ui_o (fun e => h e.1)).trans (hF a b h)) (XI_ui hX (show inr 0 39 _ from inr_n (m := 39) (by omega) rfl (by decide)))
      · rw [m_ui_o (by omega)]
        exact hA i (by omega)
      · by_cases e : i = t + 1
        · subst e
          rw [m_ui_s, show t + 1 - 1 = t by omega]
        · rw [m_ui_o (by omega)]
          exact hB i (by omega) h2
    · simp only [g200, g201] at c2
      rw [insP_n c2] at INS
      conv => whnf
      (refine ⟨fun z9 => ?_, fun z9 => ?_⟩ <;> first | ((have c9 : (1 : Int32) = 0 := by with_reducible exact z9); exact absurd c9 (by decide)) | exact absurd (rfl : (0 : Int32) = 0) (by with_reducible exact z9) | exact absurd True.intro (by with_reducible exact z9) | exact False.elim (by with_reducible exact z9) | (conv => whnf))
      refine ⟨vp_in_nI (by omega) (by decide), ?_⟩
      conv => whnf
      simp only [hct1]
      refine HO _ _ _ _ (nI_1 q) (nI_1 p) (XI_ui hX (show inr 0 39 _ from inr_n (m := 39) (by omega) rfl (by decide))) (fun i hi => ?_) (fun a b h => (m_ui_o (fun e => h e.1)).trans (hF a b h))
      rw [show insP (fun u => f0 200 u + f0 201 u) o p q = t + 1 from INS]
      by_cases e : i = t + 1
      · subst e
        rw [m_ui_s]
        have e9 : insO o (t + 1) p (t + 1) = p := by
          unfold insO
          rw [if_neg (by omega), if_pos rfl]
        rw [e9]
      · rw [m_ui_o (by omega)]
        unfold insO
        by_cases e2 : i < t + 1
        · rw [if_pos e2]
          exact hA i e2
        · rw [if_neg e2, if_neg e]
          exact hB i (by omega) (by omega)
set_option maxRecDepth 100000 in
set_option maxHeartbeats 4000000 in
theorem msf_lp {d L n v : Nat} {f0 : Nat → Nat → Int32} {g : Nat → Nat → Int64} {R : Option Value → mH → Prop} (hd : 2 ≤ d) (hn : n ≤ 40) (h0 : f0 181 0 = nI n) (hvb : f0 181 48 = nI v) (hv : v ≤ 60) (H : ∀ (f' : Nat → Nat → Int32) (s5 s6 s7 : Option Value), XI f' → (∀ j, j < (srt (fun u => f0 200 u + f0 201 u) (fun u => (smp f0 9999 (nI u) v).1 = 1) n).1 → f' 223 j = nI ((srt (fun u => f0 200 u + f0 201 u) (fun u => (smp f0 9999 (nI u) v).1 = 1) n).2 j)) → (∀ a i, ¬ a = 223 → f' a i = f0 a i) → WPe pg_X11_edition none (Run mtab d) R (m_drop pg_X11_edition 64) [some (.ref 181), some (.int (nI (srt (fun u => f0 200 u + f0 201 u) (fun u => (smp f0 9999 (nI u) v).1 = 1) n).1)), some (.int 0), some (.int 0), some (.int 0), s5, s6, s7] [] (shF L, f', g)) :
    ∀ (k i : Nat) (x b : Int32) (s3 s4 s5 s6 s7 : Option Value) (f : Nat → Nat → Int32), i + k = n → x = nI i → b = nI (srt (fun u => f0 200 u + f0 201 u) (fun u => (smp f0 9999 (nI u) v).1 = 1) i).1 → (∀ j, j < (srt (fun u => f0 200 u + f0 201 u) (fun u => (smp f0 9999 (nI u) v).1 = 1) i).1 → f 223 j = nI ((srt (fun u => f0 200 u + f0 201 u) (fun u => (smp f0 9999 (nI u) v).1 = 1) i).2 j)) → (∀ a i, ¬ a = 223 → f a i = f0 a i) → XI f → WPe pg_X11_edition none (Run mtab d) R (m_drop pg_X11_edition 12) [some (.ref 181), some (.int b), some (.int x), s3, s4, s5, s6, s7] [] (shF L, f, g)
  | 0, i, x, b, s3, s4, s5, s6, s7, f, hi, hx, hb, hA, hF, hX => by
    have e : i = n := by omega
    subst hx
    subst hb
    subst e
    have hc : f 181 0 = nI i := (hF 181 0 (by omega)).trans h0
    refine at_X11_edition ?_
    conv => whnf
    simp only [hc]
    refine ⟨fun c => ?_, fun c => absurd (nI_le (Nat.le_refl _) (by omega)) c⟩
    conv => whnf
    exact H f _ _ _ hX hA hF
  | k + 1, i, x, b, s3, s4, s5, s6, s7, f, hi, hx, hb, hA, hF, hX => by
    subst hx
    subst hb
    obtain ⟨l1, l2, l3⟩ := srtI (mid := (fun u => f0 200 u + f0 201 u)) (inn := fun u => (smp f0 9999 (nI u) v).1 = 1) i
    have hc : f 181 0 = nI n := (hF 181 0 (by omega)).trans h0
    have hvf : f 181 48 = nI v := (hF 181 48 (by omega)).trans hvb
    have esm : smp f 9999 (nI i) v = smp f0 9999 (nI i) v := smp_kp (fun j => hF 218 j (by omega)) _ _ _
    refine at_X11_edition ?_
    conv => whnf
    simp only [hc]
    refine ⟨fun c => absurd c (nI_ge (b := n) (by omega) (by omega)), fun c => ?_⟩
    conv => whnf
    (try simp only [hvf])
    refine smf_stateOf (by omega) hv ?_
    conv => whnf
    simp only [esm]
    refine ⟨fun c1 => ?_, fun c1 => ?_⟩
    · conv => whnf
      have es := srt_n (mid := (fun u => f0 200 u + f0 201 u)) (inn := fun u => (smp f0 9999 (nI u) v).1 = 1) (w := i) c1
      refine msf_lp hd hn h0 hvb hv H k (i + 1) _ _ _ _ _ _ _ f (by omega) (nI_1 i) (by rw [es]) (fun j hj => ?_) hF hX
      rw [es] at hj ⊢
      exact hA j hj
    · conv => whnf
      refine msf_in (p := i) (f0 := f0) (by omega) (by omega) l1 l2 (fun b' x' s3' f' hb' hx' hX' hA' hF' => ?_) (srt (fun u => f0 200 u + f0 201 u) (fun u => (smp f0 9999 (nI u) v).1 = 1) i).1 _ f (Nat.le_refl _) rfl rfl hA (fun j h1 h2 => absurd h1 (by omega)) hF hX
      have es := srt_y (mid := (fun u => f0 200 u + f0 201 u)) (inn := fun u => (smp f0 9999 (nI u) v).1 = 1) (w := i) c1
      refine msf_lp hd hn h0 hvb hv H k (i + 1) x' b' _ _ _ _ _ f' (by omega) hx' (by rw [es]; exact hb') (fun j hj => ?_) hF' hX'
      rw [es] at hj ⊢
      exact hA' j hj
/-- the model's tables are those of the state -/
def MS (f : Nat → Nat → Int32) (s : EdS) : Prop := (∀ j, j < 40 → (s.1 j = -4 ∧ f 220 j = 0 ∧ s.2.1 j = 0) ∨ (¬ s.1 j = -4 ∧ ¬ f 220 j = 0 ∧ f 221 j = s.1 j ∧ f 222 j = s.2.1 j)) ∧ ∀ k, k ≤ 40 → f 219 k = s.2.2.1 k ∧ inr 0 26 (f 219 k)
theorem MS_f {f f' : Nat → Nat → Int32} {s : EdS} (h : ∀ a i, (219 ≤ a ∧ a ≤ 222) → f' a i = f a i) (m : MS f s) : MS f' s := by
  refine ⟨fun j hj => ?_, fun k hk => ?_⟩
  · rw [h 220 j (by omega), h 221 j (by omega), h 222 j (by omega)]
    exact m.1 j hj
  · rw [h 219 k (by omega)]
    exact m.2 k hk
theorem MS_1 {f : Nat → Nat → Int32} {s : EdS} {w i : Nat} {a g : Int32} (m : MS f s) (hw : w < 40) (hi : i + 1 ≤ 40) (hN : s.1 w = -4) : MS (m_ui (m_ui (m_ui (m_ui f 219 (i + 1) (f 219 (i + 1))) 221 w (nI (i + 1))) 222 w 0) 220 w 1) (up1 s.1 w (nI (i + 1)), s.2.1, s.2.2.1, a, g) := by
  refine ⟨fun j hj => ?_, fun k hk => ?_⟩
  · by_cases e : j = w
    · subst e
      have z : s.2.1 j = 0 := ((m.1 j hj).resolve_right (fun q => q.1 hN)).2.2
      refine Or.inr ⟨?_, ?_, ?_, ?_⟩
      · show ¬ up1 s.1 j (nI (i + 1)) j = -4
        rw [up1_s]
        exact nI_m4 (by omega)
      · rw [m_ui_s]
        decide
      · show _ = up1 s.1 j (nI (i + 1)) j
        rw [up1_s, m_ui_o (by omega), m_ui_o (by omega), m_ui_s]
      · show _ = s.2.1 j
        rw [z, m_ui_o (by omega), m_ui_s]
    · show (up1 s.1 w (nI (i + 1)) j = -4 ∧ _ ∧ _) ∨ (¬ up1 s.1 w (nI (i + 1)) j = -4 ∧ _ ∧ _ = up1 s.1 w (nI (i + 1)) j ∧ _)
      rw [up1_o e, m_ui_o (by omega), m_ui_o (by omega), m_ui_o (by omega), m_ui_o (by omega)]
      rw [m_ui_o (by omega), m_ui_o (by omega), m_ui_o (by omega), m_ui_o (by omega)]
      rw [m_ui_o (by omega), m_ui_o (by omega), m_ui_o (by omega), m_ui_o (by omega)]
      exact m.1 j hj
  · show _ = s.2.2.1 k ∧ _
    rw [m_ui_o (by omega), m_ui_o (by omega), m_ui_o (by omega)]
    by_cases e : k = i + 1
    · subst e
      rw [m_ui_s]
      exact m.2 (i + 1) hi
    · rw [m_ui_o (by omega)]
      exact m.2 k hk
theorem MS_L {f : Nat → Nat → Int32} {s : EdS} {w q : Nat} {a g : Int32} (m : MS f s) (hw : w < 40) (hq : q ≤ 40) (hN : ¬ 26 ≤ f 219 q) : MS (m_ui (m_ui (m_ui (m_ui f 219 q (f 219 q + 1)) 221 w (nI q)) 222 w (f 219 q + 1)) 220 w 1) (up1 s.1 w (nI q), up1 s.2.1 w (f 219 q + 1), up1 s.2.2.1 q (f 219 q + 1), a, g) := by
  refine ⟨fun j hj => ?_, fun k hk => ?_⟩
  · by_cases e : j = w
    · subst e
      refine Or.inr ⟨?_, ?_, ?_, ?_⟩
      · show ¬ up1 s.1 j (nI q) j = -4
        rw [up1_s]
        exact nI_m4 (by omega)
      · rw [m_ui_s]
        decide
      · show _ = up1 s.1 j (nI q) j
        rw [up1_s, m_ui_o (by omega), m_ui_o (by omega), m_ui_s]
      · show _ = up1 s.2.1 j (f 219 q + 1) j
        rw [up1_s, m_ui_o (by omega), m_ui_s]
    · show (up1 s.1 w (nI q) j = -4 ∧ _ ∧ up1 s.2.1 w (f 219 q + 1) j = 0) ∨ (¬ up1 s.1 w (nI q) j = -4 ∧ _ ∧ _ = up1 s.1 w (nI q) j ∧ _ = up1 s.2.1 w (f 219 q + 1) j)
      rw [up1_o e, up1_o e, m_ui_o (by omega), m_ui_o (by omega), m_ui_o (by omega), m_ui_o (by omega)]
      rw [m_ui_o (by omega), m_ui_o (by omega), m_ui_o (by omega), m_ui_o (by omega)]
      rw [m_ui_o (by omega), m_ui_o (by omega), m_ui_o (by omega), m_ui_o (by omega)]
      exact m.1 j hj
  · show _ = up1 s.2.2.1 q (f 219 q + 1) k ∧ _
    rw [m_ui_o (by omega), m_ui_o (by omega), m_ui_o (by omega)]
    by_cases e : k = q
    · subst e
      rw [m_ui_s, up1_s]
      refine ⟨rfl, ?_⟩
      obtain ⟨y, hy, ey⟩ := inr_nat (n := 26) rfl (m.2 k hk).2
      rw [ey] at hN ⊢
      have : ¬ 26 ≤ y := fun z => hN (nI_le (a := 26) z (by omega))
      rw [nI_1]
      exact inr_n (m := 26) (by omega) rfl (by decide)
    · rw [m_ui_o (by omega), up1_o e]
      exact m.2 k hk
theorem nar1 : vp_nar .boolean 1 = 1 := rfl
set_option maxRecDepth 100000 in
set_option maxHeartbeats 8000000 in
theorem mnu1 {d L m : Nat} {f0 : Nat → Nat → Int32} {g : Nat → Nat → Int64} {o : Nat → Nat} {s0 : EdS} {R : Option Value → mH → Prop} (hd : 1 ≤ d) (hm : m ≤ 40) (ho : ∀ i, i < m → o i < 40) (hc0 : f0 181 50 = 0) (hdi : ∀ i j, i < j → j < m → ¬ o i = o j) (H : ∀ f', XI f' → MS f' (edR ed1 o s0 m) → f' 181 50 = f0 181 50 + 1 → kp [10, 17] f0 f' → R (some (.int (edR ed1 o s0 m).2.2.2.2)) (shF L, f', g)) :
    ∀ (k i : Nat) (x a b : Int32) (s5 s6 s7 : Option Value) (f : Nat → Nat → Int32), i + k = m → x = nI i → XI f → kp [10, 17] f0 f → f 181 50 = f0 181 50 → (∀ j, j < m → f 223 j = nI (o j)) → MS f (edR ed1 o s0 i) → a = (edR ed1 o s0 i).2.2.2.2 → b = (edR ed1 o s0 i).2.2.2.1 → b = nI i → (∀ j, i ≤ j → j < m → (edR ed1 o s0 i).1 (o j) = -4) → WPe pg_X11_edition none (Run mtab d) R (m_drop pg_X11_edition 64) [some (.ref 181), some (.int (nI m)), some (.int a), some (.int b), some (.int x), s5, s6, s7] [] (shF L, f, g)
  | 0, i, x, a, b, s5, s6, s7, f, hi, hx, hX, hF, h50, h223, hS, ha, hb, hbi, hN => by
    have e : i = m := by omega
    subst hx
    subst e
    refine at_X11_edition ?_
    conv => whnf
    refine ⟨fun c => ?_, fun c => absurd (nI_le (Nat.le_refl _) (by omega)) c⟩
    conv => whnf
    rw [ha]
    exact H _ (XI_ui hX True.intro) (MS_f (fun a i z => m_ui_o (by omega)) hS) (by rw [m_ui_s, h50]) (kp_ui rfl hF)
  | k + 1, i, x, a, b, s5, s6, s7, f, hi, hx, hX, hF, h50, h223, hS, ha, hb, hbi, hN => by
    subst hx
    subst hbi
    have hcz : f 181 50 = 0 := h50.trans hc0
    have en : edR ed1 o s0 (i + 1) = ed1 (o i) (edR ed1 o s0 i) := rfl
    have hoi := ho i (by omega)
    have hcl : (nI i).toNatClampNeg = i := nI_clamp (by omega)
    have hci1 : (nI (i + 1)).toNatClampNeg = i + 1 := nI_clamp (by omega)
    have hco : (nI (o i)).toNatClampNeg = o i := nI_clamp (by omega)
    skip
    have e223 := h223 i (by omega)
    refine at_X11_edition ?_
    conv => whnf
    refine ⟨fun c => absurd c (nI_ge (b := m) (by omega) (by omega)), fun c => ?_⟩
    conv => whnf
    refine ⟨vp_in_nI (by omega) (by decide), ?_⟩
    conv => whnf
    simp only [hcl, e223]
    refine ⟨vp_in_nI (by omega) (by decide), ?_⟩
    conv => whnf
    simp only [hco]
    have z220 : f 220 (o i) = 0 := ((hS.1 (o i) hoi).resolve_right (fun z => z.1 (hN i (Nat.le_refl _) (by omega)))).2.1
    simp only [z220]
    (refine ⟨fun z9 => ?_, fun z9 => ?_⟩ <;> first | ((have c9 : (1 : Int32) = 0 := by with_reducible exact z9); exact absurd c9 (by decide)) | exact absurd (rfl : (0 : Int32) = 0) (by with_reducible exact z9) | exact absurd True.intro (by with_reducible exact z9) | exact False.elim (by with_reducible exact z9) | (conv => whnf))
    simp only [hcz]
    (refine ⟨fun z9 => ?_, fun z9 => ?_⟩ <;> first | ((have c9 : (1 : Int32) = 0 := by with_reducible exact z9); exact absurd c9 (by decide)) | exact absurd (rfl : (0 : Int32) = 0) (by with_reducible exact z9) | exact absurd True.intro (by with_reducible exact z9) | exact False.elim (by with_reducible exact z9) | (conv => whnf))
    (refine ⟨fun z9 => ?_, fun z9 => ?_⟩ <;> first | ((have c9 : (1 : Int32) = 0 := by with_reducible exact z9); exact absurd c9 (by decide)) | exact absurd (rfl : (0 : Int32) = 0) (by with_reducible exact z9) | exact absurd True.intro (by with_reducible exact z9) | exact False.elim (by with_reducible exact z9) | (conv => whnf))
    (refine ⟨fun z9 => ?_, fun z9 => ?_⟩ <;> first | ((have c9 : (1 : Int32) = 0 := by with_reducible exact z9); exact absurd c9 (by decide)) | exact absurd (rfl : (0 : Int32) = 0) (by with_reducible exact z9) | exact absurd True.intro (by with_reducible exact z9) | exact False.elim (by with_reducible exact z9) | (conv => whnf))
    simp only [nI_1]
    refine ⟨vp_in_nI (by omega) (by decide), ?_⟩
    conv => whnf
    (refine ⟨fun z9 => ?_, fun z9 => ?_⟩ <;> first | ((have c9 : (1 : Int32) = 0 := by with_reducible exact z9); exact absurd c9 (by decide)) | exact absurd (rfl : (0 : Int32) = 0) (by with_reducible exact z9) | exact absurd True.intro (by with_reducible exact z9) | exact False.elim (by with_reducible exact z9) | (conv => whnf))
    refine ⟨vp_in_nI (by omega) (by decide), ?_⟩
    conv => whnf
    refine ⟨vp_in_nI (by omega) (by decide), ?_⟩
    conv => whnf
    (refine ⟨fun z9 => ?_, fun z9 => ?_⟩ <;> first | ((have c9 : (1 : Int32) = 0 := by with_reducible exact z9); exact absurd c9 (by decide)) | exact absurd (rfl : (0 : Int32) = 0) (by with_reducible exact z9) | exact absurd True.intro (by with_reducible exact z9) | exact False.elim (by with_reducible exact z9) | (conv => whnf))
    refine ⟨vp_in_nI (by omega) (by decide), ?_⟩
    conv => whnf
    refine ⟨vp_in_nI (by omega) (by decide), ?_⟩
    conv => whnf
    simp only [hci1, hco, nar1, Int32.add_zero]
    refine ⟨vp_in_nI (by omega) (by decide), ?_⟩
    conv => whnf
    simp only [hco, show (m_ui (m_ui (m_ui (m_ui f 219 (i + 1) (f 219 (i + 1))) 221 (o i) (nI (i + 1))) 222 (o i) 0) 220 (o i) 1) 220 (o i) = 1 from m_ui_s]
    (refine ⟨fun z9 => ?_, fun z9 => ?_⟩ <;> first | ((have c9 : (1 : Int32) = 0 := by with_reducible exact z9); exact absurd c9 (by decide)) | exact absurd (rfl : (0 : Int32) = 0) (by with_reducible exact z9) | exact absurd True.intro (by with_reducible exact z9) | exact False.elim (by with_reducible exact z9) | (conv => whnf))
    refine ⟨vp_in_nI (by omega) (by decide), ?_⟩
    conv => whnf
    simp only [hco, show (m_ui (m_ui (m_ui (m_ui f 219 (i + 1) (f 219 (i + 1))) 221 (o i) (nI (i + 1))) 222 (o i) 0) 220 (o i) 1) 221 (o i) = nI (i + 1) from (m_ui_o (by omega)).trans ((m_ui_o (by omega)).trans m_ui_s)]
    have e1 : ed1 (o i) (edR ed1 o s0 i) = (up1 (edR ed1 o s0 i).1 (o i) ((edR ed1 o s0 i).2.2.2.1 + 1), (edR ed1 o s0 i).2.1, (edR ed1 o s0 i).2.2.1, (edR ed1 o s0 i).2.2.2.1 + 1, (edR ed1 o s0 i).2.2.2.2 + 1) := if_pos (hN i (Nat.le_refl _) (by omega))
    have hq1 : (edR ed1 o s0 i).2.2.2.1 + 1 = nI (i + 1) := by rw [← hb, nI_1]
    refine mnu1 hd hm ho hc0 hdi H k (i + 1) _ _ _ _ _ _ (m_ui (m_ui (m_ui (m_ui f 219 (i + 1) (f 219 (i + 1))) 221 (o i) (nI (i + 1))) 222 (o i) 0) 220 (o i) 1) (by omega) (by first | rfl | exact nI_1 i) (XI_ui (XI_ui (XI_ui (XI_ui hX True.intro) (show inr 0 40 _ from inr_n (m := 40) (by omega) rfl (by decide))) True.intro) True.intro) (kp_ui rfl (kp_ui rfl (kp_ui rfl (kp_ui rfl hF)))) ((m_ui_o (by omega)).trans ((m_ui_o (by omega)).trans ((m_ui_o (by omega)).trans ((m_ui_o (by omega)).trans h50)))) (fun j hj => ((m_ui_o (by omega)).trans ((m_ui_o (by omega)).trans ((m_ui_o (by omega)).trans (m_ui_o (by omega))))).trans (h223 j hj)) (by rw [en, e1, hq1]; exact MS_1 hS hoi (by omega) (hN i (Nat.le_refl _) (by omega))) (by rw [en, e1]; exact congrArg (fun z => z + 1) ha) (by rw [en, e1]; exact hq1.symm) rfl (fun j h1 h2 => ?_)
    rw [en, e1]
    show up1 (edR ed1 o s0 i).1 (o i) ((edR ed1 o s0 i).2.2.2.1 + 1) (o j) = -4
    rw [up1_o (fun z => hdi i j (by omega) h2 z.symm)]
    exact hN j (by omega) h2
set_option maxRecDepth 100000 in
set_option maxHeartbeats 8000000 in
theorem mnuL {d L m : Nat} {f0 : Nat → Nat → Int32} {g : Nat → Nat → Int64} {o : Nat → Nat} {s0 : EdS} {R : Option Value → mH → Prop} {q0 : Nat} (hd : 1 ≤ d) (hm : m ≤ 40) (ho : ∀ i, i < m → o i < 40) (hc0 : f0 181 50 = nI q0) (hq0 : ¬ q0 = 0) (hq9 : q0 < 9) (H : ∀ f', XI f' → MS f' (edR edL o s0 m) → f' 181 50 = f0 181 50 + 1 → kp [10, 17] f0 f' → R (some (.int (edR edL o s0 m).2.2.2.2)) (shF L, f', g)) :
    ∀ (k i : Nat) (x a b : Int32) (s5 s6 s7 : Option Value) (f : Nat → Nat → Int32), i + k = m → x = nI i → XI f → kp [10, 17] f0 f → f 181 50 = f0 181 50 → (∀ j, j < m → f 223 j = nI (o j)) → MS f (edR edL o s0 i) → a = (edR edL o s0 i).2.2.2.2 → b = (edR edL o s0 i).2.2.2.1 → (∃ q, q ≤ 40 ∧ b = nI q) → WPe pg_X11_edition none (Run mtab d) R (m_drop pg_X11_edition 64) [some (.ref 181), some (.int (nI m)), some (.int a), some (.int b), some (.int x), s5, s6, s7] [] (shF L, f, g)
  | 0, i, x, a, b, s5, s6, s7, f, hi, hx, hX, hF, h50, h223, hS, ha, hb, hq => by
    have e : i = m := by omega
    subst hx
    subst e
    refine at_X11_edition ?_
    conv => whnf
    refine ⟨fun c => ?_, fun c => absurd (nI_le (Nat.le_refl _) (by omega)) c⟩
    conv => whnf
    rw [ha]
    exact H _ (XI_ui hX True.intro) (MS_f (fun a i z => m_ui_o (by omega)) hS) (by rw [m_ui_s, h50]) (kp_ui rfl hF)
  | k + 1, i, x, a, b, s5, s6, s7, f, hi, hx, hX, hF, h50, h223, hS, ha, hb, hq => by
    subst hx
    obtain ⟨q, hq, rfl⟩ := hq
    have hcz : f 181 50 = nI q0 := h50.trans hc0
    have en : edR edL o s0 (i + 1) = edL (o i) (edR edL o s0 i) := rfl
    have hoi := ho i (by omega)
    have hcl : (nI i).toNatClampNeg = i := nI_clamp (by omega)
    have hci1 : (nI (i + 1)).toNatClampNeg = i + 1 := nI_clamp (by omega)
    have hco : (nI (o i)).toNatClampNeg = o i := nI_clamp (by omega)
    have hcq : (nI q).toNatClampNeg = q := nI_clamp (by omega)
    have e223 := h223 i (by omega)
    refine at_X11_edition ?_
    conv => whnf
    refine ⟨fun c => absurd c (nI_ge (b := m) (by omega) (by omega)), fun c => ?_⟩
    conv => whnf
    refine ⟨vp_in_nI (by omega) (by decide), ?_⟩
    conv => whnf
    simp only [hcl, e223]
    refine ⟨vp_in_nI (by omega) (by decide), ?_⟩
    conv => whnf
    simp only [hco]
    have eq9 : (edR edL o s0 i).2.2.2.1.toNatClampNeg = q := by rw [← hb]; exact nI_clamp (by omega)
    have e26 : (edR edL o s0 i).2.2.1 (edR edL o s0 i).2.2.2.1.toNatClampNeg = f 219 q := by rw [eq9]; exact (hS.2 q hq).1.symm
    refine ⟨fun c2 => ?_, fun c2 => ?_⟩
    · conv => whnf
      refine ⟨vp_in_nI (by omega) (by decide), ?_⟩
      conv => whnf
      simp only [hco]
      refine ⟨fun c3 => absurd c3 c2, fun c3 => ?_⟩
      conv => whnf
      refine ⟨vp_in_nI (by omega) (by decide), ?_⟩
      conv => whnf
      simp only [hco]
      obtain ⟨n4, _, e221, _⟩ := (hS.1 (o i) hoi).resolve_left (fun z => c2 z.2.1)
      have e1 : edL (o i) (edR edL o s0 i) = ((edR edL o s0 i).1, (edR edL o s0 i).2.1, (edR edL o s0 i).2.2.1, (edR edL o s0 i).1 (o i), (edR edL o s0 i).2.2.2.2) := if_neg n4
      obtain ⟨q2, h2, e2⟩ := inr_nat (n := 40) rfl (xi_221 hX (o i))
      exact mnuL hd hm ho hc0 hq0 hq9 H k (i + 1) _ _ _ _ _ _ f (by omega) (nI_1 i) hX hF h50 h223 (by rw [en, e1]; exact hS) (by rw [en, e1]; exact ha) (by rw [en, e1]; exact e221) ⟨q2, h2, e2⟩
    · conv => whnf
      have n4 : (edR edL o s0 i).1 (o i) = -4 := ((hS.1 (o i) hoi).resolve_right (fun z => z.2.1 c2)).1
      simp only [hcz]
      refine ⟨fun _ => ?_, fun z9 => absurd z9 (nI_nz hq0 (by omega))⟩
      conv => whnf
      (refine ⟨fun z9 => ?_, fun z9 => ?_⟩ <;> first | ((have c9 : (1 : Int32) = 0 := by with_reducible exact z9); exact absurd c9 (by decide)) | exact absurd (rfl : (0 : Int32) = 0) (by with_reducible exact z9) | exact absurd True.intro (by with_reducible exact z9) | exact False.elim (by with_reducible exact z9) | (conv => whnf))
      (refine ⟨fun z9 => ?_, fun z9 => ?_⟩ <;> first | ((have c9 : (1 : Int32) = 0 := by with_reducible exact z9); exact absurd c9 (by decide)) | exact absurd (rfl : (0 : Int32) = 0) (by with_reducible exact z9) | exact absurd True.intro (by with_reducible exact z9) | exact False.elim (by with_reducible exact z9) | (conv => whnf))
      refine ⟨vp_in_nI (by omega) (by decide), ?_⟩
      conv => whnf
      simp only [hcq]
      refine ⟨fun c4 => ?_, fun c4 => ?_⟩
      · have e1 : edL (o i) (edR edL o s0 i) = (edR edL o s0 i) := (if_pos n4).trans (if_pos (e26.trans (by
          obtain ⟨y, hy, ey⟩ := inr_nat (n := 26) rfl (hS.2 q hq).2
          rw [ey] at c4 ⊢
          have c5 : nI 26 ≤ nI y := c4
          rw [nI_leI (by omega) (by omega)] at c5
          have : y = 26 := by omega
          rw [this]
          rfl)))
        conv => whnf
        refine ⟨vp_in_nI (by omega) (by decide), ?_⟩
        conv => whnf
        simp only [hco, c2]
        (refine ⟨fun z9 => ?_, fun z9 => ?_⟩ <;> first | ((have c9 : (1 : Int32) = 0 := by with_reducible exact z9); exact absurd c9 (by decide)) | exact absurd (rfl : (0 : Int32) = 0) (by with_reducible exact z9) | exact absurd True.intro (by with_reducible exact z9) | exact False.elim (by with_reducible exact z9) | (conv => whnf))
        exact mnuL hd hm ho hc0 hq0 hq9 H k (i + 1) _ _ _ _ _ _ f (by omega) (nI_1 i) hX hF h50 h223 (by rw [en, e1]; exact hS) (by rw [en, e1]; exact ha) (by rw [en, e1]; exact hb) ⟨q, hq, rfl⟩
      · conv => whnf
        refine ⟨vp_in_nI (by omega) (by decide), ?_⟩
        conv => whnf
        (refine ⟨fun z9 => ?_, fun z9 => ?_⟩ <;> first | ((have c9 : (1 : Int32) = 0 := by with_reducible exact z9); exact absurd c9 (by decide)) | exact absurd (rfl : (0 : Int32) = 0) (by with_reducible exact z9) | exact absurd True.intro (by with_reducible exact z9) | exact False.elim (by with_reducible exact z9) | (conv => whnf))
        refine ⟨vp_in_nI (by omega) (by decide), ?_⟩
        conv => whnf
        refine ⟨vp_in_nI (by omega) (by decide), ?_⟩
        conv => whnf
        (refine ⟨fun z9 => ?_, fun z9 => ?_⟩ <;> first | ((have c9 : (1 : Int32) = 0 := by with_reducible exact z9); exact absurd c9 (by decide)) | exact absurd (rfl : (0 : Int32) = 0) (by with_reducible exact z9) | exact absurd True.intro (by with_reducible exact z9) | exact False.elim (by with_reducible exact z9) | (conv => whnf))
        refine ⟨vp_in_nI (by omega) (by decide), ?_⟩
        conv => whnf
        refine ⟨vp_in_nI (by omega) (by decide), ?_⟩
        conv => whnf
        refine ⟨vp_in_nI (by omega) (by decide), ?_⟩
        conv => whnf
        simp only [hcq, hco, nar1]
        simp only [show m_ui (m_ui f 219 q (f 219 q + 1)) 221 (o i) (nI q) 219 q = f 219 q + 1 from (m_ui_o (by omega)).trans m_ui_s]
        refine ⟨vp_in_nI (by omega) (by decide), ?_⟩
        conv => whnf
        simp only [hco, show (m_ui (m_ui (m_ui (m_ui f 219 q (f 219 q + 1)) 221 (o i) (nI q)) 222 (o i) (f 219 q + 1)) 220 (o i) 1) 220 (o i) = 1 from m_ui_s]
        (refine ⟨fun z9 => ?_, fun z9 => ?_⟩ <;> first | ((have c9 : (1 : Int32) = 0 := by with_reducible exact z9); exact absurd c9 (by decide)) | exact absurd (rfl : (0 : Int32) = 0) (by with_reducible exact z9) | exact absurd True.intro (by with_reducible exact z9) | exact False.elim (by with_reducible exact z9) | (conv => whnf))
        refine ⟨vp_in_nI (by omega) (by decide), ?_⟩
        conv => whnf
        simp only [hco, show (m_ui (m_ui (m_ui (m_ui f 219 q (f 219 q + 1)) 221 (o i) (nI q)) 222 (o i) (f 219 q + 1)) 220 (o i) 1) 221 (o i) = nI q from (m_ui_o (by omega)).trans ((m_ui_o (by omega)).trans m_ui_s)]
        have e1 : edL (o i) (edR edL o s0 i) = (up1 (edR edL o s0 i).1 (o i) (edR edL o s0 i).2.2.2.1, up1 (edR edL o s0 i).2.1 (o i) ((edR edL o s0 i).2.2.1 (edR edL o s0 i).2.2.2.1.toNatClampNeg + 1), up1 (edR edL o s0 i).2.2.1 (edR edL o s0 i).2.2.2.1.toNatClampNeg ((edR edL o s0 i).2.2.1 (edR edL o s0 i).2.2.2.1.toNatClampNeg + 1), (edR edL o s0 i).2.2.2.1, (edR edL o s0 i).2.2.2.2 + 1) := (if_pos n4).trans (if_neg (fun z => c4 (by rw [← e26, z]; decide)))
        exact mnuL hd hm ho hc0 hq0 hq9 H k (i + 1) _ _ _ _ _ _ (m_ui (m_ui (m_ui (m_ui f 219 q (f 219 q + 1)) 221 (o i) (nI q)) 222 (o i) (f 219 q + 1)) 220 (o i) 1) (by omega) (nI_1 i) (XI_ui (XI_ui (XI_ui (XI_ui hX True.intro) (show inr 0 40 _ from inr_n (m := 40) (by omega) rfl (by decide))) True.intro) True.intro) (kp_ui rfl (kp_ui rfl (kp_ui rfl (kp_ui rfl hF)))) ((m_ui_o (by omega)).trans ((m_ui_o (by omega)).trans ((m_ui_o (by omega)).trans ((m_ui_o (by omega)).trans h50)))) (fun j hj => ((m_ui_o (by omega)).trans ((m_ui_o (by omega)).trans ((m_ui_o (by omega)).trans (m_ui_o (by omega))))).trans (h223 j hj)) (by rw [en, e1, e26, eq9, ← hb]; exact MS_L hS hoi hq c4) (by rw [en, e1]; exact congrArg (fun z => z + 1) ha) (by rw [en, e1]; exact hb) ⟨q, hq, rfl⟩
noncomputable def edM (f : Nat → Nat → Int32) (n v : Nat) (s : EdS) : EdS := @ite _ (f 181 50 = 0) (Classical.propDecidable _) (edR ed1 (srt (fun u => f 200 u + f 201 u) (fun u => (smp f 9999 (nI u) v).1 = 1) n).2 s (srt (fun u => f 200 u + f 201 u) (fun u => (smp f 9999 (nI u) v).1 = 1) n).1) (edR edL (srt (fun u => f 200 u + f 201 u) (fun u => (smp f 9999 (nI u) v).1 = 1) n).2 s (srt (fun u => f 200 u + f 201 u) (fun u => (smp f 9999 (nI u) v).1 = 1) n).1)
def SM_edition (n c v : Nat) (s : EdS) (f f2 : Nat → Nat → Int32) (r : Int32) : Prop := (f 181 50 = 9 ∧ r = -3 ∧ f2 = f) ∨ (∃ f1, ¬ f 181 50 = 9 ∧ o6 f f1 ∧ YC f1 n c v ∧ MS f2 (edM f1 n v s) ∧ f2 181 50 = f 181 50 + 1 ∧ kp [10, 17] f1 f2 ∧ r = (edM f1 n v s).2.2.2.2)
set_option maxRecDepth 100000 in
set_option maxHeartbeats 4000000 in
theorem smf_edition2 {d L : Nat} {f : Nat → Nat → Int32} {g : Nat → Nat → Int64} {n c v q : Nat} {s : EdS} {R : Option Value → mH → Prop} (hd : 9 ≤ d) (hX : XI f) (hY : MY n c v f) (hq : q ≤ 9) (hc : f 181 50 = nI q) (hs : MS f s) (ha : s.2.2.2.1 = 0) (hg : s.2.2.2.2 = 0) (h4 : f 181 50 = 0 → ∀ j, j < 40 → s.1 j = -4) (H : ∀ r f2, SM_edition n c v s f f2 r → XI f2 → MY n c v f2 → R (some (.int r)) (shF L, f2, g)) : Run mtab d 233 [.ref 181] (shF L, f, g) R := by
  obtain ⟨d, rfl⟩ : ∃ e, d = e + 1 := ⟨d - 1, by omega⟩
  refine go_X11_edition rfl ?_
  conv => whnf
  refine ⟨fun z => ?_, fun z => ?_⟩
  · conv => whnf
    refine smq_refresh (n := n) (c := c) (v := v) (by omega) hX hY (fun f1 h1 o1 k1 y1 yc1 z1 => ?_)
    have hn := y1.1.1
    obtain ⟨l1, l2, l3⟩ := srtI (mid := (fun u => f1 200 u + f1 201 u)) (inn := fun u => (smp f1 9999 (nI u) v).1 = 1) n
    have q9 : q < 9 := by
      have : ¬ q = 9 := fun e => z (by rw [hc, e]; rfl)
      omega
    have e50 : f1 181 50 = f 181 50 := o1 181 50 (by omega) (by omega) (by omega) (by omega) (by omega) (by omega)
    have hs1 : MS f1 s := MS_f (fun a i y => o1 a i (by omega) (by omega) (by omega) (by omega) (by omega) (by omega)) hs
    conv => whnf
    refine msf_lp (f0 := f1) (n := n) (v := v) (by omega) hn y1.1.2.2.1 y1.2.1 y1.2.2.1 (fun f2 s5 s6 s7 x2 h2 k2 => ?_) n 0 _ _ _ _ _ _ _ f1 (by omega) rfl rfl (fun j hj => absurd hj (Nat.not_lt_zero j)) (fun _ _ _ => rfl) h1
    have kp2 : kp [10, 17] f1 f2 := fun a i y => k2 a i (fun e => by subst e; exact absurd (show true = false from y) (by decide))
    have fin : ∀ (S : EdS), edM f1 n v s = S → ∀ f', XI f' → MS f' S → f' 181 50 = f2 181 50 + 1 → kp [10, 17] f2 f' → R (some (.int S.2.2.2.2)) (shF L, f', g) := fun S eS f' a1 a2 a3 a4 => by
      subst eS
      exact H _ f' (Or.inr ⟨f1, z, o1, yc1, a2, a3.trans (by rw [k2 181 50 (by omega), e50]), kp_trans kp2 a4, rfl⟩) a1 (MY_kp (kp_trans kp2 a4) rfl y1)
    have hs2 : MS f2 s := MS_f (fun a i y => k2 a i (by omega)) hs1
    by_cases q0 : q = 0
    · subst q0
      have c2 : f2 181 50 = 0 := (k2 181 50 (by omega)).trans (e50.trans hc)
      have eS : edM f1 n v s = edR ed1 (srt (fun u => f1 200 u + f1 201 u) (fun u => (smp f1 9999 (nI u) v).1 = 1) n).2 s (srt (fun u => f1 200 u + f1 201 u) (fun u => (smp f1 9999 (nI u) v).1 = 1) n).1 := @if_pos _ (Classical.propDecidable _) (e50.trans hc) _ _ _
      exact mnu1 (f0 := f2) (s0 := s) (by omega) (by omega) (fun i hi => Nat.lt_of_lt_of_le (l2 i hi) hn) c2 l3 (fin _ eS) _ 0 _ _ _ _ _ _ f2 (Nat.zero_add _) rfl x2 (kp_refl _ _) rfl h2 hs2 hg.symm ha.symm rfl (fun j _ hj => h4 hc _ (Nat.lt_of_lt_of_le (l2 j hj) hn))
    · have c2 : f2 181 50 = nI q := (k2 181 50 (by omega)).trans (e50.trans hc)
      have eS : edM f1 n v s = edR edL (srt (fun u => f1 200 u + f1 201 u) (fun u => (smp f1 9999 (nI u) v).1 = 1) n).2 s (srt (fun u => f1 200 u + f1 201 u) (fun u => (smp f1 9999 (nI u) v).1 = 1) n).1 := @if_neg _ (Classical.propDecidable _) (fun y => q0 ((nI_eq (b := 0) (by omega) (by decide)).mp ((e50.trans hc).symm.trans y))) _ _ _
      exact mnuL (f0 := f2) (s0 := s) (by omega) (by omega) (fun i hi => Nat.lt_of_lt_of_le (l2 i hi) hn) c2 q0 q9 (fin _ eS) _ 0 _ _ _ _ _ _ f2 (Nat.zero_add _) rfl x2 (kp_refl _ _) rfl h2 hs2 hg.symm ha.symm ⟨0, by omega, rfl⟩
  · conv => whnf
    exact H _ _ (Or.inl ⟨z, rfl, rfl⟩) hX hY
/-- both objects have given the same numbers -/
def RE2 (f : Nat → Nat → Int32) : Prop := MS f (s0_ f)
theorem RE2_kp {l : List Nat} {f f' : Nat → Nat → Int32} (k : kp l f f') (hl : oke l = true) (h : RE2 f) : RE2 f' := by
  obtain ⟨l7, l17⟩ := oke_of hl
  have es : s0_ f' = s0_ f := by
    unfold s0_
    rw [show (fun j => f' 169 j) = fun j => f 169 j from funext (fun j => k 169 j (by exact l7)), show (fun j => f' 170 j) = fun j => f 170 j from funext (fun j => k 170 j (by exact l7)), show (fun j => f' 171 j) = fun j => f 171 j from funext (fun j => k 171 j (by exact l7))]
  unfold RE2
  rw [es]
  refine MS_f (fun a i z => ?_) h
  have e : a = 219 ∨ a = 220 ∨ a = 221 ∨ a = 222 := by omega
  rcases e with rfl | rfl | rfl | rfl
  · exact k 219 i (by exact l17)
  · exact k 220 i (by exact l17)
  · exact k 221 i (by exact l17)
  · exact k 222 i (by exact l17)
theorem kx_edition {f f2 : Nat → Nat → Int32} {n c v : Nat} {r : Int32} (s : SX_edition n c v f f2 r) : kp [0, 7] f f2 := by
  rcases s with ⟨_, _, rfl⟩ | ⟨f1, q, _, _, r1, e, _⟩
  · exact kp_refl _ _
  · refine kp_trans (kp_wd (kp_rkY r1) rfl) (fun a i h => e.2.2 a i (fun z => ?_) (fun z => ?_) (fun z => ?_) (fun z => ?_) (fun z => ?_))
    · obtain ⟨z1, z2⟩ := z
      subst z1
      subst z2
      exact absurd h (by decide)
    · subst z
      exact absurd (show true = false from h) (by decide)
    · subst z
      exact absurd (show true = false from h) (by decide)
    · subst z
      exact absurd (show true = false from h) (by decide)
    · subst z
      exact absurd (show true = false from h) (by decide)
theorem ec_edition {f f2 : Nat → Nat → Int32} {n c v : Nat} {r : Int32} (hE : EI f) (s : SX_edition n c v f f2 r) : EI f2 ∧ f2 168 7 = edn (f 168 7) := by
  rcases s with ⟨e9, _, rfl⟩ | ⟨f1, q, hq, hc, r1, e, _⟩
  · exact ⟨hE, edn_9 e9⟩
  · have k1 := kp_rkY r1
    have n9 : ¬ f 168 7 = 9 := fun z => absurd ((nI_eq (b := 9) (by omega) (by decide)).mp (hc.symm.trans z)) (by omega)
    have z : f2 168 7 = nI (q + 1) := by rw [e.2.1, k1 168 7 rfl, hc, nI_1]
    exact ⟨fun y => absurd (z.symm.trans y) (nI_nz (by omega) (by omega)), by rw [edn_n n9, e.2.1, k1 168 7 rfl]⟩
theorem cm_edition {f f2 : Nat → Nat → Int32} {n c v : Nat} {s : EdS} {r : Int32} (h : SM_edition n c v s f f2 r) : f2 181 50 = edn (f 181 50) ∧ kp [10, 17, 22, 23] f f2 := by
  rcases h with ⟨e9, _, rfl⟩ | ⟨f1, n9, o, _, _, e, k, _⟩
  · exact ⟨edn_9 e9, kp_refl _ _⟩
  · exact ⟨by rw [edn_n n9, e], kp_trans (kp_wd (kp_o6 o) rfl) (kp_wd k rfl)⟩
theorem fin_edition {f f1 f2 : Nat → Nat → Int32} {n c v : Nat} {v1 v2 : Int32} (hW : RW n f) (hC : RC c f) (hV : RV v f) (hED : f 168 7 = f 181 50) (hRE : RE2 f) (s1 : SX_edition n c v f f1 v1) (s2 : SM_edition n c v (s0_ f) f1 f2 v2) : v1 = v2 ∧ RE2 f2 := by
  have kx := kx_edition s1
  have e50 : f1 181 50 = f 181 50 := kx 181 50 rfl
  rcases s1 with ⟨e9, rfl, rfl⟩ | ⟨g1, q, hq, hc, r1, E, rfl⟩
  · rcases s2 with ⟨_, rfl, rfl⟩ | ⟨g2, n9, _⟩
    · exact ⟨rfl, hRE⟩
    · exact absurd (hED.symm.trans e9) n9
  · rcases s2 with ⟨e9, _⟩ | ⟨g2, n9, o, y, M, _, k2, rfl⟩
    · exact absurd ((nI_eq (b := 9) (by omega) (by decide)).mp (hc.symm.trans (hED.trans (e50.symm.trans e9)))) (by omega)
    · have hn := hW.1
      have frE : ∀ a i, 182 ≤ a → f1 a i = g1 a i := fun a i h => E.2.2 a i (by omega) (by omega) (by omega) (by omega) (by omega)
      have fr1 : ∀ a i, (a < 127 ∨ 137 < a) → g1 a i = f a i := fun a i z => r1.2.1 a i (by omega) (by omega) (by omega) (by omega) (by omega) (by omega) (by omega)
      have ge : ∀ a i, 181 ≤ a → f1 a i = g1 a i := fun a i h => E.2.2 a i (by omega) (by omega) (by omega) (by omega) (by omega)
      have ho : o6 g1 (fun a i => if 181 ≤ a then g2 a i else g1 a i) := fun a i p1 p2 p3 p4 p5 p6 => by
        show (if 181 ≤ a then g2 a i else g1 a i) = g1 a i
        by_cases z : 181 ≤ a
        · rw [if_pos z, o a i p1 p2 p3 p4 p5 p6]
          exact ge a i z
        · rw [if_neg z]
      have hy : YC (fun a i => if 181 ≤ a then g2 a i else g1 a i) n c v := YC_f (fun a i h => if_pos h) y
      obtain ⟨ye, yw⟩ := years_eq hW hC hV r1 ho hy
      have hst : ∀ w, w < 40 → g1 127 w = (smp g2 9999 (nI w) v).1 := fun w hw => by
        rw [r1.1 w hw, smp_kp (f := f) (f1 := g2) (fun i => (o 218 i (by omega) (by omega) (by omega) (by omega) (by omega) (by omega)).trans ((ge 218 i (by omega)).trans (fr1 218 i (by omega))))]
        exact (st_eq hV 9999 (nI w) v (Nat.le_refl _)).1
      have hsr : srt (fun u => g1 134 u + g1 135 u) (fun u => g1 127 u = 1) n = srt (fun u => g2 200 u + g2 201 u) (fun u => (smp g2 9999 (nI u) v).1 = 1) n := srt_congr n (fun w hw => by
          have a := (yw w hw).1
          have b := (yw w hw).2
          have a' : g1 134 w = g2 200 w := a
          have b' : g1 135 w = g2 201 w := b
          show g1 134 w + g1 135 w = g2 200 w + g2 201 w
          rw [a', b']) (fun w hw => by
          show g1 127 w = 1 ↔ (smp g2 9999 (nI w) v).1 = 1
          rw [hst w (by omega)])
      have es : s0_ g1 = s0_ f := by
        unfold s0_
        rw [show (fun j => g1 169 j) = fun j => f 169 j from funext (fun j => fr1 169 j (by omega)), show (fun j => g1 170 j) = fun j => f 170 j from funext (fun j => fr1 170 j (by omega)), show (fun j => g1 171 j) = fun j => f 171 j from funext (fun j => fr1 171 j (by omega))]
      have hcc : g1 168 7 = g2 181 50 := by
        rw [fr1 168 7 (by omega), hED, o 181 50 (by omega) (by omega) (by omega) (by omega) (by omega) (by omega)]
        exact e50.symm
      have ee : edC g1 n = edM g2 n v (s0_ f) := by
        unfold edC edM
        rw [hsr, es, hcc]
      refine ⟨by rw [ee], ?_⟩
      have hHS : HS f2 (edM g2 n v (s0_ f)) := by
        rw [← ee]
        have k9 : ∀ j, f2 169 j = f1 169 j := fun j => (k2 169 j rfl).trans (o 169 j (by omega) (by omega) (by omega) (by omega) (by omega) (by omega))
        have k0 : ∀ j, f2 170 j = f1 170 j := fun j => (k2 170 j rfl).trans (o 170 j (by omega) (by omega) (by omega) (by omega) (by omega) (by omega))
        have k1 : ∀ j, f2 171 j = f1 171 j := fun j => (k2 171 j rfl).trans (o 171 j (by omega) (by omega) (by omega) (by omega) (by omega) (by omega))
        exact ⟨fun j => (k9 j).trans (E.1.1 j), fun j => (k0 j).trans (E.1.2.1 j), fun k => (k1 k).trans (E.1.2.2 k)⟩
      unfold RE2
      have es2 : MS f2 (edM g2 n v (s0_ f)) := M
      refine ⟨fun j hj => ?_, fun k hk => ?_⟩
      · show (f2 169 j = -4 ∧ f2 220 j = 0 ∧ f2 170 j = 0) ∨ (¬ f2 169 j = -4 ∧ ¬ f2 220 j = 0 ∧ f2 221 j = f2 169 j ∧ f2 222 j = f2 170 j)
        rw [hHS.1 j, hHS.2.1 j]
        exact es2.1 j hj
      · show f2 219 k = f2 171 k ∧ _
        rw [hHS.2.2 k]
        exact es2.2 k hk
def nuC (f : Nat → Nat → Int32) (j : Nat) : Int32 := if f 169 j = -4 then -4 else 100 * f 169 j + f 170 j
def nuM (f : Nat → Nat → Int32) (j : Nat) : Int32 := if f 220 j = 0 then -4 else 100 * f 221 j + f 222 j
def SX_number (n : Nat) (f : Nat → Nat → Int32) (x r : Int32) : Prop := (¬ hasw n x ∧ r = -1) ∨ (∃ j, j < n ∧ x = nI j ∧ r = nuC f j)
def SM_number (n : Nat) (f : Nat → Nat → Int32) (x r : Int32) : Prop := (¬ hasw n x ∧ r = -1) ∨ (∃ j, j < n ∧ x = nI j ∧ r = nuM f j)
set_option maxRecDepth 100000 in
set_option maxHeartbeats 4000000 in
theorem sf_numberOf {d L : Nat} {f : Nat → Nat → Int32} {g : Nat → Nat → Int64} {j : Nat} {R : Option Value → mH → Prop} (hd : 1 ≤ d) (hj : j < 40) (H : R (some (.int (nuC f j))) (shF L, f, g)) : Run mtab d 13 [.ref 168, .int (nI j)] (shF L, f, g) R := by
  obtain ⟨d, rfl⟩ : ∃ e, d = e + 1 := ⟨d - 1, by omega⟩
  refine go_X1_numberOf rfl ?_
  conv => whnf
  have hcl : (nI j).toNatClampNeg = j := nI_clamp (by omega)
  refine ⟨vp_in_nI (by omega) (by decide), ?_⟩
  conv => whnf
  simp only [hcl]
  refine ⟨fun c => ?_, fun c => ?_⟩
  · conv => whnf
    refine ⟨vp_in_nI (by omega) (by decide), ?_⟩
    conv => whnf
    refine ⟨vp_in_nI (by omega) (by decide), ?_⟩
    conv => whnf
    simp only [hcl]
    have e : nuC f j = 100 * f 169 j + f 170 j := if_neg c
    rw [e] at H
    exact H
  · conv => whnf
    have e : nuC f j = -4 := if_pos c
    rw [e] at H
    exact H
set_option maxRecDepth 100000 in
set_option maxHeartbeats 4000000 in
theorem sf_number {d L : Nat} {f : Nat → Nat → Int32} {g : Nat → Nat → Int64} {n : Nat} {x : Int32} {R : Option Value → mH → Prop} (hd : 3 ≤ d) (hb : f 6 13 = nI n) (hm : n ≤ 40) (H : ∀ r, SX_number n f x r → R (some (.int r)) (shF L, f, g)) : Run mtab d 128 [.ref 5, .int x] (shF L, f, g) R := by
  obtain ⟨d, rfl⟩ : ∃ e, d = e + 1 := ⟨d - 1, by omega⟩
  refine go_X10_number rfl ?_
  conv => whnf
  refine ct_has (by omega) hb hm (fun j hj e => ?_) (fun q => ?_)
  · subst e
    conv => whnf
    (refine ⟨fun z9 => ?_, fun z9 => ?_⟩ <;> first | ((have c9 : (1 : Int32) = 0 := by with_reducible exact z9); exact absurd c9 (by decide)) | exact absurd (rfl : (0 : Int32) = 0) (by with_reducible exact z9) | exact absurd True.intro (by with_reducible exact z9) | exact False.elim (by with_reducible exact z9) | (conv => whnf))
    refine sf_numberOf (by omega) (by omega) ?_
    conv => whnf
    exact H _ (Or.inr ⟨j, hj, rfl, rfl⟩)
  · conv => whnf
    (refine ⟨fun z9 => ?_, fun z9 => ?_⟩ <;> first | ((have c9 : (1 : Int32) = 0 := by with_reducible exact z9); exact absurd c9 (by decide)) | exact absurd (rfl : (0 : Int32) = 0) (by with_reducible exact z9) | exact absurd True.intro (by with_reducible exact z9) | exact False.elim (by with_reducible exact z9) | (conv => whnf))
    exact H _ (Or.inl ⟨nhasw q, rfl⟩)
set_option maxRecDepth 100000 in
set_option maxHeartbeats 4000000 in
theorem smf_numberQ {d L : Nat} {f : Nat → Nat → Int32} {g : Nat → Nat → Int64} {n : Nat} {x : Int32} {R : Option Value → mH → Prop} (hd : 3 ≤ d) (hb : f 181 0 = nI n) (hm : n ≤ 40) (H : ∀ r, SM_number n f x r → R (some (.int r)) (shF L, f, g)) : Run mtab d 234 [.ref 181, .int x] (shF L, f, g) R := by
  obtain ⟨d, rfl⟩ : ∃ e, d = e + 1 := ⟨d - 1, by omega⟩
  refine go_X11_number_ rfl ?_
  conv => whnf
  refine ct_mIsWork (by omega) hb hm (fun j hj e => ?_) (fun q => ?_)
  · subst e
    have hcl : (nI j).toNatClampNeg = j := nI_clamp (by omega)
    conv => whnf
    (refine ⟨fun z9 => ?_, fun z9 => ?_⟩ <;> first | ((have c9 : (1 : Int32) = 0 := by with_reducible exact z9); exact absurd c9 (by decide)) | exact absurd (rfl : (0 : Int32) = 0) (by with_reducible exact z9) | exact absurd True.intro (by with_reducible exact z9) | exact False.elim (by with_reducible exact z9) | (conv => whnf))
    refine ⟨vp_in_nI (by omega) (by decide), ?_⟩
    conv => whnf
    simp only [hcl]
    refine ⟨fun c => ?_, fun c => ?_⟩
    · conv => whnf
      exact H _ (Or.inr ⟨j, hj, rfl, (if_pos c).symm⟩)
    · conv => whnf
      refine ⟨vp_in_nI (by omega) (by decide), ?_⟩
      conv => whnf
      refine ⟨vp_in_nI (by omega) (by decide), ?_⟩
      conv => whnf
      simp only [hcl]
      exact H _ (Or.inr ⟨j, hj, rfl, (if_neg c).symm⟩)
  · conv => whnf
    (refine ⟨fun z9 => ?_, fun z9 => ?_⟩ <;> first | ((have c9 : (1 : Int32) = 0 := by with_reducible exact z9); exact absurd c9 (by decide)) | exact absurd (rfl : (0 : Int32) = 0) (by with_reducible exact z9) | exact absurd True.intro (by with_reducible exact z9) | exact False.elim (by with_reducible exact z9) | (conv => whnf))
    exact H _ (Or.inl ⟨nhasw q, rfl⟩)
theorem fin_number {n : Nat} {f : Nat → Nat → Int32} {x v1 v2 : Int32} (hn : n ≤ 40) (hRE : RE2 f) (s1 : SX_number n f x v1) (s2 : SM_number n f x v2) : v1 = v2 := by
  rcases s1 with ⟨q1, rfl⟩ | ⟨j, hj, e, rfl⟩
  · rcases s2 with ⟨q2, rfl⟩ | ⟨j, hj, e, _⟩
    · rfl
    · exact absurd ⟨j, hj, e⟩ q1
  · rcases s2 with ⟨q2, _⟩ | ⟨i, hi, e', rfl⟩
    · exact absurd ⟨j, hj, e⟩ q2
    · have a : j = i := (nI_eq (by omega) (by omega)).mp (e.symm.trans e')
      subst a
      unfold nuC nuM
      rcases hRE.1 j (by omega) with ⟨a1, a2, a3⟩ | ⟨a1, a2, a3, a4⟩
      · rw [if_pos (show f 169 j = -4 from a1), if_pos a2]
      · rw [if_neg (show ¬ f 169 j = -4 from a1), if_neg a2, a3, a4]
        rfl
/-- what holds between calls, with the numbers -/
def GT (f : Nat → Nat → Int32) : Prop := GS f ∧ RE2 f
theorem GT_x {l : List Nat} {f f' : Nat → Nat → Int32} (h : GT f) (x : XI f') (k : kp l f f') (hl : ((((okg l && oke l) && (okm l && ok21 l)) && ok11 l) && oke l) = true) : GT f' := by
  rw [Bool.and_eq_true] at hl
  exact ⟨GS_x h.1 x k hl.1, RE2_kp k hl.2 h.2⟩
theorem GT_m {l : List Nat} {f f' : Nat → Nat → Int32} (h : GT f) (x : XI f') (k : kp l f f') (m : ∃ n c v, MY n c v f') (hl : ((((okg l && oke l) && ok21 l) && ok11 l) && oke l) = true) : GT f' := by
  rw [Bool.and_eq_true] at hl
  exact ⟨GS_m h.1 x k m hl.1, RE2_kp k hl.2 h.2⟩
theorem GT_s {l l' : List Nat} {f f1 f2 : Nat → Nat → Int32} (h : GT f) (k1 : kp l f f1) (k2 : kp l' f1 f2) (j : GK f2) (m : ∃ n c v, MY n c v f2) (hl : ((((okw l && oke l) && ok21 l) && ok11 l) && oke l) = true) (hl' : ((((okw l' && oke l') && ok21 l') && ok11 l') && oke l') = true) : GT f2 := by
  rw [Bool.and_eq_true] at hl hl'
  exact ⟨GS_s h.1 k1 k2 j m hl.1 hl'.1, RE2_kp k2 hl'.2 (RE2_kp k1 hl.2 h.2)⟩
theorem GT_w {l l' : List Nat} {f f1 f2 : Nat → Nat → Int32} (h : GT f) (k1 : kp l f f1) (k2 : kp l' f1 f2) (j : GK f2) (m : ∃ n c v, MY n c v f2) (z : SZe f2) (hl : (((okw l && oke l) && ok21 l) && oke l) = true) (hl' : (((okw l' && oke l') && ok21 l') && oke l') = true) : GT f2 := by
  rw [Bool.and_eq_true] at hl hl'
  exact ⟨GS_w h.1 k1 k2 j m z hl.1 hl'.1, RE2_kp k2 hl'.2 (RE2_kp k1 hl.2 h.2)⟩
theorem GT_j {l l' : List Nat} {f f1 f2 : Nat → Nat → Int32} (h : GT f) (k1 : kp l f f1) (k2 : kp l' f1 f2) (j : GK f2) (hl : ((((okw l && oke l) && (okm l && ok21 l)) && ok11 l) && oke l) = true) (hl' : ((((okw l' && oke l') && (okm l' && ok21 l')) && ok11 l') && oke l') = true) : GT f2 := by
  rw [Bool.and_eq_true] at hl hl'
  exact ⟨GS_j h.1 k1 k2 j hl.1 hl'.1, RE2_kp k2 hl'.2 (RE2_kp k1 hl.2 h.2)⟩
theorem GT_v {f f1 f2 : Nat → Nat → Int32} (h : GT f) (k1 : kp [4] f f1) (k2 : kp [10, 14, 22] f1 f2) (x : XI f2) (r : ∃ v, RV v f2) (m : ∃ n c v, MY n c v f2) : GT f2 := ⟨GS_v h.1 k1 k2 x r m, RE2_kp k2 rfl (RE2_kp k1 rfl h.2)⟩
theorem GT_ed {f f1 f2 : Nat → Nat → Int32} (h : GT f) (x1 : XI f1) (k1 : kp [0, 7] f f1) (e1 : EI f1) (q1 : f1 168 7 = edn (f 168 7)) (x2 : XI f2) (k2 : kp [10, 17, 22, 23] f1 f2) (m : ∃ n c v, MY n c v f2) (q2 : f2 181 50 = edn (f1 181 50)) (r : RE2 f2) : GT f2 := ⟨GS_ed h.1 x1 k1 e1 q1 x2 k2 m q2, r⟩
theorem GT_ini {f : Nat → Nat → Int32} (hf : ∀ a i, 6 ≤ a → f a i = if a < 227 then inix a i else 0) (h3 : ab3 f) (h2 : ab2 f) : GT f := by
  have z : ∀ a i, 170 ≤ a → a < 227 → inix a i = 0 → f a i = 0 := fun a i h1 h2 e => by rw [hf a i (by omega), if_pos h2, e]
  refine ⟨GS_ini hf h3 h2, fun j hj => Or.inl ⟨?_, z 220 j (by omega) (by omega) (inix_0 _ (by decide)), z 170 j (by omega) (by omega) (inix_0 _ (by decide))⟩, fun k hk => ?_⟩
  · show f 169 j = -4
    rw [hf 169 j (by omega), if_pos (by omega)]
    unfold inix
    rw [if_neg (by omega), if_pos ⟨rfl, hj⟩]
  · have e1 : f 219 k = 0 := z 219 k (by omega) (by omega) (inix_0 _ (by decide))
    have e2 : f 171 k = 0 := z 171 k (by omega) (by omega) (inix_0 _ (by decide))
    exact ⟨e1.trans e2.symm, by rw [e1]; exact ⟨by decide, by decide⟩⟩
