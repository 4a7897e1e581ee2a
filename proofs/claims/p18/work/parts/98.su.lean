set_option maxRecDepth 100000 in
set_option maxHeartbeats 4000000 in
theorem sf_isStruck {d L : Nat} {f : Nat → Nat → Int32} {g : Nat → Nat → Int64} {w : Nat} {R : Option Value → mH → Prop} (hd : 1 ≤ d) (hw : w < 40) (H1 : f 127 w = 2 → R (some (.int 1)) (shF L, f, g)) (H0 : ¬ f 127 w = 2 → R (some (.int 0)) (shF L, f, g)) : Run mtab d 80 [.ref 129, .int (nI w)] (shF L, f, g) R := by
  obtain ⟨d, rfl⟩ : ∃ e, d = e + 1 := ⟨d - 1, by omega⟩
  refine go_X9_isStruck rfl ?_
  conv => whnf
  have hcl : (nI w).toNatClampNeg = w := nI_clamp (by omega)
  refine ⟨vp_in_nI (by omega) (by decide), ?_⟩
  conv => whnf
  simp only [hcl]
  refine ⟨fun c => ?_, fun c => ?_⟩
  · conv => whnf
    first | exact ⟨Or.inl rfl, H0 c⟩ | exact ⟨Or.inr rfl, H1 c⟩
  · conv => whnf
    first | exact ⟨Or.inr rfl, H1 c⟩ | exact ⟨Or.inl rfl, H0 c⟩
/-- the ends of the clues are works -/
def CE (f : Nat → Nat → Int32) (n c : Nat) : Prop := c ≤ 20 ∧ f 129 6 = nI c ∧ ∀ k, k < c → (∃ x, x < n ∧ f 130 k = nI x) ∧ (∃ y, y < n ∧ f 131 k = nI y) ∧ inr (-30) 30 (f 132 k)
set_option maxRecDepth 100000 in
set_option maxHeartbeats 4000000 in
theorem cl_lp {d L n c : Nat} {f0 : Nat → Nat → Int32} {g : Nat → Nat → Int64} {R : Option Value → mH → Prop} (hd : 1 ≤ d) (hn : n ≤ 40) (hE : CE f0 n c) (H : ∀ (f : Nat → Nat → Int32) (m : Nat) (q : Nat → Nat) (x : Int32), x = nI c → lst f0 f c m q → WPe pg_X9_reckon none (Run mtab d) R (m_drop pg_X9_reckon 8) [some (.ref 129), some (.int x)] [] (shF L, f, g)) :
    ∀ (k i : Nat) (x : Int32) (m : Nat) (q : Nat → Nat) (f : Nat → Nat → Int32), i + k = c → x = nI i → lst f0 f i m q → WPe pg_X9_reckon none (Run mtab d) R (m_drop pg_X9_reckon 8) [some (.ref 129), some (.int x)] [] (shF L, f, g)
  | 0, i, x, m, q, f, hi, hx, hl => by
    have e : i = c := by omega
    subst e
    exact H f m q x hx hl
  | k + 1, i, x, m, q, f, hi, hx, hl => by
    subst hx
    obtain ⟨hc, c129, ce⟩ := id hE
    obtain ⟨⟨xu, hxu, e130⟩, ⟨yv, hyv, e131⟩, _⟩ := ce i (by omega)
    have fr := hl.2.2.2.2.2.1
    have hmi := hl.1
    have hcl : (nI i).toNatClampNeg = i := nI_clamp (by omega)
    have hcm : (nI m).toNatClampNeg = m := nI_clamp (by omega)
    have hcx : (nI xu).toNatClampNeg = xu := nI_clamp (by omega)
    have hcy : (nI yv).toNatClampNeg = yv := nI_clamp (by omega)
    have g6 : f 129 6 = nI c := (fr 129 6 (by omega) (by omega)).trans c129
    have g11 : f 129 11 = nI m := hl.2.1
    have g133 : f 133 i = f0 133 i := fr 133 i (by omega) (by omega)
    have g130 : f 130 i = nI xu := (fr 130 i (by omega) (by omega)).trans e130
    have g131 : f 131 i = nI yv := (fr 131 i (by omega) (by omega)).trans e131
    have u127 : f 127 xu = f0 127 (f0 130 i).toNatClampNeg := by
      rw [e130, hcx]
      exact fr 127 xu (by omega) (by omega)
    have v127 : f 127 yv = f0 127 (f0 131 i).toNatClampNeg := by
      rw [e131, hcy]
      exact fr 127 yv (by omega) (by omega)
    have no : ¬ PCc f0 i → WPe pg_X9_reckon none (Run mtab d) R (m_drop pg_X9_reckon 8) [some (.ref 129), some (.int (nI i + 1))] [] (shF L, f, g) := fun z => cl_lp hd hn hE H k (i + 1) _ m q f (by omega) (nI_1 i) (lst_no hl z)
    refine at_X9_reckon ?_
    conv => whnf
    simp only [g6]
    refine ⟨fun q9 => absurd q9 (nI_ge (b := c) (by omega) (by omega)), fun q9 => ?_⟩
    conv => whnf
    refine ⟨vp_in_nI (by omega) (by decide), ?_⟩
    conv => whnf
    simp only [hcl, g133]
    refine ⟨fun c1 => ?_, fun c1 => ?_⟩
    · conv => whnf
      exact no (fun z => z.1 c1)
    · conv => whnf
      refine ⟨vp_in_nI (by omega) (by decide), ?_⟩
      conv => whnf
      simp only [hcl, g130]
      refine sf_isStruck (by omega) (by omega) (fun s1 => ?_) (fun s1 => ?_)
      · conv => whnf
        (refine ⟨fun z9 => ?_, fun z9 => ?_⟩ <;> first | ((have c9 : (1 : Int32) = 0 := by with_reducible exact z9); exact absurd c9 (by decide)) | exact absurd (rfl : (0 : Int32) = 0) (by with_reducible exact z9) | exact absurd True.intro (by with_reducible exact z9) | exact False.elim (by with_reducible exact z9) | (conv => whnf))
        exact no (fun z => z.2.1 (by rw [← u127]; exact s1))
      · conv => whnf
        (refine ⟨fun z9 => ?_, fun z9 => ?_⟩ <;> first | ((have c9 : (1 : Int32) = 0 := by with_reducible exact z9); exact absurd c9 (by decide)) | exact absurd (rfl : (0 : Int32) = 0) (by with_reducible exact z9) | exact absurd True.intro (by with_reducible exact z9) | exact False.elim (by with_reducible exact z9) | (conv => whnf))
        refine ⟨vp_in_nI (by omega) (by decide), ?_⟩
        conv => whnf
        simp only [hcl, g131]
        refine sf_isStruck (by omega) (by omega) (fun s2 => ?_) (fun s2 => ?_)
        · conv => whnf
          (refine ⟨fun z9 => ?_, fun z9 => ?_⟩ <;> first | ((have c9 : (1 : Int32) = 0 := by with_reducible exact z9); exact absurd c9 (by decide)) | exact absurd (rfl : (0 : Int32) = 0) (by with_reducible exact z9) | exact absurd True.intro (by with_reducible exact z9) | exact False.elim (by with_reducible exact z9) | (conv => whnf))
          exact no (fun z => z.2.2 (by rw [← v127]; exact s2))
        · conv => whnf
          (refine ⟨fun z9 => ?_, fun z9 => ?_⟩ <;> first | ((have c9 : (1 : Int32) = 0 := by with_reducible exact z9); exact absurd c9 (by decide)) | exact absurd (rfl : (0 : Int32) = 0) (by with_reducible exact z9) | exact absurd True.intro (by with_reducible exact z9) | exact False.elim (by with_reducible exact z9) | (conv => whnf))
          simp only [g11]
          refine ⟨vp_in_nI (by omega) (by decide), ?_⟩
          conv => whnf
          simp only [g11, hcm, nI_1, m_ui_ap, m_fil_ap, m_cpy_ap, Nat.reduceEqDiff, Nat.reduceLT, Nat.reduceLeDiff, eq_self, ↓reduceIte, false_and, and_false, true_and, and_true, and_self]
          exact cl_lp hd hn hE H k (i + 1) _ (m + 1) _ _ (by omega) (by first | rfl | exact nI_1 i) (lst_yes hl ⟨c1, by rw [← u127]; exact s1, by rw [← v127]; exact s2⟩ (by omega))
