/-- nothing outside the class's object has changed -/
def fr (f f' : Nat → Nat → Int32) : Prop := ∀ a i, (a < 6 ∨ 181 ≤ a) → f' a i = f a i
theorem fr_refl (f : Nat → Nat → Int32) : fr f f := fun _ _ _ => rfl
theorem fr_trans {f f' f'' : Nat → Nat → Int32} (h : fr f f') (h' : fr f' f'') : fr f f'' := fun a i q => (h' a i q).trans (h a i q)
theorem fr_ui {f f' : Nat → Nat → Int32} {k j : Nat} {v : Int32} (h1 : 6 ≤ k) (h2 : k < 181) (h : fr f f') : fr f (m_ui f' k j v) := fun a i q => by
  show (if a = k then (if i = j then v else f' a i) else f' a i) = _
  rw [if_neg (by omega)]
  exact h a i q
theorem fr_fil {f f' : Nat → Nat → Int32} {k n : Nat} {v : Int32} (h1 : 6 ≤ k) (h2 : k < 181) (h : fr f f') : fr f (m_fil f' k n v) := fun a i q => by
  show (if a = k ∧ i < n then v else f' a i) = _
  rw [if_neg (by omega)]
  exact h a i q
theorem rp_cpy0 {d a b ta na nb : Nat} {ra rb : List (Option Nat)} {l : List mS} {f : Nat → Nat → Int32} {g : Nat → Nat → Int64} {R : Option Value → mH → Prop} (hd : 1 ≤ d) (ha : m_nth l a = some (ta, na, ra)) (ht : (Nat.beq ta 100 || Nat.beq ta 200) = true) (hb : m_nth l b = some (100, nb, rb)) (H : R none (l, f, g)) : Run mtab d 1 [.ref a, .int 0, .ref b, .int 0, .int 0] (l, f, g) R := by
  refine rp_cpy hd ha ht hb ⟨by decide, by decide, by decide, Nat.zero_le _, Nat.zero_le _⟩ ?_
  have e : m_cpy f a b (0 : Int32).toNatClampNeg (0 : Int32).toNatClampNeg (0 : Int32).toNatClampNeg = f := by
    funext k i
    show (if k = b then (if 0 ≤ i ∧ i < 0 + 0 then _ else f k i) else f k i) = _
    rw [if_neg (show ¬ (0 ≤ i ∧ i < 0 + 0) by omega)]
    split <;> rfl
  rw [e]
  exact H
/-! longs -/
theorem fillL_loop {d : Nat} {l : List mS} {f : Nat → Nat → Int32} {k n : Nat} {r : List (Option Nat)} {v : Int64} {Q : Option Value → mH → Prop} (hk : m_nth l k = some (102, n, r)) (hn : n < 2 ^ 31) (hQ : ∀ g', Q none (l, f, g')) :
    ∀ (j i : Nat) (g : Nat → Nat → Int64), i + j = n → WPe pg_J7_fill_d0a16 none (Run mtab d) Q (m_drop pg_J7_fill_d0a16 5) [some (.ref k), some (.long v), none, some (.int (nI i)), some (.int (nI n))] [] (l, f, g)
  | 0, i, g, hi => by
    have e : i = n := by omega
    subst e
    refine at_J7_fill_d0a16 ?_
    conv => whnf
    refine ⟨fun c1 => ?_, fun c1 => ?_⟩
    · exact hQ _
    · exact absurd (nI_le (Nat.le_refl i) hn) c1
  | j + 1, i, g, hi => by
    have ih := fun g' => fillL_loop (d := d) (f := f) (v := v) hk hn hQ j (i + 1) g' (by omega)
    have hin : vp_in (nI i) n := nI_in (by omega) hn
    refine at_J7_fill_d0a16 ?_
    conv => whnf
    refine ⟨fun c1 => ?_, fun c1 => ?_⟩
    · exact absurd c1 (nI_ge (by omega) hn)
    · conv => whnf
      simp only [m_act_eq, mi, mj, m_act0, m_alen, m_arr, hk]
      conv => whnf
      refine ⟨hin, ?_⟩
      have := ih (m_ul g k (nI i).toNatClampNeg v)
      rw [nI_succ] at this
      exact this
theorem ct_fillL {d : Nat} {l : List mS} {f : Nat → Nat → Int32} {g : Nat → Nat → Int64} {k n : Nat} {r : List (Option Nat)} {v : Int64} {R : Option Value → mH → Prop} (hd : 1 ≤ d) (hk : m_nth l k = some (102, n, r)) (hn : n < 2 ^ 31) (hR : ∀ g', R none (l, f, g')) : Run mtab d 243 [.ref k, .long v] (l, f, g) R := by
  obtain ⟨d, rfl⟩ : ∃ e, d = e + 1 := ⟨d - 1, by omega⟩
  refine go_J7_fill_d0a16 rfl ?_
  conv => whnf
  simp only [m_act_eq, mi, mj, m_act0, m_alen, m_arr, hk]
  conv => whnf
  exact fillL_loop (d := d) (f := f) (v := v) hk hn hR n 0 g (by omega)
set_option maxRecDepth 100000 in
set_option maxHeartbeats 4000000 in
theorem ct_reckon0 {d L : Nat} {f : Nat → Nat → Int32} {g : Nat → Nat → Int64} {x : Int32} {R : Option Value → mH → Prop} (hd : 2 ≤ d) (H : R none (shF L, m_fil (m_fil f 127 40 0) 128 40 0, g)) : Run mtab d 11 [.ref 119, .int x, .int 0] (shF L, f, g) R := by
  obtain ⟨d, rfl⟩ : ∃ e, d = e + 1 := ⟨d - 1, by omega⟩
  refine go_X0_reckon rfl ?_
  conv => whnf
  repeat' first
    | (refine ⟨fun c => ?_, fun c => ?_⟩ <;> first | exact absurd c (by decide) | exact absurd (by decide) c | (conv => whnf))
    | (refine ⟨by decide, ?_⟩ <;> conv => whnf)
    | (refine ⟨by unfold vp_in; decide, ?_⟩ <;> conv => whnf)
    | (refine at_X0_reckon ?_ <;> conv => whnf)
    | (refine ct_fill (n := 40) (by omega) rfl (by decide) ?_ <;> conv => whnf)
    | fail
  exact H
set_option maxRecDepth 100000 in
set_option maxHeartbeats 4000000 in
theorem ct_reckonAll {d L : Nat} {f : Nat → Nat → Int32} {g : Nat → Nat → Int64}  {R : Option Value → mH → Prop} (hd : 3 ≤ d) (z : z0 f) (H : R none (shF L, m_fil (m_fil f 127 40 0) 128 40 0, g)) : Run mtab d 10 [.ref 119] (shF L, f, g) R := by
  obtain ⟨d, rfl⟩ : ∃ e, d = e + 1 := ⟨d - 1, by omega⟩
  obtain ⟨z1, z2, z3, z4, z5, z6, z7⟩ := id z
  refine go_X0_reckonAll rfl ?_
  conv => whnf
  repeat' first
    | (simp only [z1, z2, z3, z4, z5, z6, z7])
    | (refine ⟨fun c => ?_, fun c => ?_⟩ <;> first | exact absurd c (by decide) | exact absurd (by decide) c | (conv => whnf))
    | (refine ⟨by decide, ?_⟩ <;> conv => whnf)
    | (refine ⟨by unfold vp_in; decide, ?_⟩ <;> conv => whnf)
    | (refine ct_reckon0 (by omega) ?_ <;> conv => whnf)
    | fail
  exact H
set_option maxRecDepth 100000 in
set_option maxHeartbeats 4000000 in
theorem ct_raiseLows {d L : Nat} {f : Nat → Nat → Int32} {g : Nat → Nat → Int64}  {R : Option Value → mH → Prop} (hd : 2 ≤ d) (z : z0 f) (hc : f 129 11 = 0) (H : R (some (.int 1)) (shF L, f, g)) : Run mtab d 81 [.ref 129] (shF L, f, g) R := by
  obtain ⟨d, rfl⟩ : ∃ e, d = e + 1 := ⟨d - 1, by omega⟩
  obtain ⟨z1, z2, z3, z4, z5, z6, z7⟩ := id z
  refine go_X9_raiseLows rfl ?_
  conv => whnf
  repeat' first
    | exact ⟨Or.inr rfl, H⟩
    | (simp only [z1, z2, z3, z4, z5, z6, z7, hc])
    | (refine ⟨fun c => ?_, fun c => ?_⟩ <;> first | exact absurd c (by decide) | exact absurd (by decide) c | (conv => whnf))
    | (refine ⟨by decide, ?_⟩ <;> conv => whnf)
    | (refine ⟨by unfold vp_in; decide, ?_⟩ <;> conv => whnf)
    | (refine at_X9_raiseLows ?_ <;> conv => whnf)
    | (refine rp_cpy0 (by omega) rfl rfl rfl ?_ <;> conv => whnf)
    | fail
set_option maxRecDepth 100000 in
set_option maxHeartbeats 4000000 in
theorem ct_lowerHighs {d L : Nat} {f : Nat → Nat → Int32} {g : Nat → Nat → Int64}  {R : Option Value → mH → Prop} (hd : 1 ≤ d) (hc : f 129 11 = 0) (H : R none (shF L, f, g)) : Run mtab d 82 [.ref 129] (shF L, f, g) R := by
  obtain ⟨d, rfl⟩ : ∃ e, d = e + 1 := ⟨d - 1, by omega⟩
  refine go_X9_lowerHighs rfl ?_
  conv => whnf
  repeat' first
    | (simp only [hc])
    | (refine ⟨fun c => ?_, fun c => ?_⟩ <;> first | exact absurd c (by decide) | exact absurd (by decide) c | (conv => whnf))
    | (refine ⟨by decide, ?_⟩ <;> conv => whnf)
    | (refine ⟨by unfold vp_in; decide, ?_⟩ <;> conv => whnf)
    | (refine at_X9_lowerHighs ?_ <;> conv => whnf)
    | fail
  exact H
def rkF (f : Nat → Nat → Int32) : Nat → Nat → Int32 := m_ui (m_ui (m_fil (m_fil f 127 40 0) 128 40 0) 129 11 0) 129 9 0
theorem rk_z {f : Nat → Nat → Int32} (z : z0 f) : z0 (rkF f) := z
theorem rk_fr (f : Nat → Nat → Int32) : fr f (rkF f) := fr_ui (by decide) (by decide) (fr_ui (by decide) (by decide) (fr_fil (by decide) (by decide) (fr_fil (by decide) (by decide) (fr_refl f))))
theorem rk_q (f : Nat → Nat → Int32) : rkF f 129 9 = 0 := rfl
theorem rk_c (f : Nat → Nat → Int32) : rkF f 129 11 = 0 := rfl
def rkG (f : Nat → Nat → Int32) : Nat → Nat → Int32 := m_ui (m_fil (m_fil f 127 40 0) 128 40 0) 129 11 0
theorem rkG_z {f : Nat → Nat → Int32} (z : z0 f) : z0 (rkG f) := z
set_option maxRecDepth 100000 in
set_option maxHeartbeats 4000000 in
theorem ct_reckon {d L : Nat} {f : Nat → Nat → Int32} {g : Nat → Nat → Int64}  {R : Option Value → mH → Prop} (hd : 4 ≤ d) (z : z0 f) (H : ∀ f', z0 f' → fr f f' → f' 129 9 = 0 → f' 129 11 = 0 → R none (shF L, f', g)) : Run mtab d 79 [.ref 129] (shF L, f, g) R := by
  obtain ⟨d, rfl⟩ : ∃ e, d = e + 1 := ⟨d - 1, by omega⟩
  obtain ⟨z1, z2, z3, z4, z5, z6, z7⟩ := id z
  refine go_X9_reckon rfl ?_
  conv => whnf
  repeat' first
    | (simp only [z1, z2, z3, z4, z5, z6, z7, m_ui_ap, m_fil_ap, m_cpy_ap, ↓reduceIte, false_and, and_false, true_and, and_true, and_self])
    | (refine ⟨fun c => ?_, fun c => ?_⟩ <;> first | exact absurd c (by decide) | exact absurd (by decide) c | (conv => whnf))
    | (refine ⟨by decide, ?_⟩ <;> conv => whnf)
    | (refine ⟨by unfold vp_in; decide, ?_⟩ <;> conv => whnf)
    | (refine at_X9_reckon ?_ <;> conv => whnf)
    | (refine ct_reckonAll (by omega) z ?_ <;> conv => whnf)
    | (refine rp_cpy0 (by omega) rfl rfl rfl ?_ <;> conv => whnf)
    | (refine ct_raiseLows (f := rkG f) (by omega) (rkG_z z) rfl ?_ <;> conv => whnf)
    | (refine ct_lowerHighs (f := rkF f) (by omega) rfl ?_ <;> conv => whnf)
    | fail
  exact H (rkF f) (rk_z z) (rk_fr f) (rk_q f) (rk_c f)
set_option maxRecDepth 100000 in
set_option maxHeartbeats 4000000 in
theorem ct_findAsides {d L : Nat} {f : Nat → Nat → Int32} {g : Nat → Nat → Int64}  {R : Option Value → mH → Prop} (hd : 1 ≤ d) (hq : f 129 9 = 0) (H : R (some (.int 0)) (shF L, f, g)) : Run mtab d 83 [.ref 129] (shF L, f, g) R := by
  obtain ⟨d, rfl⟩ : ∃ e, d = e + 1 := ⟨d - 1, by omega⟩
  refine go_X9_findAsides rfl ?_
  conv => whnf
  repeat' first
    | (simp only [hq])
    | (refine ⟨fun c => ?_, fun c => ?_⟩ <;> first | exact absurd c (by decide) | exact absurd (by decide) c | (conv => whnf))
    | (refine ⟨by decide, ?_⟩ <;> conv => whnf)
    | (refine ⟨by unfold vp_in; decide, ?_⟩ <;> conv => whnf)
    | fail
  exact H
