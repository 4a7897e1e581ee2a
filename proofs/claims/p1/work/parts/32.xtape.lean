set_option maxRecDepth 100000 in
set_option maxHeartbeats 4000000 in
theorem ct_skipBlanks {d L : Nat} {f : Nat → Nat → Int32} {g : Nat → Nat → Int64}  {R : Option Value → mH → Prop} (hd : 1 ≤ d) (r3 : f 107 3 = 0) (r4 : f 107 4 = 0) (H : R none (shF L, f, g)) : Run mtab d 61 [.ref 107] (shF L, f, g) R := by
  obtain ⟨d, rfl⟩ : ∃ e, d = e + 1 := ⟨d - 1, by omega⟩
  refine go_X6_skipBlanks rfl ?_
  conv => whnf
  repeat' first
    | (simp only [r3, r4])
    | (refine ⟨by decide, ?_⟩ <;> conv => whnf)
    | (refine ⟨by unfold vp_in; decide, ?_⟩ <;> conv => whnf)
    | (refine ⟨fun c => ?_, fun c => ?_⟩ <;> first | exact absurd c (by decide) | exact absurd (by decide) c | (conv => whnf))
    | fail
  exact H
set_option maxRecDepth 100000 in
set_option maxHeartbeats 4000000 in
theorem ct_blameY {d L : Nat} {f : Nat → Nat → Int32} {g : Nat → Nat → Int64}  {R : Option Value → mH → Prop} (hd : 1 ≤ d) (r5 : f 107 5 = -1) (H : R none (shF L, m_ui f 107 5 0, g)) : Run mtab d 62 [.ref 107, .int 0] (shF L, f, g) R := by
  obtain ⟨d, rfl⟩ : ∃ e, d = e + 1 := ⟨d - 1, by omega⟩
  refine go_X6_blame rfl ?_
  conv => whnf
  repeat' first
    | (simp only [r5])
    | (refine ⟨by decide, ?_⟩ <;> conv => whnf)
    | (refine ⟨by unfold vp_in; decide, ?_⟩ <;> conv => whnf)
    | (refine ⟨fun c => ?_, fun c => ?_⟩ <;> first | exact absurd c (by decide) | exact absurd (by decide) c | (conv => whnf))
    | fail
  exact H
set_option maxRecDepth 100000 in
set_option maxHeartbeats 4000000 in
theorem ct_blameN {d L : Nat} {f : Nat → Nat → Int32} {g : Nat → Nat → Int64}  {R : Option Value → mH → Prop} (hd : 1 ≤ d) (r5 : f 107 5 = 0) (H : R none (shF L, f, g)) : Run mtab d 62 [.ref 107, .int 0] (shF L, f, g) R := by
  obtain ⟨d, rfl⟩ : ∃ e, d = e + 1 := ⟨d - 1, by omega⟩
  refine go_X6_blame rfl ?_
  conv => whnf
  repeat' first
    | (simp only [r5])
    | (refine ⟨by decide, ?_⟩ <;> conv => whnf)
    | (refine ⟨by unfold vp_in; decide, ?_⟩ <;> conv => whnf)
    | (refine ⟨fun c => ?_, fun c => ?_⟩ <;> first | exact absurd c (by decide) | exact absurd (by decide) c | (conv => whnf))
    | fail
  exact H
set_option maxRecDepth 100000 in
set_option maxHeartbeats 4000000 in
theorem ct_readKind {d L : Nat} {f : Nat → Nat → Int32} {g : Nat → Nat → Int64}  {R : Option Value → mH → Prop} (hd : 2 ≤ d) (r3 : f 107 3 = 0) (r4 : f 107 4 = 0) (r5 : f 107 5 = -1) (H : R (some (.int (-1))) (shF L, m_ui f 107 5 0, g)) : Run mtab d 58 [.ref 107] (shF L, f, g) R := by
  obtain ⟨d, rfl⟩ : ∃ e, d = e + 1 := ⟨d - 1, by omega⟩
  refine go_X6_readKind rfl ?_
  conv => whnf
  repeat' first
    | (simp only [r3, r4])
    | (refine ⟨by decide, ?_⟩ <;> conv => whnf)
    | (refine ⟨by unfold vp_in; decide, ?_⟩ <;> conv => whnf)
    | (refine ⟨fun c => ?_, fun c => ?_⟩ <;> first | exact absurd c (by decide) | exact absurd (by decide) c | (conv => whnf))
    | (refine ct_skipBlanks (by omega) r3 r4 ?_ <;> conv => whnf)
    | (refine ct_blameY (by omega) r5 ?_ <;> conv => whnf)
    | fail
  exact H
set_option maxRecDepth 100000 in
set_option maxHeartbeats 4000000 in
theorem ct_readNumber {d L : Nat} {f : Nat → Nat → Int32} {g : Nat → Nat → Int64} {x y : Int32} {R : Option Value → mH → Prop} (hd : 2 ≤ d) (r3 : f 107 3 = 0) (r4 : f 107 4 = 0) (r5 : f 107 5 = 0) (H : R (some (.int 0)) (shF L, f, g)) : Run mtab d 60 [.ref 107, .int x, .int y] (shF L, f, g) R := by
  obtain ⟨d, rfl⟩ : ∃ e, d = e + 1 := ⟨d - 1, by omega⟩
  refine go_X6_readNumber rfl ?_
  conv => whnf
  repeat' first
    | (simp only [r3, r4])
    | (refine ⟨by decide, ?_⟩ <;> conv => whnf)
    | (refine ⟨by unfold vp_in; decide, ?_⟩ <;> conv => whnf)
    | (refine ⟨fun c => ?_, fun c => ?_⟩ <;> first | exact absurd c (by decide) | exact absurd (by decide) c | (conv => whnf))
    | (refine at_X6_readNumber ?_ <;> conv => whnf)
    | (refine ct_skipBlanks (by omega) r3 r4 ?_ <;> conv => whnf)
    | (refine ct_blameN (by omega) r5 ?_ <;> conv => whnf)
    | (refine ct_isWithin (by omega) (fun p => ?_) (fun p => ?_) <;> conv => whnf)
    | fail
  all_goals exact H
set_option maxRecDepth 100000 in
set_option maxHeartbeats 4000000 in
theorem ct_readSign {d L : Nat} {f : Nat → Nat → Int32} {g : Nat → Nat → Int64} {x : Int32} {R : Option Value → mH → Prop} (hd : 2 ≤ d) (r3 : f 107 3 = 0) (r4 : f 107 4 = 0) (r5 : f 107 5 = 0) (H : R none (shF L, f, g)) : Run mtab d 59 [.ref 107, .int x] (shF L, f, g) R := by
  obtain ⟨d, rfl⟩ : ∃ e, d = e + 1 := ⟨d - 1, by omega⟩
  refine go_X6_readSign rfl ?_
  conv => whnf
  repeat' first
    | (simp only [r3, r4])
    | (refine ⟨by decide, ?_⟩ <;> conv => whnf)
    | (refine ⟨by unfold vp_in; decide, ?_⟩ <;> conv => whnf)
    | (refine ⟨fun c => ?_, fun c => ?_⟩ <;> first | exact absurd c (by decide) | exact absurd (by decide) c | (conv => whnf))
    | (refine ct_skipBlanks (by omega) r3 r4 ?_ <;> conv => whnf)
    | (refine ct_blameN (by omega) r5 ?_ <;> conv => whnf)
    | fail
  all_goals exact H
set_option maxRecDepth 100000 in
set_option maxHeartbeats 4000000 in
theorem ct_readClause {d L : Nat} {f : Nat → Nat → Int32} {g : Nat → Nat → Int64}  {R : Option Value → mH → Prop} (hd : 3 ≤ d) (r3 : f 107 3 = 0) (r4 : f 107 4 = 0) (r5 : f 107 5 = -1) (H : R none (shF L, m_ui f 107 5 0, g)) : Run mtab d 57 [.ref 107] (shF L, f, g) R := by
  obtain ⟨d, rfl⟩ : ∃ e, d = e + 1 := ⟨d - 1, by omega⟩
  refine go_X6_readClause rfl ?_
  conv => whnf
  repeat' first
    | (refine ⟨by decide, ?_⟩ <;> conv => whnf)
    | (refine ⟨by unfold vp_in; decide, ?_⟩ <;> conv => whnf)
    | (refine ⟨fun c => ?_, fun c => ?_⟩ <;> first | exact absurd c (by decide) | exact absurd (by decide) c | (conv => whnf))
    | (refine ct_readKind (by omega) r3 r4 r5 ?_ <;> conv => whnf)
    | (refine ct_readNumber (by omega) r3 r4 rfl ?_ <;> conv => whnf)
    | (refine ct_readSign (by omega) r3 r4 rfl ?_ <;> conv => whnf)
    | fail
  all_goals exact H
set_option maxRecDepth 100000 in
set_option maxHeartbeats 4000000 in
theorem ct_readClauses {d L : Nat} {f : Nat → Nat → Int32} {g : Nat → Nat → Int64}  {R : Option Value → mH → Prop} (hd : 4 ≤ d) (r3 : f 107 3 = 0) (r4 : f 107 4 = 0) (r5 : f 107 5 = -1) (H : R (some (.int 1)) (shF L, m_ui f 107 5 0, g)) : Run mtab d 56 [.ref 107] (shF L, f, g) R := by
  obtain ⟨d, rfl⟩ : ∃ e, d = e + 1 := ⟨d - 1, by omega⟩
  refine go_X6_readClauses rfl ?_
  conv => whnf
  repeat' first
    | (simp only [m_ui_ap, m_fil_ap, m_cpy_ap, Nat.reduceEqDiff, Nat.reduceLT, Nat.reduceLeDiff, eq_self, ↓reduceIte, false_and, and_false, true_and, and_true, and_self])
    | (refine ⟨by decide, ?_⟩ <;> conv => whnf)
    | (refine ⟨by unfold vp_in; decide, ?_⟩ <;> conv => whnf)
    | (refine ⟨fun c => ?_, fun c => ?_⟩ <;> first | exact absurd c (by decide) | exact absurd (by decide) c | (conv => whnf))
    | (refine at_X6_readClauses ?_ <;> conv => whnf)
    | (refine ct_readClause (by omega) r3 r4 r5 ?_ <;> conv => whnf)
    | (refine ct_skipBlanks (by omega) r3 r4 ?_ <;> conv => whnf)
    | fail
  all_goals exact H
set_option maxRecDepth 100000 in
set_option maxHeartbeats 4000000 in
theorem ct_readTape {d L : Nat} {f : Nat → Nat → Int32} {g : Nat → Nat → Int64}  {R : Option Value → mH → Prop} (hd : 5 ≤ d) (r3 : f 107 3 = 0) (H : ∀ f', fr f f' → R (some (.int (-20))) (shF L, f', g)) : Run mtab d 54 [.ref 107] (shF L, f, g) R := by
  obtain ⟨d, rfl⟩ : ∃ e, d = e + 1 := ⟨d - 1, by omega⟩
  refine go_X6_readTape rfl ?_
  conv => whnf
  repeat' first
    | (refine ⟨⟨by unfold vp_in; decide, by decide, by decide⟩, ?_⟩ <;> conv => whnf)
    | (simp only [m_ui_ap, m_fil_ap, m_cpy_ap, Nat.reduceEqDiff, Nat.reduceLT, Nat.reduceLeDiff, eq_self, ↓reduceIte, false_and, and_false, true_and, and_true, and_self])
    | (refine ⟨by decide, ?_⟩ <;> conv => whnf)
    | (refine ⟨by unfold vp_in; decide, ?_⟩ <;> conv => whnf)
    | (refine ⟨fun c => ?_, fun c => ?_⟩ <;> first | exact absurd c (by decide) | exact absurd (by decide) c | (conv => whnf))
    | (refine at_X6_readTape ?_ <;> conv => whnf)
    | (refine ct_readClauses (by omega) r3 rfl rfl ?_ <;> conv => whnf)
    | fail
  all_goals exact H _ (by first | exact fr_refl _ | assumption | (repeat' first | exact fr_refl _ | assumption | refine fr_ui (by decide) (by decide) ?_ | refine fr_fil (by decide) (by decide) ?_))
set_option maxRecDepth 100000 in
set_option maxHeartbeats 4000000 in
theorem x_rules {d L : Nat} {f : Nat → Nat → Int32} {g : Nat → Nat → Int64}  {R : Option Value → mH → Prop} (hd : 6 ≤ d) (z : z0 f) (H : ∀ f' g', fr f f' → R (some (.int (-20))) (shF L, f', g')) : Run mtab d 120 [.ref 5] (shF L, f, g) R := by
  obtain ⟨d, rfl⟩ : ∃ e, d = e + 1 := ⟨d - 1, by omega⟩
  obtain ⟨z1, z2, z3, z4, z5, z6, z7⟩ := id z
  refine go_X10_rules rfl ?_
  conv => whnf
  repeat' first
    | (refine ⟨by decide, ?_⟩ <;> conv => whnf)
    | (refine ⟨by unfold vp_in; decide, ?_⟩ <;> conv => whnf)
    | (refine ⟨fun c => ?_, fun c => ?_⟩ <;> first | exact absurd c (by decide) | exact absurd (by decide) c | (conv => whnf))
    | (refine ct_readTape (by omega) z3 (fun f1 h1 => ?_) <;> conv => whnf)
    | fail
  exact H _ _ h1
def bAt (w : Int64) (i : Int32) : Int32 := (w.toUInt64 >>> ((8 * i).toInt64.toUInt64 &&& Int64.toUInt64 63)).toInt64.toInt32 &&& 255
def okb (w : Int64) (j : Nat) : Prop := inr 32 126 (bAt w (nI j))
def tyw (w : Int64) (x : Int32) : Prop := inr 1 8 x ∧ ∀ j, j < x.toNatClampNeg → okb w j
theorem ct_byteAt {d : Nat} {w : Int64} {i : Int32} {h : mH} {R : Option Value → mH → Prop} (hd : 1 ≤ d) (H : R (some (.int (bAt w i))) h) : Run mtab d 51 [.long w, .int i] h R := by
  obtain ⟨d, rfl⟩ : ∃ e, d = e + 1 := ⟨d - 1, by omega⟩
  refine go_X6_byteAt rfl ?_
  conv => whnf
  exact H
theorem typ_loop {d n : Nat} {w : Int64} {h : mH} {R : Option Value → mH → Prop} (hd : 1 ≤ d) (hn : n ≤ 8) (H1 : (∀ j, j < n → okb w j) → R (some (.int 1)) h) (H0 : ¬ (∀ j, j < n → okb w j) → R (some (.int 0)) h) :
    ∀ k i : Nat, i + k = n → (∀ j, j < i → okb w j) → WPe pg_X6_areTypable none (Run mtab d) R (m_drop pg_X6_areTypable 2) [some (.long w), none, some (.int (nI n)), some (.int (nI i))] [] h
  | 0, i, hi, hp => by
    have e : i = n := by omega
    subst e
    refine at_X6_areTypable ?_
    conv => whnf
    refine ⟨fun c => ?_, fun c => absurd (nI_le (Nat.le_refl i) (by omega)) c⟩
    conv => whnf
    exact ⟨Or.inr rfl, H1 hp⟩
  | k + 1, i, hi, hp => by
    refine at_X6_areTypable ?_
    conv => whnf
    refine ⟨fun c => absurd c (nI_ge (by omega) (by omega)), fun c => ?_⟩
    conv => whnf
    refine ct_byteAt hd ?_
    conv => whnf
    refine ct_isWithin hd (fun p => ?_) (fun p => ?_)
    · conv => whnf
      refine ⟨fun _ => ?_, fun c => absurd c (by decide)⟩
      conv => whnf
      have ih := typ_loop hd hn H1 H0 k (i + 1) (by omega) (fun j hj => by
        by_cases e : j = i
        · subst e
          exact p
        · exact hp j (by omega))
      rw [nI_succ] at ih
      exact ih
    · conv => whnf
      refine ⟨fun c => absurd (by decide) c, fun _ => ?_⟩
      conv => whnf
      exact ⟨Or.inl rfl, H0 (fun q => p (q i (by omega)))⟩
theorem ct_areTypable {d n : Nat} {w : Int64} {h : mH} {R : Option Value → mH → Prop} (hd : 2 ≤ d) (hn : n ≤ 8) (H1 : (∀ j, j < n → okb w j) → R (some (.int 1)) h) (H0 : ¬ (∀ j, j < n → okb w j) → R (some (.int 0)) h) : Run mtab d 50 [.long w, .int (nI n)] h R := by
  obtain ⟨d, rfl⟩ : ∃ e, d = e + 1 := ⟨d - 1, by omega⟩
  refine go_X6_areTypable rfl ?_
  conv => whnf
  exact typ_loop (by omega) hn H1 H0 n 0 (by omega) (fun j hj => absurd hj (by omega))
set_option maxRecDepth 100000 in
theorem app_loop {d L n : Nat} {w : Int64} {f0 : Nat → Nat → Int32} {g : Nat → Nat → Int64} {R : Option Value → mH → Prop} (hd : 1 ≤ d) (hn : n ≤ 8) (H : ∀ f', fr f0 f' → R (some (.int (nI n))) (shF L, f', g)) :
    ∀ (k m : Nat) (f : Nat → Nat → Int32), m + k = n → f 107 3 = nI m → fr f0 f → WPe pg_X6_append none (Run mtab d) R (m_drop pg_X6_append 12) [some (.ref 107), some (.long w), none, some (.int (nI n)), some (.int (nI k + -1))] [] (shF L, f, g)
  | 0, m, f, hm, hf, hr => by
    have e : m = n := by omega
    subst e
    refine at_X6_append ?_
    conv => whnf
    refine ⟨fun c => ?_, fun c => absurd (by decide) c⟩
    conv => whnf
    rw [hf]
    exact H f hr
  | k + 1, m, f, hm, hf, hr => by
    have e : nI (k + 1) + -1 = nI k := by rw [← Int32.sub_eq_add_neg, nI_pred]
    rw [e]
    refine at_X6_append ?_
    conv => whnf
    refine ⟨fun c => absurd c (nI_pos (by omega)), fun c => ?_⟩
    conv => whnf
    refine ct_byteAt hd ?_
    conv => whnf
    refine ⟨by rw [hf]; exact vp_in_nI (by omega) (by decide), ?_⟩
    have ih := fun (v : Int32) => app_loop (w := w) hd hn H k (m + 1) (m_ui (m_ui f 118 (f 107 3).toNatClampNeg v) 107 3 (f 107 3 + 1)) (by omega) (by
      show f 107 3 + 1 = _
      rw [hf, nI_1]) (fr_ui (by decide) (by decide) (fr_ui (by decide) (by decide) hr))
    exact ih _
set_option maxRecDepth 100000 in
theorem ct_append {d L n : Nat} {w : Int64} {f : Nat → Nat → Int32} {g : Nat → Nat → Int64} {R : Option Value → mH → Prop} (hd : 2 ≤ d) (hn : n ≤ 8) (r3 : f 107 3 = 0) (H : ∀ f', fr f f' → R (some (.int (nI n))) (shF L, f', g)) : Run mtab d 52 [.ref 107, .long w, .int (nI n)] (shF L, f, g) R := by
  obtain ⟨d, rfl⟩ : ∃ e, d = e + 1 := ⟨d - 1, by omega⟩
  refine go_X6_append rfl ?_
  conv => whnf
  rw [r3]
  have e : (0 : Int32) + nI n = nI n := Int32.zero_add _
  refine ⟨fun c => ?_, fun c => absurd (by
    show (0 : Int32) + nI n ≤ 50
    rw [e]
    exact nI_le (b := 50) (by omega) (by decide)) c⟩
  conv => whnf
  have e2 : nI n - 1 = nI n + -1 := Int32.sub_eq_add_neg ..
  have := app_loop (d := d) (L := L) (w := w) (f0 := f) (g := g) (by omega) hn H n 0 f (by omega) (by rw [r3]; rfl) (fr_refl f)
  rw [← e2] at this
  exact this
set_option maxRecDepth 100000 in
theorem x_type {d L : Nat} {x : Int32} {w : Int64} {f : Nat → Nat → Int32} {g : Nat → Nat → Int64} {R : Option Value → mH → Prop} (hd : 4 ≤ d) (z : z0 f) (H : ∀ v f' g', v2 (tyw w x) x (-1) v → fr f f' → R (some (.int v)) (shF L, f', g')) : Run mtab d 119 [.ref 5, .long w, .int x] (shF L, f, g) R := by
  obtain ⟨d, rfl⟩ : ∃ e, d = e + 1 := ⟨d - 1, by omega⟩
  obtain ⟨z1, z2, z3, z4, z5, z6, z7⟩ := id z
  refine go_X10_type rfl ?_
  conv => whnf
  refine ct_isWithin (by omega) (fun p => ?_) (fun p => ?_)
  · conv => whnf
    refine ⟨fun c => absurd c (by decide), fun _ => ?_⟩
    obtain ⟨n, h1, h8, rfl⟩ := inr_18 p
    conv => whnf
    refine ct_areTypable (by omega) h8 (fun q => ?_) (fun q => ?_)
    · conv => whnf
      refine ⟨fun _ => ?_, fun c => absurd c (by decide)⟩
      conv => whnf
      refine ct_append (by omega) h8 z3 (fun f1 h1 => ?_)
      conv => whnf
      exact H _ _ _ (v2_y ⟨p, fun j hj => q j (by rw [nI_clamp (by omega)] at hj; exact hj)⟩) h1
    · conv => whnf
      refine ⟨fun c => absurd (by decide) c, fun _ => ?_⟩
      conv => whnf
      exact H _ _ _ (v2_n (fun t => q (fun j hj => t.2 j (by rw [nI_clamp (by omega)]; exact hj)))) (fr_refl f)
  · conv => whnf
    refine ⟨fun _ => ?_, fun c => absurd (by decide) c⟩
    conv => whnf
    exact H _ _ _ (v2_n (fun t => p t.1)) (fr_refl f)
