set_option maxRecDepth 100000 in
set_option maxHeartbeats 4000000 in
theorem sx_item {d L : Nat} {f : Nat → Nat → Int32} {g : Nat → Nat → Int64} {x1 x2 x3 x4 : Int32} {R : Option Value → mH → Prop} (hd : 6 ≤ d) (hX : XI f) (H : ∀ v f' g', XI f' → kp [8] f f' → R (some (.int v)) (shF L, f', g')) : Run mtab d 132 [.ref 5, .int x1, .int x2, .int x3, .int x4] (shF L, f, g) R := by
  obtain ⟨d, rfl⟩ : ∃ e, d = e + 1 := ⟨d - 1, by omega⟩
  refine go_X10_item rfl ?_
  conv => whnf
  by_cases q : inr 0 3 x1
  · rcases inr_c3 q with rfl | rfl | rfl | rfl
    all_goals
      repeat' first
        | exact absurd (by unfold inr; decide) p
        | (refine ⟨⟨by unfold vp_in; decide, by decide, by decide⟩, ?_⟩ <;> conv => whnf)
        | ((with_reducible refine ⟨vp_sheet (xi_180 hX _) r1 r2, ?_⟩) <;> conv => whnf)
        | ((with_reducible refine ⟨vp_in_nI (by omega) (by decide), ?_⟩) <;> conv => whnf)
        | (refine ⟨Or.inl rfl, ?_⟩ <;> conv => whnf)
        | (refine ⟨Or.inr rfl, ?_⟩ <;> conv => whnf)
        | (refine ⟨Or.inl True.intro, ?_⟩ <;> conv => whnf)
        | (refine ⟨Or.inr True.intro, ?_⟩ <;> conv => whnf)
        | (refine ⟨fun c => ?_, fun c => ?_⟩ <;> first | ((have c9 : (1 : Int32) = 0 := by with_reducible exact c); exact absurd c9 (by decide)) | exact absurd (rfl : (0 : Int32) = 0) (by with_reducible exact c) | exact absurd True.intro (by with_reducible exact c) | exact False.elim (by with_reducible exact c) | exact absurd (by with_reducible exact c) hv | (conv => whnf))
        | (refine ct_isWithin (by omega) (fun p => ?_) (fun p => ?_) <;> conv => whnf)
        | (refine ct_isYear (by omega) (fun p => ?_) (fun p => ?_) <;> conv => whnf)
        | (refine ct_isSide (by omega) (fun p => ?_) (fun p => ?_) <;> conv => whnf)
        | (refine ct_isTitle (by omega) (fun p => ?_) (fun p => ?_) <;> conv => whnf)
        | (refine ct_isBits8 (by omega) (fun p => ?_) (fun p => ?_) <;> conv => whnf)
        | (refine ct_isBits20 (by omega) (fun p => ?_) (fun p => ?_) <;> conv => whnf)
        | (refine ct_isBits30 (by omega) (fun p => ?_) (fun p => ?_) <;> conv => whnf)
        | (refine ct_isToldWell (by omega) (fun p => ?_) (fun p => ?_) <;> conv => whnf)
        | (refine ct_isSheet (by omega) (fun p => ?_) (fun p => ?_) <;> conv => whnf)
        | (refine ct_isLane (by omega) (fun p => ?_) (fun p => ?_) <;> conv => whnf)
        | (refine sx_refuse (by omega) hX q (fun v hv => ?_) (fun r1 r2 => ?_) <;> conv => whnf)
        | (refine ⟨by unfold vp_in; decide, ?_⟩ <;> conv => whnf)
        | fail
    all_goals exact H _ _ _ (by repeat' first | (with_reducible assumption) | (with_reducible refine XI_ui ?_ ?_) | (with_reducible refine XI_fil ?_ (fun _ => ?_)) | (with_reducible refine XI_cpy ?_ (fun _ _ => ?_)) | exact True.intro | ((show inr _ _ _); first | (with_reducible assumption) | (unfold inr; decide)) | fail) (by repeat' first | (with_reducible exact kp_refl _ _) | (with_reducible assumption) | (with_reducible refine kp_ui ?_ ?_) | (with_reducible refine kp_fil ?_ ?_) | (with_reducible refine kp_cpy ?_ ?_) | rfl | fail)
  · repeat' first
      | exact absurd ‹inr 0 3 x1› q
      | ((with_reducible refine ⟨vp_in_nI (by omega) (by decide), ?_⟩) <;> conv => whnf)
      | (refine ⟨Or.inl rfl, ?_⟩ <;> conv => whnf)
      | (refine ⟨Or.inr rfl, ?_⟩ <;> conv => whnf)
      | (refine ⟨Or.inl True.intro, ?_⟩ <;> conv => whnf)
      | (refine ⟨Or.inr True.intro, ?_⟩ <;> conv => whnf)
      | (refine ⟨fun c => ?_, fun c => ?_⟩ <;> first | ((have c9 : (1 : Int32) = 0 := by with_reducible exact c); exact absurd c9 (by decide)) | exact absurd (rfl : (0 : Int32) = 0) (by with_reducible exact c) | exact absurd True.intro (by with_reducible exact c) | exact False.elim (by with_reducible exact c) | (conv => whnf))
      | (refine ct_isWithin (by omega) (fun p => ?_) (fun p => ?_) <;> conv => whnf)
      | (refine ct_isYear (by omega) (fun p => ?_) (fun p => ?_) <;> conv => whnf)
      | (refine ct_isSide (by omega) (fun p => ?_) (fun p => ?_) <;> conv => whnf)
      | (refine ct_isTitle (by omega) (fun p => ?_) (fun p => ?_) <;> conv => whnf)
      | (refine ct_isBits8 (by omega) (fun p => ?_) (fun p => ?_) <;> conv => whnf)
      | (refine ct_isBits20 (by omega) (fun p => ?_) (fun p => ?_) <;> conv => whnf)
      | (refine ct_isBits30 (by omega) (fun p => ?_) (fun p => ?_) <;> conv => whnf)
      | (refine ct_isToldWell (by omega) (fun p => ?_) (fun p => ?_) <;> conv => whnf)
      | (refine ct_isSheet (by omega) (fun p => ?_) (fun p => ?_) <;> conv => whnf)
      | (refine ct_isLane (by omega) (fun p => ?_) (fun p => ?_) <;> conv => whnf)
      | (refine ⟨by unfold vp_in; decide, ?_⟩ <;> conv => whnf)
      | fail
    all_goals exact H _ _ _ hX (kp_refl _ _)
set_option maxRecDepth 100000 in
set_option maxHeartbeats 4000000 in
theorem sx_rule {d L : Nat} {f : Nat → Nat → Int32} {g : Nat → Nat → Int64} {x1 x2 : Int32} {R : Option Value → mH → Prop} (hd : 6 ≤ d) (hX : XI f) (H : ∀ v f' g', XI f' → kp [0] f f' → R (some (.int v)) (shF L, f', g')) : Run mtab d 121 [.ref 5, .int x1, .int x2] (shF L, f, g) R := by
  obtain ⟨d, rfl⟩ : ∃ e, d = e + 1 := ⟨d - 1, by omega⟩
  refine go_X10_rule rfl ?_
  conv => whnf
  by_cases q : inr 0 3 x1
  · rcases inr_c3 q with rfl | rfl | rfl | rfl
    all_goals
      repeat' first
        | exact absurd (by unfold inr; decide) p
        | (refine ⟨⟨by unfold vp_in; decide, by decide, by decide⟩, ?_⟩ <;> conv => whnf)
        | ((with_reducible refine ⟨vpi ‹inr 0 2 _› (by decide), ?_⟩) <;> conv => whnf)
        | ((with_reducible refine ⟨vp_in_nI (by omega) (by decide), ?_⟩) <;> conv => whnf)
        | (refine ⟨Or.inl rfl, ?_⟩ <;> conv => whnf)
        | (refine ⟨Or.inr rfl, ?_⟩ <;> conv => whnf)
        | (refine ⟨Or.inl True.intro, ?_⟩ <;> conv => whnf)
        | (refine ⟨Or.inr True.intro, ?_⟩ <;> conv => whnf)
        | (refine ⟨fun c => ?_, fun c => ?_⟩ <;> first | ((have c9 : (1 : Int32) = 0 := by with_reducible exact c); exact absurd c9 (by decide)) | exact absurd (rfl : (0 : Int32) = 0) (by with_reducible exact c) | exact absurd True.intro (by with_reducible exact c) | exact False.elim (by with_reducible exact c) | (conv => whnf))
        | (refine ct_isWithin (by omega) (fun p => ?_) (fun p => ?_) <;> conv => whnf)
        | (refine ct_isYear (by omega) (fun p => ?_) (fun p => ?_) <;> conv => whnf)
        | (refine ct_isSide (by omega) (fun p => ?_) (fun p => ?_) <;> conv => whnf)
        | (refine ct_isTitle (by omega) (fun p => ?_) (fun p => ?_) <;> conv => whnf)
        | (refine ct_isBits8 (by omega) (fun p => ?_) (fun p => ?_) <;> conv => whnf)
        | (refine ct_isBits20 (by omega) (fun p => ?_) (fun p => ?_) <;> conv => whnf)
        | (refine ct_isBits30 (by omega) (fun p => ?_) (fun p => ?_) <;> conv => whnf)
        | (refine ct_isToldWell (by omega) (fun p => ?_) (fun p => ?_) <;> conv => whnf)
        | (refine ct_isSheet (by omega) (fun p => ?_) (fun p => ?_) <;> conv => whnf)
        | (refine ct_isLane (by omega) (fun p => ?_) (fun p => ?_) <;> conv => whnf)
        | (refine ⟨by unfold vp_in; decide, ?_⟩ <;> conv => whnf)
        | fail
    all_goals exact H _ _ _ hX (kp_refl _ _)
  · repeat' first
      | exact absurd ‹inr 0 3 x1› q
      | ((with_reducible refine ⟨vp_in_nI (by omega) (by decide), ?_⟩) <;> conv => whnf)
      | (refine ⟨Or.inl rfl, ?_⟩ <;> conv => whnf)
      | (refine ⟨Or.inr rfl, ?_⟩ <;> conv => whnf)
      | (refine ⟨Or.inl True.intro, ?_⟩ <;> conv => whnf)
      | (refine ⟨Or.inr True.intro, ?_⟩ <;> conv => whnf)
      | (refine ⟨fun c => ?_, fun c => ?_⟩ <;> first | ((have c9 : (1 : Int32) = 0 := by with_reducible exact c); exact absurd c9 (by decide)) | exact absurd (rfl : (0 : Int32) = 0) (by with_reducible exact c) | exact absurd True.intro (by with_reducible exact c) | exact False.elim (by with_reducible exact c) | (conv => whnf))
      | (refine ct_isWithin (by omega) (fun p => ?_) (fun p => ?_) <;> conv => whnf)
      | (refine ct_isYear (by omega) (fun p => ?_) (fun p => ?_) <;> conv => whnf)
      | (refine ct_isSide (by omega) (fun p => ?_) (fun p => ?_) <;> conv => whnf)
      | (refine ct_isTitle (by omega) (fun p => ?_) (fun p => ?_) <;> conv => whnf)
      | (refine ct_isBits8 (by omega) (fun p => ?_) (fun p => ?_) <;> conv => whnf)
      | (refine ct_isBits20 (by omega) (fun p => ?_) (fun p => ?_) <;> conv => whnf)
      | (refine ct_isBits30 (by omega) (fun p => ?_) (fun p => ?_) <;> conv => whnf)
      | (refine ct_isToldWell (by omega) (fun p => ?_) (fun p => ?_) <;> conv => whnf)
      | (refine ct_isSheet (by omega) (fun p => ?_) (fun p => ?_) <;> conv => whnf)
      | (refine ct_isLane (by omega) (fun p => ?_) (fun p => ?_) <;> conv => whnf)
      | (refine ⟨by unfold vp_in; decide, ?_⟩ <;> conv => whnf)
      | fail
    all_goals exact H _ _ _ hX (kp_refl _ _)
theorem inr_18 {x : Int32} (h : inr 1 8 x) : ∃ n : Nat, 1 ≤ n ∧ n ≤ 8 ∧ x = nI n := by
  have h1 := Int32.le_iff_toInt_le.mp h.1
  have h2 := Int32.le_iff_toInt_le.mp h.2
  have e1 : (1 : Int32).toInt = 1 := rfl
  have e8 : (8 : Int32).toInt = 8 := rfl
  obtain ⟨j, hj, rfl⟩ := nI_of2 (x := x) (M := 8) (n := 8) rfl (by rw [Int32.lt_iff_toInt_lt]; have e0 : (0 : Int32).toInt = 0 := rfl; omega) h.2
  refine ⟨j, ?_, hj, rfl⟩
  rw [nI_toInt (by omega)] at h1
  omega
def bAt (w : Int64) (i : Int32) : Int32 := (w.toUInt64 >>> ((8 * i).toInt64.toUInt64 &&& Int64.toUInt64 63)).toInt64.toInt32 &&& 255
def okb (w : Int64) (j : Nat) : Prop := inr 32 126 (bAt w (nI j))
def tyw (w : Int64) (x : Int32) : Prop := inr 1 8 x ∧ ∀ j, j < x.toNatClampNeg → okb w j
theorem ct_byteAt {d : Nat} {w : Int64} {i : Int32} {h : mH} {R : Option Value → mH → Prop} (hd : 1 ≤ d) (H : R (some (.int (bAt w i))) h) : Run mtab d 51 [.long w, .int i] h R := by
  obtain ⟨d, rfl⟩ : ∃ e, d = e + 1 := ⟨d - 1, by omega⟩
  refine go_X6_byteAt rfl ?_
  conv => whnf
  exact H
theorem typ_loop {d n : Nat} {w : Int64} {h : mH} {R : Option Value → mH → Prop} (hd : 1 ≤ d) (hn : n ≤ 8) (H1 : (∀ j, j < n → okb w j) → R (some (.int 1)) h) (H0 : ¬ (∀ j, j < n → okb w j) → R (some (.int 0)) h) :
    ∀ k i : Nat, i + k = n → (∀ j, j < i → okb w j) → WPe pg_X6_areTypable none (Run mtab d) R (m_drop pg_X6_areTypable 2) [some (.long w), none, some (.int (nI n)), some (.int (nI i))] [] h
  | 0, i, hi, hp => by
    have e : i = n := by omega
    subst e
    refine at_X6_areTypable ?_
    conv => whnf
    refine ⟨fun c => ?_, fun c => absurd (nI_le (Nat.le_refl i) (by omega)) c⟩
    conv => whnf
    exact ⟨Or.inr rfl, H1 hp⟩
  | k + 1, i, hi, hp => by
    refine at_X6_areTypable ?_
    conv => whnf
    refine ⟨fun c => absurd c (nI_ge (by omega) (by omega)), fun c => ?_⟩
    conv => whnf
    refine ct_byteAt hd ?_
    conv => whnf
    refine ct_isWithin hd (fun p => ?_) (fun p => ?_)
    · conv => whnf
      refine ⟨fun _ => ?_, fun c => absurd c (by decide)⟩
      conv => whnf
      have ih := typ_loop hd hn H1 H0 k (i + 1) (by omega) (fun j hj => by
        by_cases e : j = i
        · subst e
          exact p
        · exact hp j (by omega))
      rw [nI_succ] at ih
      exact ih
    · conv => whnf
      refine ⟨fun c => absurd (by decide) c, fun _ => ?_⟩
      conv => whnf
      exact ⟨Or.inl rfl, H0 (fun q => p (q i (by omega)))⟩
theorem ct_areTypable {d n : Nat} {w : Int64} {h : mH} {R : Option Value → mH → Prop} (hd : 2 ≤ d) (hn : n ≤ 8) (H1 : (∀ j, j < n → okb w j) → R (some (.int 1)) h) (H0 : ¬ (∀ j, j < n → okb w j) → R (some (.int 0)) h) : Run mtab d 50 [.long w, .int (nI n)] h R := by
  obtain ⟨d, rfl⟩ : ∃ e, d = e + 1 := ⟨d - 1, by omega⟩
  refine go_X6_areTypable rfl ?_
  conv => whnf
  exact typ_loop (by omega) hn H1 H0 n 0 (by omega) (fun j hj => absurd hj (by omega))
set_option maxRecDepth 100000 in
theorem app_lp {d L n m0 : Nat} {w : Int64} {f0 : Nat → Nat → Int32} {R : Option Value → mH → Prop} (hd : 1 ≤ d) (hn : n + m0 ≤ 50) (H : ∀ v f' g', XI f' → fx 107 119 f0 f' → R (some (.int v)) (shF L, f', g')) :
    ∀ (k m : Nat) (f : Nat → Nat → Int32) (g : Nat → Nat → Int64), m + k = n + m0 → f 107 3 = nI m → XI f → fx 107 119 f0 f → WPe pg_X6_append none (Run mtab d) R (m_drop pg_X6_append 12) [some (.ref 107), some (.long w), none, some (.int (nI n)), some (.int (nI k + -1))] [] (shF L, f, g)
  | 0, m, f, g, hm, hf, hX, hr => by
    refine at_X6_append ?_
    conv => whnf
    refine ⟨fun c => ?_, fun c => absurd (by decide) c⟩
    conv => whnf
    exact H _ f g hX hr
  | k + 1, m, f, g, hm, hf, hX, hr => by
    have e : nI (k + 1) + -1 = nI k := by rw [← Int32.sub_eq_add_neg, nI_pred]
    rw [e]
    refine at_X6_append ?_
    conv => whnf
    refine ⟨fun c => absurd c (nI_pos (by omega)), fun c => ?_⟩
    conv => whnf
    refine ct_byteAt hd ?_
    conv => whnf
    refine ⟨by rw [hf]; exact vp_in_nI (by omega) (by decide), ?_⟩
    have ih := fun (v : Int32) => app_lp (w := w) hd hn H k (m + 1) (m_ui (m_ui f 118 (f 107 3).toNatClampNeg v) 107 3 (f 107 3 + 1)) g (by omega) (by
      show f 107 3 + 1 = _
      rw [hf, nI_1]) (XI_ui (XI_ui hX True.intro) (by
        show inr 0 50 _
        rw [hf]
        exact inr_n1 (m := 50) (by omega) rfl (by decide))) (fx_ui (by decide) (by decide) (fx_ui (by decide) (by decide) hr))
    exact ih _
set_option maxRecDepth 100000 in
theorem sx_append {d L n : Nat} {w : Int64} {f : Nat → Nat → Int32} {g : Nat → Nat → Int64} {R : Option Value → mH → Prop} (hd : 2 ≤ d) (hX : XI f) (hn : n ≤ 8) (H : ∀ v f' g', XI f' → fx 107 119 f f' → R (some (.int v)) (shF L, f', g')) : Run mtab d 52 [.ref 107, .long w, .int (nI n)] (shF L, f, g) R := by
  obtain ⟨d, rfl⟩ : ∃ e, d = e + 1 := ⟨d - 1, by omega⟩
  obtain ⟨m, hm, hb⟩ := inr_nat (n := 50) rfl (xi_107_3 hX)
  refine go_X6_append rfl ?_
  conv => whnf
  simp only [hb]
  refine ⟨fun c => ?_, fun c => ?_⟩
  · conv => whnf
    have e2 : nI n - 1 = nI n + -1 := Int32.sub_eq_add_neg ..
    have c2 : nI m + nI n ≤ nI 50 := c
    rw [nI_add, nI_leI (by omega) (by decide)] at c2
    have := app_lp (d := d) (L := L) (w := w) (f0 := f) (n := n) (m0 := m) (by omega) (by omega) H n m f g (by omega) hb hX (fx_refl _ _ _)
    rw [← e2] at this
    exact this
  · conv => whnf
    exact H _ f g hX (fx_refl _ _ _)
set_option maxRecDepth 100000 in
theorem sx_type {d L : Nat} {x : Int32} {w : Int64} {f : Nat → Nat → Int32} {g : Nat → Nat → Int64} {R : Option Value → mH → Prop} (hd : 6 ≤ d) (hX : XI f) (H : ∀ v f' g', XI f' → kp [3] f f' → R (some (.int v)) (shF L, f', g')) : Run mtab d 119 [.ref 5, .long w, .int x] (shF L, f, g) R := by
  obtain ⟨d, rfl⟩ : ∃ e, d = e + 1 := ⟨d - 1, by omega⟩
  refine go_X10_type rfl ?_
  conv => whnf
  refine ct_isWithin (by omega) (fun p => ?_) (fun p => ?_)
  · conv => whnf
    refine ⟨fun c => absurd c (by decide), fun _ => ?_⟩
    obtain ⟨n, h1, h8, rfl⟩ := inr_18 p
    conv => whnf
    refine ct_areTypable (by omega) h8 (fun q => ?_) (fun q => ?_)
    · conv => whnf
      refine ⟨fun _ => ?_, fun c => absurd c (by decide)⟩
      conv => whnf
      refine sx_append (by omega) hX h8 (fun v f1 g1 h1 k1 => ?_)
      conv => whnf
      exact H _ _ _ h1 (kp_fx k1 rfl)
    · conv => whnf
      refine ⟨fun c => absurd (by decide) c, fun _ => ?_⟩
      conv => whnf
      exact H _ _ _ hX (kp_refl _ _)
  · conv => whnf
    refine ⟨fun _ => ?_, fun c => absurd (by decide) c⟩
    conv => whnf
    exact H _ _ _ hX (kp_refl _ _)
