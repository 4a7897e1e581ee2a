theorem nI_6m (n : Nat) : 6 * nI n = nI (6 * n) := (Int32.ofNat_mul 6 n).symm
theorem nI_9m (n : Nat) : 9 * nI n = nI (9 * n) := (Int32.ofNat_mul 9 n).symm
theorem nI_40m (n : Nat) : 40 * nI n = nI (40 * n) := (Int32.ofNat_mul 40 n).symm
theorem nI_3m (n : Nat) : 3 * nI n = nI (3 * n) := (Int32.ofNat_mul 3 n).symm
theorem nI_60m (n : Nat) : 60 * nI n = nI (60 * n) := (Int32.ofNat_mul 60 n).symm
/-- what the model's works keep: titles from 1 on, versions and prints behind what they are of -/
def MI (f : Nat → Nat → Int32) : Prop := ∀ n, n ≤ 40 → f 181 0 = nI n → ∀ j, j < n → (∃ q, 1 ≤ q ∧ q ≤ 4 ∧ f 191 j = nI q) ∧ f 183 j < nI j
theorem MI_kp {l : List Nat} {f f' : Nat → Nat → Int32} (h : MI f) (k : kp l f f') (hl : hasN l 11 = false) : MI f' := fun n hn e j hj => by
  rw [k 191 j (by exact hl), k 183 j (by exact hl)]
  exact h n hn ((k 181 0 (by exact hl)).symm.trans e) j hj
theorem MI_fx {lo hi : Nat} {f f' : Nat → Nat → Int32} (h : MI f) (k : fx lo hi f f') (hl : 195 ≤ lo) : MI f' := fun n hn e j hj => by
  rw [k 191 j (by omega), k 183 j (by omega)]
  exact h n hn ((k 181 0 (by omega)).symm.trans e) j hj
set_option maxRecDepth 100000 in
set_option maxHeartbeats 4000000 in
theorem sm_ownerOf_lp {d L n : Nat} {f : Nat → Nat → Int32} {g : Nat → Nat → Int64} {w y : Int32} {R : Option Value → mH → Prop} (hd : 1 ≤ d) (hX : XI f) (hb : f 181 14 = nI n) (hm : n ≤ 60) (H : ∀ v, R (some (.int v)) (shF L, f, g)) :
    ∀ (k i : Nat) (x : Int32) (a : Int32) (s5 : Option Value), i + k = n → x = nI i → WPe pg_X11_ownerOf none (Run mtab d) R (m_drop pg_X11_ownerOf 4) [some (.ref 181), some (.int w), some (.int y), some (.int a), some (.int x), s5] [] (shF L, f, g)
  | 0, i, x, a, s5, hi, hx => by
    have e : i = n := by omega
    subst hx
    subst e
    refine at_X11_ownerOf ?_
    conv => whnf
    simp only [hb]
    refine ⟨fun c => ?_, fun c => absurd (nI_le (Nat.le_refl _) (by omega)) c⟩
    conv => whnf
    repeat' first
      | (simp only [hb, nI_6m, nI_1, nI_k _ 2 2 rfl, nI_k _ 3 3 rfl, nI_k _ 4 4 rfl, nI_k _ 5 5 rfl, nI_k _ 6 6 rfl, nI_k _ 7 7 rfl, nI_k _ 8 8 rfl])
      | ((with_reducible refine ⟨vp_in_nI (by omega) (by decide), ?_⟩) <;> conv => whnf)
      | (refine ⟨Or.inl rfl, ?_⟩ <;> conv => whnf)
      | (refine ⟨Or.inr rfl, ?_⟩ <;> conv => whnf)
      | (refine ⟨Or.inl True.intro, ?_⟩ <;> conv => whnf)
      | (refine ⟨Or.inr True.intro, ?_⟩ <;> conv => whnf)
      | (refine ⟨fun c => ?_, fun c => ?_⟩ <;> first | ((have c9 : (1 : Int32) = 0 := by with_reducible exact c); exact absurd c9 (by decide)) | exact absurd (rfl : (0 : Int32) = 0) (by with_reducible exact c) | exact absurd True.intro (by with_reducible exact c) | exact False.elim (by with_reducible exact c) | (conv => whnf))
      | ((with_reducible refine ct_i_v_v (by omega) (fun p => ?_) (fun p => ?_)) <;> conv => whnf)
      | (refine ⟨by unfold vp_in; decide, ?_⟩ <;> conv => whnf)
      | fail
    all_goals exact H _
  | k + 1, i, x, a, s5, hi, hx => by
    subst hx
    refine at_X11_ownerOf ?_
    conv => whnf
    simp only [hb]
    refine ⟨fun c => absurd c (nI_ge (b := n) (by omega) (by omega)), fun c => ?_⟩
    conv => whnf
    repeat' first
      | exact sm_ownerOf_lp hd hX hb hm H k (i + 1) _ _ _ (by omega) (nI_1 i)
      | (simp only [hb, nI_6m, nI_1, nI_k _ 2 2 rfl, nI_k _ 3 3 rfl, nI_k _ 4 4 rfl, nI_k _ 5 5 rfl, nI_k _ 6 6 rfl, nI_k _ 7 7 rfl, nI_k _ 8 8 rfl])
      | ((with_reducible refine ⟨vp_in_nI (by omega) (by decide), ?_⟩) <;> conv => whnf)
      | (refine ⟨Or.inl rfl, ?_⟩ <;> conv => whnf)
      | (refine ⟨Or.inr rfl, ?_⟩ <;> conv => whnf)
      | (refine ⟨Or.inl True.intro, ?_⟩ <;> conv => whnf)
      | (refine ⟨Or.inr True.intro, ?_⟩ <;> conv => whnf)
      | (refine ⟨fun c => ?_, fun c => ?_⟩ <;> first | ((have c9 : (1 : Int32) = 0 := by with_reducible exact c); exact absurd c9 (by decide)) | exact absurd (rfl : (0 : Int32) = 0) (by with_reducible exact c) | exact absurd True.intro (by with_reducible exact c) | exact False.elim (by with_reducible exact c) | (conv => whnf))
      | ((with_reducible refine ct_i_v_v (by omega) (fun p => ?_) (fun p => ?_)) <;> conv => whnf)
      | (refine ⟨by unfold vp_in; decide, ?_⟩ <;> conv => whnf)
      | fail
    all_goals exact H _
set_option maxRecDepth 100000 in
set_option maxHeartbeats 4000000 in
theorem sm_ownerOf {d L : Nat} {f : Nat → Nat → Int32} {g : Nat → Nat → Int64} {w y : Int32} {R : Option Value → mH → Prop} (hd : 2 ≤ d) (hX : XI f) (H : ∀ v, R (some (.int v)) (shF L, f, g)) : Run mtab d 170 [.ref 181, .int w, .int y] (shF L, f, g) R := by
  obtain ⟨d, rfl⟩ : ∃ e, d = e + 1 := ⟨d - 1, by omega⟩
  refine go_X11_ownerOf rfl ?_
  conv => whnf
  obtain ⟨n, hm, hb⟩ := inr_nat (n := 60) rfl (xi_181_14 hX)
  exact sm_ownerOf_lp (by omega) hX hb hm H n 0 _ _ _ (by omega) rfl
set_option maxRecDepth 100000 in
set_option maxHeartbeats 4000000 in
theorem sm_mayHold_lp {d L n : Nat} {f : Nat → Nat → Int32} {g : Nat → Nat → Int64} {w y : Int32} {R : Option Value → mH → Prop} (hd : 1 ≤ d) (hX : XI f) (hb : f 181 14 = nI n) (hm : n ≤ 60) (H : ∀ v, R (some (.int v)) (shF L, f, g)) :
    ∀ (k i : Nat) (x : Int32) (a : Int32) (s5 : Option Value), i + k = n → x = nI i → WPe pg_X11_mayHold none (Run mtab d) R (m_drop pg_X11_mayHold 4) [some (.ref 181), some (.int w), some (.int y), some (.int a), some (.int x), s5] [] (shF L, f, g)
  | 0, i, x, a, s5, hi, hx => by
    have e : i = n := by omega
    subst hx
    subst e
    refine at_X11_mayHold ?_
    conv => whnf
    simp only [hb]
    refine ⟨fun c => ?_, fun c => absurd (nI_le (Nat.le_refl _) (by omega)) c⟩
    conv => whnf
    repeat' first
      | (simp only [hb, nI_6m, nI_1, nI_k _ 2 2 rfl, nI_k _ 3 3 rfl, nI_k _ 4 4 rfl, nI_k _ 5 5 rfl, nI_k _ 6 6 rfl, nI_k _ 7 7 rfl, nI_k _ 8 8 rfl])
      | ((with_reducible refine ⟨vp_in_nI (by omega) (by decide), ?_⟩) <;> conv => whnf)
      | (refine ⟨Or.inl rfl, ?_⟩ <;> conv => whnf)
      | (refine ⟨Or.inr rfl, ?_⟩ <;> conv => whnf)
      | (refine ⟨Or.inl True.intro, ?_⟩ <;> conv => whnf)
      | (refine ⟨Or.inr True.intro, ?_⟩ <;> conv => whnf)
      | (refine ⟨fun c => ?_, fun c => ?_⟩ <;> first | ((have c9 : (1 : Int32) = 0 := by with_reducible exact c); exact absurd c9 (by decide)) | exact absurd (rfl : (0 : Int32) = 0) (by with_reducible exact c) | exact absurd True.intro (by with_reducible exact c) | exact False.elim (by with_reducible exact c) | (conv => whnf))
      | ((with_reducible refine ct_i_v_v (by omega) (fun p => ?_) (fun p => ?_)) <;> conv => whnf)
      | (refine ⟨by unfold vp_in; decide, ?_⟩ <;> conv => whnf)
      | fail
    all_goals exact H _
  | k + 1, i, x, a, s5, hi, hx => by
    subst hx
    refine at_X11_mayHold ?_
    conv => whnf
    simp only [hb]
    refine ⟨fun c => absurd c (nI_ge (b := n) (by omega) (by omega)), fun c => ?_⟩
    conv => whnf
    repeat' first
      | exact sm_mayHold_lp hd hX hb hm H k (i + 1) _ _ _ (by omega) (nI_1 i)
      | (simp only [hb, nI_6m, nI_1, nI_k _ 2 2 rfl, nI_k _ 3 3 rfl, nI_k _ 4 4 rfl, nI_k _ 5 5 rfl, nI_k _ 6 6 rfl, nI_k _ 7 7 rfl, nI_k _ 8 8 rfl])
      | ((with_reducible refine ⟨vp_in_nI (by omega) (by decide), ?_⟩) <;> conv => whnf)
      | (refine ⟨Or.inl rfl, ?_⟩ <;> conv => whnf)
      | (refine ⟨Or.inr rfl, ?_⟩ <;> conv => whnf)
      | (refine ⟨Or.inl True.intro, ?_⟩ <;> conv => whnf)
      | (refine ⟨Or.inr True.intro, ?_⟩ <;> conv => whnf)
      | (refine ⟨fun c => ?_, fun c => ?_⟩ <;> first | ((have c9 : (1 : Int32) = 0 := by with_reducible exact c); exact absurd c9 (by decide)) | exact absurd (rfl : (0 : Int32) = 0) (by with_reducible exact c) | exact absurd True.intro (by with_reducible exact c) | exact False.elim (by with_reducible exact c) | (conv => whnf))
      | ((with_reducible refine ct_i_v_v (by omega) (fun p => ?_) (fun p => ?_)) <;> conv => whnf)
      | (refine ⟨by unfold vp_in; decide, ?_⟩ <;> conv => whnf)
      | fail
    all_goals exact H _
set_option maxRecDepth 100000 in
set_option maxHeartbeats 4000000 in
theorem sm_mayHold {d L : Nat} {f : Nat → Nat → Int32} {g : Nat → Nat → Int64} {w y : Int32} {R : Option Value → mH → Prop} (hd : 2 ≤ d) (hX : XI f) (H : ∀ v, R (some (.int v)) (shF L, f, g)) : Run mtab d 171 [.ref 181, .int w, .int y] (shF L, f, g) R := by
  obtain ⟨d, rfl⟩ : ∃ e, d = e + 1 := ⟨d - 1, by omega⟩
  refine go_X11_mayHold rfl ?_
  conv => whnf
  obtain ⟨n, hm, hb⟩ := inr_nat (n := 60) rfl (xi_181_14 hX)
  exact sm_mayHold_lp (by omega) hX hb hm H n 0 _ _ _ (by omega) rfl
set_option maxRecDepth 100000 in
set_option maxHeartbeats 4000000 in
theorem sm_stateOf_lp {d L n : Nat} {f : Nat → Nat → Int32} {g : Nat → Nat → Int64} {w y : Int32} {R : Option Value → mH → Prop} (hd : 1 ≤ d) (hX : XI f) (hm : n ≤ 60) (H : ∀ v, R (some (.int v)) (shF L, f, g)) :
    ∀ (k i : Nat) (x : Int32) (a : Int32) (b : Int32) (s7 : Option Value), i + k = n → x = nI i → WPe pg_X11_stateOf none (Run mtab d) R (m_drop pg_X11_stateOf 6) [some (.ref 181), some (.int w), some (.int y), some (.int (nI n)), some (.int a), some (.int b), some (.int x), s7] [] (shF L, f, g)
  | 0, i, x, a, b, s7, hi, hx => by
    have e : i = n := by omega
    subst hx
    subst e
    refine at_X11_stateOf ?_
    conv => whnf
    refine ⟨fun c => ?_, fun c => absurd (nI_le (Nat.le_refl _) (by omega)) c⟩
    conv => whnf
    repeat' first
      | (simp only [nI_6m, nI_1, nI_k _ 2 2 rfl, nI_k _ 3 3 rfl, nI_k _ 4 4 rfl, nI_k _ 5 5 rfl, nI_k _ 6 6 rfl, nI_k _ 7 7 rfl, nI_k _ 8 8 rfl])
      | ((with_reducible refine ⟨vp_in_nI (by omega) (by decide), ?_⟩) <;> conv => whnf)
      | (refine ⟨Or.inl rfl, ?_⟩ <;> conv => whnf)
      | (refine ⟨Or.inr rfl, ?_⟩ <;> conv => whnf)
      | (refine ⟨Or.inl True.intro, ?_⟩ <;> conv => whnf)
      | (refine ⟨Or.inr True.intro, ?_⟩ <;> conv => whnf)
      | (refine ⟨fun c => ?_, fun c => ?_⟩ <;> first | ((have c9 : (1 : Int32) = 0 := by with_reducible exact c); exact absurd c9 (by decide)) | exact absurd (rfl : (0 : Int32) = 0) (by with_reducible exact c) | exact absurd True.intro (by with_reducible exact c) | exact False.elim (by with_reducible exact c) | (conv => whnf))
      | (refine ⟨by unfold vp_in; decide, ?_⟩ <;> conv => whnf)
      | fail
    all_goals exact H _
  | k + 1, i, x, a, b, s7, hi, hx => by
    subst hx
    refine at_X11_stateOf ?_
    conv => whnf
    refine ⟨fun c => absurd c (nI_ge (b := n) (by omega) (by omega)), fun c => ?_⟩
    conv => whnf
    repeat' first
      | exact sm_stateOf_lp hd hX hm H k (i + 1) _ _ _ _ (by omega) (nI_1 i)
      | (simp only [nI_6m, nI_1, nI_k _ 2 2 rfl, nI_k _ 3 3 rfl, nI_k _ 4 4 rfl, nI_k _ 5 5 rfl, nI_k _ 6 6 rfl, nI_k _ 7 7 rfl, nI_k _ 8 8 rfl])
      | ((with_reducible refine ⟨vp_in_nI (by omega) (by decide), ?_⟩) <;> conv => whnf)
      | (refine ⟨Or.inl rfl, ?_⟩ <;> conv => whnf)
      | (refine ⟨Or.inr rfl, ?_⟩ <;> conv => whnf)
      | (refine ⟨Or.inl True.intro, ?_⟩ <;> conv => whnf)
      | (refine ⟨Or.inr True.intro, ?_⟩ <;> conv => whnf)
      | (refine ⟨fun c => ?_, fun c => ?_⟩ <;> first | ((have c9 : (1 : Int32) = 0 := by with_reducible exact c); exact absurd c9 (by decide)) | exact absurd (rfl : (0 : Int32) = 0) (by with_reducible exact c) | exact absurd True.intro (by with_reducible exact c) | exact False.elim (by with_reducible exact c) | (conv => whnf))
      | (refine ⟨by unfold vp_in; decide, ?_⟩ <;> conv => whnf)
      | fail
    all_goals exact H _
set_option maxRecDepth 100000 in
set_option maxHeartbeats 4000000 in
theorem sm_stateOf {d L : Nat} {f : Nat → Nat → Int32} {g : Nat → Nat → Int64} {n : Nat} {w y : Int32} {R : Option Value → mH → Prop} (hd : 2 ≤ d) (hX : XI f) (hm : n ≤ 60) (H : ∀ v, R (some (.int v)) (shF L, f, g)) : Run mtab d 227 [.ref 181, .int w, .int y, .int (nI n)] (shF L, f, g) R := by
  obtain ⟨d, rfl⟩ : ∃ e, d = e + 1 := ⟨d - 1, by omega⟩
  refine go_X11_stateOf rfl ?_
  conv => whnf
  exact sm_stateOf_lp (by omega) hX hm H n 0 _ _ _ _ (by omega) rfl
theorem and_dec {l : Int32} (h : ¬ l = 0) : (l &&& (l - 1)).toBitVec.toNat < l.toBitVec.toNat := by
  have h0 : ¬ l.toBitVec.toNat = 0 := fun e => h (Int32.toBitVec_inj.mp (BitVec.eq_of_toNat_eq (e.trans rfl)))
  have hb := l.toBitVec.isLt
  have e1 : (l - 1).toBitVec.toNat = l.toBitVec.toNat - 1 := by
    rw [Int32.toBitVec_sub, BitVec.toNat_sub]
    have : (1 : Int32).toBitVec.toNat = 1 := rfl
    rw [this]
    omega
  rw [Int32.toBitVec_and, BitVec.toNat_and, e1]
  have := @Nat.and_le_right (l.toBitVec.toNat) (l.toBitVec.toNat - 1)
  omega
set_option maxRecDepth 100000 in
theorem ones_lp {d : Nat} {h : mH} {R : Option Value → mH → Prop} (H : ∀ v, R (some (.int v)) h) : ∀ (k : Nat) (b a l : Int32), l.toBitVec.toNat < k → WPe pg_X11_ones none (Run mtab d) R (m_drop pg_X11_ones 4) [some (.int b), some (.int a), some (.int l)] [] h
  | 0, _, _, _, hk => absurd hk (by omega)
  | k + 1, b, a, l, hk => by
    refine at_X11_ones ?_
    conv => whnf
    refine ⟨fun c => ?_, fun c => ?_⟩
    · conv => whnf
      exact H _
    · conv => whnf
      exact ones_lp H k _ _ _ (Nat.lt_of_lt_of_le (and_dec c) (by omega))
theorem sm_ones {d : Nat} {x : Int32} {h : mH} {R : Option Value → mH → Prop} (hd : 1 ≤ d) (H : ∀ v, R (some (.int v)) h) : Run mtab d 194 [.int x] h R := by
  obtain ⟨d, rfl⟩ : ∃ e, d = e + 1 := ⟨d - 1, by omega⟩
  refine go_X11_ones rfl ?_
  conv => whnf
  exact ones_lp H _ _ _ _ (Nat.lt_succ_self _)
set_option maxRecDepth 100000 in
set_option maxHeartbeats 4000000 in
theorem sm_standsFor {d L : Nat} {f : Nat → Nat → Int32} {g : Nat → Nat → Int64} {x y z : Int32} {R : Option Value → mH → Prop} (hd : 2 ≤ d) (H : ∀ v, (v = 0 ∨ v = 1) → R (some (.int v)) (shF L, f, g)) : Run mtab d 191 [.int x, .int y, .int z] (shF L, f, g) R := by
  obtain ⟨d, rfl⟩ : ∃ e, d = e + 1 := ⟨d - 1, by omega⟩
  refine go_X11_standsFor rfl ?_
  conv => whnf
  repeat' first
    | ((with_reducible refine ⟨vp_in_nI (by omega) (by decide), ?_⟩) <;> conv => whnf)
    | (refine ⟨Or.inl rfl, ?_⟩ <;> conv => whnf)
    | (refine ⟨Or.inr rfl, ?_⟩ <;> conv => whnf)
    | (refine ⟨Or.inl True.intro, ?_⟩ <;> conv => whnf)
    | (refine ⟨Or.inr True.intro, ?_⟩ <;> conv => whnf)
    | (refine ⟨fun c => ?_, fun c => ?_⟩ <;> first | ((have c9 : (1 : Int32) = 0 := by with_reducible exact c); exact absurd c9 (by decide)) | exact absurd (rfl : (0 : Int32) = 0) (by with_reducible exact c) | exact absurd True.intro (by with_reducible exact c) | exact False.elim (by with_reducible exact c) | (conv => whnf))
    | ((with_reducible refine ct_i_v_v (by omega) (fun p => ?_) (fun p => ?_)) <;> conv => whnf)
    | (refine ⟨by unfold vp_in; decide, ?_⟩ <;> conv => whnf)
    | fail
  all_goals first | exact ⟨Or.inl rfl, H _ (Or.inl rfl)⟩ | exact ⟨Or.inr rfl, H _ (Or.inr rfl)⟩ | exact H _ (Or.inl rfl) | exact H _ (Or.inr rfl)
set_option maxRecDepth 100000 in
set_option maxHeartbeats 4000000 in
theorem fs_lp {d L : Nat} {f : Nat → Nat → Int32} {g : Nat → Nat → Int64} {x1 x2 x3 x4 x5 x6 : Int32} {R : Option Value → mH → Prop} (hd : 2 ≤ d) (H : ∀ v, (v = 0 ∨ v = 1) → R (some (.int v)) (shF L, f, g)) :
    ∀ (k i : Nat) (x b : Int32), i + k = 121 → x = nI i → (b = 0 ∨ b = 1) → WPe pg_X11_fitsSides none (Run mtab d) R (m_drop pg_X11_fitsSides 8) [some (.int x1), some (.int x2), some (.int x3), some (.int x4), some (.int x5), some (.int x6), some (.int b), some (.int x)] [] (shF L, f, g)
  | 0, i, x, b, hk, hx, hb => by
    have e : i = 121 := by omega
    subst e
    subst hx
    refine at_X11_fitsSides ?_
    conv => whnf
    refine ⟨fun c => ?_, fun c => ?_⟩
    · conv => whnf
      refine ⟨fun c => ?_, fun c => absurd (by decide) c⟩
      conv => whnf
      exact ⟨hb, H _ hb⟩
    · conv => whnf
      refine ⟨fun c => ?_, fun c => absurd (by decide) c⟩
      conv => whnf
      exact ⟨hb, H _ hb⟩
  | k + 1, i, x, b, hk, hx, hb => by
    subst hx
    refine at_X11_fitsSides ?_
    conv => whnf
    repeat' first
      | exact ⟨hb, H _ hb⟩
      | exact fs_lp hd H k (i + 1) _ _ (by omega) (nI_1 i) (by first | exact Or.inl rfl | exact Or.inr rfl)
      | ((with_reducible refine ⟨vp_in_nI (by omega) (by decide), ?_⟩) <;> conv => whnf)
      | (refine ⟨Or.inl rfl, ?_⟩ <;> conv => whnf)
      | (refine ⟨Or.inr rfl, ?_⟩ <;> conv => whnf)
      | (refine ⟨Or.inl True.intro, ?_⟩ <;> conv => whnf)
      | (refine ⟨Or.inr True.intro, ?_⟩ <;> conv => whnf)
      | (refine ⟨fun c => ?_, fun c => ?_⟩ <;> first | ((have c9 : (1 : Int32) = 0 := by with_reducible exact c); exact absurd c9 (by decide)) | exact absurd (rfl : (0 : Int32) = 0) (by with_reducible exact c) | exact absurd True.intro (by with_reducible exact c) | exact False.elim (by with_reducible exact c) | (conv => whnf))
      | (refine sm_standsFor (by omega) (fun v hv => ?_) <;> conv => whnf)
      | (refine ⟨by unfold vp_in; decide, ?_⟩ <;> conv => whnf)
      | fail
theorem sm_fitsSides {d L : Nat} {f : Nat → Nat → Int32} {g : Nat → Nat → Int64} {x1 x2 x3 x4 x5 x6 : Int32} {R : Option Value → mH → Prop} (hd : 3 ≤ d) (H : ∀ v, (v = 0 ∨ v = 1) → R (some (.int v)) (shF L, f, g)) : Run mtab d 192 [.int x1, .int x2, .int x3, .int x4, .int x5, .int x6] (shF L, f, g) R := by
  obtain ⟨d, rfl⟩ : ∃ e, d = e + 1 := ⟨d - 1, by omega⟩
  refine go_X11_fitsSides rfl ?_
  conv => whnf
  refine ⟨fun c => ?_, fun c => ?_⟩
  · exact fs_lp (by omega) H 121 0 _ _ (by omega) rfl (Or.inl rfl)
  · exact fs_lp (by omega) H 101 20 _ _ (by omega) rfl (Or.inl rfl)
set_option maxRecDepth 100000 in
set_option maxHeartbeats 4000000 in
theorem sm_fitsSizes {d L : Nat} {f : Nat → Nat → Int32} {g : Nat → Nat → Int64} {m j : Nat} {R : Option Value → mH → Prop} (hd : 4 ≤ d) (hX : XI f) (hm : m < 50) (hj : j < 40) (H : ∀ v, (v = 0 ∨ v = 1) → R (some (.int v)) (shF L, f, g)) : Run mtab d 193 [.ref 181, .int (nI (9 * m)), .int (nI j)] (shF L, f, g) R := by
  obtain ⟨d, rfl⟩ : ∃ e, d = e + 1 := ⟨d - 1, by omega⟩
  refine go_X11_fitsSizes rfl ?_
  conv => whnf
  repeat' first
    | (simp only [nI_6m, nI_1, nI_k _ 2 2 rfl, nI_k _ 3 3 rfl, nI_k _ 4 4 rfl, nI_k _ 5 5 rfl, nI_k _ 6 6 rfl, nI_k _ 7 7 rfl, nI_k _ 8 8 rfl])
    | ((with_reducible refine ⟨vp_in_nI (by omega) (by decide), ?_⟩) <;> conv => whnf)
    | (refine ⟨Or.inl rfl, ?_⟩ <;> conv => whnf)
    | (refine ⟨Or.inr rfl, ?_⟩ <;> conv => whnf)
    | (refine ⟨Or.inl True.intro, ?_⟩ <;> conv => whnf)
    | (refine ⟨Or.inr True.intro, ?_⟩ <;> conv => whnf)
    | (refine ⟨fun c => ?_, fun c => ?_⟩ <;> first | ((have c9 : (1 : Int32) = 0 := by with_reducible exact c); exact absurd c9 (by decide)) | exact absurd (rfl : (0 : Int32) = 0) (by with_reducible exact c) | exact absurd True.intro (by with_reducible exact c) | exact False.elim (by with_reducible exact c) | (conv => whnf))
    | (refine sm_fitsSides (by omega) (fun v hv => ?_) <;> conv => whnf)
    | (refine sm_heightOf (by omega) hj ?_ <;> conv => whnf)
    | (refine sm_widthOf (by omega) hj ?_ <;> conv => whnf)
    | (refine ⟨by unfold vp_in; decide, ?_⟩ <;> conv => whnf)
    | fail
  all_goals first | exact ⟨Or.inl rfl, H _ (Or.inl rfl)⟩ | exact ⟨Or.inr rfl, H _ (Or.inr rfl)⟩ | exact H _ (Or.inl rfl) | exact H _ (Or.inr rfl)
set_option maxRecDepth 100000 in
set_option maxHeartbeats 4000000 in
theorem sm_scoreOf {d L : Nat} {f : Nat → Nat → Int32} {g : Nat → Nat → Int64} {m j q : Nat} {R : Option Value → mH → Prop} (hd : 5 ≤ d) (hX : XI f) (hm : m < 50) (hj : j < 40) (hq : f 191 j = nI q) (hq1 : 1 ≤ q) (hq4 : q ≤ 4) (H : ∀ v, R (some (.int v)) (shF L, f, g)) : Run mtab d 195 [.ref 181, .int (nI m), .int (nI j)] (shF L, f, g) R := by
  obtain ⟨d, rfl⟩ : ∃ e, d = e + 1 := ⟨d - 1, by omega⟩
  refine go_X11_scoreOf rfl ?_
  conv => whnf
  obtain ⟨vn, hvn, hvb⟩ := inr_nat (n := 60) rfl (xi_181_48 hX)
  repeat' first
    | (simp only [hvb, nI_9m, nI_6m, nI_1, nI_k _ 2 2 rfl, nI_k _ 3 3 rfl, nI_k _ 4 4 rfl, nI_k _ 5 5 rfl, nI_k _ 6 6 rfl, nI_k _ 7 7 rfl, nI_k _ 8 8 rfl])
    | ((with_reducible refine ⟨vp_in_nI (by omega) (by decide), ?_⟩) <;> conv => whnf)
    | (refine ⟨Or.inl rfl, ?_⟩ <;> conv => whnf)
    | (refine ⟨Or.inr rfl, ?_⟩ <;> conv => whnf)
    | (refine ⟨Or.inl True.intro, ?_⟩ <;> conv => whnf)
    | (refine ⟨Or.inr True.intro, ?_⟩ <;> conv => whnf)
    | (refine ⟨fun c => ?_, fun c => ?_⟩ <;> first | ((have c9 : (1 : Int32) = 0 := by with_reducible exact c); exact absurd c9 (by decide)) | exact absurd (rfl : (0 : Int32) = 0) (by with_reducible exact c) | exact absurd True.intro (by with_reducible exact c) | exact False.elim (by with_reducible exact c) | (conv => whnf))
    | (refine sm_fitsSides (by omega) (fun v hv => ?_) <;> conv => whnf)
    | (refine sm_fitsSizes (by omega) hX hm hj (fun v hv => ?_) <;> conv => whnf)
    | (refine sm_stateOf (by omega) hX hvn (fun v => ?_) <;> conv => whnf)
    | (refine sm_ownerOf (by omega) hX (fun v => ?_) <;> conv => whnf)
    | (refine sm_ones (by omega) (fun v => ?_) <;> conv => whnf)
    | (refine sm_titleOf (by omega) hj hq hq1 hq4 ?_ <;> conv => whnf)
    | (refine ⟨by unfold vp_in; decide, ?_⟩ <;> conv => whnf)
    | fail
  all_goals exact H _
set_option maxRecDepth 100000 in
set_option maxHeartbeats 4000000 in
theorem sm_rivalsOf_lp {d L n : Nat} {f : Nat → Nat → Int32} {g : Nat → Nat → Int64} {p : Nat} {R : Option Value → mH → Prop} (hd : 5 ≤ d) (hX : XI f) (hb : f 181 0 = nI n) (hm : n ≤ 40) (hI : MI f) (hp : p < 50) (H : ∀ v, R (some (.int v)) (shF L, f, g)) :
    ∀ (k i : Nat) (x : Int32) (a : Int32), i + k = n → x = nI i → WPe pg_X11_rivalsOf none (Run mtab d) R (m_drop pg_X11_rivalsOf 4) [some (.ref 181), some (.int (nI p)), some (.int a), some (.int x)] [] (shF L, f, g)
  | 0, i, x, a, hi, hx => by
    have e : i = n := by omega
    subst hx
    subst e
    refine at_X11_rivalsOf ?_
    conv => whnf
    simp only [hb]
    refine ⟨fun c => ?_, fun c => absurd (nI_le (Nat.le_refl _) (by omega)) c⟩
    conv => whnf
    repeat' first
      | (simp only [hb])
      | ((with_reducible refine ⟨vp_in_nI (by omega) (by decide), ?_⟩) <;> conv => whnf)
      | (refine ⟨Or.inl rfl, ?_⟩ <;> conv => whnf)
      | (refine ⟨Or.inr rfl, ?_⟩ <;> conv => whnf)
      | (refine ⟨Or.inl True.intro, ?_⟩ <;> conv => whnf)
      | (refine ⟨Or.inr True.intro, ?_⟩ <;> conv => whnf)
      | (refine ⟨fun c => ?_, fun c => ?_⟩ <;> first | ((have c9 : (1 : Int32) = 0 := by with_reducible exact c); exact absurd c9 (by decide)) | exact absurd (rfl : (0 : Int32) = 0) (by with_reducible exact c) | exact absurd True.intro (by with_reducible exact c) | exact False.elim (by with_reducible exact c) | (conv => whnf))
      | ((obtain ⟨⟨q, hq1, hq4, hq⟩, _⟩ := hI n hm hb i (by omega)); refine sm_scoreOf (by omega) hX hp (by omega) hq hq1 hq4 (fun v => ?_) <;> conv => whnf)
      | (refine ⟨by unfold vp_in; decide, ?_⟩ <;> conv => whnf)
      | fail
    all_goals exact H _
  | k + 1, i, x, a, hi, hx => by
    subst hx
    refine at_X11_rivalsOf ?_
    conv => whnf
    simp only [hb]
    refine ⟨fun c => absurd c (nI_ge (b := n) (by omega) (by omega)), fun c => ?_⟩
    conv => whnf
    repeat' first
      | exact sm_rivalsOf_lp hd hX hb hm hI hp H k (i + 1) _ _ (by omega) (nI_1 i)
      | (simp only [hb])
      | ((with_reducible refine ⟨vp_in_nI (by omega) (by decide), ?_⟩) <;> conv => whnf)
      | (refine ⟨Or.inl rfl, ?_⟩ <;> conv => whnf)
      | (refine ⟨Or.inr rfl, ?_⟩ <;> conv => whnf)
      | (refine ⟨Or.inl True.intro, ?_⟩ <;> conv => whnf)
      | (refine ⟨Or.inr True.intro, ?_⟩ <;> conv => whnf)
      | (refine ⟨fun c => ?_, fun c => ?_⟩ <;> first | ((have c9 : (1 : Int32) = 0 := by with_reducible exact c); exact absurd c9 (by decide)) | exact absurd (rfl : (0 : Int32) = 0) (by with_reducible exact c) | exact absurd True.intro (by with_reducible exact c) | exact False.elim (by with_reducible exact c) | (conv => whnf))
      | ((obtain ⟨⟨q, hq1, hq4, hq⟩, _⟩ := hI n hm hb i (by omega)); refine sm_scoreOf (by omega) hX hp (by omega) hq hq1 hq4 (fun v => ?_) <;> conv => whnf)
      | (refine ⟨by unfold vp_in; decide, ?_⟩ <;> conv => whnf)
      | fail
    all_goals exact H _
set_option maxRecDepth 100000 in
set_option maxHeartbeats 4000000 in
theorem sm_rivalsOf {d L : Nat} {f : Nat → Nat → Int32} {g : Nat → Nat → Int64} {p : Nat} {R : Option Value → mH → Prop} (hd : 6 ≤ d) (hX : XI f) (hI : MI f) (hp : p < 50) (H : ∀ v, R (some (.int v)) (shF L, f, g)) : Run mtab d 198 [.ref 181, .int (nI p)] (shF L, f, g) R := by
  obtain ⟨d, rfl⟩ : ∃ e, d = e + 1 := ⟨d - 1, by omega⟩
  refine go_X11_rivalsOf rfl ?_
  conv => whnf
  obtain ⟨n, hm, hb⟩ := inr_nat (n := 40) rfl (xi_181_0 hX)
  exact sm_rivalsOf_lp (by omega) hX hb hm hI hp H n 0 _ _ (by omega) rfl
