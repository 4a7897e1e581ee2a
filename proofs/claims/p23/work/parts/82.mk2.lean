set_option maxRecDepth 100000 in
set_option maxHeartbeats 4000000 in
theorem sm_owner {d L : Nat} {f : Nat → Nat → Int32} {g : Nat → Nat → Int64} {x1 x2 : Int32} {R : Option Value → mH → Prop} (hd : 8 ≤ d) (hX : XI f) (H : ∀ v, R (some (.int v)) (shF L, f, g)) : Run mtab d 172 [.ref 181, .int x1, .int x2] (shF L, f, g) R := by
  obtain ⟨d, rfl⟩ : ∃ e, d = e + 1 := ⟨d - 1, by omega⟩
  refine go_X11_owner rfl ?_
  conv => whnf
  obtain ⟨n, hm, hb⟩ := inr_nat (n := 40) rfl (xi_181_0 hX)
  repeat' first
    | ((with_reducible refine ⟨vp_in_nI (by omega) (by decide), ?_⟩) <;> conv => whnf)
    | (refine ⟨Or.inl rfl, ?_⟩ <;> conv => whnf)
    | (refine ⟨Or.inr rfl, ?_⟩ <;> conv => whnf)
    | (refine ⟨Or.inl True.intro, ?_⟩ <;> conv => whnf)
    | (refine ⟨Or.inr True.intro, ?_⟩ <;> conv => whnf)
    | (refine ⟨fun c => ?_, fun c => ?_⟩ <;> first | ((have c9 : (1 : Int32) = 0 := by with_reducible exact c); exact absurd c9 (by decide)) | exact absurd (rfl : (0 : Int32) = 0) (by with_reducible exact c) | exact absurd True.intro (by with_reducible exact c) | exact False.elim (by with_reducible exact c) | (conv => whnf))
    | (refine ct_mIsWork (by omega) hb hm (fun j hj e => ?_) (fun q => ?_) <;> (try subst e) <;> conv => whnf)
    | (refine ct_mIsYear (by omega) (fun p => ?_) (fun p => ?_) <;> conv => whnf)
    | (refine ct_mIsSides (by omega) (fun p => ?_) (fun p => ?_) <;> conv => whnf)
    | (refine ct_mIsTold (by omega) (fun p => ?_) (fun p => ?_) <;> conv => whnf)
    | (refine ct_mIsSheet (by omega) (fun p => ?_) (fun p => ?_) <;> conv => whnf)
    | (refine sm_ownerOf (by omega) hX (fun v => ?_) <;> conv => whnf)
    | (refine ⟨by unfold vp_in; decide, ?_⟩ <;> conv => whnf)
    | fail
  all_goals exact H _
set_option maxRecDepth 100000 in
set_option maxHeartbeats 4000000 in
theorem sm_may {d L : Nat} {f : Nat → Nat → Int32} {g : Nat → Nat → Int64} {x1 x2 : Int32} {R : Option Value → mH → Prop} (hd : 8 ≤ d) (hX : XI f) (H : ∀ v, R (some (.int v)) (shF L, f, g)) : Run mtab d 173 [.ref 181, .int x1, .int x2] (shF L, f, g) R := by
  obtain ⟨d, rfl⟩ : ∃ e, d = e + 1 := ⟨d - 1, by omega⟩
  refine go_X11_may rfl ?_
  conv => whnf
  obtain ⟨n, hm, hb⟩ := inr_nat (n := 40) rfl (xi_181_0 hX)
  repeat' first
    | ((with_reducible refine ⟨vp_in_nI (by omega) (by decide), ?_⟩) <;> conv => whnf)
    | (refine ⟨Or.inl rfl, ?_⟩ <;> conv => whnf)
    | (refine ⟨Or.inr rfl, ?_⟩ <;> conv => whnf)
    | (refine ⟨Or.inl True.intro, ?_⟩ <;> conv => whnf)
    | (refine ⟨Or.inr True.intro, ?_⟩ <;> conv => whnf)
    | (refine ⟨fun c => ?_, fun c => ?_⟩ <;> first | ((have c9 : (1 : Int32) = 0 := by with_reducible exact c); exact absurd c9 (by decide)) | exact absurd (rfl : (0 : Int32) = 0) (by with_reducible exact c) | exact absurd True.intro (by with_reducible exact c) | exact False.elim (by with_reducible exact c) | (conv => whnf))
    | (refine ct_mIsWork (by omega) hb hm (fun j hj e => ?_) (fun q => ?_) <;> (try subst e) <;> conv => whnf)
    | (refine ct_mIsYear (by omega) (fun p => ?_) (fun p => ?_) <;> conv => whnf)
    | (refine ct_mIsSides (by omega) (fun p => ?_) (fun p => ?_) <;> conv => whnf)
    | (refine ct_mIsTold (by omega) (fun p => ?_) (fun p => ?_) <;> conv => whnf)
    | (refine ct_mIsSheet (by omega) (fun p => ?_) (fun p => ?_) <;> conv => whnf)
    | (refine sm_mayHold (by omega) hX (fun v => ?_) <;> conv => whnf)
    | (refine ⟨by unfold vp_in; decide, ?_⟩ <;> conv => whnf)
    | fail
  all_goals exact H _
set_option maxRecDepth 100000 in
set_option maxHeartbeats 4000000 in
theorem sm_twI_lp {d L n : Nat} {f : Nat → Nat → Int32} {g : Nat → Nat → Int64} {p : Nat} {w : Int32} {R : Option Value → mH → Prop} (hd : 1 ≤ d) (hX : XI f) (hb : f 181 14 = nI n) (hm : n ≤ 60) (hp : p < 60) (HO : ∀ (x' : Int32) (s3 s4 s5 s6 s7 : Option Value), x' = nI (p + 1) → WPe pg_X11_twice none (Run mtab d) R (m_drop pg_X11_twice 8) [some (.ref 181), some (.int w), some (.int x'), s3, s4, s5, s6, s7] [] (shF L, f, g)) (H : ∀ v, R (some (.int v)) (shF L, f, g)) :
    ∀ (k i : Nat) (x : Int32) (s4 : Option Value) (s5 : Option Value) (s6 : Option Value) (s7 : Option Value), i + k = n → x = nI i → WPe pg_X11_twice none (Run mtab d) R (m_drop pg_X11_twice 16) [some (.ref 181), some (.int w), some (.int (nI p)), some (.int x), s4, s5, s6, s7] [] (shF L, f, g)
  | 0, i, x, s4, s5, s6, s7, hi, hx => by
    have e : i = n := by omega
    subst hx
    subst e
    refine at_X11_twice ?_
    conv => whnf
    simp only [hb]
    refine ⟨fun c => ?_, fun c => absurd (nI_le (Nat.le_refl _) (by omega)) c⟩
    conv => whnf
    repeat' first
      | exact HO _ _ _ _ _ _ (nI_1 p)
      | (simp only [hb, nI_6m, nI_1, nI_k _ 2 2 rfl, nI_k _ 3 3 rfl, nI_k _ 4 4 rfl, nI_k _ 5 5 rfl, nI_k _ 6 6 rfl, nI_k _ 7 7 rfl, nI_k _ 8 8 rfl])
      | ((with_reducible refine ⟨vp_in_nI (by omega) (by decide), ?_⟩) <;> conv => whnf)
      | (refine ⟨Or.inl rfl, ?_⟩ <;> conv => whnf)
      | (refine ⟨Or.inr rfl, ?_⟩ <;> conv => whnf)
      | (refine ⟨Or.inl True.intro, ?_⟩ <;> conv => whnf)
      | (refine ⟨Or.inr True.intro, ?_⟩ <;> conv => whnf)
      | (refine ⟨fun c => ?_, fun c => ?_⟩ <;> first | ((have c9 : (1 : Int32) = 0 := by with_reducible exact c); exact absurd c9 (by decide)) | exact absurd (rfl : (0 : Int32) = 0) (by with_reducible exact c) | exact absurd True.intro (by with_reducible exact c) | exact False.elim (by with_reducible exact c) | (conv => whnf))
      | (refine ⟨by unfold vp_in; decide, ?_⟩ <;> conv => whnf)
      | fail
    all_goals exact H _
  | k + 1, i, x, s4, s5, s6, s7, hi, hx => by
    subst hx
    refine at_X11_twice ?_
    conv => whnf
    simp only [hb]
    refine ⟨fun c => absurd c (nI_ge (b := n) (by omega) (by omega)), fun c => ?_⟩
    conv => whnf
    repeat' first
      | exact sm_twI_lp hd hX hb hm hp HO H k (i + 1) _ _ _ _ _ (by omega) (nI_1 i)
      | (simp only [hb, nI_6m, nI_1, nI_k _ 2 2 rfl, nI_k _ 3 3 rfl, nI_k _ 4 4 rfl, nI_k _ 5 5 rfl, nI_k _ 6 6 rfl, nI_k _ 7 7 rfl, nI_k _ 8 8 rfl])
      | ((with_reducible refine ⟨vp_in_nI (by omega) (by decide), ?_⟩) <;> conv => whnf)
      | (refine ⟨Or.inl rfl, ?_⟩ <;> conv => whnf)
      | (refine ⟨Or.inr rfl, ?_⟩ <;> conv => whnf)
      | (refine ⟨Or.inl True.intro, ?_⟩ <;> conv => whnf)
      | (refine ⟨Or.inr True.intro, ?_⟩ <;> conv => whnf)
      | (refine ⟨fun c => ?_, fun c => ?_⟩ <;> first | ((have c9 : (1 : Int32) = 0 := by with_reducible exact c); exact absurd c9 (by decide)) | exact absurd (rfl : (0 : Int32) = 0) (by with_reducible exact c) | exact absurd True.intro (by with_reducible exact c) | exact False.elim (by with_reducible exact c) | (conv => whnf))
      | (refine ⟨by unfold vp_in; decide, ?_⟩ <;> conv => whnf)
      | fail
    all_goals exact H _
set_option maxRecDepth 100000 in
set_option maxHeartbeats 4000000 in
theorem sm_tw_lp {d L n : Nat} {f : Nat → Nat → Int32} {g : Nat → Nat → Int64} {w : Int32} {R : Option Value → mH → Prop} (hd : 1 ≤ d) (hX : XI f) (hb : f 181 14 = nI n) (hm : n ≤ 60) (H : ∀ v, R (some (.int v)) (shF L, f, g)) :
    ∀ (k i : Nat) (x : Int32) (s3 : Option Value) (s4 : Option Value) (s5 : Option Value) (s6 : Option Value) (s7 : Option Value), i + k = n → x = nI i → WPe pg_X11_twice none (Run mtab d) R (m_drop pg_X11_twice 8) [some (.ref 181), some (.int w), some (.int x), s3, s4, s5, s6, s7] [] (shF L, f, g)
  | 0, i, x, s3, s4, s5, s6, s7, hi, hx => by
    have e : i = n := by omega
    subst hx
    subst e
    refine at_X11_twice ?_
    conv => whnf
    simp only [hb]
    refine ⟨fun c => ?_, fun c => absurd (nI_le (Nat.le_refl _) (by omega)) c⟩
    conv => whnf
    repeat' first
      | (simp only [hb])
      | ((with_reducible refine ⟨vp_in_nI (by omega) (by decide), ?_⟩) <;> conv => whnf)
      | (refine ⟨Or.inl rfl, ?_⟩ <;> conv => whnf)
      | (refine ⟨Or.inr rfl, ?_⟩ <;> conv => whnf)
      | (refine ⟨Or.inl True.intro, ?_⟩ <;> conv => whnf)
      | (refine ⟨Or.inr True.intro, ?_⟩ <;> conv => whnf)
      | (refine ⟨fun c => ?_, fun c => ?_⟩ <;> first | ((have c9 : (1 : Int32) = 0 := by with_reducible exact c); exact absurd c9 (by decide)) | exact absurd (rfl : (0 : Int32) = 0) (by with_reducible exact c) | exact absurd True.intro (by with_reducible exact c) | exact False.elim (by with_reducible exact c) | (conv => whnf))
      | (refine ⟨by unfold vp_in; decide, ?_⟩ <;> conv => whnf)
      | fail
    all_goals exact H _
  | k + 1, i, x, s3, s4, s5, s6, s7, hi, hx => by
    subst hx
    refine at_X11_twice ?_
    conv => whnf
    simp only [hb]
    refine ⟨fun c => absurd c (nI_ge (b := n) (by omega) (by omega)), fun c => ?_⟩
    conv => whnf
    repeat' first
      | exact sm_tw_lp hd hX hb hm H k (i + 1) _ _ _ _ _ _ (by omega) (nI_1 i)
      | (rw [nI_1]; exact sm_twI_lp (p := i) hd hX hb hm (by omega) (fun x' s3 s4 s5 s6 s7 hx' => sm_tw_lp hd hX hb hm H k (i + 1) x' s3 s4 s5 s6 s7 (by omega) hx') H (n - (i + 1)) (i + 1) _ _ _ _ _ (by omega) rfl)
      | (simp only [hb])
      | ((with_reducible refine ⟨vp_in_nI (by omega) (by decide), ?_⟩) <;> conv => whnf)
      | (refine ⟨Or.inl rfl, ?_⟩ <;> conv => whnf)
      | (refine ⟨Or.inr rfl, ?_⟩ <;> conv => whnf)
      | (refine ⟨Or.inl True.intro, ?_⟩ <;> conv => whnf)
      | (refine ⟨Or.inr True.intro, ?_⟩ <;> conv => whnf)
      | (refine ⟨fun c => ?_, fun c => ?_⟩ <;> first | ((have c9 : (1 : Int32) = 0 := by with_reducible exact c); exact absurd c9 (by decide)) | exact absurd (rfl : (0 : Int32) = 0) (by with_reducible exact c) | exact absurd True.intro (by with_reducible exact c) | exact False.elim (by with_reducible exact c) | (conv => whnf))
      | (refine ⟨by unfold vp_in; decide, ?_⟩ <;> conv => whnf)
      | fail
    all_goals exact H _
set_option maxRecDepth 100000 in
set_option maxHeartbeats 4000000 in
theorem sm_twice {d L : Nat} {f : Nat → Nat → Int32} {g : Nat → Nat → Int64} {x1 : Int32} {R : Option Value → mH → Prop} (hd : 8 ≤ d) (hX : XI f) (H : ∀ v, R (some (.int v)) (shF L, f, g)) : Run mtab d 174 [.ref 181, .int x1] (shF L, f, g) R := by
  obtain ⟨d, rfl⟩ : ∃ e, d = e + 1 := ⟨d - 1, by omega⟩
  refine go_X11_twice rfl ?_
  conv => whnf
  obtain ⟨n, hm, hb⟩ := inr_nat (n := 40) rfl (xi_181_0 hX)
  obtain ⟨hn, hhm, hhb⟩ := inr_nat (n := 60) rfl (xi_181_14 hX)
  repeat' first
    | exact sm_tw_lp (by omega) hX hhb hhm H hn 0 _ _ _ _ _ _ (by omega) rfl
    | ((with_reducible refine ⟨vp_in_nI (by omega) (by decide), ?_⟩) <;> conv => whnf)
    | (refine ⟨Or.inl rfl, ?_⟩ <;> conv => whnf)
    | (refine ⟨Or.inr rfl, ?_⟩ <;> conv => whnf)
    | (refine ⟨Or.inl True.intro, ?_⟩ <;> conv => whnf)
    | (refine ⟨Or.inr True.intro, ?_⟩ <;> conv => whnf)
    | (refine ⟨fun c => ?_, fun c => ?_⟩ <;> first | ((have c9 : (1 : Int32) = 0 := by with_reducible exact c); exact absurd c9 (by decide)) | exact absurd (rfl : (0 : Int32) = 0) (by with_reducible exact c) | exact absurd True.intro (by with_reducible exact c) | exact False.elim (by with_reducible exact c) | (conv => whnf))
    | (refine ct_mIsWork (by omega) hb hm (fun j hj e => ?_) (fun q => ?_) <;> (try subst e) <;> conv => whnf)
    | (refine ⟨by unfold vp_in; decide, ?_⟩ <;> conv => whnf)
    | fail
  all_goals exact H _
set_option maxRecDepth 100000 in
set_option maxHeartbeats 4000000 in
theorem sm_gap_lp {d L : Nat} {f : Nat → Nat → Int32} {g : Nat → Nat → Int64} {w y : Int32} {R : Option Value → mH → Prop} (hd : 3 ≤ d) (hX : XI f) (H : ∀ v, R (some (.int v)) (shF L, f, g)) :
    ∀ (k i : Nat) (x : Int32), i + k = 2000 → x = nI i → WPe pg_X11_gap none (Run mtab d) R (m_drop pg_X11_gap 11) [some (.ref 181), some (.int w), some (.int y), some (.int x)] [] (shF L, f, g)
  | 0, i, x, hi, hx => by
    have e : i = 2000 := by omega
    subst hx
    subst e
    refine at_X11_gap ?_
    conv => whnf
    refine ⟨fun c => ?_, fun c => absurd (by decide) c⟩
    conv => whnf
    repeat' first
      | ((with_reducible refine ⟨vp_in_nI (by omega) (by decide), ?_⟩) <;> conv => whnf)
      | (refine ⟨Or.inl rfl, ?_⟩ <;> conv => whnf)
      | (refine ⟨Or.inr rfl, ?_⟩ <;> conv => whnf)
      | (refine ⟨Or.inl True.intro, ?_⟩ <;> conv => whnf)
      | (refine ⟨Or.inr True.intro, ?_⟩ <;> conv => whnf)
      | (refine ⟨fun c => ?_, fun c => ?_⟩ <;> first | ((have c9 : (1 : Int32) = 0 := by with_reducible exact c); exact absurd c9 (by decide)) | exact absurd (rfl : (0 : Int32) = 0) (by with_reducible exact c) | exact absurd True.intro (by with_reducible exact c) | exact False.elim (by with_reducible exact c) | (conv => whnf))
      | (refine sm_mayHold (by omega) hX (fun v => ?_) <;> conv => whnf)
      | (refine ⟨by unfold vp_in; decide, ?_⟩ <;> conv => whnf)
      | fail
    all_goals exact H _
  | k + 1, i, x, hi, hx => by
    subst hx
    refine at_X11_gap ?_
    conv => whnf
    refine ⟨fun c => absurd c (nI_nlt (a := 1999) (by omega) (by omega)), fun c => ?_⟩
    conv => whnf
    repeat' first
      | exact sm_gap_lp hd hX H k (i + 1) _  (by omega) (nI_1 i)
      | ((with_reducible refine ⟨vp_in_nI (by omega) (by decide), ?_⟩) <;> conv => whnf)
      | (refine ⟨Or.inl rfl, ?_⟩ <;> conv => whnf)
      | (refine ⟨Or.inr rfl, ?_⟩ <;> conv => whnf)
      | (refine ⟨Or.inl True.intro, ?_⟩ <;> conv => whnf)
      | (refine ⟨Or.inr True.intro, ?_⟩ <;> conv => whnf)
      | (refine ⟨fun c => ?_, fun c => ?_⟩ <;> first | ((have c9 : (1 : Int32) = 0 := by with_reducible exact c); exact absurd c9 (by decide)) | exact absurd (rfl : (0 : Int32) = 0) (by with_reducible exact c) | exact absurd True.intro (by with_reducible exact c) | exact False.elim (by with_reducible exact c) | (conv => whnf))
      | (refine sm_mayHold (by omega) hX (fun v => ?_) <;> conv => whnf)
      | (refine ⟨by unfold vp_in; decide, ?_⟩ <;> conv => whnf)
      | fail
    all_goals exact H _
theorem yr_nat {y : Int32} (hy : inr 1800 1999 y) : ∃ j, j ≤ 1999 ∧ y = nI j := nI_of2 (n := 1999) rfl (i32_nlt.mpr (by
  have := Int32.le_iff_toInt_le.mp hy.1
  rw [Int32.le_iff_toInt_le]
  have e0 : (0 : Int32).toInt = 0 := rfl
  have e1 : (1800 : Int32).toInt = 1800 := rfl
  omega)) hy.2
set_option maxRecDepth 100000 in
set_option maxHeartbeats 4000000 in
theorem sm_gap {d L : Nat} {f : Nat → Nat → Int32} {g : Nat → Nat → Int64} {x1 x2 : Int32} {R : Option Value → mH → Prop} (hd : 8 ≤ d) (hX : XI f) (H : ∀ v, R (some (.int v)) (shF L, f, g)) : Run mtab d 175 [.ref 181, .int x1, .int x2] (shF L, f, g) R := by
  obtain ⟨d, rfl⟩ : ∃ e, d = e + 1 := ⟨d - 1, by omega⟩
  refine go_X11_gap rfl ?_
  conv => whnf
  obtain ⟨n, hm, hb⟩ := inr_nat (n := 40) rfl (xi_181_0 hX)
  repeat' first
    | (obtain ⟨j9, hj9, e9⟩ := yr_nat ‹inr 1800 1999 _›; exact sm_gap_lp (by omega) hX H (2000 - j9) j9 _ (by omega) e9)
    | ((with_reducible refine ⟨vp_in_nI (by omega) (by decide), ?_⟩) <;> conv => whnf)
    | (refine ⟨Or.inl rfl, ?_⟩ <;> conv => whnf)
    | (refine ⟨Or.inr rfl, ?_⟩ <;> conv => whnf)
    | (refine ⟨Or.inl True.intro, ?_⟩ <;> conv => whnf)
    | (refine ⟨Or.inr True.intro, ?_⟩ <;> conv => whnf)
    | (refine ⟨fun c => ?_, fun c => ?_⟩ <;> first | ((have c9 : (1 : Int32) = 0 := by with_reducible exact c); exact absurd c9 (by decide)) | exact absurd (rfl : (0 : Int32) = 0) (by with_reducible exact c) | exact absurd True.intro (by with_reducible exact c) | exact False.elim (by with_reducible exact c) | (conv => whnf))
    | (refine ct_mIsWork (by omega) hb hm (fun j hj e => ?_) (fun q => ?_) <;> (try subst e) <;> conv => whnf)
    | (refine ct_mIsYear (by omega) (fun p => ?_) (fun p => ?_) <;> conv => whnf)
    | (refine ct_mIsSides (by omega) (fun p => ?_) (fun p => ?_) <;> conv => whnf)
    | (refine ct_mIsTold (by omega) (fun p => ?_) (fun p => ?_) <;> conv => whnf)
    | (refine ct_mIsSheet (by omega) (fun p => ?_) (fun p => ?_) <;> conv => whnf)
    | (refine ⟨by unfold vp_in; decide, ?_⟩ <;> conv => whnf)
    | fail
  all_goals exact H _
theorem inr_c5 {x : Int32} (h : inr 0 5 x) : ∃ t, t ≤ 5 ∧ x = nI t := inr_nat (n := 5) rfl h
set_option maxRecDepth 100000 in
set_option maxHeartbeats 4000000 in
theorem sm_votes {d L : Nat} {f : Nat → Nat → Int32} {g : Nat → Nat → Int64} {x1 x2 : Int32} {R : Option Value → mH → Prop} (hd : 8 ≤ d) (hX : XI f) (H : ∀ v, R (some (.int v)) (shF L, f, g)) : Run mtab d 226 [.ref 181, .int x1, .int x2] (shF L, f, g) R := by
  obtain ⟨d, rfl⟩ : ∃ e, d = e + 1 := ⟨d - 1, by omega⟩
  refine go_X11_votes rfl ?_
  conv => whnf
  obtain ⟨vn, hvn, hvb⟩ := inr_nat (n := 60) rfl (xi_181_48 hX)
  simp only [hvb]
  refine ct_in (by omega) rfl (lo := 0) rfl rfl (fun p => ?_) (fun p => ?_)
  · obtain ⟨j, hj, rfl⟩ := inr_cnt (by omega) p
    conv => whnf
    refine ⟨fun c => absurd c (by decide), fun _ => ?_⟩
    conv => whnf
    refine ct_in (by omega) rfl (lo := 0) rfl (hi := 5) rfl (fun p2 => ?_) (fun p2 => ?_)
    · obtain ⟨t, ht, rfl⟩ := inr_c5 p2
      conv => whnf
      refine ⟨fun c => absurd c (by decide), fun _ => ?_⟩
      conv => whnf
      simp only [nI_6m, nI_add]
      refine ⟨vp_in_nI (by omega) (by decide), ?_⟩
      conv => whnf
      exact H _
    · conv => whnf
      refine ⟨fun _ => ?_, fun c => absurd (by decide) c⟩
      conv => whnf
      exact H _
  · conv => whnf
    refine ⟨fun _ => ?_, fun c => absurd (by decide) c⟩
    conv => whnf
    exact H _
set_option maxRecDepth 100000 in
set_option maxHeartbeats 4000000 in
theorem sm_isAsOf {d L : Nat} {f : Nat → Nat → Int32} {g : Nat → Nat → Int64} {x y : Int32} {R : Option Value → mH → Prop} (hd : 2 ≤ d) (hX : XI f) (H1 : ∀ k, k ≤ 60 → y = nI k → R (some (.int 1)) (shF L, f, g)) (H0 : R (some (.int 0)) (shF L, f, g)) : Run mtab d 228 [.ref 181, .int x, .int y] (shF L, f, g) R := by
  obtain ⟨d, rfl⟩ : ∃ e, d = e + 1 := ⟨d - 1, by omega⟩
  refine go_X11_isAsOf rfl ?_
  conv => whnf
  obtain ⟨vn, hvn, hvb⟩ := inr_nat (n := 60) rfl (xi_181_48 hX)
  repeat' first
    | (simp only [hvb])
    | ((with_reducible refine ⟨vp_in_nI (by omega) (by decide), ?_⟩) <;> conv => whnf)
    | (refine ⟨Or.inl rfl, ?_⟩ <;> conv => whnf)
    | (refine ⟨Or.inr rfl, ?_⟩ <;> conv => whnf)
    | (refine ⟨Or.inl True.intro, ?_⟩ <;> conv => whnf)
    | (refine ⟨Or.inr True.intro, ?_⟩ <;> conv => whnf)
    | (refine ⟨fun c => ?_, fun c => ?_⟩ <;> first | ((have c9 : (1 : Int32) = 0 := by with_reducible exact c); exact absurd c9 (by decide)) | exact absurd (rfl : (0 : Int32) = 0) (by with_reducible exact c) | exact absurd True.intro (by with_reducible exact c) | exact False.elim (by with_reducible exact c) | (conv => whnf))
    | ((with_reducible refine ct_i_0_9999 (by omega) (fun p => ?_) (fun p => ?_)) <;> conv => whnf)
    | ((with_reducible refine ct_i_0_v (by omega) (fun p => ?_) (fun p => ?_)) <;> conv => whnf)
    | (refine ⟨by unfold vp_in; decide, ?_⟩ <;> conv => whnf)
    | fail
  all_goals first | exact H0 | (obtain ⟨k, hk, e⟩ := inr_nat (n := vn) (nI_toInt (by omega)) ‹inr 0 (nI vn) y›; exact H1 k (by omega) e)
set_option maxRecDepth 100000 in
set_option maxHeartbeats 4000000 in
theorem sm_state {d L : Nat} {f : Nat → Nat → Int32} {g : Nat → Nat → Int64} {x1 x2 x3 : Int32} {R : Option Value → mH → Prop} (hd : 8 ≤ d) (hX : XI f) (H : ∀ v, R (some (.int v)) (shF L, f, g)) : Run mtab d 229 [.ref 181, .int x1, .int x2, .int x3] (shF L, f, g) R := by
  obtain ⟨d, rfl⟩ : ∃ e, d = e + 1 := ⟨d - 1, by omega⟩
  refine go_X11_state rfl ?_
  conv => whnf
  obtain ⟨n, hm, hb⟩ := inr_nat (n := 40) rfl (xi_181_0 hX)
  repeat' first
    | ((with_reducible refine ⟨vp_in_nI (by omega) (by decide), ?_⟩) <;> conv => whnf)
    | (refine ⟨Or.inl rfl, ?_⟩ <;> conv => whnf)
    | (refine ⟨Or.inr rfl, ?_⟩ <;> conv => whnf)
    | (refine ⟨Or.inl True.intro, ?_⟩ <;> conv => whnf)
    | (refine ⟨Or.inr True.intro, ?_⟩ <;> conv => whnf)
    | (refine ⟨fun c => ?_, fun c => ?_⟩ <;> first | ((have c9 : (1 : Int32) = 0 := by with_reducible exact c); exact absurd c9 (by decide)) | exact absurd (rfl : (0 : Int32) = 0) (by with_reducible exact c) | exact absurd True.intro (by with_reducible exact c) | exact False.elim (by with_reducible exact c) | (conv => whnf))
    | (refine ct_mIsWork (by omega) hb hm (fun j hj e => ?_) (fun q => ?_) <;> (try subst e) <;> conv => whnf)
    | (refine sm_isAsOf (by omega) hX (fun kk hk e => ?_) ?_ <;> (try subst e) <;> conv => whnf)
    | (refine sm_stateOf (by omega) hX hk (fun v => ?_) <;> conv => whnf)
    | (refine ⟨by unfold vp_in; decide, ?_⟩ <;> conv => whnf)
    | fail
  all_goals exact H _
theorem par_lt {o : Int32} {t : Nat} (h : o.toInt < (t : Int)) (h0 : ¬ o < 0) : ∃ u, u < t ∧ o = nI u := by
  obtain ⟨u, hu, rfl⟩ := nI_of h0
  rw [nI_toInt hu] at h
  exact ⟨u, by omega, rfl⟩
theorem par_lt' {o : Int32} {u : Nat} (h : o < nI u) (hu : u < 2 ^ 31) : o.toInt < (u : Int) := by
  rw [Int32.lt_iff_toInt_lt, nI_toInt hu] at h
  exact h
set_option maxRecDepth 100000 in
set_option maxHeartbeats 4000000 in
theorem sm_unI_lp {d L n p : Nat} {f : Nat → Nat → Int32} {g : Nat → Nat → Int64} {v : Nat} {y : Int32} {a : Int32} {R : Option Value → mH → Prop} (hd : 2 ≤ d) (hX : XI f) (hI : MI f) (hb : f 181 0 = nI n) (hm : n ≤ 40) (hp : p < n) (hk : v ≤ 60) (HO : ∀ (a' x' : Int32) (s1 s2 : Option Value), x' = nI (p + 1) → WPe pg_X11_unsure none (Run mtab d) R (m_drop pg_X11_unsure 11) [some (.ref 181), some (.int y), some (.int (nI v)), some (.int a'), some (.int x'), s1, s2] [] (shF L, f, g)) :
    ∀ (t : Nat) (o b : Int32), t ≤ n → o.toInt < (t : Int) → WPe pg_X11_unsure none (Run mtab d) R (m_drop pg_X11_unsure 22) [some (.ref 181), some (.int y), some (.int (nI v)), some (.int a), some (.int (nI p)), some (.int b), some (.int o)] [] (shF L, f, g)
  | 0, o, b, ht, ho => by
    have h0 : o < 0 := by
      rw [Int32.lt_iff_toInt_lt]
      have e0 : (0 : Int32).toInt = 0 := rfl
      omega
    refine at_X11_unsure ?_
    conv => whnf
    refine ⟨fun c => ?_, fun c => absurd h0 c⟩
    conv => whnf
    repeat' first
      | exact HO _ _ _ _ (nI_1 p)
      | ((with_reducible refine ⟨vp_in_nI (by omega) (by decide), ?_⟩) <;> conv => whnf)
      | (refine ⟨Or.inl rfl, ?_⟩ <;> conv => whnf)
      | (refine ⟨Or.inr rfl, ?_⟩ <;> conv => whnf)
      | (refine ⟨Or.inl True.intro, ?_⟩ <;> conv => whnf)
      | (refine ⟨Or.inr True.intro, ?_⟩ <;> conv => whnf)
      | (refine ⟨fun c => ?_, fun c => ?_⟩ <;> first | ((have c9 : (1 : Int32) = 0 := by with_reducible exact c); exact absurd c9 (by decide)) | exact absurd (rfl : (0 : Int32) = 0) (by with_reducible exact c) | exact absurd True.intro (by with_reducible exact c) | exact False.elim (by with_reducible exact c) | (conv => whnf))
      | (refine sm_stateOf (by omega) hX hk (fun v => ?_) <;> conv => whnf)
      | (refine ⟨by unfold vp_in; decide, ?_⟩ <;> conv => whnf)
      | fail
  | t + 1, o, b, ht, ho => by
    refine at_X11_unsure ?_
    conv => whnf
    refine ⟨fun c => ?_, fun c0 => ?_⟩
    · conv => whnf
      repeat' first
        | exact HO _ _ _ _ (nI_1 p)
        | ((with_reducible refine ⟨vp_in_nI (by omega) (by decide), ?_⟩) <;> conv => whnf)
        | (refine ⟨Or.inl rfl, ?_⟩ <;> conv => whnf)
        | (refine ⟨Or.inr rfl, ?_⟩ <;> conv => whnf)
        | (refine ⟨Or.inl True.intro, ?_⟩ <;> conv => whnf)
        | (refine ⟨Or.inr True.intro, ?_⟩ <;> conv => whnf)
        | (refine ⟨fun c => ?_, fun c => ?_⟩ <;> first | ((have c9 : (1 : Int32) = 0 := by with_reducible exact c); exact absurd c9 (by decide)) | exact absurd (rfl : (0 : Int32) = 0) (by with_reducible exact c) | exact absurd True.intro (by with_reducible exact c) | exact False.elim (by with_reducible exact c) | (conv => whnf))
        | (refine sm_stateOf (by omega) hX hk (fun v => ?_) <;> conv => whnf)
        | (refine ⟨by unfold vp_in; decide, ?_⟩ <;> conv => whnf)
        | fail
    · obtain ⟨u, hu, rfl⟩ := par_lt ho c0
      have hcl : (nI u).toNatClampNeg = u := nI_clamp (by omega)
      have hpu := (hI n hm hb u (by omega)).2
      conv => whnf
      repeat' first
        | exact sm_unI_lp hd hX hI hb hm hp hk HO t _ _ (by omega) (by have := par_lt' hpu (by omega); omega)
        | (simp only [hcl])
        | ((with_reducible refine ⟨vp_in_nI (by omega) (by decide), ?_⟩) <;> conv => whnf)
        | (refine ⟨Or.inl rfl, ?_⟩ <;> conv => whnf)
        | (refine ⟨Or.inr rfl, ?_⟩ <;> conv => whnf)
        | (refine ⟨Or.inl True.intro, ?_⟩ <;> conv => whnf)
        | (refine ⟨Or.inr True.intro, ?_⟩ <;> conv => whnf)
        | (refine ⟨fun c => ?_, fun c => ?_⟩ <;> first | ((have c9 : (1 : Int32) = 0 := by with_reducible exact c); exact absurd c9 (by decide)) | exact absurd (rfl : (0 : Int32) = 0) (by with_reducible exact c) | exact absurd True.intro (by with_reducible exact c) | exact False.elim (by with_reducible exact c) | (conv => whnf))
        | (refine sm_stateOf (by omega) hX hk (fun v => ?_) <;> conv => whnf)
        | (refine ⟨by unfold vp_in; decide, ?_⟩ <;> conv => whnf)
        | fail
set_option maxRecDepth 100000 in
set_option maxHeartbeats 4000000 in
theorem sm_un_lp {d L n : Nat} {f : Nat → Nat → Int32} {g : Nat → Nat → Int64} {v : Nat} {y : Int32} {R : Option Value → mH → Prop} (hd : 2 ≤ d) (hX : XI f) (hb : f 181 0 = nI n) (hm : n ≤ 40) (hI : MI f) (hk : v ≤ 60) (H : ∀ v, R (some (.int v)) (shF L, f, g)) :
    ∀ (k i : Nat) (x : Int32) (a : Int32) (s1 : Option Value) (s2 : Option Value), i + k = n → x = nI i → WPe pg_X11_unsure none (Run mtab d) R (m_drop pg_X11_unsure 11) [some (.ref 181), some (.int y), some (.int (nI v)), some (.int a), some (.int x), s1, s2] [] (shF L, f, g)
  | 0, i, x, a, s1, s2, hi, hx => by
    have e : i = n := by omega
    subst hx
    subst e
    refine at_X11_unsure ?_
    conv => whnf
    simp only [hb]
    refine ⟨fun c => ?_, fun c => absurd (nI_le (Nat.le_refl _) (by omega)) c⟩
    conv => whnf
    repeat' first
      | (simp only [hb, show (nI i).toNatClampNeg = i from nI_clamp (by omega)])
      | ((with_reducible refine ⟨vp_in_nI (by omega) (by decide), ?_⟩) <;> conv => whnf)
      | (refine ⟨Or.inl rfl, ?_⟩ <;> conv => whnf)
      | (refine ⟨Or.inr rfl, ?_⟩ <;> conv => whnf)
      | (refine ⟨Or.inl True.intro, ?_⟩ <;> conv => whnf)
      | (refine ⟨Or.inr True.intro, ?_⟩ <;> conv => whnf)
      | (refine ⟨fun c => ?_, fun c => ?_⟩ <;> first | ((have c9 : (1 : Int32) = 0 := by with_reducible exact c); exact absurd c9 (by decide)) | exact absurd (rfl : (0 : Int32) = 0) (by with_reducible exact c) | exact absurd True.intro (by with_reducible exact c) | exact False.elim (by with_reducible exact c) | (conv => whnf))
      | (refine ⟨by unfold vp_in; decide, ?_⟩ <;> conv => whnf)
      | fail
    all_goals exact H _
  | k + 1, i, x, a, s1, s2, hi, hx => by
    subst hx
    refine at_X11_unsure ?_
    conv => whnf
    simp only [hb]
    refine ⟨fun c => absurd c (nI_ge (b := n) (by omega) (by omega)), fun c => ?_⟩
    conv => whnf
    repeat' first
      | exact sm_un_lp hd hX hb hm hI hk H k (i + 1) _ _ _ _ (by omega) (nI_1 i)
      | exact sm_unI_lp (n := n) (p := i) hd hX hI hb hm (by omega) hk (fun a' x' s1 s2 hx' => sm_un_lp hd hX hb hm hI hk H k (i + 1) x' a' s1 s2 (by omega) hx') i _ _ (by omega) (par_lt' (hI n hm hb i (by omega)).2 (by omega))
      | (simp only [hb, show (nI i).toNatClampNeg = i from nI_clamp (by omega)])
      | ((with_reducible refine ⟨vp_in_nI (by omega) (by decide), ?_⟩) <;> conv => whnf)
      | (refine ⟨Or.inl rfl, ?_⟩ <;> conv => whnf)
      | (refine ⟨Or.inr rfl, ?_⟩ <;> conv => whnf)
      | (refine ⟨Or.inl True.intro, ?_⟩ <;> conv => whnf)
      | (refine ⟨Or.inr True.intro, ?_⟩ <;> conv => whnf)
      | (refine ⟨fun c => ?_, fun c => ?_⟩ <;> first | ((have c9 : (1 : Int32) = 0 := by with_reducible exact c); exact absurd c9 (by decide)) | exact absurd (rfl : (0 : Int32) = 0) (by with_reducible exact c) | exact absurd True.intro (by with_reducible exact c) | exact False.elim (by with_reducible exact c) | (conv => whnf))
      | (refine ⟨by unfold vp_in; decide, ?_⟩ <;> conv => whnf)
      | fail
    all_goals exact H _
set_option maxRecDepth 100000 in
set_option maxHeartbeats 4000000 in
theorem sm_unsure {d L : Nat} {f : Nat → Nat → Int32} {g : Nat → Nat → Int64} {x1 x2 : Int32} {R : Option Value → mH → Prop} (hd : 8 ≤ d) (hX : XI f) (hI : MI f) (H : ∀ v, R (some (.int v)) (shF L, f, g)) : Run mtab d 230 [.ref 181, .int x1, .int x2] (shF L, f, g) R := by
  obtain ⟨d, rfl⟩ : ∃ e, d = e + 1 := ⟨d - 1, by omega⟩
  refine go_X11_unsure rfl ?_
  conv => whnf
  obtain ⟨n, hm, hb⟩ := inr_nat (n := 40) rfl (xi_181_0 hX)
  repeat' first
    | exact sm_un_lp (by omega) hX hb hm hI hk H n 0 _ _ _ _ (by omega) rfl
    | ((with_reducible refine ⟨vp_in_nI (by omega) (by decide), ?_⟩) <;> conv => whnf)
    | (refine ⟨Or.inl rfl, ?_⟩ <;> conv => whnf)
    | (refine ⟨Or.inr rfl, ?_⟩ <;> conv => whnf)
    | (refine ⟨Or.inl True.intro, ?_⟩ <;> conv => whnf)
    | (refine ⟨Or.inr True.intro, ?_⟩ <;> conv => whnf)
    | (refine ⟨fun c => ?_, fun c => ?_⟩ <;> first | ((have c9 : (1 : Int32) = 0 := by with_reducible exact c); exact absurd c9 (by decide)) | exact absurd (rfl : (0 : Int32) = 0) (by with_reducible exact c) | exact absurd True.intro (by with_reducible exact c) | exact False.elim (by with_reducible exact c) | (conv => whnf))
    | (refine sm_isAsOf (by omega) hX (fun kk hk e => ?_) ?_ <;> (try subst e) <;> conv => whnf)
    | (refine ⟨by unfold vp_in; decide, ?_⟩ <;> conv => whnf)
    | fail
  all_goals exact H _
set_option maxRecDepth 100000 in
set_option maxHeartbeats 4000000 in
theorem sm_leI_lp {d L n p : Nat} {f : Nat → Nat → Int32} {g : Nat → Nat → Int64} {y : Int32} {a : Int32} {R : Option Value → mH → Prop} (hd : 2 ≤ d) (hX : XI f) (hI : MI f) (hb : f 181 0 = nI n) (hm : n ≤ 40) (hp : p < n) (HO : ∀ (a' x' : Int32) (s1 s2 : Option Value), x' = nI (p + 1) → WPe pg_X11_leaning none (Run mtab d) R (m_drop pg_X11_leaning 10) [some (.ref 181), some (.int y), some (.int a'), some (.int x'), s1, s2] [] (shF L, f, g)) :
    ∀ (t : Nat) (o b : Int32), t ≤ n → o.toInt < (t : Int) → WPe pg_X11_leaning none (Run mtab d) R (m_drop pg_X11_leaning 21) [some (.ref 181), some (.int y), some (.int a), some (.int (nI p)), some (.int b), some (.int o)] [] (shF L, f, g)
  | 0, o, b, ht, ho => by
    have h0 : o < 0 := by
      rw [Int32.lt_iff_toInt_lt]
      have e0 : (0 : Int32).toInt = 0 := rfl
      omega
    refine at_X11_leaning ?_
    conv => whnf
    refine ⟨fun c => ?_, fun c => absurd h0 c⟩
    conv => whnf
    repeat' first
      | exact HO _ _ _ _ (nI_1 p)
      | ((with_reducible refine ⟨vp_in_nI (by omega) (by decide), ?_⟩) <;> conv => whnf)
      | (refine ⟨Or.inl rfl, ?_⟩ <;> conv => whnf)
      | (refine ⟨Or.inr rfl, ?_⟩ <;> conv => whnf)
      | (refine ⟨Or.inl True.intro, ?_⟩ <;> conv => whnf)
      | (refine ⟨Or.inr True.intro, ?_⟩ <;> conv => whnf)
      | (refine ⟨fun c => ?_, fun c => ?_⟩ <;> first | ((have c9 : (1 : Int32) = 0 := by with_reducible exact c); exact absurd c9 (by decide)) | exact absurd (rfl : (0 : Int32) = 0) (by with_reducible exact c) | exact absurd True.intro (by with_reducible exact c) | exact False.elim (by with_reducible exact c) | (conv => whnf))
      | (refine ⟨by unfold vp_in; decide, ?_⟩ <;> conv => whnf)
      | fail
  | t + 1, o, b, ht, ho => by
    refine at_X11_leaning ?_
    conv => whnf
    refine ⟨fun c => ?_, fun c0 => ?_⟩
    · conv => whnf
      repeat' first
        | exact HO _ _ _ _ (nI_1 p)
        | ((with_reducible refine ⟨vp_in_nI (by omega) (by decide), ?_⟩) <;> conv => whnf)
        | (refine ⟨Or.inl rfl, ?_⟩ <;> conv => whnf)
        | (refine ⟨Or.inr rfl, ?_⟩ <;> conv => whnf)
        | (refine ⟨Or.inl True.intro, ?_⟩ <;> conv => whnf)
        | (refine ⟨Or.inr True.intro, ?_⟩ <;> conv => whnf)
        | (refine ⟨fun c => ?_, fun c => ?_⟩ <;> first | ((have c9 : (1 : Int32) = 0 := by with_reducible exact c); exact absurd c9 (by decide)) | exact absurd (rfl : (0 : Int32) = 0) (by with_reducible exact c) | exact absurd True.intro (by with_reducible exact c) | exact False.elim (by with_reducible exact c) | (conv => whnf))
        | (refine ⟨by unfold vp_in; decide, ?_⟩ <;> conv => whnf)
        | fail
    · obtain ⟨u, hu, rfl⟩ := par_lt ho c0
      have hcl : (nI u).toNatClampNeg = u := nI_clamp (by omega)
      have hpu := (hI n hm hb u (by omega)).2
      conv => whnf
      repeat' first
        | exact sm_leI_lp hd hX hI hb hm hp HO t _ _ (by omega) (by have := par_lt' hpu (by omega); omega)
        | (simp only [hcl])
        | ((with_reducible refine ⟨vp_in_nI (by omega) (by decide), ?_⟩) <;> conv => whnf)
        | (refine ⟨Or.inl rfl, ?_⟩ <;> conv => whnf)
        | (refine ⟨Or.inr rfl, ?_⟩ <;> conv => whnf)
        | (refine ⟨Or.inl True.intro, ?_⟩ <;> conv => whnf)
        | (refine ⟨Or.inr True.intro, ?_⟩ <;> conv => whnf)
        | (refine ⟨fun c => ?_, fun c => ?_⟩ <;> first | ((have c9 : (1 : Int32) = 0 := by with_reducible exact c); exact absurd c9 (by decide)) | exact absurd (rfl : (0 : Int32) = 0) (by with_reducible exact c) | exact absurd True.intro (by with_reducible exact c) | exact False.elim (by with_reducible exact c) | (conv => whnf))
        | (refine ⟨by unfold vp_in; decide, ?_⟩ <;> conv => whnf)
        | fail
set_option maxRecDepth 100000 in
set_option maxHeartbeats 4000000 in
theorem sm_le_lp {d L n : Nat} {f : Nat → Nat → Int32} {g : Nat → Nat → Int64} {y : Int32} {R : Option Value → mH → Prop} (hd : 2 ≤ d) (hX : XI f) (hb : f 181 0 = nI n) (hm : n ≤ 40) (hI : MI f) (H : ∀ v, R (some (.int v)) (shF L, f, g)) :
    ∀ (k i : Nat) (x : Int32) (a : Int32) (s1 : Option Value) (s2 : Option Value), i + k = n → x = nI i → WPe pg_X11_leaning none (Run mtab d) R (m_drop pg_X11_leaning 10) [some (.ref 181), some (.int y), some (.int a), some (.int x), s1, s2] [] (shF L, f, g)
  | 0, i, x, a, s1, s2, hi, hx => by
    have e : i = n := by omega
    subst hx
    subst e
    refine at_X11_leaning ?_
    conv => whnf
    simp only [hb]
    refine ⟨fun c => ?_, fun c => absurd (nI_le (Nat.le_refl _) (by omega)) c⟩
    conv => whnf
    repeat' first
      | (simp only [hb, show (nI i).toNatClampNeg = i from nI_clamp (by omega)])
      | ((with_reducible refine ⟨vp_in_nI (by omega) (by decide), ?_⟩) <;> conv => whnf)
      | (refine ⟨Or.inl rfl, ?_⟩ <;> conv => whnf)
      | (refine ⟨Or.inr rfl, ?_⟩ <;> conv => whnf)
      | (refine ⟨Or.inl True.intro, ?_⟩ <;> conv => whnf)
      | (refine ⟨Or.inr True.intro, ?_⟩ <;> conv => whnf)
      | (refine ⟨fun c => ?_, fun c => ?_⟩ <;> first | ((have c9 : (1 : Int32) = 0 := by with_reducible exact c); exact absurd c9 (by decide)) | exact absurd (rfl : (0 : Int32) = 0) (by with_reducible exact c) | exact absurd True.intro (by with_reducible exact c) | exact False.elim (by with_reducible exact c) | (conv => whnf))
      | (refine ⟨by unfold vp_in; decide, ?_⟩ <;> conv => whnf)
      | fail
    all_goals exact H _
  | k + 1, i, x, a, s1, s2, hi, hx => by
    subst hx
    refine at_X11_leaning ?_
    conv => whnf
    simp only [hb]
    refine ⟨fun c => absurd c (nI_ge (b := n) (by omega) (by omega)), fun c => ?_⟩
    conv => whnf
    repeat' first
      | exact sm_le_lp hd hX hb hm hI H k (i + 1) _ _ _ _ (by omega) (nI_1 i)
      | exact sm_leI_lp (n := n) (p := i) hd hX hI hb hm (by omega) (fun a' x' s1 s2 hx' => sm_le_lp hd hX hb hm hI H k (i + 1) x' a' s1 s2 (by omega) hx') i _ _ (by omega) (par_lt' (hI n hm hb i (by omega)).2 (by omega))
      | (simp only [hb, show (nI i).toNatClampNeg = i from nI_clamp (by omega)])
      | ((with_reducible refine ⟨vp_in_nI (by omega) (by decide), ?_⟩) <;> conv => whnf)
      | (refine ⟨Or.inl rfl, ?_⟩ <;> conv => whnf)
      | (refine ⟨Or.inr rfl, ?_⟩ <;> conv => whnf)
      | (refine ⟨Or.inl True.intro, ?_⟩ <;> conv => whnf)
      | (refine ⟨Or.inr True.intro, ?_⟩ <;> conv => whnf)
      | (refine ⟨fun c => ?_, fun c => ?_⟩ <;> first | ((have c9 : (1 : Int32) = 0 := by with_reducible exact c); exact absurd c9 (by decide)) | exact absurd (rfl : (0 : Int32) = 0) (by with_reducible exact c) | exact absurd True.intro (by with_reducible exact c) | exact False.elim (by with_reducible exact c) | (conv => whnf))
      | (refine ⟨by unfold vp_in; decide, ?_⟩ <;> conv => whnf)
      | fail
    all_goals exact H _
set_option maxRecDepth 100000 in
set_option maxHeartbeats 4000000 in
theorem sm_leaning {d L : Nat} {f : Nat → Nat → Int32} {g : Nat → Nat → Int64} {x1 : Int32} {R : Option Value → mH → Prop} (hd : 8 ≤ d) (hX : XI f) (hI : MI f) (H : ∀ v, R (some (.int v)) (shF L, f, g)) : Run mtab d 231 [.ref 181, .int x1] (shF L, f, g) R := by
  obtain ⟨d, rfl⟩ : ∃ e, d = e + 1 := ⟨d - 1, by omega⟩
  refine go_X11_leaning rfl ?_
  conv => whnf
  obtain ⟨n, hm, hb⟩ := inr_nat (n := 40) rfl (xi_181_0 hX)
  repeat' first
    | exact sm_le_lp (by omega) hX hb hm hI H n 0 _ _ _ _ (by omega) rfl
    | ((with_reducible refine ⟨vp_in_nI (by omega) (by decide), ?_⟩) <;> conv => whnf)
    | (refine ⟨Or.inl rfl, ?_⟩ <;> conv => whnf)
    | (refine ⟨Or.inr rfl, ?_⟩ <;> conv => whnf)
    | (refine ⟨Or.inl True.intro, ?_⟩ <;> conv => whnf)
    | (refine ⟨Or.inr True.intro, ?_⟩ <;> conv => whnf)
    | (refine ⟨fun c => ?_, fun c => ?_⟩ <;> first | ((have c9 : (1 : Int32) = 0 := by with_reducible exact c); exact absurd c9 (by decide)) | exact absurd (rfl : (0 : Int32) = 0) (by with_reducible exact c) | exact absurd True.intro (by with_reducible exact c) | exact False.elim (by with_reducible exact c) | (conv => whnf))
    | (refine ct_mIsWork (by omega) hb hm (fun j hj e => ?_) (fun q => ?_) <;> (try subst e) <;> conv => whnf)
    | (refine ⟨by unfold vp_in; decide, ?_⟩ <;> conv => whnf)
    | fail
  all_goals exact H _
set_option maxRecDepth 100000 in
set_option maxHeartbeats 4000000 in
theorem sm_cnt_lp {d L n : Nat} {f : Nat → Nat → Int32} {g : Nat → Nat → Int64} {w : Int32} {vn : Nat} {R : Option Value → mH → Prop} (hd : 3 ≤ d) (hX : XI f) (hb : f 181 0 = nI n) (hm : n ≤ 40) (hvb : f 181 48 = nI vn) (hk : vn ≤ 60) (H : ∀ v, R (some (.int v)) (shF L, f, g)) :
    ∀ (k i : Nat) (x : Int32) (a : Int32), i + k = n → x = nI i → WPe pg_X11_count none (Run mtab d) R (m_drop pg_X11_count 24) [some (.ref 181), some (.int w), some (.int a), some (.int x)] [] (shF L, f, g)
  | 0, i, x, a, hi, hx => by
    have e : i = n := by omega
    subst hx
    subst e
    refine at_X11_count ?_
    conv => whnf
    simp only [hb]
    refine ⟨fun c => ?_, fun c => absurd (nI_le (Nat.le_refl _) (by omega)) c⟩
    conv => whnf
    repeat' first
      | (simp only [hb, hvb])
      | ((with_reducible refine ⟨vp_in_nI (by omega) (by decide), ?_⟩) <;> conv => whnf)
      | (refine ⟨Or.inl rfl, ?_⟩ <;> conv => whnf)
      | (refine ⟨Or.inr rfl, ?_⟩ <;> conv => whnf)
      | (refine ⟨Or.inl True.intro, ?_⟩ <;> conv => whnf)
      | (refine ⟨Or.inr True.intro, ?_⟩ <;> conv => whnf)
      | (refine ⟨fun c => ?_, fun c => ?_⟩ <;> first | ((have c9 : (1 : Int32) = 0 := by with_reducible exact c); exact absurd c9 (by decide)) | exact absurd (rfl : (0 : Int32) = 0) (by with_reducible exact c) | exact absurd True.intro (by with_reducible exact c) | exact False.elim (by with_reducible exact c) | (conv => whnf))
      | (refine sm_stateOf (by omega) hX hk (fun v => ?_) <;> conv => whnf)
      | (refine ⟨by unfold vp_in; decide, ?_⟩ <;> conv => whnf)
      | fail
    all_goals exact H _
  | k + 1, i, x, a, hi, hx => by
    subst hx
    refine at_X11_count ?_
    conv => whnf
    simp only [hb]
    refine ⟨fun c => absurd c (nI_ge (b := n) (by omega) (by omega)), fun c => ?_⟩
    conv => whnf
    repeat' first
      | exact sm_cnt_lp hd hX hb hm hvb hk H k (i + 1) _ _ (by omega) (nI_1 i)
      | (simp only [hb, hvb])
      | ((with_reducible refine ⟨vp_in_nI (by omega) (by decide), ?_⟩) <;> conv => whnf)
      | (refine ⟨Or.inl rfl, ?_⟩ <;> conv => whnf)
      | (refine ⟨Or.inr rfl, ?_⟩ <;> conv => whnf)
      | (refine ⟨Or.inl True.intro, ?_⟩ <;> conv => whnf)
      | (refine ⟨Or.inr True.intro, ?_⟩ <;> conv => whnf)
      | (refine ⟨fun c => ?_, fun c => ?_⟩ <;> first | ((have c9 : (1 : Int32) = 0 := by with_reducible exact c); exact absurd c9 (by decide)) | exact absurd (rfl : (0 : Int32) = 0) (by with_reducible exact c) | exact absurd True.intro (by with_reducible exact c) | exact False.elim (by with_reducible exact c) | (conv => whnf))
      | (refine sm_stateOf (by omega) hX hk (fun v => ?_) <;> conv => whnf)
      | (refine ⟨by unfold vp_in; decide, ?_⟩ <;> conv => whnf)
      | fail
    all_goals exact H _
set_option maxRecDepth 100000 in
set_option maxHeartbeats 4000000 in
theorem sm_count {d L : Nat} {f : Nat → Nat → Int32} {g : Nat → Nat → Int64} {x1 : Int32} {R : Option Value → mH → Prop} (hd : 8 ≤ d) (hX : XI f) (H : ∀ v, R (some (.int v)) (shF L, f, g)) : Run mtab d 235 [.ref 181, .int x1] (shF L, f, g) R := by
  obtain ⟨d, rfl⟩ : ∃ e, d = e + 1 := ⟨d - 1, by omega⟩
  refine go_X11_count rfl ?_
  conv => whnf
  obtain ⟨n, hm, hb⟩ := inr_nat (n := 40) rfl (xi_181_0 hX)
  obtain ⟨vn, hvn, hvb⟩ := inr_nat (n := 60) rfl (xi_181_48 hX)
  repeat' first
    | exact sm_cnt_lp (by omega) hX hb hm hvb hvn H n 0 _ _ (by omega) rfl
    | ((with_reducible refine ⟨vp_in_nI (by omega) (by decide), ?_⟩) <;> conv => whnf)
    | (refine ⟨Or.inl rfl, ?_⟩ <;> conv => whnf)
    | (refine ⟨Or.inr rfl, ?_⟩ <;> conv => whnf)
    | (refine ⟨Or.inl True.intro, ?_⟩ <;> conv => whnf)
    | (refine ⟨Or.inr True.intro, ?_⟩ <;> conv => whnf)
    | (refine ⟨fun c => ?_, fun c => ?_⟩ <;> first | ((have c9 : (1 : Int32) = 0 := by with_reducible exact c); exact absurd c9 (by decide)) | exact absurd (rfl : (0 : Int32) = 0) (by with_reducible exact c) | exact absurd True.intro (by with_reducible exact c) | exact False.elim (by with_reducible exact c) | (conv => whnf))
    | (refine ⟨by unfold vp_in; decide, ?_⟩ <;> conv => whnf)
    | (refine ⟨fun c => ?_, ?_⟩ <;> conv => whnf)
    | (intro c; conv => whnf)
    | fail
  all_goals exact H _
set_option maxRecDepth 100000 in
set_option maxHeartbeats 4000000 in
theorem sm_number {d L : Nat} {f : Nat → Nat → Int32} {g : Nat → Nat → Int64} {x1 : Int32} {R : Option Value → mH → Prop} (hd : 8 ≤ d) (hX : XI f) (H : ∀ v, R (some (.int v)) (shF L, f, g)) : Run mtab d 234 [.ref 181, .int x1] (shF L, f, g) R := by
  obtain ⟨d, rfl⟩ : ∃ e, d = e + 1 := ⟨d - 1, by omega⟩
  refine go_X11_number_ rfl ?_
  conv => whnf
  obtain ⟨n, hm, hb⟩ := inr_nat (n := 40) rfl (xi_181_0 hX)
  repeat' first
    | ((with_reducible refine ⟨vp_in_nI (by omega) (by decide), ?_⟩) <;> conv => whnf)
    | (refine ⟨Or.inl rfl, ?_⟩ <;> conv => whnf)
    | (refine ⟨Or.inr rfl, ?_⟩ <;> conv => whnf)
    | (refine ⟨Or.inl True.intro, ?_⟩ <;> conv => whnf)
    | (refine ⟨Or.inr True.intro, ?_⟩ <;> conv => whnf)
    | (refine ⟨fun c => ?_, fun c => ?_⟩ <;> first | ((have c9 : (1 : Int32) = 0 := by with_reducible exact c); exact absurd c9 (by decide)) | exact absurd (rfl : (0 : Int32) = 0) (by with_reducible exact c) | exact absurd True.intro (by with_reducible exact c) | exact False.elim (by with_reducible exact c) | (conv => whnf))
    | (refine ct_mIsWork (by omega) hb hm (fun j hj e => ?_) (fun q => ?_) <;> (try subst e) <;> conv => whnf)
    | (refine ⟨by unfold vp_in; decide, ?_⟩ <;> conv => whnf)
    | fail
  all_goals exact H _
set_option maxRecDepth 100000 in
set_option maxHeartbeats 4000000 in
theorem sm_ruleOf {d L : Nat} {f : Nat → Nat → Int32} {g : Nat → Nat → Int64} {x1 : Int32} {R : Option Value → mH → Prop} (hd : 1 ≤ d) (hX : XI f) (q : inr 0 3 x1) (H : ∀ v, inr (-1) 3 v → R (some (.int v)) (shF L, f, g)) : Run mtab d 222 [.ref 181, .int x1] (shF L, f, g) R := by
  obtain ⟨d, rfl⟩ : ∃ e, d = e + 1 := ⟨d - 1, by omega⟩
  refine go_X11_ruleOf rfl ?_
  conv => whnf
  rcases inr_c3 q with rfl | rfl | rfl | rfl
  all_goals
    repeat' first
      | ((with_reducible refine ⟨vp_in_nI (by omega) (by decide), ?_⟩) <;> conv => whnf)
      | (refine ⟨Or.inl rfl, ?_⟩ <;> conv => whnf)
      | (refine ⟨Or.inr rfl, ?_⟩ <;> conv => whnf)
      | (refine ⟨Or.inl True.intro, ?_⟩ <;> conv => whnf)
      | (refine ⟨Or.inr True.intro, ?_⟩ <;> conv => whnf)
      | (refine ⟨fun c => ?_, fun c => ?_⟩ <;> first | ((have c9 : (1 : Int32) = 0 := by with_reducible exact c); exact absurd c9 (by decide)) | exact absurd (rfl : (0 : Int32) = 0) (by with_reducible exact c) | exact absurd True.intro (by with_reducible exact c) | exact False.elim (by with_reducible exact c) | exact absurd c (by decide) | exact absurd (by decide) c | (conv => whnf))
      | (refine at_X11_ruleOf ?_ <;> conv => whnf)
      | (refine ⟨by unfold vp_in; decide, ?_⟩ <;> conv => whnf)
      | fail
  all_goals exact H _ (by unfold inr; decide)
set_option maxRecDepth 100000 in
set_option maxHeartbeats 4000000 in
theorem sm_rulePart {d L : Nat} {f : Nat → Nat → Int32} {g : Nat → Nat → Int64} {x1 x2 : Int32} {R : Option Value → mH → Prop} (hd : 2 ≤ d) (hX : XI f) (q : inr 0 3 x1) (H : ∀ v, R (some (.int v)) (shF L, f, g)) : Run mtab d 223 [.ref 181, .int x1, .int x2] (shF L, f, g) R := by
  obtain ⟨d, rfl⟩ : ∃ e, d = e + 1 := ⟨d - 1, by omega⟩
  refine go_X11_rulePart rfl ?_
  conv => whnf
  repeat' first
    | ((with_reducible refine ⟨vpi2 hv (by with_reducible assumption) (by decide), ?_⟩) <;> conv => whnf)
    | ((with_reducible refine ⟨vpi2 hv (i32_nlt.mpr (by with_reducible assumption)) (by decide), ?_⟩) <;> conv => whnf)
    | ((with_reducible refine ⟨vp_in_nI (by omega) (by decide), ?_⟩) <;> conv => whnf)
    | (refine ⟨Or.inl rfl, ?_⟩ <;> conv => whnf)
    | (refine ⟨Or.inr rfl, ?_⟩ <;> conv => whnf)
    | (refine ⟨Or.inl True.intro, ?_⟩ <;> conv => whnf)
    | (refine ⟨Or.inr True.intro, ?_⟩ <;> conv => whnf)
    | (refine ⟨fun c => ?_, fun c => ?_⟩ <;> first | ((have c9 : (1 : Int32) = 0 := by with_reducible exact c); exact absurd c9 (by decide)) | exact absurd (rfl : (0 : Int32) = 0) (by with_reducible exact c) | exact absurd True.intro (by with_reducible exact c) | exact False.elim (by with_reducible exact c) | (conv => whnf))
    | (refine sm_ruleOf (by omega) hX q (fun v hv => ?_) <;> conv => whnf)
    | (refine ⟨by unfold vp_in; decide, ?_⟩ <;> conv => whnf)
    | fail
  all_goals exact H _
set_option maxRecDepth 100000 in
set_option maxHeartbeats 4000000 in
theorem sm_rule {d L : Nat} {f : Nat → Nat → Int32} {g : Nat → Nat → Int64} {x1 x2 : Int32} {R : Option Value → mH → Prop} (hd : 8 ≤ d) (hX : XI f) (H : ∀ v, R (some (.int v)) (shF L, f, g)) : Run mtab d 224 [.ref 181, .int x1, .int x2] (shF L, f, g) R := by
  obtain ⟨d, rfl⟩ : ∃ e, d = e + 1 := ⟨d - 1, by omega⟩
  refine go_X11_rule rfl ?_
  conv => whnf
  repeat' first
    | ((with_reducible refine ⟨vp_in_nI (by omega) (by decide), ?_⟩) <;> conv => whnf)
    | (refine ⟨Or.inl rfl, ?_⟩ <;> conv => whnf)
    | (refine ⟨Or.inr rfl, ?_⟩ <;> conv => whnf)
    | (refine ⟨Or.inl True.intro, ?_⟩ <;> conv => whnf)
    | (refine ⟨Or.inr True.intro, ?_⟩ <;> conv => whnf)
    | (refine ⟨fun c => ?_, fun c => ?_⟩ <;> first | ((have c9 : (1 : Int32) = 0 := by with_reducible exact c); exact absurd c9 (by decide)) | exact absurd (rfl : (0 : Int32) = 0) (by with_reducible exact c) | exact absurd True.intro (by with_reducible exact c) | exact False.elim (by with_reducible exact c) | (conv => whnf))
    | ((with_reducible refine ct_i_0_3 (by omega) (fun p => ?_) (fun p => ?_)) <;> conv => whnf)
    | ((with_reducible refine ct_i_0_2 (by omega) (fun p => ?_) (fun p => ?_)) <;> conv => whnf)
    | (refine sm_rulePart (by omega) hX ‹inr 0 3 x1› (fun v => ?_) <;> conv => whnf)
    | (refine ⟨by unfold vp_in; decide, ?_⟩ <;> conv => whnf)
    | fail
  all_goals exact H _
set_option maxRecDepth 100000 in
set_option maxHeartbeats 4000000 in
theorem sm_isHolding {d L : Nat} {f : Nat → Nat → Int32} {g : Nat → Nat → Int64} {x1 x2 x3 x4 x5 x6 : Int32} {R : Option Value → mH → Prop} (hd : 4 ≤ d) (hX : XI f) (H : ∀ v, (v = 0 ∨ v = 1) → R (some (.int v)) (shF L, f, g)) : Run mtab d 166 [.ref 181, .int x1, .int x2, .int x3, .int x4, .int x5, .int x6] (shF L, f, g) R := by
  obtain ⟨d, rfl⟩ : ∃ e, d = e + 1 := ⟨d - 1, by omega⟩
  refine go_X11_isHolding rfl ?_
  conv => whnf
  obtain ⟨n, hm, hb⟩ := inr_nat (n := 40) rfl (xi_181_0 hX)
  repeat' first
    | ((with_reducible refine ⟨vp_in_nI (by omega) (by decide), ?_⟩) <;> conv => whnf)
    | (refine ⟨Or.inl rfl, ?_⟩ <;> conv => whnf)
    | (refine ⟨Or.inr rfl, ?_⟩ <;> conv => whnf)
    | (refine ⟨Or.inl True.intro, ?_⟩ <;> conv => whnf)
    | (refine ⟨Or.inr True.intro, ?_⟩ <;> conv => whnf)
    | (refine ⟨fun c => ?_, fun c => ?_⟩ <;> first | ((have c9 : (1 : Int32) = 0 := by with_reducible exact c); exact absurd c9 (by decide)) | exact absurd (rfl : (0 : Int32) = 0) (by with_reducible exact c) | exact absurd True.intro (by with_reducible exact c) | exact False.elim (by with_reducible exact c) | (conv => whnf))
    | (refine ct_mIsWork (by omega) hb hm (fun j hj e => ?_) (fun q => ?_) <;> (try subst e) <;> conv => whnf)
    | (refine ct_mIsYear (by omega) (fun p => ?_) (fun p => ?_) <;> conv => whnf)
    | (refine ct_mIsSides (by omega) (fun p => ?_) (fun p => ?_) <;> conv => whnf)
    | (refine ct_mIsTold (by omega) (fun p => ?_) (fun p => ?_) <;> conv => whnf)
    | (refine ct_mIsSheet (by omega) (fun p => ?_) (fun p => ?_) <;> conv => whnf)
    | ((with_reducible refine ct_i_0_19 (by omega) (fun p => ?_) (fun p => ?_)) <;> conv => whnf)
    | (refine ⟨by unfold vp_in; decide, ?_⟩ <;> conv => whnf)
    | fail
  all_goals first | exact ⟨Or.inl rfl, H _ (Or.inl rfl)⟩ | exact ⟨Or.inr rfl, H _ (Or.inr rfl)⟩ | exact H _ (Or.inl rfl) | exact H _ (Or.inr rfl)
set_option maxRecDepth 100000 in
set_option maxHeartbeats 4000000 in
theorem sm_keepHolding {d L : Nat} {f : Nat → Nat → Int32} {g : Nat → Nat → Int64} {n : Nat} {x1 x2 x3 x4 x5 x6 : Int32} {R : Option Value → mH → Prop} (hd : 1 ≤ d) (hX : XI f) (hb : f 181 14 = nI n) (hn : n < 60) (H : ∀ f' g', XI f' → kp [10, 12, 22] f f' → f' 181 14 = nI (n + 1) → R none (shF L, f', g')) : Run mtab d 167 [.ref 181, .int x1, .int x2, .int x3, .int x4, .int x5, .int x6] (shF L, f, g) R := by
  obtain ⟨d, rfl⟩ : ∃ e, d = e + 1 := ⟨d - 1, by omega⟩
  refine go_X11_keepHolding rfl ?_
  conv => whnf
  repeat' first
    | (simp only [hb, nI_6m, nI_9m, nI_1, nI_k _ 2 2 rfl, nI_k _ 3 3 rfl, nI_k _ 4 4 rfl, nI_k _ 5 5 rfl, nI_k _ 6 6 rfl, nI_k _ 7 7 rfl, nI_k _ 8 8 rfl, m_ui_ap, m_fil_ap, m_cpy_ap, Nat.reduceEqDiff, Nat.reduceLT, Nat.reduceLeDiff, eq_self, ↓reduceIte, false_and, and_false, true_and, and_true, and_self])
    | ((with_reducible refine ⟨vp_in_nI (by omega) (by decide), ?_⟩) <;> conv => whnf)
    | (refine ⟨Or.inl rfl, ?_⟩ <;> conv => whnf)
    | (refine ⟨Or.inr rfl, ?_⟩ <;> conv => whnf)
    | (refine ⟨Or.inl True.intro, ?_⟩ <;> conv => whnf)
    | (refine ⟨Or.inr True.intro, ?_⟩ <;> conv => whnf)
    | (refine ⟨fun c => ?_, fun c => ?_⟩ <;> first | ((have c9 : (1 : Int32) = 0 := by with_reducible exact c); exact absurd c9 (by decide)) | exact absurd (rfl : (0 : Int32) = 0) (by with_reducible exact c) | exact absurd True.intro (by with_reducible exact c) | exact False.elim (by with_reducible exact c) | (conv => whnf))
    | (refine ⟨by unfold vp_in; decide, ?_⟩ <;> conv => whnf)
    | fail
  all_goals exact H _ _ (by repeat' first | (with_reducible assumption) | (with_reducible refine XI_ui ?_ ?_) | (with_reducible refine XI_fil ?_ (fun _ => ?_)) | (with_reducible refine XI_cpy ?_ (fun _ _ => ?_)) | exact True.intro | ((show inr _ _ _); first | (with_reducible assumption) | ((with_reducible refine inr_n1 (m := 60) ?_ ?_ ?_) <;> first | omega | rfl | decide) | ((with_reducible refine inr_n (m := 60) ?_ ?_ ?_) <;> first | omega | rfl | decide) | (unfold inr; decide)) | fail) (by repeat' first | (with_reducible exact kp_refl _ _) | (with_reducible assumption) | (with_reducible refine kp_ui ?_ ?_) | (with_reducible refine kp_fil ?_ ?_) | (with_reducible refine kp_cpy ?_ ?_) | rfl | fail) (by simp only [m_ui_ap, m_fil_ap, m_cpy_ap, Nat.reduceEqDiff, Nat.reduceLT, Nat.reduceLeDiff, eq_self, ↓reduceIte, false_and, and_false, true_and, and_true, and_self])
set_option maxRecDepth 100000 in
set_option maxHeartbeats 4000000 in
theorem sm_in {d L : Nat} {f : Nat → Nat → Int32} {g : Nat → Nat → Int64} {a b e : Int64} {R : Option Value → mH → Prop} (hd : 1 ≤ d) (H : ∀ v, (v = 0 ∨ v = 1) → R (some (.int v)) (shF L, f, g)) : Run mtab d 147 [.long a, .long b, .long e] (shF L, f, g) R := by
  obtain ⟨d, rfl⟩ : ∃ e, d = e + 1 := ⟨d - 1, by omega⟩
  refine go_X11_in rfl ?_
  conv => whnf
  repeat' first
    | ((with_reducible refine ⟨vp_in_nI (by omega) (by decide), ?_⟩) <;> conv => whnf)
    | (refine ⟨Or.inl rfl, ?_⟩ <;> conv => whnf)
    | (refine ⟨Or.inr rfl, ?_⟩ <;> conv => whnf)
    | (refine ⟨Or.inl True.intro, ?_⟩ <;> conv => whnf)
    | (refine ⟨Or.inr True.intro, ?_⟩ <;> conv => whnf)
    | (refine ⟨fun c => ?_, fun c => ?_⟩ <;> first | ((have c9 : (1 : Int32) = 0 := by with_reducible exact c); exact absurd c9 (by decide)) | exact absurd (rfl : (0 : Int32) = 0) (by with_reducible exact c) | exact absurd True.intro (by with_reducible exact c) | exact False.elim (by with_reducible exact c) | (conv => whnf))
    | (refine ⟨by unfold vp_in; decide, ?_⟩ <;> conv => whnf)
    | fail
  all_goals first | exact ⟨Or.inl rfl, H _ (Or.inl rfl)⟩ | exact ⟨Or.inr rfl, H _ (Or.inr rfl)⟩ | exact H _ (Or.inl rfl) | exact H _ (Or.inr rfl)
set_option maxRecDepth 100000 in
theorem ty2_lp {d L n m0 : Nat} {w : Int64} {f0 : Nat → Nat → Int32} {R : Option Value → mH → Prop} (hn : n + m0 ≤ 50) (H : ∀ v f' g', XI f' → kp [13] f0 f' → R (some (.int v)) (shF L, f', g')) :
    ∀ (k m : Nat) (y : Int32) (f : Nat → Nat → Int32) (g : Nat → Nat → Int64), m + k = n + m0 → y = nI k + -1 → f 181 46 = nI m → XI f → kp [13] f0 f → WPe pg_X11_type none (Run mtab d) R (m_drop pg_X11_type 41) [some (.ref 181), some (.long w), none, some (.int (nI n)), some (.int y)] [] (shF L, f, g)
  | 0, m, y, f, g, hm, hy, hf, hX, hr => by
    subst hy
    refine at_X11_type ?_
    conv => whnf
    refine ⟨fun c => ?_, fun c => absurd (by decide) c⟩
    conv => whnf
    exact H _ f g hX hr
  | k + 1, m, y, f, g, hm, hy, hf, hX, hr => by
    have e : nI (k + 1) + -1 = nI k := by rw [← Int32.sub_eq_add_neg, nI_pred]
    rw [e] at hy
    subst hy
    refine at_X11_type ?_
    conv => whnf
    refine ⟨fun c => absurd c (nI_pos (by omega)), fun c => ?_⟩
    conv => whnf
    refine ⟨by rw [hf]; exact vp_in_nI (by omega) (by decide), ?_⟩
    conv => whnf
    refine ty2_lp hn H k (m + 1) _ _ g (by omega) rfl ?_ (XI_ui (XI_ui hX True.intro) ?_) (kp_ui rfl (kp_ui rfl hr))
    · show f 181 46 + 1 = _
      rw [hf, nI_1]
    · show inr 0 50 (f 181 46 + 1)
      rw [hf]
      exact inr_n1 (m := 50) (by omega) rfl (by decide)
set_option maxRecDepth 100000 in
theorem ty1_lp {d L n : Nat} {w : Int64} {f : Nat → Nat → Int32} {g : Nat → Nat → Int64} {R : Option Value → mH → Prop} (hd : 1 ≤ d) (hX : XI f) (hn : n ≤ 8) (H : ∀ v f' g', XI f' → kp [13] f f' → R (some (.int v)) (shF L, f', g')) :
    ∀ (k : Nat) (y : Int32), y = nI k + -1 → k ≤ 8 → WPe pg_X11_type none (Run mtab d) R (m_drop pg_X11_type 12) [some (.ref 181), some (.long w), none, some (.int (nI n)), some (.int y)] [] (shF L, f, g)
  | 0, y, hy, hk => by
    subst hy
    obtain ⟨m, hm, hb⟩ := inr_nat (n := 50) rfl (xi_181_46 hX)
    refine at_X11_type ?_
    conv => whnf
    refine ⟨fun c => ?_, fun c => absurd (by decide) c⟩
    conv => whnf
    simp only [hb]
    refine ⟨fun c => ?_, fun c => ?_⟩
    · conv => whnf
      have c2 : nI m + nI n ≤ nI 50 := c
      rw [nI_add, nI_leI (by omega) (by decide)] at c2
      exact ty2_lp (n := n) (m0 := m) (by omega) H n m _ f g (by omega) (Int32.sub_eq_add_neg ..) hb hX (kp_refl _ _)
    · conv => whnf
      exact H _ f g hX (kp_refl _ _)
  | k + 1, y, hy, hk => by
    have e : nI (k + 1) + -1 = nI k := by rw [← Int32.sub_eq_add_neg, nI_pred]
    rw [e] at hy
    subst hy
    refine at_X11_type ?_
    conv => whnf
    refine ⟨fun c => absurd c (nI_pos (by omega)), fun c => ?_⟩
    conv => whnf
    refine sm_in hd (fun v hv => ?_)
    conv => whnf
    refine ⟨fun c => ?_, fun c => ?_⟩
    · conv => whnf
      exact ty1_lp hd hX hn H k _ rfl (by omega)
    · conv => whnf
      exact H _ f g hX (kp_refl _ _)
set_option maxRecDepth 100000 in
theorem sm_type {d L : Nat} {x : Int32} {w : Int64} {f : Nat → Nat → Int32} {g : Nat → Nat → Int64} {R : Option Value → mH → Prop} (hd : 6 ≤ d) (hX : XI f) (H : ∀ v f' g', XI f' → kp [13] f f' → R (some (.int v)) (shF L, f', g')) : Run mtab d 215 [.ref 181, .long w, .int x] (shF L, f, g) R := by
  obtain ⟨d, rfl⟩ : ∃ e, d = e + 1 := ⟨d - 1, by omega⟩
  refine go_X11_type rfl ?_
  conv => whnf
  refine ct_i_1_8 (by omega) (fun p => ?_) (fun p => ?_)
  · obtain ⟨n, h1, h8, rfl⟩ := inr_18 p
    conv => whnf
    refine ⟨fun _ => ?_, fun c => absurd c (by decide)⟩
    conv => whnf
    exact ty1_lp (by omega) hX h8 H n _ (Int32.sub_eq_add_neg ..) h8
  · conv => whnf
    refine ⟨fun c => absurd (by decide) c, fun _ => ?_⟩
    conv => whnf
    exact H _ _ _ hX (kp_refl _ _)
/-- the model's tape: its length, the place on it -/
def tm (m p : Nat) (f : Nat → Nat → Int32) : Prop := f 181 46 = nI m ∧ f 181 47 = nI p ∧ p ≤ m ∧ m ≤ 50
theorem tm_up {m p : Nat} {f : Nat → Nat → Int32} (t : tm m p f) (h : p < m) : tm m (p + 1) (m_ui f 181 47 (nI p + 1)) := ⟨t.1, nI_1 p, by omega, t.2.2.2⟩
theorem xm_up {m p : Nat} {f : Nat → Nat → Int32} (hX : XI f) (t : tm m p f) (h : p < m) : XI (m_ui f 181 47 (nI p + 1)) := XI_ui hX (show inr 0 50 _ from inr_n1 (m := 50) (by have := t.2.2.2; omega) rfl (by decide))
theorem tm_lt {m p : Nat} (c : ¬ nI m ≤ nI p) (hm : m ≤ 50) (hp : p ≤ m) : p < m := by
  rw [nI_leI (by omega) (by omega)] at c
  omega
set_option maxRecDepth 100000 in
theorem nxt_lp {d L m : Nat} {f0 : Nat → Nat → Int32} {R : Option Value → mH → Prop} (H : ∀ v p f' g', (p < m ∨ v = -1) → tm m p f' → XI f' → kp [10] f0 f' → R (some (.int v)) (shF L, f', g')) :
    ∀ (k p : Nat) (f : Nat → Nat → Int32) (g : Nat → Nat → Int64), p + k = m → tm m p f → XI f → kp [10] f0 f → WPe pg_X11_next none (Run mtab d) R (m_drop pg_X11_next 0) [some (.ref 181)] [] (shF L, f, g)
  | 0, p, f, g, hk, t, hX, hF => by
    obtain ⟨u1, u2, u3, u4⟩ := id t
    refine at_X11_next ?_
    conv => whnf
    simp only [u1, u2]
    refine ⟨fun c => ?_, fun c => absurd (nI_le (by omega) (by omega)) c⟩
    conv => whnf
    simp only [u1, u2]
    refine ⟨fun c => ?_, fun c => absurd (nI_le (by omega) (by omega)) c⟩
    conv => whnf
    exact H _ p f g (Or.inr rfl) t hX hF
  | k + 1, p, f, g, hk, t, hX, hF => by
    obtain ⟨u1, u2, u3, u4⟩ := id t
    refine at_X11_next ?_
    conv => whnf
    simp only [u1, u2]
    refine ⟨fun c => absurd c (nI_ge (by omega) (by omega)), fun c => ?_⟩
    conv => whnf
    simp only [u2]
    refine ⟨vp_in_nI (by omega) (by decide), ?_⟩
    conv => whnf
    refine ⟨fun c' => ?_, fun c' => ?_⟩
    · conv => whnf
      simp only [u1, u2]
      refine ⟨fun c => absurd c (nI_ge (by omega) (by omega)), fun c => ?_⟩
      conv => whnf
      simp only [u2]
      refine ⟨vp_in_nI (by omega) (by decide), ?_⟩
      conv => whnf
      exact H _ p f g (Or.inl (by omega)) t hX hF
    · conv => whnf
      simp only [u2]
      exact nxt_lp H k (p + 1) _ g (by omega) (tm_up t (by omega)) (xm_up hX t (by omega)) (kp_ui rfl hF)
theorem sm_next {d L m p : Nat} {f : Nat → Nat → Int32} {g : Nat → Nat → Int64} {R : Option Value → mH → Prop} (hd : 1 ≤ d) (hX : XI f) (t : tm m p f) (H : ∀ v p f' g', (p < m ∨ v = -1) → tm m p f' → XI f' → kp [10] f f' → R (some (.int v)) (shF L, f', g')) : Run mtab d 216 [.ref 181] (shF L, f, g) R := by
  obtain ⟨d, rfl⟩ : ∃ e, d = e + 1 := ⟨d - 1, by omega⟩
  refine run_wp (k := 210) (M := M_X11_next) rfl rfl ?_
  have := nxt_lp (d := d) (L := L) H (m - p) p f g (by have := t.2.2.1; omega) t hX (kp_refl _ _)
  rw [m_drop_0] at this
  exact this
theorem tm_back {m p q : Nat} {f : Nat → Nat → Int32} (t : tm m p f) (h : q ≤ m) : tm m q (m_ui f 181 47 (nI q)) := ⟨t.1, rfl, h, t.2.2.2⟩
theorem xm_back {m p q : Nat} {f : Nat → Nat → Int32} (hX : XI f) (t : tm m p f) (h : q ≤ m) : XI (m_ui f 181 47 (nI q)) := XI_ui hX (show inr 0 50 _ from inr_n (m := 50) (by have := t.2.2.2; omega) rfl (by decide))
set_option maxRecDepth 100000 in
set_option maxHeartbeats 4000000 in
theorem mnum_lp {d L m q : Nat} {f0 : Nat → Nat → Int32} {x y ch : Int32} {R : Option Value → mH → Prop} (hd : 2 ≤ d) (hq : q ≤ m) (H : ∀ v p' f' g', tm m p' f' → XI f' → kp [10] f0 f' → R (some (.int v)) (shF L, f', g')) :
    ∀ (k p : Nat) (a : Int32) (f : Nat → Nat → Int32) (g : Nat → Nat → Int64), p + k = m → tm m p f → XI f → kp [10] f0 f → WPe pg_X11_number none (Run mtab d) R (m_drop pg_X11_number 8) [some (.ref 181), some (.int x), some (.int y), some (.int ch), some (.int (nI q)), some (.int a)] [] (shF L, f, g)
  | 0, p, a, f, g, hk, t, hX, hF => by
    obtain ⟨u1, u2, u3, u4⟩ := id t
    refine at_X11_number ?_
    conv => whnf
    simp only [u1, u2]
    refine ⟨fun c => ?_, fun c => absurd (nI_le (by omega) (by omega)) c⟩
    conv => whnf
    repeat' first
      | ((with_reducible refine ⟨vp_in_nI (by omega) (by decide), ?_⟩) <;> conv => whnf)
      | (refine ⟨Or.inl rfl, ?_⟩ <;> conv => whnf)
      | (refine ⟨Or.inr rfl, ?_⟩ <;> conv => whnf)
      | (refine ⟨Or.inl True.intro, ?_⟩ <;> conv => whnf)
      | (refine ⟨Or.inr True.intro, ?_⟩ <;> conv => whnf)
      | (refine ⟨fun c => ?_, fun c => ?_⟩ <;> first | ((have c9 : (1 : Int32) = 0 := by with_reducible exact c); exact absurd c9 (by decide)) | exact absurd (rfl : (0 : Int32) = 0) (by with_reducible exact c) | exact absurd True.intro (by with_reducible exact c) | exact False.elim (by with_reducible exact c) | (conv => whnf))
      | ((with_reducible refine ct_i_v_v (by omega) (fun pp => ?_) (fun pp => ?_)) <;> conv => whnf)
      | (refine ⟨by unfold vp_in; decide, ?_⟩ <;> conv => whnf)
      | fail
    all_goals first | exact H _ _ _ _ t hX hF | exact H _ _ _ _ (tm_back t hq) (xm_back hX t hq) (kp_ui rfl hF)
  | k + 1, p, a, f, g, hk, t, hX, hF => by
    obtain ⟨u1, u2, u3, u4⟩ := id t
    refine at_X11_number ?_
    conv => whnf
    simp only [u1, u2]
    refine ⟨fun c => absurd c (nI_ge (by omega) (by omega)), fun cc => ?_⟩
    conv => whnf
    simp only [u2]
    refine ⟨vp_in_nI (by omega) (by decide), ?_⟩
    conv => whnf
    refine ct_i_48_57 (by omega) (fun pp => ?_) (fun pp => ?_)
    · conv => whnf
      refine ⟨fun c => absurd c (by decide), fun _ => ?_⟩
      conv => whnf
      refine ⟨fun c => ?_, fun c => ?_⟩
      · conv => whnf
        simp only [u2]
        refine ⟨vp_in_nI (by omega) (by decide), ?_⟩
        conv => whnf
        simp only [u2]
        exact mnum_lp hd hq H k (p + 1) _ _ g (by omega) (tm_up t (by omega)) (xm_up hX t (by omega)) (kp_ui rfl hF)
      · conv => whnf
        simp only [u2]
        exact mnum_lp hd hq H k (p + 1) _ _ g (by omega) (tm_up t (by omega)) (xm_up hX t (by omega)) (kp_ui rfl hF)
    · conv => whnf
      refine ⟨fun _ => ?_, fun c => absurd (by decide) c⟩
      conv => whnf
      repeat' first
        | ((with_reducible refine ⟨vp_in_nI (by omega) (by decide), ?_⟩) <;> conv => whnf)
        | (refine ⟨Or.inl rfl, ?_⟩ <;> conv => whnf)
        | (refine ⟨Or.inr rfl, ?_⟩ <;> conv => whnf)
        | (refine ⟨Or.inl True.intro, ?_⟩ <;> conv => whnf)
        | (refine ⟨Or.inr True.intro, ?_⟩ <;> conv => whnf)
        | (refine ⟨fun c => ?_, fun c => ?_⟩ <;> first | ((have c9 : (1 : Int32) = 0 := by with_reducible exact c); exact absurd c9 (by decide)) | exact absurd (rfl : (0 : Int32) = 0) (by with_reducible exact c) | exact absurd True.intro (by with_reducible exact c) | exact False.elim (by with_reducible exact c) | (conv => whnf))
        | ((with_reducible refine ct_i_v_v (by omega) (fun pp => ?_) (fun pp => ?_)) <;> conv => whnf)
        | (refine ⟨by unfold vp_in; decide, ?_⟩ <;> conv => whnf)
        | fail
      all_goals first | exact H _ _ _ _ t hX hF | exact H _ _ _ _ (tm_back t hq) (xm_back hX t hq) (kp_ui rfl hF)
set_option maxRecDepth 100000 in
set_option maxHeartbeats 4000000 in
theorem sm_number0 {d L : Nat} {f : Nat → Nat → Int32} {g : Nat → Nat → Int64} {m p : Nat} {x y : Int32} {R : Option Value → mH → Prop} (hd : 3 ≤ d) (hX : XI f) (t : tm m p f) (H : ∀ v p' f' g', tm m p' f' → XI f' → kp [10] f f' → R (some (.int v)) (shF L, f', g')) : Run mtab d 217 [.ref 181, .int x, .int y] (shF L, f, g) R := by
  obtain ⟨d, rfl⟩ : ∃ e, d = e + 1 := ⟨d - 1, by omega⟩
  refine go_X11_number rfl ?_
  conv => whnf
  refine sm_next (by omega) hX t (fun v p1 f1 g1 hv t1 h1 k1 => ?_)
  obtain ⟨u1, u2, u3, u4⟩ := id t1
  conv => whnf
  simp only [u2]
  exact mnum_lp (by omega) u3 H (m - p1) p1 _ _ _ (by omega) t1 h1 k1
set_option maxRecDepth 100000 in
set_option maxHeartbeats 4000000 in
theorem sm_takes {d L : Nat} {f : Nat → Nat → Int32} {g : Nat → Nat → Int64} {m p : Nat} {x : Int32} {R : Option Value → mH → Prop} (hd : 2 ≤ d) (hX : XI f) (hx : ¬ x = -1) (t : tm m p f) (H : ∀ v p' f' g', (v = 0 ∨ v = 1) → tm m p' f' → XI f' → kp [10] f f' → R (some (.int v)) (shF L, f', g')) : Run mtab d 218 [.ref 181, .int x] (shF L, f, g) R := by
  obtain ⟨d, rfl⟩ : ∃ e, d = e + 1 := ⟨d - 1, by omega⟩
  refine go_X11_takes rfl ?_
  conv => whnf
  repeat' first
    | (simp only [u2])
    | ((with_reducible refine ⟨vp_in_nI (by omega) (by decide), ?_⟩) <;> conv => whnf)
    | (refine ⟨Or.inl rfl, ?_⟩ <;> conv => whnf)
    | (refine ⟨Or.inr rfl, ?_⟩ <;> conv => whnf)
    | (refine ⟨Or.inl True.intro, ?_⟩ <;> conv => whnf)
    | (refine ⟨Or.inr True.intro, ?_⟩ <;> conv => whnf)
    | (refine ⟨fun c => ?_, fun c => ?_⟩ <;> first | ((have c9 : (1 : Int32) = 0 := by with_reducible exact c); exact absurd c9 (by decide)) | exact absurd (rfl : (0 : Int32) = 0) (by with_reducible exact c) | exact absurd True.intro (by with_reducible exact c) | exact False.elim (by with_reducible exact c) | (conv => whnf))
    | (refine sm_next (by omega) hX t (fun v p1 f1 g1 hv t1 h1 k1 => ?_) <;> (obtain ⟨u1, u2, u3, u4⟩ := id t1) <;> conv => whnf)
    | (refine ⟨by unfold vp_in; decide, ?_⟩ <;> conv => whnf)
    | fail
  all_goals first | exact ⟨Or.inl rfl, H _ _ _ _ (Or.inl rfl) t1 h1 k1⟩ | exact H _ _ _ _ (Or.inl rfl) t1 h1 k1 | (have hl : p1 < m := hv.resolve_right (fun e => hx (by have := ‹v = x›; rw [← this, e])); first | exact ⟨Or.inr rfl, H _ _ _ _ (Or.inr rfl) (tm_up t1 hl) (xm_up h1 t1 hl) (kp_ui rfl k1)⟩ | exact H _ _ _ _ (Or.inr rfl) (tm_up t1 hl) (xm_up h1 t1 hl) (kp_ui rfl k1)) | (have e0 : nI p1 + 0 = nI p1 := Int32.add_zero _; simp only [e0]; first | exact ⟨Or.inl rfl, H _ _ _ _ (Or.inl rfl) (tm_back t1 u3) (xm_back h1 t1 u3) (kp_ui rfl k1)⟩ | exact H _ _ _ _ (Or.inl rfl) (tm_back t1 u3) (xm_back h1 t1 u3) (kp_ui rfl k1))
set_option maxRecDepth 100000 in
set_option maxHeartbeats 4000000 in
theorem sm_readClause {d L : Nat} {f : Nat → Nat → Int32} {g : Nat → Nat → Int64} {m p : Nat} {R : Option Value → mH → Prop} (hd : 4 ≤ d) (hX : XI f) (t : tm m p f) (H : ∀ v p' f' g', (v = 0 ∨ v = 1) → tm m p' f' → XI f' → kp [10] f f' → R (some (.int v)) (shF L, f', g')) : Run mtab d 219 [.ref 181] (shF L, f, g) R := by
  obtain ⟨d, rfl⟩ : ∃ e, d = e + 1 := ⟨d - 1, by omega⟩
  refine go_X11_readClause rfl ?_
  conv => whnf
  refine sm_next (by omega) hX t (fun v p1 f1 g1 hv t1 h1 k1 => ?_)
  obtain ⟨u1, u2, u3, u4⟩ := id t1
  by_cases q : v = 112
  · subst q
    have hl : p1 < m := hv.resolve_right (by decide)
    conv => whnf
    refine ⟨fun c => absurd rfl c, fun _ => ?_⟩
    conv => whnf
    refine ⟨fun _ => ?_, fun c => absurd (by decide) c⟩
    conv => whnf
    simp only [u2]
    refine sm_number0 (by omega) (xm_up h1 t1 hl) (tm_up t1 hl) (fun v2 p2 f2 g2 t2 h2 k2 => ?_)
    have kk2 : kp [10] f f2 := kp_trans (kp_ui rfl k1) k2
    conv => whnf
    refine ⟨fun c => ?_, fun c => ?_⟩
    · conv => whnf
      exact ⟨Or.inl rfl, H _ _ _ _ (Or.inl rfl) t2 h2 kk2⟩
    · conv => whnf
      refine sm_takes (by omega) h2 (by decide) t2 (fun v3 p3 f3 g3 hv3 t3 h3 k3 => ?_)
      have kk3 : kp [10] f f3 := kp_trans kk2 k3
      conv => whnf
      refine ⟨fun c => ?_, fun c => ?_⟩
      · conv => whnf
        refine sm_number0 (by omega) h3 t3 (fun v4 p4 f4 g4 t4 h4 k4 => ?_)
        have kk4 : kp [10] f f4 := kp_trans kk3 k4
        conv => whnf
        refine ⟨fun c => ?_, fun c => ?_⟩
        · conv => whnf
          exact ⟨Or.inl rfl, H _ _ _ _ (Or.inl rfl) t4 h4 kk4⟩
        · conv => whnf
          refine sm_takes (by omega) h4 (by decide) t4 (fun v5 p5 f5 g5 hv5 t5 h5 k5 => ?_)
          have kk5 : kp [10] f f5 := kp_trans kk4 k5
          conv => whnf
          refine ⟨fun c => ?_, fun c => ?_⟩
          · conv => whnf
            refine sm_number0 (by omega) h5 t5 (fun v6 p6 f6 g6 t6 h6 k6 => ?_)
            have kk6 : kp [10] f f6 := kp_trans kk5 k6
            conv => whnf
            refine ⟨fun c => ?_, fun c => ?_⟩
            · conv => whnf
              refine ⟨by unfold vp_in; decide, ?_⟩
              conv => whnf
              refine ⟨by unfold vp_in; decide, ?_⟩
              conv => whnf
              refine ⟨by unfold vp_in; decide, ?_⟩
              conv => whnf
              exact ⟨Or.inr rfl, H _ _ _ _ (Or.inr rfl) t6 (XI_ui (XI_ui (XI_ui h6 True.intro) True.intro) True.intro) (kp_ui rfl (kp_ui rfl (kp_ui rfl kk6)))⟩
            · conv => whnf
              exact ⟨Or.inl rfl, H _ _ _ _ (Or.inl rfl) t6 h6 kk6⟩
          · conv => whnf
            exact ⟨Or.inl rfl, H _ _ _ _ (Or.inl rfl) t5 h5 kk5⟩
      · conv => whnf
        exact ⟨Or.inl rfl, H _ _ _ _ (Or.inl rfl) t3 h3 kk3⟩
  · have q1 := q
    clear q
    by_cases q : v = 118
    · subst q
      have hl : p1 < m := hv.resolve_right (by decide)
      conv => whnf
      refine ⟨fun _ => ?_, fun c => absurd c (by decide)⟩
      conv => whnf
      refine ⟨fun c => absurd rfl c, fun _ => ?_⟩
      conv => whnf
      refine ⟨fun _ => ?_, fun c => absurd (by decide) c⟩
      conv => whnf
      simp only [u2]
      refine sm_number0 (by omega) (xm_up h1 t1 hl) (tm_up t1 hl) (fun v2 p2 f2 g2 t2 h2 k2 => ?_)
      have kk2 : kp [10] f f2 := kp_trans (kp_ui rfl k1) k2
      conv => whnf
      refine ⟨fun c => ?_, fun c => ?_⟩
      · conv => whnf
        exact ⟨Or.inl rfl, H _ _ _ _ (Or.inl rfl) t2 h2 kk2⟩
      · conv => whnf
        refine sm_takes (by omega) h2 (by decide) t2 (fun v3 p3 f3 g3 hv3 t3 h3 k3 => ?_)
        have kk3 : kp [10] f f3 := kp_trans kk2 k3
        conv => whnf
        refine ⟨fun c => ?_, fun c => ?_⟩
        · conv => whnf
          refine sm_number0 (by omega) h3 t3 (fun v4 p4 f4 g4 t4 h4 k4 => ?_)
          have kk4 : kp [10] f f4 := kp_trans kk3 k4
          conv => whnf
          refine ⟨fun c => ?_, fun c => ?_⟩
          · conv => whnf
            exact ⟨Or.inl rfl, H _ _ _ _ (Or.inl rfl) t4 h4 kk4⟩
          · conv => whnf
            refine sm_takes (by omega) h4 (by decide) t4 (fun v5 p5 f5 g5 hv5 t5 h5 k5 => ?_)
            have kk5 : kp [10] f f5 := kp_trans kk4 k5
            conv => whnf
            refine ⟨fun c => ?_, fun c => ?_⟩
            · conv => whnf
              refine sm_number0 (by omega) h5 t5 (fun v6 p6 f6 g6 t6 h6 k6 => ?_)
              have kk6 : kp [10] f f6 := kp_trans kk5 k6
              conv => whnf
              refine ⟨fun c => ?_, fun c => ?_⟩
              · conv => whnf
                refine ⟨by unfold vp_in; decide, ?_⟩
                conv => whnf
                refine ⟨by unfold vp_in; decide, ?_⟩
                conv => whnf
                refine ⟨by unfold vp_in; decide, ?_⟩
                conv => whnf
                exact ⟨Or.inr rfl, H _ _ _ _ (Or.inr rfl) t6 (XI_ui (XI_ui (XI_ui h6 True.intro) True.intro) True.intro) (kp_ui rfl (kp_ui rfl (kp_ui rfl kk6)))⟩
              · conv => whnf
                exact ⟨Or.inl rfl, H _ _ _ _ (Or.inl rfl) t6 h6 kk6⟩
            · conv => whnf
              exact ⟨Or.inl rfl, H _ _ _ _ (Or.inl rfl) t5 h5 kk5⟩
        · conv => whnf
          exact ⟨Or.inl rfl, H _ _ _ _ (Or.inl rfl) t3 h3 kk3⟩
    · have q2 := q
      clear q
      by_cases q : v = 100
      · subst q
        have hl : p1 < m := hv.resolve_right (by decide)
        conv => whnf
        refine ⟨fun _ => ?_, fun c => absurd c (by decide)⟩
        conv => whnf
        refine ⟨fun _ => ?_, fun c => absurd c (by decide)⟩
        conv => whnf
        refine ⟨fun c => absurd rfl c, fun _ => ?_⟩
        conv => whnf
        refine ⟨fun _ => ?_, fun c => absurd (by decide) c⟩
        conv => whnf
        simp only [u2]
        refine sm_number0 (by omega) (xm_up h1 t1 hl) (tm_up t1 hl) (fun v2 p2 f2 g2 t2 h2 k2 => ?_)
        have kk2 : kp [10] f f2 := kp_trans (kp_ui rfl k1) k2
        conv => whnf
        refine ⟨fun c => ?_, fun c => ?_⟩
        · conv => whnf
          exact ⟨Or.inl rfl, H _ _ _ _ (Or.inl rfl) t2 h2 kk2⟩
        · conv => whnf
          refine sm_takes (by omega) h2 (by decide) t2 (fun v3 p3 f3 g3 hv3 t3 h3 k3 => ?_)
          have kk3 : kp [10] f f3 := kp_trans kk2 k3
          conv => whnf
          refine ⟨fun c => ?_, fun c => ?_⟩
          · conv => whnf
            refine sm_number0 (by omega) h3 t3 (fun v4 p4 f4 g4 t4 h4 k4 => ?_)
            have kk4 : kp [10] f f4 := kp_trans kk3 k4
            conv => whnf
            refine ⟨fun c => ?_, fun c => ?_⟩
            · conv => whnf
              exact ⟨Or.inl rfl, H _ _ _ _ (Or.inl rfl) t4 h4 kk4⟩
            · conv => whnf
              refine sm_takes (by omega) h4 (by decide) t4 (fun v5 p5 f5 g5 hv5 t5 h5 k5 => ?_)
              have kk5 : kp [10] f f5 := kp_trans kk4 k5
              conv => whnf
              refine ⟨fun c => ?_, fun c => ?_⟩
              · conv => whnf
                refine sm_number0 (by omega) h5 t5 (fun v6 p6 f6 g6 t6 h6 k6 => ?_)
                have kk6 : kp [10] f f6 := kp_trans kk5 k6
                conv => whnf
                refine ⟨fun c => ?_, fun c => ?_⟩
                · conv => whnf
                  refine ⟨by unfold vp_in; decide, ?_⟩
                  conv => whnf
                  refine ⟨by unfold vp_in; decide, ?_⟩
                  conv => whnf
                  refine ⟨by unfold vp_in; decide, ?_⟩
                  conv => whnf
                  exact ⟨Or.inr rfl, H _ _ _ _ (Or.inr rfl) t6 (XI_ui (XI_ui (XI_ui h6 True.intro) True.intro) True.intro) (kp_ui rfl (kp_ui rfl (kp_ui rfl kk6)))⟩
                · conv => whnf
                  exact ⟨Or.inl rfl, H _ _ _ _ (Or.inl rfl) t6 h6 kk6⟩
              · conv => whnf
                exact ⟨Or.inl rfl, H _ _ _ _ (Or.inl rfl) t5 h5 kk5⟩
          · conv => whnf
            exact ⟨Or.inl rfl, H _ _ _ _ (Or.inl rfl) t3 h3 kk3⟩
      · have q3 := q
        clear q
        by_cases q : v = 114
        · subst q
          have hl : p1 < m := hv.resolve_right (by decide)
          conv => whnf
          refine ⟨fun _ => ?_, fun c => absurd c (by decide)⟩
          conv => whnf
          refine ⟨fun _ => ?_, fun c => absurd c (by decide)⟩
          conv => whnf
          refine ⟨fun _ => ?_, fun c => absurd c (by decide)⟩
          conv => whnf
          refine ⟨fun c => absurd rfl c, fun _ => ?_⟩
          conv => whnf
          refine ⟨fun _ => ?_, fun c => absurd (by decide) c⟩
          conv => whnf
          simp only [u2]
          refine sm_number0 (by omega) (xm_up h1 t1 hl) (tm_up t1 hl) (fun v2 p2 f2 g2 t2 h2 k2 => ?_)
          have kk2 : kp [10] f f2 := kp_trans (kp_ui rfl k1) k2
          conv => whnf
          refine ⟨fun c => ?_, fun c => ?_⟩
          · conv => whnf
            exact ⟨Or.inl rfl, H _ _ _ _ (Or.inl rfl) t2 h2 kk2⟩
          · conv => whnf
            refine sm_takes (by omega) h2 (by decide) t2 (fun v3 p3 f3 g3 hv3 t3 h3 k3 => ?_)
            have kk3 : kp [10] f f3 := kp_trans kk2 k3
            conv => whnf
            refine ⟨fun c => ?_, fun c => ?_⟩
            · conv => whnf
              refine sm_number0 (by omega) h3 t3 (fun v4 p4 f4 g4 t4 h4 k4 => ?_)
              have kk4 : kp [10] f f4 := kp_trans kk3 k4
              conv => whnf
              refine ⟨fun c => ?_, fun c => ?_⟩
              · conv => whnf
                exact ⟨Or.inl rfl, H _ _ _ _ (Or.inl rfl) t4 h4 kk4⟩
              · conv => whnf
                refine sm_takes (by omega) h4 (by decide) t4 (fun v5 p5 f5 g5 hv5 t5 h5 k5 => ?_)
                have kk5 : kp [10] f f5 := kp_trans kk4 k5
                conv => whnf
                refine ⟨fun c => ?_, fun c => ?_⟩
                · conv => whnf
                  refine sm_number0 (by omega) h5 t5 (fun v6 p6 f6 g6 t6 h6 k6 => ?_)
                  have kk6 : kp [10] f f6 := kp_trans kk5 k6
                  conv => whnf
                  refine ⟨fun c => ?_, fun c => ?_⟩
                  · conv => whnf
                    refine ⟨by unfold vp_in; decide, ?_⟩
                    conv => whnf
                    refine ⟨by unfold vp_in; decide, ?_⟩
                    conv => whnf
                    refine ⟨by unfold vp_in; decide, ?_⟩
                    conv => whnf
                    exact ⟨Or.inr rfl, H _ _ _ _ (Or.inr rfl) t6 (XI_ui (XI_ui (XI_ui h6 True.intro) True.intro) True.intro) (kp_ui rfl (kp_ui rfl (kp_ui rfl kk6)))⟩
                  · conv => whnf
                    exact ⟨Or.inl rfl, H _ _ _ _ (Or.inl rfl) t6 h6 kk6⟩
                · conv => whnf
                  exact ⟨Or.inl rfl, H _ _ _ _ (Or.inl rfl) t5 h5 kk5⟩
            · conv => whnf
              exact ⟨Or.inl rfl, H _ _ _ _ (Or.inl rfl) t3 h3 kk3⟩
        · have q4 := q
          conv => whnf
          refine ⟨fun _ => ?_, fun c => absurd c q1⟩
          conv => whnf
          refine ⟨fun _ => ?_, fun c => absurd c q2⟩
          conv => whnf
          refine ⟨fun _ => ?_, fun c => absurd c q3⟩
          conv => whnf
          refine ⟨fun _ => ?_, fun c => absurd c q4⟩
          conv => whnf
          refine ⟨fun c => absurd c (by decide), fun _ => ?_⟩
          conv => whnf
          exact ⟨Or.inl rfl, H _ _ _ _ (Or.inl rfl) t1 h1 k1⟩
theorem fin_c {n : Nat} (h : n < 3) : ¬ nI n + 1 = 4 := by
  rw [nI_1]
  exact fun e => absurd ((nI_eq (b := 4) (by omega) (by decide)).mp e) (by omega)
set_option maxRecDepth 100000 in
theorem ra_end {d L m p : Nat} {f0 f : Nat → Nat → Int32} {g : Nat → Nat → Int64} {a : Int32} {s3 : Option Value} {R : Option Value → mH → Prop} (t : tm m p f) (hX : XI f) (hF : kp [10] f0 f) (H : ∀ v p' f' g', tm m p' f' → XI f' → kp [10] f0 f' → R (some (.int v)) (shF L, f', g')) : WPe pg_X11_readAll none (Run mtab d) R (m_drop pg_X11_readAll 19) [some (.ref 181), some (.int a), some (.int 0), s3] [] (shF L, f, g) := by
  refine at_X11_readAll ?_
  conv => whnf
  refine ⟨fun _ => ?_, fun c => absurd rfl c⟩
  conv => whnf
  exact H _ _ _ _ t hX hF
set_option maxRecDepth 100000 in
theorem ra_lp {d L m : Nat} {f0 : Nat → Nat → Int32} {R : Option Value → mH → Prop} (hd : 4 ≤ d) (H : ∀ v p' f' g', tm m p' f' → XI f' → kp [10] f0 f' → R (some (.int v)) (shF L, f', g')) :
    ∀ (k n p : Nat) (a : Int32) (s3 : Option Value) (f : Nat → Nat → Int32) (g : Nat → Nat → Int64), n + k = 3 → a = nI n → tm m p f → XI f → kp [10] f0 f → WPe pg_X11_readAll none (Run mtab d) R (m_drop pg_X11_readAll 19) [some (.ref 181), some (.int a), some (.int 1), s3] [] (shF L, f, g) := by
  intro k
  induction k with
  | zero =>
    intro n p a s3 f g hn ha t hX hF
    have e : n = 3 := by omega
    subst e
    subst ha
    refine at_X11_readAll ?_
    conv => whnf
    refine ⟨fun c => absurd c (by decide), fun _ => ?_⟩
    conv => whnf
    refine sm_readClause (by omega) hX t (fun v p1 f1 g1 hv t1 h1 k1 => ?_)
    conv => whnf
    refine ⟨fun c1 => ?_, fun c1 => ?_⟩
    · conv => whnf
      refine sm_next (by omega) h1 t1 (fun v2 p2 f2 g2 hv2 t2 h2 k2 => ?_)
      have kk : kp [10] f0 f2 := kp_trans hF (kp_trans k1 k2)
      obtain ⟨u1, u2, u3, u4⟩ := id t2
      conv => whnf
      refine ⟨fun c2 => ?_, fun c2 => ?_⟩
      · conv => whnf
        refine ⟨fun _ => ?_, fun c => absurd c2 (by exact c)⟩
        conv => whnf
        refine ⟨fun _ => ?_, fun c => absurd rfl c⟩
        conv => whnf
        have e0 : nI p2 + 0 = nI p2 := Int32.add_zero _
        simp only [u2, e0]
        exact ra_end (tm_back t2 u3) (xm_back h2 t2 u3) (kp_ui rfl kk) H
      · conv => whnf
        refine ⟨fun c3 => ?_, fun c3 => ?_⟩
        · conv => whnf
          exact H _ _ _ _ t2 h2 kk
        · conv => whnf
          refine ⟨fun c4 => absurd (by decide) c4, fun c4 => ?_⟩
          conv => whnf
          exact H _ _ _ _ t2 h2 kk
    · conv => whnf
      exact H _ _ _ _ t1 h1 (kp_trans hF k1)
  | succ k ih =>
    intro n p a s3 f g hn ha t hX hF
    subst ha
    refine at_X11_readAll ?_
    conv => whnf
    refine ⟨fun c => absurd c (by decide), fun _ => ?_⟩
    conv => whnf
    refine sm_readClause (by omega) hX t (fun v p1 f1 g1 hv t1 h1 k1 => ?_)
    conv => whnf
    refine ⟨fun c1 => ?_, fun c1 => ?_⟩
    · conv => whnf
      refine sm_next (by omega) h1 t1 (fun v2 p2 f2 g2 hv2 t2 h2 k2 => ?_)
      have kk : kp [10] f0 f2 := kp_trans hF (kp_trans k1 k2)
      obtain ⟨u1, u2, u3, u4⟩ := id t2
      conv => whnf
      refine ⟨fun c2 => ?_, fun c2 => ?_⟩
      · conv => whnf
        refine ⟨fun _ => ?_, fun c => absurd c2 (by exact c)⟩
        conv => whnf
        refine ⟨fun _ => ?_, fun c => absurd rfl c⟩
        conv => whnf
        have e0 : nI p2 + 0 = nI p2 := Int32.add_zero _
        simp only [u2, e0]
        exact ra_end (tm_back t2 u3) (xm_back h2 t2 u3) (kp_ui rfl kk) H
      · conv => whnf
        refine ⟨fun c3 => ?_, fun c3 => ?_⟩
        · conv => whnf
          exact H _ _ _ _ t2 h2 kk
        · conv => whnf
          refine ⟨fun c4 => ?_, fun c4 => absurd c4 (fin_c (by omega))⟩
          conv => whnf
          refine ⟨fun c => absurd (by exact c) c2, fun _ => ?_⟩
          conv => whnf
          refine ⟨fun c => absurd c (by decide), fun _ => ?_⟩
          conv => whnf
          have hl : p2 < m := hv2.resolve_right (fun e => c2 (by rw [e]; decide))
          simp only [u2]
          exact ih (n + 1) (p2 + 1) _ _ _ _ (by omega) (nI_1 n) (tm_up t2 hl) (xm_up h2 t2 hl) (kp_ui rfl kk)
    · conv => whnf
      exact H _ _ _ _ t1 h1 (kp_trans hF k1)
set_option maxRecDepth 100000 in
set_option maxHeartbeats 4000000 in
theorem ra_fil_lp {d L : Nat} {f0 : Nat → Nat → Int32} {m : Nat} {R : Option Value → mH → Prop} (hd : 4 ≤ d) (H : ∀ v p' f' g', tm m p' f' → XI f' → kp [10] f0 f' → R (some (.int v)) (shF L, f', g'))  :
    ∀ (k i : Nat) (x : Int32) (s2 : Option Value) (s3 : Option Value) (f : Nat → Nat → Int32) (g : Nat → Nat → Int64), i + k = 12 → x = nI i → XI f → kp [10] f0 f → tm m 0 f → WPe pg_X11_readAll none (Run mtab d) R (m_drop pg_X11_readAll 5) [some (.ref 181), some (.int x), s2, s3] [] (shF L, f, g)
  | 0, i, x, s2, s3, f, g, he, hx, hX, hF, t => by
    have e : i = 12 := by omega
    subst hx
    subst e
    refine at_X11_readAll ?_
    conv => whnf
    refine ⟨fun c => ?_, fun c => absurd (by decide) c⟩
    conv => whnf
    repeat' first
      | exact ra_lp (by omega) H 3 0 0 _ _ _ _ (by omega) rfl t hX hF
      | ((with_reducible refine ⟨vp_in_nI (by omega) (by decide), ?_⟩) <;> conv => whnf)
      | (refine ⟨Or.inl rfl, ?_⟩ <;> conv => whnf)
      | (refine ⟨Or.inr rfl, ?_⟩ <;> conv => whnf)
      | (refine ⟨Or.inl True.intro, ?_⟩ <;> conv => whnf)
      | (refine ⟨Or.inr True.intro, ?_⟩ <;> conv => whnf)
      | (refine ⟨fun c => ?_, fun c => ?_⟩ <;> first | ((have c9 : (1 : Int32) = 0 := by with_reducible exact c); exact absurd c9 (by decide)) | exact absurd (rfl : (0 : Int32) = 0) (by with_reducible exact c) | exact absurd True.intro (by with_reducible exact c) | exact False.elim (by with_reducible exact c) | (conv => whnf))
      | (refine ⟨by unfold vp_in; decide, ?_⟩ <;> conv => whnf)
      | fail
    all_goals fail
  | k + 1, i, x, s2, s3, f, g, he, hx, hX, hF, t => by
    subst hx
    refine at_X11_readAll ?_
    conv => whnf
    refine ⟨fun c => absurd c (nI_ge (b := 12) (by omega) (by omega)), fun c => ?_⟩
    conv => whnf
    repeat' first
      | exact ra_fil_lp hd H k (i + 1) _ _ _ _ _ (by omega) (nI_1 i) (by repeat' first | (with_reducible assumption) | (with_reducible refine XI_ui ?_ ?_) | (with_reducible refine XI_fil ?_ (fun _ => ?_)) | (with_reducible refine XI_cpy ?_ (fun _ _ => ?_)) | exact True.intro | ((show inr _ _ _); first | (with_reducible assumption) | (unfold inr; decide)) | fail) (by repeat' first | (with_reducible exact kp_refl _ _) | (with_reducible assumption) | (with_reducible refine kp_ui ?_ ?_) | (with_reducible refine kp_fil ?_ ?_) | (with_reducible refine kp_cpy ?_ ?_) | rfl | fail) t
      | ((with_reducible refine ⟨vp_in_nI (by omega) (by decide), ?_⟩) <;> conv => whnf)
      | (refine ⟨Or.inl rfl, ?_⟩ <;> conv => whnf)
      | (refine ⟨Or.inr rfl, ?_⟩ <;> conv => whnf)
      | (refine ⟨Or.inl True.intro, ?_⟩ <;> conv => whnf)
      | (refine ⟨Or.inr True.intro, ?_⟩ <;> conv => whnf)
      | (refine ⟨fun c => ?_, fun c => ?_⟩ <;> first | ((have c9 : (1 : Int32) = 0 := by with_reducible exact c); exact absurd c9 (by decide)) | exact absurd (rfl : (0 : Int32) = 0) (by with_reducible exact c) | exact absurd True.intro (by with_reducible exact c) | exact False.elim (by with_reducible exact c) | (conv => whnf))
      | (refine ⟨by unfold vp_in; decide, ?_⟩ <;> conv => whnf)
      | fail
    all_goals fail
set_option maxRecDepth 100000 in
set_option maxHeartbeats 4000000 in
theorem sm_readAll {d L : Nat} {f : Nat → Nat → Int32} {g : Nat → Nat → Int64} {m : Nat} {R : Option Value → mH → Prop} (hd : 5 ≤ d) (hX : XI f) (hm : f 181 46 = nI m) (hm5 : m ≤ 50) (H : ∀ v p' f' g', tm m p' f' → XI f' → kp [10] f f' → R (some (.int v)) (shF L, f', g')) : Run mtab d 220 [.ref 181] (shF L, f, g) R := by
  obtain ⟨d, rfl⟩ : ∃ e, d = e + 1 := ⟨d - 1, by omega⟩
  refine go_X11_readAll rfl ?_
  conv => whnf
  exact ra_fil_lp (by omega) H 12 0 _ _ _ _ _ (by omega) rfl (XI_ui hX (show inr 0 50 _ by unfold inr; decide)) (kp_ui rfl (kp_refl _ _)) ⟨hm, rfl, by omega, hm5⟩
set_option maxRecDepth 100000 in
set_option maxHeartbeats 4000000 in
theorem sm_rul_lp {d L : Nat} {f0 : Nat → Nat → Int32} {w : Int32} {R : Option Value → mH → Prop} (hd : 1 ≤ d) (H : ∀ v f' g', XI f' → kp [10, 13] f0 f' → R (some (.int v)) (shF L, f', g'))  :
    ∀ (k i : Nat) (x : Int32) (f : Nat → Nat → Int32) (g : Nat → Nat → Int64), i + k = 4 → x = nI i → XI f → kp [10, 13] f0 f → WPe pg_X11_rules none (Run mtab d) R (m_drop pg_X11_rules 15) [some (.ref 181), some (.int w), some (.int x)] [] (shF L, f, g)
  | 0, i, x, f, g, he, hx, hX, hF => by
    have e : i = 4 := by omega
    subst hx
    subst e
    refine at_X11_rules ?_
    conv => whnf
    try simp only [nI_6m, nI_3m, nI_1, nI_k _ 2 2 rfl, nI_k _ 3 3 rfl, nI_k _ 4 4 rfl, nI_k _ 5 5 rfl, nI_k _ 6 6 rfl]
    refine ⟨fun c => ?_, fun c => absurd (by decide) c⟩
    conv => whnf
    repeat' first
      | (simp only [nI_6m, nI_3m, nI_1, nI_k _ 2 2 rfl, nI_k _ 3 3 rfl, nI_k _ 4 4 rfl, nI_k _ 5 5 rfl, nI_k _ 6 6 rfl])
      | ((with_reducible refine ⟨vp_in_nI (by omega) (by decide), ?_⟩) <;> conv => whnf)
      | (refine ⟨Or.inl rfl, ?_⟩ <;> conv => whnf)
      | (refine ⟨Or.inr rfl, ?_⟩ <;> conv => whnf)
      | (refine ⟨Or.inl True.intro, ?_⟩ <;> conv => whnf)
      | (refine ⟨Or.inr True.intro, ?_⟩ <;> conv => whnf)
      | (refine ⟨fun c => ?_, fun c => ?_⟩ <;> first | ((have c9 : (1 : Int32) = 0 := by with_reducible exact c); exact absurd c9 (by decide)) | exact absurd (rfl : (0 : Int32) = 0) (by with_reducible exact c) | exact absurd True.intro (by with_reducible exact c) | exact False.elim (by with_reducible exact c) | (conv => whnf))
      | (refine ⟨by unfold vp_in; decide, ?_⟩ <;> conv => whnf)
      | fail
    all_goals exact H _ _ _ hX hF
  | k + 1, i, x, f, g, he, hx, hX, hF => by
    subst hx
    refine at_X11_rules ?_
    conv => whnf
    try simp only [nI_6m, nI_3m, nI_1, nI_k _ 2 2 rfl, nI_k _ 3 3 rfl, nI_k _ 4 4 rfl, nI_k _ 5 5 rfl, nI_k _ 6 6 rfl]
    refine ⟨fun c => absurd c (nI_ge (b := 4) (by omega) (by omega)), fun c => ?_⟩
    conv => whnf
    repeat' first
      | exact sm_rul_lp hd H k (i + 1) _  _ _ (by omega) (nI_1 i) (by repeat' first | (with_reducible assumption) | (with_reducible refine XI_ui ?_ ?_) | (with_reducible refine XI_fil ?_ (fun _ => ?_)) | (with_reducible refine XI_cpy ?_ (fun _ _ => ?_)) | exact True.intro | ((show inr _ _ _); first | (with_reducible assumption) | (unfold inr; decide)) | fail) (by repeat' first | (with_reducible exact kp_refl _ _) | (with_reducible assumption) | (with_reducible refine kp_ui ?_ ?_) | (with_reducible refine kp_fil ?_ ?_) | (with_reducible refine kp_cpy ?_ ?_) | rfl | fail)
      | (simp only [nI_6m, nI_3m, nI_1, nI_k _ 2 2 rfl, nI_k _ 3 3 rfl, nI_k _ 4 4 rfl, nI_k _ 5 5 rfl, nI_k _ 6 6 rfl])
      | ((with_reducible refine ⟨vp_in_nI (by omega) (by decide), ?_⟩) <;> conv => whnf)
      | (refine ⟨Or.inl rfl, ?_⟩ <;> conv => whnf)
      | (refine ⟨Or.inr rfl, ?_⟩ <;> conv => whnf)
      | (refine ⟨Or.inl True.intro, ?_⟩ <;> conv => whnf)
      | (refine ⟨Or.inr True.intro, ?_⟩ <;> conv => whnf)
      | (refine ⟨fun c => ?_, fun c => ?_⟩ <;> first | ((have c9 : (1 : Int32) = 0 := by with_reducible exact c); exact absurd c9 (by decide)) | exact absurd (rfl : (0 : Int32) = 0) (by with_reducible exact c) | exact absurd True.intro (by with_reducible exact c) | exact False.elim (by with_reducible exact c) | (conv => whnf))
      | (refine ⟨by unfold vp_in; decide, ?_⟩ <;> conv => whnf)
      | fail
    all_goals exact H _ _ _ hX hF
set_option maxRecDepth 100000 in
set_option maxHeartbeats 4000000 in
theorem sm_rules {d L : Nat} {f : Nat → Nat → Int32} {g : Nat → Nat → Int64}  {R : Option Value → mH → Prop} (hd : 8 ≤ d) (hX : XI f) (H : ∀ v f' g', XI f' → kp [10, 13] f f' → R (some (.int v)) (shF L, f', g')) : Run mtab d 221 [.ref 181] (shF L, f, g) R := by
  obtain ⟨d, rfl⟩ : ∃ e, d = e + 1 := ⟨d - 1, by omega⟩
  refine go_X11_rules rfl ?_
  conv => whnf
  obtain ⟨m, hm, hb⟩ := inr_nat (n := 50) rfl (xi_181_46 hX)
  refine sm_readAll (by omega) hX hb hm (fun v p1 f1 g1 t1 h1 k1 => ?_)
  have h0 : XI (m_ui f1 181 46 0) := XI_ui h1 (show inr 0 50 _ by unfold inr; decide)
  have k0 : kp [10, 13] f (m_ui f1 181 46 0) := kp_ui rfl (kp_wd k1 rfl)
  conv => whnf
  refine ⟨fun c => ?_, fun c => ?_⟩
  · conv => whnf
    exact sm_rul_lp (by omega) H 4 0 _ _ _ (by omega) rfl h0 k0
  · conv => whnf
    exact H _ _ _ h0 k0
set_option maxRecDepth 100000 in
set_option maxHeartbeats 8000000 in
theorem vt_lp {d L j cn : Nat} {f : Nat → Nat → Int32} {g : Nat → Nat → Int64} {y x3 x4 x5 hs : Int32} {R : Option Value → mH → Prop} (hd : 4 ≤ d) (hX : XI f) (hj : j < 40) (cnb : f 181 48 = nI cn) (cnm : cn ≤ 60) (H : ∀ v f' g', XI f' → kp [10, 14, 22] f f' → R (some (.int v)) (shF L, f', g')) :
    ∀ (k i : Nat) (x a : Int32) (s9 s10 s11 s12 : Option Value), i + k = 8 → x = nI i → WPe pg_X11_vote none (Run mtab d) R (m_drop pg_X11_vote 41) [some (.ref 181), some (.int (nI j)), some (.int y), some (.int x3), some (.int x4), some (.int x5), some (.int hs), some (.int a), some (.int x), s9, s10, s11, s12] [] (shF L, f, g)
  | 0, i, x, a, s9, s10, s11, s12, hi, hx => by
    have e : i = 8 := by omega
    subst e
    subst hx
    refine at_X11_vote ?_
    conv => whnf
    refine ⟨fun _ => ?_, fun c => absurd (by decide) c⟩
    conv => whnf
    refine sm_ones (by omega) (fun v0 => ?_)
    conv => whnf
    by_cases hq : cn = 60
    · subst hq
      repeat' first
        | (simp only [cnb])
        | ((with_reducible refine ⟨vp_in_nI (by omega) (by decide), ?_⟩) <;> conv => whnf)
        | (refine ⟨Or.inl rfl, ?_⟩ <;> conv => whnf)
        | (refine ⟨Or.inr rfl, ?_⟩ <;> conv => whnf)
        | (refine ⟨Or.inl True.intro, ?_⟩ <;> conv => whnf)
        | (refine ⟨Or.inr True.intro, ?_⟩ <;> conv => whnf)
        | (refine ⟨fun c => ?_, fun c => ?_⟩ <;> first | ((have c9 : (1 : Int32) = 0 := by with_reducible exact c); exact absurd c9 (by decide)) | exact absurd (rfl : (0 : Int32) = 0) (by with_reducible exact c) | exact absurd True.intro (by with_reducible exact c) | exact False.elim (by with_reducible exact c) | exact absurd (by decide) c | (conv => whnf))
        | (refine ⟨by unfold vp_in; decide, ?_⟩ <;> conv => whnf)
        | fail
      all_goals exact H _ _ _ (by repeat' first | (with_reducible assumption) | (with_reducible refine XI_ui ?_ ?_) | (with_reducible refine XI_fil ?_ (fun _ => ?_)) | (with_reducible refine XI_cpy ?_ (fun _ _ => ?_)) | exact True.intro | ((show inr _ _ _); first | (with_reducible assumption) | (unfold inr; decide)) | fail) (by repeat' first | (with_reducible exact kp_refl _ _) | (with_reducible assumption) | (with_reducible refine kp_ui ?_ ?_) | (with_reducible refine kp_fil ?_ ?_) | (with_reducible refine kp_cpy ?_ ?_) | rfl | fail)
    · have hlt : cn < 60 := by omega
      repeat' first
        | (simp only [cnb, nI_6m, nI_1, nI_k _ 2 2 rfl, nI_k _ 3 3 rfl, nI_k _ 4 4 rfl, nI_k _ 5 5 rfl, nI_k _ 6 6 rfl, m_ui_ap, m_fil_ap, m_cpy_ap, Nat.reduceEqDiff, Nat.reduceLT, Nat.reduceLeDiff, eq_self, ↓reduceIte, false_and, and_false, true_and, and_true, and_self])
        | ((with_reducible refine ⟨vp_in_nI (by omega) (by decide), ?_⟩) <;> conv => whnf)
        | (refine ⟨Or.inl rfl, ?_⟩ <;> conv => whnf)
        | (refine ⟨Or.inr rfl, ?_⟩ <;> conv => whnf)
        | (refine ⟨Or.inl True.intro, ?_⟩ <;> conv => whnf)
        | (refine ⟨Or.inr True.intro, ?_⟩ <;> conv => whnf)
        | (refine ⟨fun c => ?_, fun c => ?_⟩ <;> first | ((have c9 : (1 : Int32) = 0 := by with_reducible exact c); exact absurd c9 (by decide)) | exact absurd (rfl : (0 : Int32) = 0) (by with_reducible exact c) | exact absurd True.intro (by with_reducible exact c) | exact False.elim (by with_reducible exact c) | exact absurd ((nI_eq (b := 60) (by omega) (by decide)).mp c) hq | (conv => whnf))
        | (refine sm_ones (by omega) (fun v => ?_) <;> conv => whnf)
        | (refine sm_rulePart (by omega) hX (xi_182 hX _) (fun v => ?_) <;> conv => whnf)
        | (refine ⟨by unfold vp_in; decide, ?_⟩ <;> conv => whnf)
        | fail
      all_goals exact H _ _ _ (by repeat' first | (with_reducible assumption) | (with_reducible refine XI_ui ?_ ?_) | (with_reducible refine XI_fil ?_ (fun _ => ?_)) | (with_reducible refine XI_cpy ?_ (fun _ _ => ?_)) | exact True.intro | ((show inr _ _ _); first | (with_reducible assumption) | ((with_reducible refine inr_n1 (m := 60) ?_ ?_ ?_) <;> first | omega | rfl | decide) | ((with_reducible refine inr_n (m := 60) ?_ ?_ ?_) <;> first | omega | rfl | decide) | (unfold inr; decide)) | fail) (by repeat' first | (with_reducible exact kp_refl _ _) | (with_reducible assumption) | (with_reducible refine kp_ui ?_ ?_) | (with_reducible refine kp_fil ?_ ?_) | (with_reducible refine kp_cpy ?_ ?_) | rfl | fail)
  | k + 1, i, x, a, s9, s10, s11, s12, hi, hx => by
    subst hx
    refine at_X11_vote ?_
    conv => whnf
    refine ⟨fun c => absurd c (nI_ge (b := 8) (by omega) (by omega)), fun c => ?_⟩
    conv => whnf
    refine ⟨vp_in_nI (by omega) (by decide), ?_⟩
    conv => whnf
    refine ⟨fun c => ?_, fun c => ?_⟩
    · conv => whnf
      exact vt_lp hd hX hj cnb cnm H k (i + 1) _ _ _ _ _ _ (by omega) (nI_1 i)
    · conv => whnf
      exact vt_lp hd hX hj cnb cnm H k (i + 1) _ _ _ _ _ _ (by omega) (nI_1 i)
set_option maxRecDepth 100000 in
set_option maxHeartbeats 4000000 in
theorem sm_vote {d L : Nat} {f : Nat → Nat → Int32} {g : Nat → Nat → Int64} {x1 x2 x3 x4 x5 : Int32} {R : Option Value → mH → Prop} (hd : 8 ≤ d) (hX : XI f) (H : ∀ v f' g', XI f' → kp [10, 14, 22] f f' → R (some (.int v)) (shF L, f', g')) : Run mtab d 225 [.ref 181, .int x1, .int x2, .int x3, .int x4, .int x5] (shF L, f, g) R := by
  obtain ⟨d, rfl⟩ : ∃ e, d = e + 1 := ⟨d - 1, by omega⟩
  refine go_X11_vote rfl ?_
  conv => whnf
  obtain ⟨n, hm, hb⟩ := inr_nat (n := 40) rfl (xi_181_0 hX)
  obtain ⟨cn, cnm, cnb⟩ := inr_nat (n := 60) rfl (xi_181_48 hX)
  repeat' first
    | exact vt_lp (by omega) hX (by omega) cnb cnm H 8 0 _ _ _ _ _ _ (by omega) rfl
    | ((refine ⟨show ¬ (100 : Int32) = 0 by decide, ?_⟩) <;> conv => whnf)
    | ((with_reducible refine ⟨vp_in_nI (by omega) (by decide), ?_⟩) <;> conv => whnf)
    | (refine ⟨Or.inl rfl, ?_⟩ <;> conv => whnf)
    | (refine ⟨Or.inr rfl, ?_⟩ <;> conv => whnf)
    | (refine ⟨Or.inl True.intro, ?_⟩ <;> conv => whnf)
    | (refine ⟨Or.inr True.intro, ?_⟩ <;> conv => whnf)
    | (refine ⟨fun c => ?_, fun c => ?_⟩ <;> first | ((have c9 : (1 : Int32) = 0 := by with_reducible exact c); exact absurd c9 (by decide)) | exact absurd (rfl : (0 : Int32) = 0) (by with_reducible exact c) | exact absurd True.intro (by with_reducible exact c) | exact False.elim (by with_reducible exact c) | (conv => whnf))
    | (refine ct_mIsWork (by omega) hb hm (fun j hj e => ?_) (fun q => ?_) <;> (try subst e) <;> conv => whnf)
    | ((with_reducible refine ct_i_0_9999 (by omega) (fun p => ?_) (fun p => ?_)) <;> conv => whnf)
    | ((with_reducible refine ct_i_0_255 (by omega) (fun p => ?_) (fun p => ?_)) <;> conv => whnf)
    | (refine sm_mayHold (by omega) hX (fun v => ?_) <;> conv => whnf)
    | (refine ⟨by unfold vp_in; decide, ?_⟩ <;> conv => whnf)
    | fail
  all_goals exact H _ _ _ hX (kp_refl _ _)
set_option maxRecDepth 100000 in
set_option maxHeartbeats 4000000 in
theorem mh2_lp {d L m b h0 : Nat} {f0 : Nat → Nat → Int32} {x1 x2 x3 : Int32} {R : Option Value → mH → Prop} (hd : 1 ≤ d) (hbm : b + 6 * m ≤ 240) (hh : h0 + m ≤ 60) (H : ∀ v f' g', XI f' → kp [10, 12, 22] f0 f' → R (some (.int v)) (shF L, f', g')) :
    ∀ (k i : Nat) (x : Int32) (f : Nat → Nat → Int32) (g : Nat → Nat → Int64), i + k = m → x = nI (b + 6 * i) → f 181 14 = nI (h0 + i) → XI f → kp [10, 12, 22] f0 f → WPe pg_X11_holdings none (Run mtab d) R (m_drop pg_X11_holdings 109) [some (.ref 181), some (.int x1), some (.int x2), some (.int x3), some (.int (nI m)), some (.int (nI b)), some (.int x)] [] (shF L, f, g)
  | 0, i, x, f, g, hi, hx, hhb, hX, hF => by
    have e9 : i = m := by omega
    subst hx
    subst e9
    refine at_X11_holdings ?_
    conv => whnf
    simp only [nI_6m, nI_add]
    refine ⟨fun c => ?_, fun c => absurd (nI_le (Nat.le_refl _) (by omega)) c⟩
    conv => whnf
    exact H _ _ _ hX hF
  | k + 1, i, x, f, g, hi, hx, hhb, hX, hF => by
    subst hx
    refine at_X11_holdings ?_
    conv => whnf
    simp only [nI_6m, nI_add]
    refine ⟨fun c => absurd c (nI_ge (by omega) (by omega)), fun c => ?_⟩
    conv => whnf
    repeat' first
      | exact mh2_lp hd hbm hh H k (i + 1) _ _ _ (by omega) (congrArg nI (by omega)) (e1.trans (congrArg nI (by omega))) h1 (kp_trans hF k1)
      | (simp only [nI_6m, nI_add, nI_1, nI_k _ 2 2 rfl, nI_k _ 3 3 rfl, nI_k _ 4 4 rfl, nI_k _ 5 5 rfl, nI_k _ 6 6 rfl])
      | ((with_reducible refine ⟨vp_in_nI (by omega) (by decide), ?_⟩) <;> conv => whnf)
      | (refine ⟨Or.inl rfl, ?_⟩ <;> conv => whnf)
      | (refine ⟨Or.inr rfl, ?_⟩ <;> conv => whnf)
      | (refine ⟨Or.inl True.intro, ?_⟩ <;> conv => whnf)
      | (refine ⟨Or.inr True.intro, ?_⟩ <;> conv => whnf)
      | (refine ⟨fun c => ?_, fun c => ?_⟩ <;> first | ((have c9 : (1 : Int32) = 0 := by with_reducible exact c); exact absurd c9 (by decide)) | exact absurd (rfl : (0 : Int32) = 0) (by with_reducible exact c) | exact absurd True.intro (by with_reducible exact c) | exact False.elim (by with_reducible exact c) | (conv => whnf))
      | (refine sm_keepHolding (by omega) hX hhb (by omega) (fun f1 g1 h1 k1 e1 => ?_) <;> conv => whnf)
      | (refine ⟨by unfold vp_in; decide, ?_⟩ <;> conv => whnf)
      | fail
set_option maxRecDepth 100000 in
set_option maxHeartbeats 4000000 in
theorem mh1_lp {d L m b : Nat} {f : Nat → Nat → Int32} {g : Nat → Nat → Int64} {x1 x2 x3 : Int32} {R : Option Value → mH → Prop} (hd : 4 ≤ d) (hX : XI f) (hm : m ≤ 10) (hbm : b + 6 * m ≤ 240) (H : ∀ v f' g', XI f' → kp [10, 12, 22] f f' → R (some (.int v)) (shF L, f', g')) :
    ∀ (k i : Nat) (x : Int32), i + k = m → x = nI (b + 6 * i) → WPe pg_X11_holdings none (Run mtab d) R (m_drop pg_X11_holdings 51) [some (.ref 181), some (.int x1), some (.int x2), some (.int x3), some (.int (nI m)), some (.int (nI b)), some (.int x)] [] (shF L, f, g)
  | 0, i, x, hi, hx => by
    have e9 : i = m := by omega
    subst hx
    subst e9
    obtain ⟨h0, hhm, hhb⟩ := inr_nat (n := 60) rfl (xi_181_14 hX)
    refine at_X11_holdings ?_
    conv => whnf
    simp only [nI_6m, nI_add]
    refine ⟨fun c => ?_, fun c => absurd (nI_le (Nat.le_refl _) (by omega)) c⟩
    conv => whnf
    simp only [hhb, nI_add]
    refine ⟨fun c2 => ?_, fun c2 => ?_⟩
    · conv => whnf
      have c3 : nI (h0 + i) ≤ nI 60 := c2
      rw [nI_leI (by omega) (by decide)] at c3
      exact mh2_lp (h0 := h0) (by omega) hbm c3 H i 0 _ _ _ (by omega) rfl hhb hX (kp_refl _ _)
    · conv => whnf
      exact H _ _ _ hX (kp_refl _ _)
  | k + 1, i, x, hi, hx => by
    subst hx
    refine at_X11_holdings ?_
    conv => whnf
    simp only [nI_6m, nI_add]
    refine ⟨fun c => absurd c (nI_ge (by omega) (by omega)), fun c => ?_⟩
    conv => whnf
    repeat' first
      | exact mh1_lp hd hX hm hbm H k (i + 1) _ (by omega) (congrArg nI (by omega))
      | (simp only [nI_6m, nI_add, nI_1, nI_k _ 2 2 rfl, nI_k _ 3 3 rfl, nI_k _ 4 4 rfl, nI_k _ 5 5 rfl, nI_k _ 6 6 rfl])
      | ((with_reducible refine ⟨vp_in_nI (by omega) (by decide), ?_⟩) <;> conv => whnf)
      | (refine ⟨Or.inl rfl, ?_⟩ <;> conv => whnf)
      | (refine ⟨Or.inr rfl, ?_⟩ <;> conv => whnf)
      | (refine ⟨Or.inl True.intro, ?_⟩ <;> conv => whnf)
      | (refine ⟨Or.inr True.intro, ?_⟩ <;> conv => whnf)
      | (refine ⟨fun c => ?_, fun c => ?_⟩ <;> first | ((have c9 : (1 : Int32) = 0 := by with_reducible exact c); exact absurd c9 (by decide)) | exact absurd (rfl : (0 : Int32) = 0) (by with_reducible exact c) | exact absurd True.intro (by with_reducible exact c) | exact False.elim (by with_reducible exact c) | (conv => whnf))
      | (refine sm_isHolding (by omega) hX (fun v hv => ?_) <;> conv => whnf)
      | (refine ⟨by unfold vp_in; decide, ?_⟩ <;> conv => whnf)
      | fail
    all_goals exact H _ _ _ hX (kp_refl _ _)
theorem hd_am {z w : Int32} {m : Nat} (hm : m ≤ 10) (hl : inr 0 60 z) (h : inr 0 (z - nI (6 * m)) w) : ∃ a, w = nI a ∧ a + 6 * m ≤ 60 := by
  obtain ⟨a, ha, rfl⟩ := nI_of (i32_nlt.mpr h.1)
  have p := Int32.le_iff_toInt_le.mp hl.1
  have q := Int32.le_iff_toInt_le.mp hl.2
  have e1 : (0 : Int32).toInt = 0 := rfl
  have e2 : (60 : Int32).toInt = 60 := rfl
  have hs : (z - nI (6 * m)).toInt = z.toInt - (6 * m : Nat) := by
    rw [Int32.toInt_sub, nI_toInt (by omega)]
    exact Int.bmod_eq_of_le (by omega) (by omega)
  have h2 := h.2
  rw [Int32.le_iff_toInt_le, hs, nI_toInt ha] at h2
  exact ⟨a, rfl, by omega⟩
set_option maxRecDepth 100000 in
set_option maxHeartbeats 4000000 in
theorem sm_holdings {d L : Nat} {f : Nat → Nat → Int32} {g : Nat → Nat → Int64} {x1 x2 x3 x4 : Int32} {R : Option Value → mH → Prop} (hd : 8 ≤ d) (hX : XI f) (H : ∀ v f' g', XI f' → kp [10, 12, 22] f f' → R (some (.int v)) (shF L, f', g')) : Run mtab d 240 [.ref 181, .int x1, .int x2, .int x3, .int x4] (shF L, f, g) R := by
  obtain ⟨d, rfl⟩ : ∃ e, d = e + 1 := ⟨d - 1, by omega⟩
  refine go_X11_holdings rfl ?_
  conv => whnf
  refine ct_mIsSheet (by omega) (fun pp => ?_) (fun pp => ?_)
  · obtain ⟨s, hs, rfl⟩ := inr_nat (n := 3) rfl pp.1
    conv => whnf
    refine ⟨fun c => absurd c (by decide), fun _ => ?_⟩
    conv => whnf
    refine ct_i_0_10 (by omega) (fun p2 => ?_) (fun p2 => ?_)
    · obtain ⟨m, hm, rfl⟩ := inr_nat (n := 10) rfl p2
      conv => whnf
      refine ⟨fun _ => ?_, fun c => absurd c (by decide)⟩
      conv => whnf
      refine ⟨vp_in_nI (by omega) (by decide), ?_⟩
      conv => whnf
      refine ⟨fun c => ?_, fun c => ?_⟩
      · conv => whnf
        refine ⟨vp_in_nI (by omega) (by decide), ?_⟩
        conv => whnf
        simp only [nI_6m]
        refine ct_i_0_v (by omega) (fun p3 => ?_) (fun p3 => ?_)
        · obtain ⟨a, rfl, ha⟩ := hd_am hm (xi_225 hX _) p3
          conv => whnf
          refine ⟨fun _ => ?_, fun c => absurd c (by decide)⟩
          conv => whnf
          simp only [nI_60m, nI_add]
          exact mh1_lp (by omega) hX hm (by omega) H m 0 _ (by omega) rfl
        · conv => whnf
          refine ⟨fun c => absurd (by decide) c, fun _ => ?_⟩
          conv => whnf
          exact H _ _ _ hX (kp_refl _ _)
      · conv => whnf
        refine ⟨vp_in_nI (by omega) (by decide), ?_⟩
        conv => whnf
        refine ⟨fun c => ?_, fun c => ?_⟩
        · conv => whnf
          exact H _ _ _ hX (kp_refl _ _)
        · conv => whnf
          exact H _ _ _ hX (kp_refl _ _)
    · conv => whnf
      refine ⟨fun c => absurd (by decide) c, fun _ => ?_⟩
      conv => whnf
      exact H _ _ _ hX (kp_refl _ _)
  · conv => whnf
    refine ⟨fun _ => ?_, fun c => absurd (by decide) c⟩
    conv => whnf
    exact H _ _ _ hX (kp_refl _ _)
