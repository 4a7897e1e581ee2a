set_option maxRecDepth 100000 in
set_option maxHeartbeats 4000000 in
theorem sm_owner {d L : Nat} {f : Nat → Nat → Int32} {g : Nat → Nat → Int64} {x1 x2 : Int32} {R : Option Value → mH → Prop} (hd : 8 ≤ d) (hX : XI f) (H : ∀ v, R (some (.int v)) (shF L, f, g)) : Run mtab d 172 [.ref 181, .int x1, .int x2] (shF L, f, g) R := by
  obtain ⟨d, rfl⟩ : ∃ e, d = e + 1 := ⟨d - 1, by omega⟩
  refine go_X11_owner rfl ?_
  conv => whnf
  obtain ⟨n, hm, hb⟩ := inr_nat (n := 40) rfl (xi_181_0 hX)
  repeat' first
    | ((with_reducible refine ⟨vp_in_nI (by omega) (by decide), ?_⟩) <;> conv => whnf)
    | (refine ⟨Or.inl rfl, ?_⟩ <;> conv => whnf)
    | (refine ⟨Or.inr rfl, ?_⟩ <;> conv => whnf)
    | (refine ⟨Or.inl True.intro, ?_⟩ <;> conv => whnf)
    | (refine ⟨Or.inr True.intro, ?_⟩ <;> conv => whnf)
    | (refine ⟨fun c => ?_, fun c => ?_⟩ <;> first | ((have c9 : (1 : Int32) = 0 := by with_reducible exact c); exact absurd c9 (by decide)) | exact absurd (rfl : (0 : Int32) = 0) (by with_reducible exact c) | exact absurd True.intro (by with_reducible exact c) | exact False.elim (by with_reducible exact c) | (conv => whnf))
    | (refine ct_mIsWork (by omega) hb hm (fun j hj e => ?_) (fun q => ?_) <;> (try subst e) <;> conv => whnf)
    | (refine ct_mIsYear (by omega) (fun p => ?_) (fun p => ?_) <;> conv => whnf)
    | (refine ct_mIsSides (by omega) (fun p => ?_) (fun p => ?_) <;> conv => whnf)
    | (refine ct_mIsTold (by omega) (fun p => ?_) (fun p => ?_) <;> conv => whnf)
    | (refine ct_mIsSheet (by omega) (fun p => ?_) (fun p => ?_) <;> conv => whnf)
    | (refine sm_ownerOf (by omega) hX (fun v => ?_) <;> conv => whnf)
    | (refine ⟨by unfold vp_in; decide, ?_⟩ <;> conv => whnf)
    | fail
  all_goals exact H _
set_option maxRecDepth 100000 in
set_option maxHeartbeats 4000000 in
theorem sm_may {d L : Nat} {f : Nat → Nat → Int32} {g : Nat → Nat → Int64} {x1 x2 : Int32} {R : Option Value → mH → Prop} (hd : 8 ≤ d) (hX : XI f) (H : ∀ v, R (some (.int v)) (shF L, f, g)) : Run mtab d 173 [.ref 181, .int x1, .int x2] (shF L, f, g) R := by
  obtain ⟨d, rfl⟩ : ∃ e, d = e + 1 := ⟨d - 1, by omega⟩
  refine go_X11_may rfl ?_
  conv => whnf
  obtain ⟨n, hm, hb⟩ := inr_nat (n := 40) rfl (xi_181_0 hX)
  repeat' first
    | ((with_reducible refine ⟨vp_in_nI (by omega) (by decide), ?_⟩) <;> conv => whnf)
    | (refine ⟨Or.inl rfl, ?_⟩ <;> conv => whnf)
    | (refine ⟨Or.inr rfl, ?_⟩ <;> conv => whnf)
    | (refine ⟨Or.inl True.intro, ?_⟩ <;> conv => whnf)
    | (refine ⟨Or.inr True.intro, ?_⟩ <;> conv => whnf)
    | (refine ⟨fun c => ?_, fun c => ?_⟩ <;> first | ((have c9 : (1 : Int32) = 0 := by with_reducible exact c); exact absurd c9 (by decide)) | exact absurd (rfl : (0 : Int32) = 0) (by with_reducible exact c) | exact absurd True.intro (by with_reducible exact c) | exact False.elim (by with_reducible exact c) | (conv => whnf))
    | (refine ct_mIsWork (by omega) hb hm (fun j hj e => ?_) (fun q => ?_) <;> (try subst e) <;> conv => whnf)
    | (refine ct_mIsYear (by omega) (fun p => ?_) (fun p => ?_) <;> conv => whnf)
    | (refine ct_mIsSides (by omega) (fun p => ?_) (fun p => ?_) <;> conv => whnf)
    | (refine ct_mIsTold (by omega) (fun p => ?_) (fun p => ?_) <;> conv => whnf)
    | (refine ct_mIsSheet (by omega) (fun p => ?_) (fun p => ?_) <;> conv => whnf)
    | (refine sm_mayHold (by omega) hX (fun v => ?_) <;> conv => whnf)
    | (refine ⟨by unfold vp_in; decide, ?_⟩ <;> conv => whnf)
    | fail
  all_goals exact H _
set_option maxRecDepth 100000 in
set_option maxHeartbeats 4000000 in
theorem sm_twI_lp {d L n : Nat} {f : Nat → Nat → Int32} {g : Nat → Nat → Int64} {p : Nat} {w : Int32} {R : Option Value → mH → Prop} (hd : 1 ≤ d) (hX : XI f) (hb : f 181 14 = nI n) (hm : n ≤ 60) (hp : p < 60) (HO : ∀ (x' : Int32) (s3 s4 s5 s6 s7 : Option Value), x' = nI (p + 1) → WPe pg_X11_twice none (Run mtab d) R (m_drop pg_X11_twice 8) [some (.ref 181), some (.int w), some (.int x'), s3, s4, s5, s6, s7] [] (shF L, f, g)) (H : ∀ v, R (some (.int v)) (shF L, f, g)) :
    ∀ (k i : Nat) (x : Int32) (s4 : Option Value) (s5 : Option Value) (s6 : Option Value) (s7 : Option Value), i + k = n → x = nI i → WPe pg_X11_twice none (Run mtab d) R (m_drop pg_X11_twice 16) [some (.ref 181), some (.int w), some (.int (nI p)), some (.int x), s4, s5, s6, s7] [] (shF L, f, g)
  | 0, i, x, s4, s5, s6, s7, hi, hx => by
    have e : i = n := by omega
    subst hx
    subst e
    refine at_X11_twice ?_
    conv => whnf
    simp only [hb]
    refine ⟨fun c => ?_, fun c => absurd (nI_le (Nat.le_refl _) (by omega)) c⟩
    conv => whnf
    repeat' first
      | exact HO _ _ _ _ _ _ (nI_1 p)
      | (simp only [hb, nI_6m, nI_1, nI_k _ 2 2 rfl, nI_k _ 3 3 rfl, nI_k _ 4 4 rfl, nI_k _ 5 5 rfl, nI_k _ 6 6 rfl, nI_k _ 7 7 rfl, nI_k _ 8 8 rfl])
      | ((with_reducible refine ⟨vp_in_nI (by omega) (by decide), ?_⟩) <;> conv => whnf)
      | (refine ⟨Or.inl rfl, ?_⟩ <;> conv => whnf)
      | (refine ⟨Or.inr rfl, ?_⟩ <;> conv => whnf)
      | (refine ⟨Or.inl True.intro, ?_⟩ <;> conv => whnf)
      | (refine ⟨Or.inr True.intro, ?_⟩ <;> conv => whnf)
      | (refine ⟨fun c => ?_, fun c => ?_⟩ <;> first | ((have c9 : (1 : Int32) = 0 := by with_reducible exact c); exact absurd c9 (by decide)) | exact absurd (rfl : (0 : Int32) = 0) (by with_reducible exact c) | exact absurd True.intro (by with_reducible exact c) | exact False.elim (by with_reducible exact c) | (conv => whnf))
      | (refine ⟨by unfold vp_in; decide, ?_⟩ <;> conv => whnf)
      | fail
    all_goals exact H _
  | k + 1, i, x, s4, s5, s6, s7, hi, hx => by
    subst hx
    refine at_X11_twice ?_
    conv => whnf
    simp only [hb]
    refine ⟨fun c => absurd c (nI_ge (b := n) (by omega) (by omega)), fun c => ?_⟩
    conv => whnf
    repeat' first
      | exact sm_twI_lp hd hX hb hm hp HO H k (i + 1) _ _ _ _ _ (by omega) (nI_1 i)
      | (simp only [hb, nI_6m, nI_1, nI_k _ 2 2 rfl, nI_k _ 3 3 rfl, nI_k _ 4 4 rfl, nI_k _ 5 5 rfl, nI_k _ 6 6 rfl, nI_k _ 7 7 rfl, nI_k _ 8 8 rfl])
      | ((with_reducible refine ⟨vp_in_nI (by omega) (by decide), ?_⟩) <;> conv => whnf)
      | (refine ⟨Or.inl rfl, ?_⟩ <;> conv => whnf)
      | (refine ⟨Or.inr rfl, ?_⟩ <;> conv => whnf)
      | (refine ⟨Or.inl True.intro, ?_⟩ <;> conv => whnf)
      | (refine ⟨Or.inr True.intro, ?_⟩ <;> conv => whnf)
      | (refine ⟨fun c => ?_, fun c => ?_⟩ <;> first | ((have c9 : (1 : Int32) = 0 := by with_reducible exact c); exact absurd c9 (by decide)) | exact absurd (rfl : (0 : Int32) = 0) (by with_reducible exact c) | exact absurd True.intro (by with_reducible exact c) | exact False.elim (by with_reducible exact c) | (conv => whnf))
      | (refine ⟨by unfold vp_in; decide, ?_⟩ <;> conv => whnf)
      | fail
    all_goals exact H _
set_option maxRecDepth 100000 in
set_option maxHeartbeats 4000000 in
theorem sm_tw_lp {d L n : Nat} {f : Nat → Nat → Int32} {g : Nat → Nat → Int64} {w : Int32} {R : Option Value → mH → Prop} (hd : 1 ≤ d) (hX : XI f) (hb : f 181 14 = nI n) (hm : n ≤ 60) (H : ∀ v, R (some (.int v)) (shF L, f, g)) :
    ∀ (k i : Nat) (x : Int32) (s3 : Option Value) (s4 : Option Value) (s5 : Option Value) (s6 : Option Value) (s7 : Option Value), i + k = n → x = nI i → WPe pg_X11_twice none (Run mtab d) R (m_drop pg_X11_twice 8) [some (.ref 181), some (.int w), some (.int x), s3, s4, s5, s6, s7] [] (shF L, f, g)
  | 0, i, x, s3, s4, s5, s6, s7, hi, hx => by
    have e : i = n := by omega
    subst hx
    subst e
    refine at_X11_twice ?_
    conv => whnf
    simp only [hb]
    refine ⟨fun c => ?_, fun c => absurd (nI_le (Nat.le_refl _) (by omega)) c⟩
    conv => whnf
    repeat' first
      | (simp only [hb])
      | ((with_reducible refine ⟨vp_in_nI (by omega) (by decide), ?_⟩) <;> conv => whnf)
      | (refine ⟨Or.inl rfl, ?_⟩ <;> conv => whnf)
      | (refine ⟨Or.inr rfl, ?_⟩ <;> conv => whnf)
      | (refine ⟨Or.inl True.intro, ?_⟩ <;> conv => whnf)
      | (refine ⟨Or.inr True.intro, ?_⟩ <;> conv => whnf)
      | (refine ⟨fun c => ?_, fun c => ?_⟩ <;> first | ((have c9 : (1 : Int32) = 0 := by with_reducible exact c); exact absurd c9 (by decide)) | exact absurd (rfl : (0 : Int32) = 0) (by with_reducible exact c) | exact absurd True.intro (by with_reducible exact c) | exact False.elim (by with_reducible exact c) | (conv => whnf))
      | (refine ⟨by unfold vp_in; decide, ?_⟩ <;> conv => whnf)
      | fail
    all_goals exact H _
  | k + 1, i, x, s3, s4, s5, s6, s7, hi, hx => by
    subst hx
    refine at_X11_twice ?_
    conv => whnf
    simp only [hb]
    refine ⟨fun c => absurd c (nI_ge (b := n) (by omega) (by omega)), fun c => ?_⟩
    conv => whnf
    repeat' first
      | exact sm_tw_lp hd hX hb hm H k (i + 1) _ _ _ _ _ _ (by omega) (nI_1 i)
      | (rw [nI_1]; exact sm_twI_lp (p := i) hd hX hb hm (by omega) (fun x' s3 s4 s5 s6 s7 hx' => sm_tw_lp hd hX hb hm H k (i + 1) x' s3 s4 s5 s6 s7 (by omega) hx') H (n - (i + 1)) (i + 1) _ _ _ _ _ (by omega) rfl)
      | (simp only [hb])
      | ((with_reducible refine ⟨vp_in_nI (by omega) (by decide), ?_⟩) <;> conv => whnf)
      | (refine ⟨Or.inl rfl, ?_⟩ <;> conv => whnf)
      | (refine ⟨Or.inr rfl, ?_⟩ <;> conv => whnf)
      | (refine ⟨Or.inl True.intro, ?_⟩ <;> conv => whnf)
      | (refine ⟨Or.inr True.intro, ?_⟩ <;> conv => whnf)
      | (refine ⟨fun c => ?_, fun c => ?_⟩ <;> first | ((have c9 : (1 : Int32) = 0 := by with_reducible exact c); exact absurd c9 (by decide)) | exact absurd (rfl : (0 : Int32) = 0) (by with_reducible exact c) | exact absurd True.intro (by with_reducible exact c) | exact False.elim (by with_reducible exact c) | (conv => whnf))
      | (refine ⟨by unfold vp_in; decide, ?_⟩ <;> conv => whnf)
      | fail
    all_goals exact H _
set_option maxRecDepth 100000 in
set_option maxHeartbeats 4000000 in
theorem sm_twice {d L : Nat} {f : Nat → Nat → Int32} {g : Nat → Nat → Int64} {x1 : Int32} {R : Option Value → mH → Prop} (hd : 8 ≤ d) (hX : XI f) (H : ∀ v, R (some (.int v)) (shF L, f, g)) : Run mtab d 174 [.ref 181, .int x1] (shF L, f, g) R := by
  obtain ⟨d, rfl⟩ : ∃ e, d = e + 1 := ⟨d - 1, by omega⟩
  refine go_X11_twice rfl ?_
  conv => whnf
  obtain ⟨n, hm, hb⟩ := inr_nat (n := 40) rfl (xi_181_0 hX)
  obtain ⟨hn, hhm, hhb⟩ := inr_nat (n := 60) rfl (xi_181_14 hX)
  repeat' first
    | exact sm_tw_lp (by omega) hX hhb hhm H hn 0 _ _ _ _ _ _ (by omega) rfl
    | ((with_reducible refine ⟨vp_in_nI (by omega) (by decide), ?_⟩) <;> conv => whnf)
    | (refine ⟨Or.inl rfl, ?_⟩ <;> conv => whnf)
    | (refine ⟨Or.inr rfl, ?_⟩ <;> conv => whnf)
    | (refine ⟨Or.inl True.intro, ?_⟩ <;> conv => whnf)
    | (refine ⟨Or.inr True.intro, ?_⟩ <;> conv => whnf)
    | (refine ⟨fun c => ?_, fun c => ?_⟩ <;> first | ((have c9 : (1 : Int32) = 0 := by with_reducible exact c); exact absurd c9 (by decide)) | exact absurd (rfl : (0 : Int32) = 0) (by with_reducible exact c) | exact absurd True.intro (by with_reducible exact c) | exact False.elim (by with_reducible exact c) | (conv => whnf))
    | (refine ct_mIsWork (by omega) hb hm (fun j hj e => ?_) (fun q => ?_) <;> (try subst e) <;> conv => whnf)
    | (refine ⟨by unfold vp_in; decide, ?_⟩ <;> conv => whnf)
    | fail
  all_goals exact H _
set_option maxRecDepth 100000 in
set_option maxHeartbeats 4000000 in
theorem sm_gap_lp {d L : Nat} {f : Nat → Nat → Int32} {g : Nat → Nat → Int64} {w y : Int32} {R : Option Value → mH → Prop} (hd : 3 ≤ d) (hX : XI f) (H : ∀ v, R (some (.int v)) (shF L, f, g)) :
    ∀ (k i : Nat) (x : Int32), i + k = 2000 → x = nI i → WPe pg_X11_gap none (Run mtab d) R (m_drop pg_X11_gap 11) [some (.ref 181), some (.int w), some (.int y), some (.int x)] [] (shF L, f, g)
  | 0, i, x, hi, hx => by
    have e : i = 2000 := by omega
    subst hx
    subst e
    refine at_X11_gap ?_
    conv => whnf
    refine ⟨fun c => ?_, fun c => absurd (by decide) c⟩
    conv => whnf
    repeat' first
      | ((with_reducible refine ⟨vp_in_nI (by omega) (by decide), ?_⟩) <;> conv => whnf)
      | (refine ⟨Or.inl rfl, ?_⟩ <;> conv => whnf)
      | (refine ⟨Or.inr rfl, ?_⟩ <;> conv => whnf)
      | (refine ⟨Or.inl True.intro, ?_⟩ <;> conv => whnf)
      | (refine ⟨Or.inr True.intro, ?_⟩ <;> conv => whnf)
      | (refine ⟨fun c => ?_, fun c => ?_⟩ <;> first | ((have c9 : (1 : Int32) = 0 := by with_reducible exact c); exact absurd c9 (by decide)) | exact absurd (rfl : (0 : Int32) = 0) (by with_reducible exact c) | exact absurd True.intro (by with_reducible exact c) | exact False.elim (by with_reducible exact c) | (conv => whnf))
      | (refine sm_mayHold (by omega) hX (fun v => ?_) <;> conv => whnf)
      | (refine ⟨by unfold vp_in; decide, ?_⟩ <;> conv => whnf)
      | fail
    all_goals exact H _
  | k + 1, i, x, hi, hx => by
    subst hx
    refine at_X11_gap ?_
    conv => whnf
    refine ⟨fun c => absurd c (nI_nlt (a := 1999) (by omega) (by omega)), fun c => ?_⟩
    conv => whnf
    repeat' first
      | exact sm_gap_lp hd hX H k (i + 1) _  (by omega) (nI_1 i)
      | ((with_reducible refine ⟨vp_in_nI (by omega) (by decide), ?_⟩) <;> conv => whnf)
      | (refine ⟨Or.inl rfl, ?_⟩ <;> conv => whnf)
      | (refine ⟨Or.inr rfl, ?_⟩ <;> conv => whnf)
      | (refine ⟨Or.inl True.intro, ?_⟩ <;> conv => whnf)
      | (refine ⟨Or.inr True.intro, ?_⟩ <;> conv => whnf)
      | (refine ⟨fun c => ?_, fun c => ?_⟩ <;> first | ((have c9 : (1 : Int32) = 0 := by with_reducible exact c); exact absurd c9 (by decide)) | exact absurd (rfl : (0 : Int32) = 0) (by with_reducible exact c) | exact absurd True.intro (by with_reducible exact c) | exact False.elim (by with_reducible exact c) | (conv => whnf))
      | (refine sm_mayHold (by omega) hX (fun v => ?_) <;> conv => whnf)
      | (refine ⟨by unfold vp_in; decide, ?_⟩ <;> conv => whnf)
      | fail
    all_goals exact H _
theorem yr_nat {y : Int32} (hy : inr 1800 1999 y) : ∃ j, j ≤ 1999 ∧ y = nI j := nI_of2 (n := 1999) rfl (i32_nlt.mpr (by
  have := Int32.le_iff_toInt_le.mp hy.1
  rw [Int32.le_iff_toInt_le]
  have e0 : (0 : Int32).toInt = 0 := rfl
  have e1 : (1800 : Int32).toInt = 1800 := rfl
  omega)) hy.2
set_option maxRecDepth 100000 in
set_option maxHeartbeats 4000000 in
theorem sm_gap {d L : Nat} {f : Nat → Nat → Int32} {g : Nat → Nat → Int64} {x1 x2 : Int32} {R : Option Value → mH → Prop} (hd : 8 ≤ d) (hX : XI f) (H : ∀ v, R (some (.int v)) (shF L, f, g)) : Run mtab d 175 [.ref 181, .int x1, .int x2] (shF L, f, g) R := by
  obtain ⟨d, rfl⟩ : ∃ e, d = e + 1 := ⟨d - 1, by omega⟩
  refine go_X11_gap rfl ?_
  conv => whnf
  obtain ⟨n, hm, hb⟩ := inr_nat (n := 40) rfl (xi_181_0 hX)
  repeat' first
    | (obtain ⟨j9, hj9, e9⟩ := yr_nat ‹inr 1800 1999 _›; exact sm_gap_lp (by omega) hX H (2000 - j9) j9 _ (by omega) e9)
    | ((with_reducible refine ⟨vp_in_nI (by omega) (by decide), ?_⟩) <;> conv => whnf)
    | (refine ⟨Or.inl rfl, ?_⟩ <;> conv => whnf)
    | (refine ⟨Or.inr rfl, ?_⟩ <;> conv => whnf)
    | (refine ⟨Or.inl True.intro, ?_⟩ <;> conv => whnf)
    | (refine ⟨Or.inr True.intro, ?_⟩ <;> conv => whnf)
    | (refine ⟨fun c => ?_, fun c => ?_⟩ <;> first | ((have c9 : (1 : Int32) = 0 := by with_reducible exact c); exact absurd c9 (by decide)) | exact absurd (rfl : (0 : Int32) = 0) (by with_reducible exact c) | exact absurd True.intro (by with_reducible exact c) | exact False.elim (by with_reducible exact c) | (conv => whnf))
    | (refine ct_mIsWork (by omega) hb hm (fun j hj e => ?_) (fun q => ?_) <;> (try subst e) <;> conv => whnf)
    | (refine ct_mIsYear (by omega) (fun p => ?_) (fun p => ?_) <;> conv => whnf)
    | (refine ct_mIsSides (by omega) (fun p => ?_) (fun p => ?_) <;> conv => whnf)
    | (refine ct_mIsTold (by omega) (fun p => ?_) (fun p => ?_) <;> conv => whnf)
    | (refine ct_mIsSheet (by omega) (fun p => ?_) (fun p => ?_) <;> conv => whnf)
    | (refine ⟨by unfold vp_in; decide, ?_⟩ <;> conv => whnf)
    | fail
  all_goals exact H _
theorem inr_c5 {x : Int32} (h : inr 0 5 x) : ∃ t, t ≤ 5 ∧ x = nI t := inr_nat (n := 5) rfl h
set_option maxRecDepth 100000 in
set_option maxHeartbeats 4000000 in
theorem sm_votes {d L : Nat} {f : Nat → Nat → Int32} {g : Nat → Nat → Int64} {x1 x2 : Int32} {R : Option Value → mH → Prop} (hd : 8 ≤ d) (hX : XI f) (H : ∀ v, R (some (.int v)) (shF L, f, g)) : Run mtab d 226 [.ref 181, .int x1, .int x2] (shF L, f, g) R := by
  obtain ⟨d, rfl⟩ : ∃ e, d = e + 1 := ⟨d - 1, by omega⟩
  refine go_X11_votes rfl ?_
  conv => whnf
  obtain ⟨vn, hvn, hvb⟩ := inr_nat (n := 60) rfl (xi_181_48 hX)
  simp only [hvb]
  refine ct_in (by omega) rfl (lo := 0) rfl rfl (fun p => ?_) (fun p => ?_)
  · obtain ⟨j, hj, rfl⟩ := inr_cnt (by omega) p
    conv => whnf
    refine ⟨fun c => absurd c (by decide), fun _ => ?_⟩
    conv => whnf
    refine ct_in (by omega) rfl (lo := 0) rfl (hi := 5) rfl (fun p2 => ?_) (fun p2 => ?_)
    · obtain ⟨t, ht, rfl⟩ := inr_c5 p2
      conv => whnf
      refine ⟨fun c => absurd c (by decide), fun _ => ?_⟩
      conv => whnf
      simp only [nI_6m, nI_add]
      refine ⟨vp_in_nI (by omega) (by decide), ?_⟩
      conv => whnf
      exact H _
    · conv => whnf
      refine ⟨fun _ => ?_, fun c => absurd (by decide) c⟩
      conv => whnf
      exact H _
  · conv => whnf
    refine ⟨fun _ => ?_, fun c => absurd (by decide) c⟩
    conv => whnf
    exact H _
set_option maxRecDepth 100000 in
set_option maxHeartbeats 4000000 in
theorem sm_isAsOf {d L : Nat} {f : Nat → Nat → Int32} {g : Nat → Nat → Int64} {x y : Int32} {R : Option Value → mH → Prop} (hd : 2 ≤ d) (hX : XI f) (H1 : ∀ k, k ≤ 60 → y = nI k → R (some (.int 1)) (shF L, f, g)) (H0 : R (some (.int 0)) (shF L, f, g)) : Run mtab d 228 [.ref 181, .int x, .int y] (shF L, f, g) R := by
  obtain ⟨d, rfl⟩ : ∃ e, d = e + 1 := ⟨d - 1, by omega⟩
  refine go_X11_isAsOf rfl ?_
  conv => whnf
  obtain ⟨vn, hvn, hvb⟩ := inr_nat (n := 60) rfl (xi_181_48 hX)
  repeat' first
    | (simp only [hvb])
    | ((with_reducible refine ⟨vp_in_nI (by omega) (by decide), ?_⟩) <;> conv => whnf)
    | (refine ⟨Or.inl rfl, ?_⟩ <;> conv => whnf)
    | (refine ⟨Or.inr rfl, ?_⟩ <;> conv => whnf)
    | (refine ⟨Or.inl True.intro, ?_⟩ <;> conv => whnf)
    | (refine ⟨Or.inr True.intro, ?_⟩ <;> conv => whnf)
    | (refine ⟨fun c => ?_, fun c => ?_⟩ <;> first | ((have c9 : (1 : Int32) = 0 := by with_reducible exact c); exact absurd c9 (by decide)) | exact absurd (rfl : (0 : Int32) = 0) (by with_reducible exact c) | exact absurd True.intro (by with_reducible exact c) | exact False.elim (by with_reducible exact c) | (conv => whnf))
    | ((with_reducible refine ct_i_0_9999 (by omega) (fun p => ?_) (fun p => ?_)) <;> conv => whnf)
    | ((with_reducible refine ct_i_0_v (by omega) (fun p => ?_) (fun p => ?_)) <;> conv => whnf)
    | (refine ⟨by unfold vp_in; decide, ?_⟩ <;> conv => whnf)
    | fail
  all_goals first | exact H0 | (obtain ⟨k, hk, e⟩ := inr_nat (n := vn) (nI_toInt (by omega)) ‹inr 0 (nI vn) y›; exact H1 k (by omega) e)
set_option maxRecDepth 100000 in
set_option maxHeartbeats 4000000 in
theorem sm_state {d L : Nat} {f : Nat → Nat → Int32} {g : Nat → Nat → Int64} {x1 x2 x3 : Int32} {R : Option Value → mH → Prop} (hd : 8 ≤ d) (hX : XI f) (H : ∀ v, R (some (.int v)) (shF L, f, g)) : Run mtab d 229 [.ref 181, .int x1, .int x2, .int x3] (shF L, f, g) R := by
  obtain ⟨d, rfl⟩ : ∃ e, d = e + 1 := ⟨d - 1, by omega⟩
  refine go_X11_state rfl ?_
  conv => whnf
  obtain ⟨n, hm, hb⟩ := inr_nat (n := 40) rfl (xi_181_0 hX)
  repeat' first
    | ((with_reducible refine ⟨vp_in_nI (by omega) (by decide), ?_⟩) <;> conv => whnf)
    | (refine ⟨Or.inl rfl, ?_⟩ <;> conv => whnf)
    | (refine ⟨Or.inr rfl, ?_⟩ <;> conv => whnf)
    | (refine ⟨Or.inl True.intro, ?_⟩ <;> conv => whnf)
    | (refine ⟨Or.inr True.intro, ?_⟩ <;> conv => whnf)
    | (refine ⟨fun c => ?_, fun c => ?_⟩ <;> first | ((have c9 : (1 : Int32) = 0 := by with_reducible exact c); exact absurd c9 (by decide)) | exact absurd (rfl : (0 : Int32) = 0) (by with_reducible exact c) | exact absurd True.intro (by with_reducible exact c) | exact False.elim (by with_reducible exact c) | (conv => whnf))
    | (refine ct_mIsWork (by omega) hb hm (fun j hj e => ?_) (fun q => ?_) <;> (try subst e) <;> conv => whnf)
    | (refine sm_isAsOf (by omega) hX (fun kk hk e => ?_) ?_ <;> (try subst e) <;> conv => whnf)
    | (refine sm_stateOf (by omega) hX hk (fun v => ?_) <;> conv => whnf)
    | (refine ⟨by unfold vp_in; decide, ?_⟩ <;> conv => whnf)
    | fail
  all_goals exact H _
theorem par_lt {o : Int32} {t : Nat} (h : o.toInt < (t : Int)) (h0 : ¬ o < 0) : ∃ u, u < t ∧ o = nI u := by
  obtain ⟨u, hu, rfl⟩ := nI_of h0
  rw [nI_toInt hu] at h
  exact ⟨u, by omega, rfl⟩
theorem par_lt' {o : Int32} {u : Nat} (h : o < nI u) (hu : u < 2 ^ 31) : o.toInt < (u : Int) := by
  rw [Int32.lt_iff_toInt_lt, nI_toInt hu] at h
  exact h
set_option maxRecDepth 100000 in
set_option maxHeartbeats 4000000 in
theorem sm_unI_lp {d L n p : Nat} {f : Nat → Nat → Int32} {g : Nat → Nat → Int64} {v : Nat} {y : Int32} {a : Int32} {R : Option Value → mH → Prop} (hd : 2 ≤ d) (hX : XI f) (hI : MI f) (hb : f 181 0 = nI n) (hm : n ≤ 40) (hp : p < n) (hk : v ≤ 60) (HO : ∀ (a' x' : Int32) (s1 s2 : Option Value), x' = nI (p + 1) → WPe pg_X11_unsure none (Run mtab d) R (m_drop pg_X11_unsure 11) [some (.ref 181), some (.int y), some (.int (nI v)), some (.int a'), some (.int x'), s1, s2] [] (shF L, f, g)) :
    ∀ (t : Nat) (o b : Int32), t ≤ n → o.toInt < (t : Int) → WPe pg_X11_unsure none (Run mtab d) R (m_drop pg_X11_unsure 22) [some (.ref 181), some (.int y), some (.int (nI v)), some (.int a), some (.int (nI p)), some (.int b), some (.int o)] [] (shF L, f, g)
  | 0, o, b, ht, ho => by
    have h0 : o < 0 := by
      rw [Int32.lt_iff_toInt_lt]
      have e0 : (0 : Int32).toInt = 0 := rfl
      omega
    refine at_X11_unsure ?_
    conv => whnf
    refine ⟨fun c => ?_, fun c => absurd h0 c⟩
    conv => whnf
    repeat' first
      | exact HO _ _ _ _ (nI_1 p)
      | ((with_reducible refine ⟨vp_in_nI (by omega) (by decide), ?_⟩) <;> conv => whnf)
      | (refine ⟨Or.inl rfl, ?_⟩ <;> conv => whnf)
      | (refine ⟨Or.inr rfl, ?_⟩ <;> conv => whnf)
      | (refine ⟨Or.inl True.intro, ?_⟩ <;> conv => whnf)
      | (refine ⟨Or.inr True.intro, ?_⟩ <;> conv => whnf)
      | (refine ⟨fun c => ?_, fun c => ?_⟩ <;> first | ((have c9 : (1 : Int32) = 0 := by with_reducible exact c); exact absurd c9 (by decide)) | exact absurd (rfl : (0 : Int32) = 0) (by with_reducible exact c) | exact absurd True.intro (by with_reducible exact c) | exact False.elim (by with_reducible exact c) | (conv => whnf))
      | (refine sm_stateOf (by omega) hX hk (fun v => ?_) <;> conv => whnf)
      | (refine ⟨by unfold vp_in; decide, ?_⟩ <;> conv => whnf)
      | fail
  | t + 1, o, b, ht, ho => by
    refine at_X11_unsure ?_
    conv => whnf
    refine ⟨fun c => ?_, fun c0 => ?_⟩
    · conv => whnf
      repeat' first
        | exact HO _ _ _ _ (nI_1 p)
        | ((with_reducible refine ⟨vp_in_nI (by omega) (by decide), ?_⟩) <;> conv => whnf)
        | (refine ⟨Or.inl rfl, ?_⟩ <;> conv => whnf)
        | (refine ⟨Or.inr rfl, ?_⟩ <;> conv => whnf)
        | (refine ⟨Or.inl True.intro, ?_⟩ <;> conv => whnf)
        | (refine ⟨Or.inr True.intro, ?_⟩ <;> conv => whnf)
        | (refine ⟨fun c => ?_, fun c => ?_⟩ <;> first | ((have c9 : (1 : Int32) = 0 := by with_reducible exact c); exact absurd c9 (by decide)) | exact absurd (rfl : (0 : Int32) = 0) (by with_reducible exact c) | exact absurd True.intro (by with_reducible exact c) | exact False.elim (by with_reducible exact c) | (conv => whnf))
        | (refine sm_stateOf (by omega) hX hk (fun v => ?_) <;> conv => whnf)
        | (refine ⟨by unfold vp_in; decide, ?_⟩ <;> conv => whnf)
        | fail
    · obtain ⟨u, hu, rfl⟩ := par_lt ho c0
      have hcl : (nI u).toNatClampNeg = u := nI_clamp (by omega)
      have hpu := (hI n hm hb u (by omega)).2
      conv => whnf
      repeat' first
        | exact sm_unI_lp hd hX hI hb hm hp hk HO t _ _ (by omega) (by have := par_lt' hpu (by omega); omega)
        | (simp only [hcl])
        | ((with_reducible refine ⟨vp_in_nI (by omega) (by decide), ?_⟩) <;> conv => whnf)
        | (refine ⟨Or.inl rfl, ?_⟩ <;> conv => whnf)
        | (refine ⟨Or.inr rfl, ?_⟩ <;> conv => whnf)
        | (refine ⟨Or.inl True.intro, ?_⟩ <;> conv => whnf)
        | (refine ⟨Or.inr True.intro, ?_⟩ <;> conv => whnf)
        | (refine ⟨fun c => ?_, fun c => ?_⟩ <;> first | ((have c9 : (1 : Int32) = 0 := by with_reducible exact c); exact absurd c9 (by decide)) | exact absurd (rfl : (0 : Int32) = 0) (by with_reducible exact c) | exact absurd True.intro (by with_reducible exact c) | exact False.elim (by with_reducible exact c) | (conv => whnf))
        | (refine sm_stateOf (by omega) hX hk (fun v => ?_) <;> conv => whnf)
        | (refine ⟨by unfold vp_in; decide, ?_⟩ <;> conv => whnf)
        | fail
set_option maxRecDepth 100000 in
set_option maxHeartbeats 4000000 in
theorem sm_un_lp {d L n : Nat} {f : Nat → Nat → Int32} {g : Nat → Nat → Int64} {v : Nat} {y : Int32} {R : Option Value → mH → Prop} (hd : 2 ≤ d) (hX : XI f) (hb : f 181 0 = nI n) (hm : n ≤ 40) (hI : MI f) (hk : v ≤ 60) (H : ∀ v, R (some (.int v)) (shF L, f, g)) :
    ∀ (k i : Nat) (x : Int32) (a : Int32) (s1 : Option Value) (s2 : Option Value), i + k = n → x = nI i → WPe pg_X11_unsure none (Run mtab d) R (m_drop pg_X11_unsure 11) [some (.ref 181), some (.int y), some (.int (nI v)), some (.int a), some (.int x), s1, s2] [] (shF L, f, g)
  | 0, i, x, a, s1, s2, hi, hx => by
    have e : i = n := by omega
    subst hx
    subst e
    refine at_X11_unsure ?_
    conv => whnf
    simp only [hb]
    refine ⟨fun c => ?_, fun c => absurd (nI_le (Nat.le_refl _) (by omega)) c⟩
    conv => whnf
    repeat' first
      | (simp only [hb, show (nI i).toNatClampNeg = i from nI_clamp (by omega)])
      | ((with_reducible refine ⟨vp_in_nI (by omega) (by decide), ?_⟩) <;> conv => whnf)
      | (refine ⟨Or.inl rfl, ?_⟩ <;> conv => whnf)
      | (refine ⟨Or.inr rfl, ?_⟩ <;> conv => whnf)
      | (refine ⟨Or.inl True.intro, ?_⟩ <;> conv => whnf)
      | (refine ⟨Or.inr True.intro, ?_⟩ <;> conv => whnf)
      | (refine ⟨fun c => ?_, fun c => ?_⟩ <;> first | ((have c9 : (1 : Int32) = 0 := by with_reducible exact c); exact absurd c9 (by decide)) | exact absurd (rfl : (0 : Int32) = 0) (by with_reducible exact c) | exact absurd True.intro (by with_reducible exact c) | exact False.elim (by with_reducible exact c) | (conv => whnf))
      | (refine ⟨by unfold vp_in; decide, ?_⟩ <;> conv => whnf)
      | fail
    all_goals exact H _
  | k + 1, i, x, a, s1, s2, hi, hx => by
    subst hx
    refine at_X11_unsure ?_
    conv => whnf
    simp only [hb]
    refine ⟨fun c => absurd c (nI_ge (b := n) (by omega) (by omega)), fun c => ?_⟩
    conv => whnf
    repeat' first
      | exact sm_un_lp hd hX hb hm hI hk H k (i + 1) _ _ _ _ (by omega) (nI_1 i)
      | exact sm_unI_lp (n := n) (p := i) hd hX hI hb hm (by omega) hk (fun a' x' s1 s2 hx' => sm_un_lp hd hX hb hm hI hk H k (i + 1) x' a' s1 s2 (by omega) hx') i _ _ (by omega) (par_lt' (hI n hm hb i (by omega)).2 (by omega))
      | (simp only [hb, show (nI i).toNatClampNeg = i from nI_clamp (by omega)])
      | ((with_reducible refine ⟨vp_in_nI (by omega) (by decide), ?_⟩) <;> conv => whnf)
      | (refine ⟨Or.inl rfl, ?_⟩ <;> conv => whnf)
      | (refine ⟨Or.inr rfl, ?_⟩ <;> conv => whnf)
      | (refine ⟨Or.inl True.intro, ?_⟩ <;> conv => whnf)
      | (refine ⟨Or.inr True.intro, ?_⟩ <;> conv => whnf)
      | (refine ⟨fun c => ?_, fun c => ?_⟩ <;> first | ((have c9 : (1 : Int32) = 0 := by with_reducible exact c); exact absurd c9 (by decide)) | exact absurd (rfl : (0 : Int32) = 0) (by with_reducible exact c) | exact absurd True.intro (by with_reducible exact c) | exact False.elim (by with_reducible exact c) | (conv => whnf))
      | (refine ⟨by unfold vp_in; decide, ?_⟩ <;> conv => whnf)
      | fail
    all_goals exact H _
set_option maxRecDepth 100000 in
set_option maxHeartbeats 4000000 in
theorem sm_unsure {d L : Nat} {f : Nat → Nat → Int32} {g : Nat → Nat → Int64} {x1 x2 : Int32} {R : Option Value → mH → Prop} (hd : 8 ≤ d) (hX : XI f) (hI : MI f) (H : ∀ v, R (some (.int v)) (shF L, f, g)) : Run mtab d 230 [.ref 181, .int x1, .int x2] (shF L, f, g) R := by
  obtain ⟨d, rfl⟩ : ∃ e, d = e + 1 := ⟨d - 1, by omega⟩
  refine go_X11_unsure rfl ?_
  conv => whnf
  obtain ⟨n, hm, hb⟩ := inr_nat (n := 40) rfl (xi_181_0 hX)
  repeat' first
    | exact sm_un_lp (by omega) hX hb hm hI hk H n 0 _ _ _ _ (by omega) rfl
    | ((with_reducible refine ⟨vp_in_nI (by omega) (by decide), ?_⟩) <;> conv => whnf)
    | (refine ⟨Or.inl rfl, ?_⟩ <;> conv => whnf)
    | (refine ⟨Or.inr rfl, ?_⟩ <;> conv => whnf)
    | (refine ⟨Or.inl True.intro, ?_⟩ <;> conv => whnf)
    | (refine ⟨Or.inr True.intro, ?_⟩ <;> conv => whnf)
    | (refine ⟨fun c => ?_, fun c => ?_⟩ <;> first | ((have c9 : (1 : Int32) = 0 := by with_reducible exact c); exact absurd c9 (by decide)) | exact absurd (rfl : (0 : Int32) = 0) (by with_reducible exact c) | exact absurd True.intro (by with_reducible exact c) | exact False.elim (by with_reducible exact c) | (conv => whnf))
    | (refine sm_isAsOf (by omega) hX (fun kk hk e => ?_) ?_ <;> (try subst e) <;> conv => whnf)
    | (refine ⟨by unfold vp_in; decide, ?_⟩ <;> conv => whnf)
    | fail
  all_goals exact H _
set_option maxRecDepth 100000 in
set_option maxHeartbeats 4000000 in
theorem sm_leI_lp {d L n p : Nat} {f : Nat → Nat → Int32} {g : Nat → Nat → Int64} {y : Int32} {a : Int32} {R : Option Value → mH → Prop} (hd : 2 ≤ d) (hX : XI f) (hI : MI f) (hb : f 181 0 = nI n) (hm : n ≤ 40) (hp : p < n) (HO : ∀ (a' x' : Int32) (s1 s2 : Option Value), x' = nI (p + 1) → WPe pg_X11_leaning none (Run mtab d) R (m_drop pg_X11_leaning 10) [some (.ref 181), some (.int y), some (.int a'), some (.int x'), s1, s2] [] (shF L, f, g)) :
    ∀ (t : Nat) (o b : Int32), t ≤ n → o.toInt < (t : Int) → WPe pg_X11_leaning none (Run mtab d) R (m_drop pg_X11_leaning 21) [some (.ref 181), some (.int y), some (.int a), some (.int (nI p)), some (.int b), some (.int o)] [] (shF L, f, g)
  | 0, o, b, ht, ho => by
    have h0 : o < 0 := by
      rw [Int32.lt_iff_toInt_lt]
      have e0 : (0 : Int32).toInt = 0 := rfl
      omega
    refine at_X11_leaning ?_
    conv => whnf
    refine ⟨fun c => ?_, fun c => absurd h0 c⟩
    conv => whnf
    repeat' first
      | exact HO _ _ _ _ (nI_1 p)
      | ((with_reducible refine ⟨vp_in_nI (by omega) (by decide), ?_⟩) <;> conv => whnf)
      | (refine ⟨Or.inl rfl, ?_⟩ <;> conv => whnf)
      | (refine ⟨Or.inr rfl, ?_⟩ <;> conv => whnf)
      | (refine ⟨Or.inl True.intro, ?_⟩ <;> conv => whnf)
      | (refine ⟨Or.inr True.intro, ?_⟩ <;> conv => whnf)
      | (refine ⟨fun c => ?_, fun c => ?_⟩ <;> first | ((have c9 : (1 : Int32) = 0 := by with_reducible exact c); exact absurd c9 (by decide)) | exact absurd (rfl : (0 : Int32) = 0) (by with_reducible exact c) | exact absurd True.intro (by with_reducible exact c) | exact False.elim (by with_reducible exact c) | (conv => whnf))
      | (refine ⟨by unfold vp_in; decide, ?_⟩ <;> conv => whnf)
      | fail
  | t + 1, o, b, ht, ho => by
    refine at_X11_leaning ?_
    conv => whnf
    refine ⟨fun c => ?_, fun c0 => ?_⟩
    · conv => whnf
      repeat' first
        | exact HO _ _ _ _ (nI_1 p)
        | ((with_reducible refine ⟨vp_in_nI (by omega) (by decide), ?_⟩) <;> conv => whnf)
        | (refine ⟨Or.inl rfl, ?_⟩ <;> conv => whnf)
        | (refine ⟨Or.inr rfl, ?_⟩ <;> conv => whnf)
        | (refine ⟨Or.inl True.intro, ?_⟩ <;> conv => whnf)
        | (refine ⟨Or.inr True.intro, ?_⟩ <;> conv => whnf)
        | (refine ⟨fun c => ?_, fun c => ?_⟩ <;> first | ((have c9 : (1 : Int32) = 0 := by with_reducible exact c); exact absurd c9 (by decide)) | exact absurd (rfl : (0 : Int32) = 0) (by with_reducible exact c) | exact absurd True.intro (by with_reducible exact c) | exact False.elim (by with_reducible exact c) | (conv => whnf))
        | (refine ⟨by unfold vp_in; decide, ?_⟩ <;> conv => whnf)
        | fail
    · obtain ⟨u, hu, rfl⟩ := par_lt ho c0
      have hcl : (nI u).toNatClampNeg = u := nI_clamp (by omega)
      have hpu := (hI n hm hb u (by omega)).2
      conv => whnf
      repeat' first
        | exact sm_leI_lp hd hX hI hb hm hp HO t _ _ (by omega) (by have := par_lt' hpu (by omega); omega)
        | (simp only [hcl])
        | ((with_reducible refine ⟨vp_in_nI (by omega) (by decide), ?_⟩) <;> conv => whnf)
        | (refine ⟨Or.inl rfl, ?_⟩ <;> conv => whnf)
        | (refine ⟨Or.inr rfl, ?_⟩ <;> conv => whnf)
        | (refine ⟨Or.inl True.intro, ?_⟩ <;> conv => whnf)
        | (refine ⟨Or.inr True.intro, ?_⟩ <;> conv => whnf)
        | (refine ⟨fun c => ?_, fun c => ?_⟩ <;> first | ((have c9 : (1 : Int32) = 0 := by with_reducible exact c); exact absurd c9 (by decide)) | exact absurd (rfl : (0 : Int32) = 0) (by with_reducible exact c) | exact absurd True.intro (by with_reducible exact c) | exact False.elim (by with_reducible exact c) | (conv => whnf))
        | (refine ⟨by unfold vp_in; decide, ?_⟩ <;> conv => whnf)
        | fail
set_option maxRecDepth 100000 in
set_option maxHeartbeats 4000000 in
theorem sm_le_lp {d L n : Nat} {f : Nat → Nat → Int32} {g : Nat → Nat → Int64} {y : Int32} {R : Option Value → mH → Prop} (hd : 2 ≤ d) (hX : XI f) (hb : f 181 0 = nI n) (hm : n ≤ 40) (hI : MI f) (H : ∀ v, R (some (.int v)) (shF L, f, g)) :
    ∀ (k i : Nat) (x : Int32) (a : Int32) (s1 : Option Value) (s2 : Option Value), i + k = n → x = nI i → WPe pg_X11_leaning none (Run mtab d) R (m_drop pg_X11_leaning 10) [some (.ref 181), some (.int y), some (.int a), some (.int x), s1, s2] [] (shF L, f, g)
  | 0, i, x, a, s1, s2, hi, hx => by
    have e : i = n := by omega
    subst hx
    subst e
    refine at_X11_leaning ?_
    conv => whnf
    simp only [hb]
    refine ⟨fun c => ?_, fun c => absurd (nI_le (Nat.le_refl _) (by omega)) c⟩
    conv => whnf
    repeat' first
      | (simp only [hb, show (nI i).toNatClampNeg = i from nI_clamp (by omega)])
      | ((with_reducible refine ⟨vp_in_nI (by omega) (by decide), ?_⟩) <;> conv => whnf)
      | (refine ⟨Or.inl rfl, ?_⟩ <;> conv => whnf)
      | (refine ⟨Or.inr rfl, ?_⟩ <;> conv => whnf)
      | (refine ⟨Or.inl True.intro, ?_⟩ <;> conv => whnf)
      | (refine ⟨Or.inr True.intro, ?_⟩ <;> conv => whnf)
      | (refine ⟨fun c => ?_, fun c => ?_⟩ <;> first | ((have c9 : (1 : Int32) = 0 := by with_reducible exact c); exact absurd c9 (by decide)) | exact absurd (rfl : (0 : Int32) = 0) (by with_reducible exact c) | exact absurd True.intro (by with_reducible exact c) | exact False.elim (by with_reducible exact c) | (conv => whnf))
      | (refine ⟨by unfold vp_in; decide, ?_⟩ <;> conv => whnf)
      | fail
    all_goals exact H _
  | k + 1, i, x, a, s1, s2, hi, hx => by
    subst hx
    refine at_X11_leaning ?_
    conv => whnf
    simp only [hb]
    refine ⟨fun c => absurd c (nI_ge (b := n) (by omega) (by omega)), fun c => ?_⟩
    conv => whnf
    repeat' first
      | exact sm_le_lp hd hX hb hm hI H k (i + 1) _ _ _ _ (by omega) (nI_1 i)
      | exact sm_leI_lp (n := n) (p := i) hd hX hI hb hm (by omega) (fun a' x' s1 s2 hx' => sm_le_lp hd hX hb hm hI H k (i + 1) x' a' s1 s2 (by omega) hx') i _ _ (by omega) (par_lt' (hI n hm hb i (by omega)).2 (by omega))
      | (simp only [hb, show (nI i).toNatClampNeg = i from nI_clamp (by omega)])
      | ((with_reducible refine ⟨vp_in_nI (by omega) (by decide), ?_⟩) <;> conv => whnf)
      | (refine ⟨Or.inl rfl, ?_⟩ <;> conv => whnf)
      | (refine ⟨Or.inr rfl, ?_⟩ <;> conv => whnf)
      | (refine ⟨Or.inl True.intro, ?_⟩ <;> conv => whnf)
      | (refine ⟨Or.inr True.intro, ?_⟩ <;> conv => whnf)
      | (refine ⟨fun c => ?_, fun c => ?_⟩ <;> first | ((have c9 : (1 : Int32) = 0 := by with_reducible exact c); exact absurd c9 (by decide)) | exact absurd (rfl : (0 : Int32) = 0) (by with_reducible exact c) | exact absurd True.intro (by with_reducible exact c) | exact False.elim (by with_reducible exact c) | (conv => whnf))
      | (refine ⟨by unfold vp_in; decide, ?_⟩ <;> conv => whnf)
      | fail
    all_goals exact H _
set_option maxRecDepth 100000 in
set_option maxHeartbeats 4000000 in
theorem sm_leaning {d L : Nat} {f : Nat → Nat → Int32} {g : Nat → Nat → Int64} {x1 : Int32} {R : Option Value → mH → Prop} (hd : 8 ≤ d) (hX : XI f) (hI : MI f) (H : ∀ v, R (some (.int v)) (shF L, f, g)) : Run mtab d 231 [.ref 181, .int x1] (shF L, f, g) R := by
  obtain ⟨d, rfl⟩ : ∃ e, d = e + 1 := ⟨d - 1, by omega⟩
  refine go_X11_leaning rfl ?_
  conv => whnf
  obtain ⟨n, hm, hb⟩ := inr_nat (n := 40) rfl (xi_181_0 hX)
  repeat' first
    | exact sm_le_lp (by omega) hX hb hm hI H n 0 _ _ _ _ (by omega) rfl
    | ((with_reducible refine ⟨vp_in_nI (by omega) (by decide), ?_⟩) <;> conv => whnf)
    | (refine ⟨Or.inl rfl, ?_⟩ <;> conv => whnf)
    | (refine ⟨Or.inr rfl, ?_⟩ <;> conv => whnf)
    | (refine ⟨Or.inl True.intro, ?_⟩ <;> conv => whnf)
    | (refine ⟨Or.inr True.intro, ?_⟩ <;> conv => whnf)
    | (refine ⟨fun c => ?_, fun c => ?_⟩ <;> first | ((have c9 : (1 : Int32) = 0 := by with_reducible exact c); exact absurd c9 (by decide)) | exact absurd (rfl : (0 : Int32) = 0) (by with_reducible exact c) | exact absurd True.intro (by with_reducible exact c) | exact False.elim (by with_reducible exact c) | (conv => whnf))
    | (refine ct_mIsWork (by omega) hb hm (fun j hj e => ?_) (fun q => ?_) <;> (try subst e) <;> conv => whnf)
    | (refine ⟨by unfold vp_in; decide, ?_⟩ <;> conv => whnf)
    | fail
  all_goals exact H _
set_option maxRecDepth 100000 in
set_option maxHeartbeats 4000000 in
theorem sm_cnt_lp {d L n : Nat} {f : Nat → Nat → Int32} {g : Nat → Nat → Int64} {w : Int32} {vn : Nat} {R : Option Value → mH → Prop} (hd : 3 ≤ d) (hX : XI f) (hb : f 181 0 = nI n) (hm : n ≤ 40) (hvb : f 181 48 = nI vn) (hk : vn ≤ 60) (H : ∀ v, R (some (.int v)) (shF L, f, g)) :
    ∀ (k i : Nat) (x : Int32) (a : Int32), i + k = n → x = nI i → WPe pg_X11_count none (Run mtab d) R (m_drop pg_X11_count 24) [some (.ref 181), some (.int w), some (.int a), some (.int x)] [] (shF L, f, g)
  | 0, i, x, a, hi, hx => by
    have e : i = n := by omega
    subst hx
    subst e
    refine at_X11_count ?_
    conv => whnf
    simp only [hb]
    refine ⟨fun c => ?_, fun c => absurd (nI_le (Nat.le_refl _) (by omega)) c⟩
    conv => whnf
    repeat' first
      | (simp only [hb, hvb])
      | ((with_reducible refine ⟨vp_in_nI (by omega) (by decide), ?_⟩) <;> conv => whnf)
      | (refine ⟨Or.inl rfl, ?_⟩ <;> conv => whnf)
      | (refine ⟨Or.inr rfl, ?_⟩ <;> conv => whnf)
      | (refine ⟨Or.inl True.intro, ?_⟩ <;> conv => whnf)
      | (refine ⟨Or.inr True.intro, ?_⟩ <;> conv => whnf)
      | (refine ⟨fun c => ?_, fun c => ?_⟩ <;> first | ((have c9 : (1 : Int32) = 0 := by with_reducible exact c); exact absurd c9 (by decide)) | exact absurd (rfl : (0 : Int32) = 0) (by with_reducible exact c) | exact absurd True.intro (by with_reducible exact c) | exact False.elim (by with_reducible exact c) | (conv => whnf))
      | (refine sm_stateOf (by omega) hX hk (fun v => ?_) <;> conv => whnf)
      | (refine ⟨by unfold vp_in; decide, ?_⟩ <;> conv => whnf)
      | fail
    all_goals exact H _
  | k + 1, i, x, a, hi, hx => by
    subst hx
    refine at_X11_count ?_
    conv => whnf
    simp only [hb]
    refine ⟨fun c => absurd c (nI_ge (b := n) (by omega) (by omega)), fun c => ?_⟩
    conv => whnf
    repeat' first
      | exact sm_cnt_lp hd hX hb hm hvb hk H k (i + 1) _ _ (by omega) (nI_1 i)
      | (simp only [hb, hvb])
      | ((with_reducible refine ⟨vp_in_nI (by omega) (by decide), ?_⟩) <;> conv => whnf)
      | (refine ⟨Or.inl rfl, ?_⟩ <;> conv => whnf)
      | (refine ⟨Or.inr rfl, ?_⟩ <;> conv => whnf)
      | (refine ⟨Or.inl True.intro, ?_⟩ <;> conv => whnf)
      | (refine ⟨Or.inr True.intro, ?_⟩ <;> conv => whnf)
      | (refine ⟨fun c => ?_, fun c => ?_⟩ <;> first | ((have c9 : (1 : Int32) = 0 := by with_reducible exact c); exact absurd c9 (by decide)) | exact absurd (rfl : (0 : Int32) = 0) (by with_reducible exact c) | exact absurd True.intro (by with_reducible exact c) | exact False.elim (by with_reducible exact c) | (conv => whnf))
      | (refine sm_stateOf (by omega) hX hk (fun v => ?_) <;> conv => whnf)
      | (refine ⟨by unfold vp_in; decide, ?_⟩ <;> conv => whnf)
      | fail
    all_goals exact H _
set_option maxRecDepth 100000 in
set_option maxHeartbeats 4000000 in
theorem sm_count {d L : Nat} {f : Nat → Nat → Int32} {g : Nat → Nat → Int64} {x1 : Int32} {R : Option Value → mH → Prop} (hd : 8 ≤ d) (hX : XI f) (H : ∀ v, R (some (.int v)) (shF L, f, g)) : Run mtab d 235 [.ref 181, .int x1] (shF L, f, g) R := by
  obtain ⟨d, rfl⟩ : ∃ e, d = e + 1 := ⟨d - 1, by omega⟩
  refine go_X11_count rfl ?_
  conv => whnf
  obtain ⟨n, hm, hb⟩ := inr_nat (n := 40) rfl (xi_181_0 hX)
  obtain ⟨vn, hvn, hvb⟩ := inr_nat (n := 60) rfl (xi_181_48 hX)
  repeat' first
    | exact sm_cnt_lp (by omega) hX hb hm hvb hvn H n 0 _ _ (by omega) rfl
    | ((with_reducible refine ⟨vp_in_nI (by omega) (by decide), ?_⟩) <;> conv => whnf)
    | (refine ⟨Or.inl rfl, ?_⟩ <;> conv => whnf)
    | (refine ⟨Or.inr rfl, ?_⟩ <;> conv => whnf)
    | (refine ⟨Or.inl True.intro, ?_⟩ <;> conv => whnf)
    | (refine ⟨Or.inr True.intro, ?_⟩ <;> conv => whnf)
    | (refine ⟨fun c => ?_, fun c => ?_⟩ <;> first | ((have c9 : (1 : Int32) = 0 := by with_reducible exact c); exact absurd c9 (by decide)) | exact absurd (rfl : (0 : Int32) = 0) (by with_reducible exact c) | exact absurd True.intro (by with_reducible exact c) | exact False.elim (by with_reducible exact c) | (conv => whnf))
    | (refine ⟨by unfold vp_in; decide, ?_⟩ <;> conv => whnf)
    | (refine ⟨fun c => ?_, ?_⟩ <;> conv => whnf)
    | (intro c; conv => whnf)
    | fail
  all_goals exact H _
set_option maxRecDepth 100000 in
set_option maxHeartbeats 4000000 in
theorem sm_number {d L : Nat} {f : Nat → Nat → Int32} {g : Nat → Nat → Int64} {x1 : Int32} {R : Option Value → mH → Prop} (hd : 8 ≤ d) (hX : XI f) (H : ∀ v, R (some (.int v)) (shF L, f, g)) : Run mtab d 234 [.ref 181, .int x1] (shF L, f, g) R := by
  obtain ⟨d, rfl⟩ : ∃ e, d = e + 1 := ⟨d - 1, by omega⟩
  refine go_X11_number_ rfl ?_
  conv => whnf
  obtain ⟨n, hm, hb⟩ := inr_nat (n := 40) rfl (xi_181_0 hX)
  repeat' first
    | ((with_reducible refine ⟨vp_in_nI (by omega) (by decide), ?_⟩) <;> conv => whnf)
    | (refine ⟨Or.inl rfl, ?_⟩ <;> conv => whnf)
    | (refine ⟨Or.inr rfl, ?_⟩ <;> conv => whnf)
    | (refine ⟨Or.inl True.intro, ?_⟩ <;> conv => whnf)
    | (refine ⟨Or.inr True.intro, ?_⟩ <;> conv => whnf)
    | (refine ⟨fun c => ?_, fun c => ?_⟩ <;> first | ((have c9 : (1 : Int32) = 0 := by with_reducible exact c); exact absurd c9 (by decide)) | exact absurd (rfl : (0 : Int32) = 0) (by with_reducible exact c) | exact absurd True.intro (by with_reducible exact c) | exact False.elim (by with_reducible exact c) | (conv => whnf))
    | (refine ct_mIsWork (by omega) hb hm (fun j hj e => ?_) (fun q => ?_) <;> (try subst e) <;> conv => whnf)
    | (refine ⟨by unfold vp_in; decide, ?_⟩ <;> conv => whnf)
    | fail
  all_goals exact H _
set_option maxRecDepth 100000 in
set_option maxHeartbeats 4000000 in
theorem sm_ruleOf {d L : Nat} {f : Nat → Nat → Int32} {g : Nat → Nat → Int64} {x1 : Int32} {R : Option Value → mH → Prop} (hd : 1 ≤ d) (hX : XI f) (q : inr 0 3 x1) (H : ∀ v, inr (-1) 3 v → R (some (.int v)) (shF L, f, g)) : Run mtab d 222 [.ref 181, .int x1] (shF L, f, g) R := by
  obtain ⟨d, rfl⟩ : ∃ e, d = e + 1 := ⟨d - 1, by omega⟩
  refine go_X11_ruleOf rfl ?_
  conv => whnf
  rcases inr_c3 q with rfl | rfl | rfl | rfl
  all_goals
    repeat' first
      | ((with_reducible refine ⟨vp_in_nI (by omega) (by decide), ?_⟩) <;> conv => whnf)
      | (refine ⟨Or.inl rfl, ?_⟩ <;> conv => whnf)
      | (refine ⟨Or.inr rfl, ?_⟩ <;> conv => whnf)
      | (refine ⟨Or.inl True.intro, ?_⟩ <;> conv => whnf)
      | (refine ⟨Or.inr True.intro, ?_⟩ <;> conv => whnf)
      | (refine ⟨fun c => ?_, fun c => ?_⟩ <;> first | ((have c9 : (1 : Int32) = 0 := by with_reducible exact c); exact absurd c9 (by decide)) | exact absurd (rfl : (0 : Int32) = 0) (by with_reducible exact c) | exact absurd True.intro (by with_reducible exact c) | exact False.elim (by with_reducible exact c) | exact absurd c (by decide) | exact absurd (by decide) c | (conv => whnf))
      | (refine at_X11_ruleOf ?_ <;> conv => whnf)
      | (refine ⟨by unfold vp_in; decide, ?_⟩ <;> conv => whnf)
      | fail
  all_goals exact H _ (by unfold inr; decide)
set_option maxRecDepth 100000 in
set_option maxHeartbeats 4000000 in
theorem sm_rulePart {d L : Nat} {f : Nat → Nat → Int32} {g : Nat → Nat → Int64} {x1 x2 : Int32} {R : Option Value → mH → Prop} (hd : 2 ≤ d) (hX : XI f) (q : inr 0 3 x1) (H : ∀ v, R (some (.int v)) (shF L, f, g)) : Run mtab d 223 [.ref 181, .int x1, .int x2] (shF L, f, g) R := by
  obtain ⟨d, rfl⟩ : ∃ e, d = e + 1 := ⟨d - 1, by omega⟩
  refine go_X11_rulePart rfl ?_
  conv => whnf
  repeat' first
    | ((with_reducible refine ⟨vpi2 hv (by with_reducible assumption) (by decide), ?_⟩) <;> conv => whnf)
    | ((with_reducible refine ⟨vpi2 hv (i32_nlt.mpr (by with_reducible assumption)) (by decide), ?_⟩) <;> conv => whnf)
    | ((with_reducible refine ⟨vp_in_nI (by omega) (by decide), ?_⟩) <;> conv => whnf)
    | (refine ⟨Or.inl rfl, ?_⟩ <;> conv => whnf)
    | (refine ⟨Or.inr rfl, ?_⟩ <;> conv => whnf)
    | (refine ⟨Or.inl True.intro, ?_⟩ <;> conv => whnf)
    | (refine ⟨Or.inr True.intro, ?_⟩ <;> conv => whnf)
    | (refine ⟨fun c => ?_, fun c => ?_⟩ <;> first | ((have c9 : (1 : Int32) = 0 := by with_reducible exact c); exact absurd c9 (by decide)) | exact absurd (rfl : (0 : Int32) = 0) (by with_reducible exact c) | exact absurd True.intro (by with_reducible exact c) | exact False.elim (by with_reducible exact c) | (conv => whnf))
    | (refine sm_ruleOf (by omega) hX q (fun v hv => ?_) <;> conv => whnf)
    | (refine ⟨by unfold vp_in; decide, ?_⟩ <;> conv => whnf)
    | fail
  all_goals exact H _
set_option maxRecDepth 100000 in
set_option maxHeartbeats 4000000 in
theorem sm_rule {d L : Nat} {f : Nat → Nat → Int32} {g : Nat → Nat → Int64} {x1 x2 : Int32} {R : Option Value → mH → Prop} (hd : 8 ≤ d) (hX : XI f) (H : ∀ v, R (some (.int v)) (shF L, f, g)) : Run mtab d 224 [.ref 181, .int x1, .int x2] (shF L, f, g) R := by
  obtain ⟨d, rfl⟩ : ∃ e, d = e + 1 := ⟨d - 1, by omega⟩
  refine go_X11_rule rfl ?_
  conv => whnf
  repeat' first
    | ((with_reducible refine ⟨vp_in_nI (by omega) (by decide), ?_⟩) <;> conv => whnf)
    | (refine ⟨Or.inl rfl, ?_⟩ <;> conv => whnf)
    | (refine ⟨Or.inr rfl, ?_⟩ <;> conv => whnf)
    | (refine ⟨Or.inl True.intro, ?_⟩ <;> conv => whnf)
    | (refine ⟨Or.inr True.intro, ?_⟩ <;> conv => whnf)
    | (refine ⟨fun c => ?_, fun c => ?_⟩ <;> first | ((have c9 : (1 : Int32) = 0 := by with_reducible exact c); exact absurd c9 (by decide)) | exact absurd (rfl : (0 : Int32) = 0) (by with_reducible exact c) | exact absurd True.intro (by with_reducible exact c) | exact False.elim (by with_reducible exact c) | (conv => whnf))
    | ((with_reducible refine ct_i_0_3 (by omega) (fun p => ?_) (fun p => ?_)) <;> conv => whnf)
    | ((with_reducible refine ct_i_0_2 (by omega) (fun p => ?_) (fun p => ?_)) <;> conv => whnf)
    | (refine sm_rulePart (by omega) hX ‹inr 0 3 x1› (fun v => ?_) <;> conv => whnf)
    | (refine ⟨by unfold vp_in; decide, ?_⟩ <;> conv => whnf)
    | fail
  all_goals exact H _
set_option maxRecDepth 100000 in
set_option maxHeartbeats 4000000 in
theorem sm_isHolding {d L : Nat} {f : Nat → Nat → Int32} {g : Nat → Nat → Int64} {x1 x2 x3 x4 x5 x6 : Int32} {R : Option Value → mH → Prop} (hd : 4 ≤ d) (hX : XI f) (H : ∀ v, (v = 0 ∨ v = 1) → R (some (.int v)) (shF L, f, g)) : Run mtab d 166 [.ref 181, .int x1, .int x2, .int x3, .int x4, .int x5, .int x6] (shF L, f, g) R := by
  obtain ⟨d, rfl⟩ : ∃ e, d = e + 1 := ⟨d - 1, by omega⟩
  refine go_X11_isHolding rfl ?_
  conv => whnf
  obtain ⟨n, hm, hb⟩ := inr_nat (n := 40) rfl (xi_181_0 hX)
  repeat' first
    | ((with_reducible refine ⟨vp_in_nI (by omega) (by decide), ?_⟩) <;> conv => whnf)
    | (refine ⟨Or.inl rfl, ?_⟩ <;> conv => whnf)
    | (refine ⟨Or.inr rfl, ?_⟩ <;> conv => whnf)
    | (refine ⟨Or.inl True.intro, ?_⟩ <;> conv => whnf)
    | (refine ⟨Or.inr True.intro, ?_⟩ <;> conv => whnf)
    | (refine ⟨fun c => ?_, fun c => ?_⟩ <;> first | ((have c9 : (1 : Int32) = 0 := by with_reducible exact c); exact absurd c9 (by decide)) | exact absurd (rfl : (0 : Int32) = 0) (by with_reducible exact c) | exact absurd True.intro (by with_reducible exact c) | exact False.elim (by with_reducible exact c) | (conv => whnf))
    | (refine ct_mIsWork (by omega) hb hm (fun j hj e => ?_) (fun q => ?_) <;> (try subst e) <;> conv => whnf)
    | (refine ct_mIsYear (by omega) (fun p => ?_) (fun p => ?_) <;> conv => whnf)
    | (refine ct_mIsSides (by omega) (fun p => ?_) (fun p => ?_) <;> conv => whnf)
    | (refine ct_mIsTold (by omega) (fun p => ?_) (fun p => ?_) <;> conv => whnf)
    | (refine ct_mIsSheet (by omega) (fun p => ?_) (fun p => ?_) <;> conv => whnf)
    | ((with_reducible refine ct_i_0_19 (by omega) (fun p => ?_) (fun p => ?_)) <;> conv => whnf)
    | (refine ⟨by unfold vp_in; decide, ?_⟩ <;> conv => whnf)
    | fail
  all_goals first | exact ⟨Or.inl rfl, H _ (Or.inl rfl)⟩ | exact ⟨Or.inr rfl, H _ (Or.inr rfl)⟩ | exact H _ (Or.inl rfl) | exact H _ (Or.inr rfl)
set_option maxRecDepth 100000 in
set_option maxHeartbeats 4000000 in
theorem sm_keepHolding {d L : Nat} {f : Nat → Nat → Int32} {g : Nat → Nat → Int64} {n : Nat} {x1 x2 x3 x4 x5 x6 : Int32} {R : Option Value → mH → Prop} (hd : 1 ≤ d) (hX : XI f) (hb : f 181 14 = nI n) (hn : n < 60) (H : ∀ f' g', XI f' → kp [10, 12] f f' → f' 181 14 = nI (n + 1) → R none (shF L, f', g')) : Run mtab d 167 [.ref 181, .int x1, .int x2, .int x3, .int x4, .int x5, .int x6] (shF L, f, g) R := by
  obtain ⟨d, rfl⟩ : ∃ e, d = e + 1 := ⟨d - 1, by omega⟩
  refine go_X11_keepHolding rfl ?_
  conv => whnf
  repeat' first
    | (simp only [hb, nI_6m, nI_9m, nI_1, nI_k _ 2 2 rfl, nI_k _ 3 3 rfl, nI_k _ 4 4 rfl, nI_k _ 5 5 rfl, nI_k _ 6 6 rfl, nI_k _ 7 7 rfl, nI_k _ 8 8 rfl, m_ui_ap, m_fil_ap, m_cpy_ap, Nat.reduceEqDiff, Nat.reduceLT, Nat.reduceLeDiff, eq_self, ↓reduceIte, false_and, and_false, true_and, and_true, and_self])
    | ((with_reducible refine ⟨vp_in_nI (by omega) (by decide), ?_⟩) <;> conv => whnf)
    | (refine ⟨Or.inl rfl, ?_⟩ <;> conv => whnf)
    | (refine ⟨Or.inr rfl, ?_⟩ <;> conv => whnf)
    | (refine ⟨Or.inl True.intro, ?_⟩ <;> conv => whnf)
    | (refine ⟨Or.inr True.intro, ?_⟩ <;> conv => whnf)
    | (refine ⟨fun c => ?_, fun c => ?_⟩ <;> first | ((have c9 : (1 : Int32) = 0 := by with_reducible exact c); exact absurd c9 (by decide)) | exact absurd (rfl : (0 : Int32) = 0) (by with_reducible exact c) | exact absurd True.intro (by with_reducible exact c) | exact False.elim (by with_reducible exact c) | (conv => whnf))
    | (refine ⟨by unfold vp_in; decide, ?_⟩ <;> conv => whnf)
    | fail
  all_goals exact H _ _ (by repeat' first | (with_reducible assumption) | (with_reducible refine XI_ui ?_ ?_) | (with_reducible refine XI_fil ?_ (fun _ => ?_)) | (with_reducible refine XI_cpy ?_ (fun _ _ => ?_)) | exact True.intro | ((show inr _ _ _); first | (with_reducible assumption) | ((with_reducible refine inr_n1 (m := 60) ?_ ?_ ?_) <;> first | omega | rfl | decide) | ((with_reducible refine inr_n (m := 60) ?_ ?_ ?_) <;> first | omega | rfl | decide) | (unfold inr; decide)) | fail) (by repeat' first | (with_reducible exact kp_refl _ _) | (with_reducible assumption) | (with_reducible refine kp_ui ?_ ?_) | (with_reducible refine kp_fil ?_ ?_) | (with_reducible refine kp_cpy ?_ ?_) | rfl | fail) (by simp only [m_ui_ap, m_fil_ap, m_cpy_ap, Nat.reduceEqDiff, Nat.reduceLT, Nat.reduceLeDiff, eq_self, ↓reduceIte, false_and, and_false, true_and, and_true, and_self])
