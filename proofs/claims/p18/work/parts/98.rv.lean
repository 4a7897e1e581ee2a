def SX_owner (n h : Nat) (f : Nat → Nat → Int32) (x1 x2 v : Int32) : Prop := (¬ (hasw n x1 ∧ inr 1800 1999 x2) ∧ v = -1) ∨ ((hasw n x1 ∧ inr 1800 1999 x2) ∧ v = ownl (fun a => ¬ a = -4) (PO f 104 105 x1 x2) (fun i => f 102 i) h 0 (-4))
def SM_owner (n h : Nat) (f : Nat → Nat → Int32) (x1 x2 v : Int32) : Prop := (¬ (hasw n x1 ∧ inr 1800 1999 x2) ∧ v = -1) ∨ ((hasw n x1 ∧ inr 1800 1999 x2) ∧ v = ownl (fun a => ¬ a < 0) (PM f 3 4 x1 x2) (fun i => f 195 (6 * i + 1)) h 0 (-4))
def SX_may (n h : Nat) (f : Nat → Nat → Int32) (x1 x2 v : Int32) : Prop := (¬ (hasw n x1 ∧ inr 1800 1999 x2) ∧ v = -1) ∨ ((hasw n x1 ∧ inr 1800 1999 x2) ∧ v = mayl (PO f 103 106 x1 x2) (fun i => f 102 i) h 0 0)
def SM_may (n h : Nat) (f : Nat → Nat → Int32) (x1 x2 v : Int32) : Prop := (¬ (hasw n x1 ∧ inr 1800 1999 x2) ∧ v = -1) ∨ ((hasw n x1 ∧ inr 1800 1999 x2) ∧ v = mayl (PM f 2 5 x1 x2) (fun i => f 195 (6 * i + 1)) h 0 0)
set_option maxRecDepth 100000 in
set_option maxHeartbeats 4000000 in
theorem sf_owner {d L : Nat} {f : Nat → Nat → Int32} {g : Nat → Nat → Int64} {n h : Nat} {x1 x2 : Int32} {R : Option Value → mH → Prop} (hd : 6 ≤ d) (hb : f 6 13 = nI n) (hm : n ≤ 40) (hhb : f 100 6 = nI h) (hhm : h ≤ 60) (H : ∀ v, SX_owner n h f x1 x2 v → R (some (.int v)) (shF L, f, g)) : Run mtab d 100 [.ref 5, .int x1, .int x2] (shF L, f, g) R := by
  obtain ⟨d, rfl⟩ : ∃ e, d = e + 1 := ⟨d - 1, by omega⟩
  refine go_X10_owner rfl ?_
  conv => whnf
  repeat' first
    | ((with_reducible refine ⟨vp_in_nI (by omega) (by decide), ?_⟩) <;> conv => whnf)
    | (refine ⟨Or.inl rfl, ?_⟩ <;> conv => whnf)
    | (refine ⟨Or.inr rfl, ?_⟩ <;> conv => whnf)
    | (refine ⟨Or.inl True.intro, ?_⟩ <;> conv => whnf)
    | (refine ⟨Or.inr True.intro, ?_⟩ <;> conv => whnf)
    | (refine ⟨fun c => ?_, fun c => ?_⟩ <;> first | ((have c9 : (1 : Int32) = 0 := by with_reducible exact c); exact absurd c9 (by decide)) | exact absurd (rfl : (0 : Int32) = 0) (by with_reducible exact c) | exact absurd True.intro (by with_reducible exact c) | exact False.elim (by with_reducible exact c) | (conv => whnf))
    | (refine ct_has (by omega) hb hm (fun j hj e => ?_) (fun q => ?_) <;> (try subst e) <;> conv => whnf)
    | (refine ct_isYear (by omega) (fun p => ?_) (fun p => ?_) <;> conv => whnf)
    | (refine sf_theOwner (by omega) hhb hhm ?_ <;> conv => whnf)
    | (refine ⟨by unfold vp_in; decide, ?_⟩ <;> conv => whnf)
    | fail
  all_goals first | exact H _ (Or.inl ⟨fun hh => absurd hh.1 (nhasw (by with_reducible assumption)), rfl⟩) | exact H _ (Or.inl ⟨fun hh => absurd hh.2 (by with_reducible assumption), rfl⟩) | exact H _ (Or.inr ⟨⟨⟨_, hj, rfl⟩, by with_reducible assumption⟩, rfl⟩)
set_option maxRecDepth 100000 in
set_option maxHeartbeats 4000000 in
theorem sf_may {d L : Nat} {f : Nat → Nat → Int32} {g : Nat → Nat → Int64} {n h : Nat} {x1 x2 : Int32} {R : Option Value → mH → Prop} (hd : 6 ≤ d) (hb : f 6 13 = nI n) (hm : n ≤ 40) (hhb : f 100 6 = nI h) (hhm : h ≤ 60) (H : ∀ v, SX_may n h f x1 x2 v → R (some (.int v)) (shF L, f, g)) : Run mtab d 101 [.ref 5, .int x1, .int x2] (shF L, f, g) R := by
  obtain ⟨d, rfl⟩ : ∃ e, d = e + 1 := ⟨d - 1, by omega⟩
  refine go_X10_may rfl ?_
  conv => whnf
  repeat' first
    | ((with_reducible refine ⟨vp_in_nI (by omega) (by decide), ?_⟩) <;> conv => whnf)
    | (refine ⟨Or.inl rfl, ?_⟩ <;> conv => whnf)
    | (refine ⟨Or.inr rfl, ?_⟩ <;> conv => whnf)
    | (refine ⟨Or.inl True.intro, ?_⟩ <;> conv => whnf)
    | (refine ⟨Or.inr True.intro, ?_⟩ <;> conv => whnf)
    | (refine ⟨fun c => ?_, fun c => ?_⟩ <;> first | ((have c9 : (1 : Int32) = 0 := by with_reducible exact c); exact absurd c9 (by decide)) | exact absurd (rfl : (0 : Int32) = 0) (by with_reducible exact c) | exact absurd True.intro (by with_reducible exact c) | exact False.elim (by with_reducible exact c) | (conv => whnf))
    | (refine ct_has (by omega) hb hm (fun j hj e => ?_) (fun q => ?_) <;> (try subst e) <;> conv => whnf)
    | (refine ct_isYear (by omega) (fun p => ?_) (fun p => ?_) <;> conv => whnf)
    | (refine sf_whoMay (by omega) hhb hhm ?_ <;> conv => whnf)
    | (refine ⟨by unfold vp_in; decide, ?_⟩ <;> conv => whnf)
    | fail
  all_goals first | exact H _ (Or.inl ⟨fun hh => absurd hh.1 (nhasw (by with_reducible assumption)), rfl⟩) | exact H _ (Or.inl ⟨fun hh => absurd hh.2 (by with_reducible assumption), rfl⟩) | exact H _ (Or.inr ⟨⟨⟨_, hj, rfl⟩, by with_reducible assumption⟩, rfl⟩)
set_option maxRecDepth 100000 in
set_option maxHeartbeats 4000000 in
theorem smf_owner {d L : Nat} {f : Nat → Nat → Int32} {g : Nat → Nat → Int64} {n h : Nat} {x1 x2 : Int32} {R : Option Value → mH → Prop} (hd : 6 ≤ d) (hb : f 181 0 = nI n) (hm : n ≤ 40) (hhb : f 181 14 = nI h) (hhm : h ≤ 60) (H : ∀ v, SM_owner n h f x1 x2 v → R (some (.int v)) (shF L, f, g)) : Run mtab d 172 [.ref 181, .int x1, .int x2] (shF L, f, g) R := by
  obtain ⟨d, rfl⟩ : ∃ e, d = e + 1 := ⟨d - 1, by omega⟩
  refine go_X11_owner rfl ?_
  conv => whnf
  repeat' first
    | ((with_reducible refine ⟨vp_in_nI (by omega) (by decide), ?_⟩) <;> conv => whnf)
    | (refine ⟨Or.inl rfl, ?_⟩ <;> conv => whnf)
    | (refine ⟨Or.inr rfl, ?_⟩ <;> conv => whnf)
    | (refine ⟨Or.inl True.intro, ?_⟩ <;> conv => whnf)
    | (refine ⟨Or.inr True.intro, ?_⟩ <;> conv => whnf)
    | (refine ⟨fun c => ?_, fun c => ?_⟩ <;> first | ((have c9 : (1 : Int32) = 0 := by with_reducible exact c); exact absurd c9 (by decide)) | exact absurd (rfl : (0 : Int32) = 0) (by with_reducible exact c) | exact absurd True.intro (by with_reducible exact c) | exact False.elim (by with_reducible exact c) | (conv => whnf))
    | (refine ct_mIsWork (by omega) hb hm (fun j hj e => ?_) (fun q => ?_) <;> (try subst e) <;> conv => whnf)
    | (refine ct_mIsYear (by omega) (fun p => ?_) (fun p => ?_) <;> conv => whnf)
    | (refine smf_ownerOf (by omega) hhb hhm ?_ <;> conv => whnf)
    | (refine ⟨by unfold vp_in; decide, ?_⟩ <;> conv => whnf)
    | fail
  all_goals first | exact H _ (Or.inl ⟨fun hh => absurd hh.1 (nhasw (by with_reducible assumption)), rfl⟩) | exact H _ (Or.inl ⟨fun hh => absurd hh.2 (by with_reducible assumption), rfl⟩) | exact H _ (Or.inr ⟨⟨⟨_, hj, rfl⟩, by with_reducible assumption⟩, rfl⟩)
set_option maxRecDepth 100000 in
set_option maxHeartbeats 4000000 in
theorem smf_may {d L : Nat} {f : Nat → Nat → Int32} {g : Nat → Nat → Int64} {n h : Nat} {x1 x2 : Int32} {R : Option Value → mH → Prop} (hd : 6 ≤ d) (hb : f 181 0 = nI n) (hm : n ≤ 40) (hhb : f 181 14 = nI h) (hhm : h ≤ 60) (H : ∀ v, SM_may n h f x1 x2 v → R (some (.int v)) (shF L, f, g)) : Run mtab d 173 [.ref 181, .int x1, .int x2] (shF L, f, g) R := by
  obtain ⟨d, rfl⟩ : ∃ e, d = e + 1 := ⟨d - 1, by omega⟩
  refine go_X11_may rfl ?_
  conv => whnf
  repeat' first
    | ((with_reducible refine ⟨vp_in_nI (by omega) (by decide), ?_⟩) <;> conv => whnf)
    | (refine ⟨Or.inl rfl, ?_⟩ <;> conv => whnf)
    | (refine ⟨Or.inr rfl, ?_⟩ <;> conv => whnf)
    | (refine ⟨Or.inl True.intro, ?_⟩ <;> conv => whnf)
    | (refine ⟨Or.inr True.intro, ?_⟩ <;> conv => whnf)
    | (refine ⟨fun c => ?_, fun c => ?_⟩ <;> first | ((have c9 : (1 : Int32) = 0 := by with_reducible exact c); exact absurd c9 (by decide)) | exact absurd (rfl : (0 : Int32) = 0) (by with_reducible exact c) | exact absurd True.intro (by with_reducible exact c) | exact False.elim (by with_reducible exact c) | (conv => whnf))
    | (refine ct_mIsWork (by omega) hb hm (fun j hj e => ?_) (fun q => ?_) <;> (try subst e) <;> conv => whnf)
    | (refine ct_mIsYear (by omega) (fun p => ?_) (fun p => ?_) <;> conv => whnf)
    | (refine smf_mayHold (by omega) hhb hhm ?_ <;> conv => whnf)
    | (refine ⟨by unfold vp_in; decide, ?_⟩ <;> conv => whnf)
    | fail
  all_goals first | exact H _ (Or.inl ⟨fun hh => absurd hh.1 (nhasw (by with_reducible assumption)), rfl⟩) | exact H _ (Or.inl ⟨fun hh => absurd hh.2 (by with_reducible assumption), rfl⟩) | exact H _ (Or.inr ⟨⟨⟨_, hj, rfl⟩, by with_reducible assumption⟩, rfl⟩)
theorem fin_owner {n h : Nat} {f : Nat → Nat → Int32} {x1 x2 v1 v2 : Int32} (hO : RO h f) (s1 : SX_owner n h f x1 x2 v1) (s2 : SM_owner n h f x1 x2 v2) : v1 = v2 := by
  rcases s1 with ⟨q1, rfl⟩ | ⟨p1, rfl⟩
  · rcases s2 with ⟨q2, rfl⟩ | ⟨p2, rfl⟩
    · rfl
    · exact absurd p2 q1
  · rcases s2 with ⟨q2, rfl⟩ | ⟨p2, rfl⟩
    · exact absurd p1 q2
    · exact own_RO hO x1 x2
theorem fin_may {n h : Nat} {f : Nat → Nat → Int32} {x1 x2 v1 v2 : Int32} (hO : RO h f) (s1 : SX_may n h f x1 x2 v1) (s2 : SM_may n h f x1 x2 v2) : v1 = v2 := by
  rcases s1 with ⟨q1, rfl⟩ | ⟨p1, rfl⟩
  · rcases s2 with ⟨q2, rfl⟩ | ⟨p2, rfl⟩
    · rfl
    · exact absurd p2 q1
  · rcases s2 with ⟨q2, rfl⟩ | ⟨p2, rfl⟩
    · exact absurd p1 q2
    · exact may_RO hO x1 x2
/-- what holds between calls, with sheets and holdings -/
def GJ (f : Nat → Nat → Int32) : Prop := GI f ∧ RS f ∧ ∃ h, RO h f
def okj (l : List Nat) : Bool := okl l && (!hasN l 8 && (!hasN l 18 && (!hasN l 2 && !hasN l 12)))
theorem okj_of {l : List Nat} (h : okj l = true) : okl l = true ∧ hasN l 8 = false ∧ hasN l 18 = false ∧ hasN l 2 = false ∧ hasN l 12 = false := by
  unfold okj at h
  simp only [Bool.and_eq_true, Bool.not_eq_true'] at h
  exact h
theorem GJ_x {l : List Nat} {f f' : Nat → Nat → Int32} (h : GJ f) (x : XI f') (k : kp l f f') (hl : okj l = true) : GJ f' := by
  obtain ⟨l0, l8, l18, l2, l12⟩ := okj_of hl
  obtain ⟨a, b, c, d⟩ := h
  exact ⟨GI_x a x k l0, RS_kp k l8 l18 b, c, RO_kp k l2 l12 d⟩
theorem GJ_xE {f f' : Nat → Nat → Int32} (h : GJ f) (x : XI f') (k : kp [0, 7] f f') (e : EI f') : GJ f' := by
  obtain ⟨a, b, c, d⟩ := h
  exact ⟨GI_xE a x k e, RS_kp k rfl rfl b, c, RO_kp k rfl rfl d⟩
theorem GJ_w {f f1 f2 : Nat → Nat → Int32} (h : GJ f) (k1 : kp [1] f f1) (k2 : kp [10, 11, 22] f1 f2) (g : GI f2) : GJ f2 := by
  obtain ⟨a, b, c, d⟩ := h
  exact ⟨g, RS_kp k2 rfl rfl (RS_kp k1 rfl rfl b), c, RO_kp k2 rfl rfl (RO_kp k1 rfl rfl d)⟩
theorem GI_2 {l l' : List Nat} {f f1 f2 : Nat → Nat → Int32} (h : GI f) (k1 : kp l f f1) (k2 : kp l' f1 f2) (x : XI f2) (hl : okl l = true) (hl' : okl l' = true) : GI f2 := by
  obtain ⟨a, b, c, n, d⟩ := h
  obtain ⟨l1, l7, l11, l20⟩ := okl_of hl
  obtain ⟨m1, m7, m11, m20⟩ := okl_of hl'
  exact ⟨x, EI_kp (EI_kp b k1 l7) k2 m7, ab3_kp (ab3_kp c k1 l20) k2 m20, n, RW_kp k2 m1 m11 (RW_kp k1 l1 l11 d)⟩
theorem GJ_s {f f1 f2 : Nat → Nat → Int32} (h : GJ f) (k1 : kp [8] f f1) (k2 : kp [18] f1 f2) (x : XI f2) (r : RS f2) : GJ f2 := by
  obtain ⟨a, b, c, d⟩ := h
  exact ⟨GI_2 a k1 k2 x rfl rfl, r, c, RO_kp k2 rfl rfl (RO_kp k1 rfl rfl d)⟩
theorem GJ_o {f f1 f2 : Nat → Nat → Int32} (h : GJ f) (k1 : kp [2] f f1) (k2 : kp [10, 12, 22] f1 f2) (x : XI f2) (r : ∃ h, RO h f2) : GJ f2 := by
  obtain ⟨a, b, _⟩ := h
  exact ⟨GI_2 a k1 k2 x rfl rfl, RS_kp k2 rfl rfl (RS_kp k1 rfl rfl b), r⟩
theorem GJ_ini {f : Nat → Nat → Int32} (hf : ∀ a i, 6 ≤ a → f a i = if a < 227 then inix a i else 0) (h3 : ab3 f) : GJ f := by
  refine ⟨GI_ini hf h3, fun s hs => Or.inl ⟨?_, ?_⟩, 0, by omega, ?_, ?_, fun k hk => absurd hk (by omega)⟩
  · rw [hf 180 s (by omega), if_pos (by omega)]
    unfold inix
    rw [if_neg (by omega), if_neg (by omega), if_pos ⟨rfl, hs⟩]
  · rw [hf 224 s (by omega), if_pos (by omega)]
    unfold inix
    rw [if_neg (by omega), if_neg (by omega), if_neg (by omega), if_pos ⟨rfl, hs⟩]
  · rw [hf 100 6 (by omega), if_pos (by omega), inix_0 _ (by decide)]
    rfl
  · rw [hf 181 14 (by omega), if_pos (by omega), inix_0 _ (by decide)]
    rfl
