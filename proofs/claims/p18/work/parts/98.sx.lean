def GL (f : Nat → Nat → Int32) : Prop := GK f ∧ ∃ v, RV v f
def okw (l : List Nat) : Bool := !hasN l 4 && !hasN l 14
theorem okw_of {l : List Nat} (h : okw l = true) : hasN l 4 = false ∧ hasN l 14 = false := by
  unfold okw at h
  simp only [Bool.and_eq_true, Bool.not_eq_true'] at h
  exact h
def okg (l : List Nat) : Bool := okk l && okw l
theorem okg_of {l : List Nat} (h : okg l = true) : okk l = true ∧ okw l = true := by
  unfold okg at h
  simp only [Bool.and_eq_true] at h
  exact h
theorem RVe_kp {l : List Nat} {f f' : Nat → Nat → Int32} (k : kp l f f') (hl : okw l = true) (h : ∃ v, RV v f) : ∃ v, RV v f' := by
  obtain ⟨l4, l14⟩ := okw_of hl
  obtain ⟨v, r⟩ := h
  exact ⟨v, RV_kp k l4 l14 r⟩
theorem GL_x {l : List Nat} {f f' : Nat → Nat → Int32} (h : GL f) (x : XI f') (k : kp l f f') (hl : okg l = true) : GL f' := by
  obtain ⟨l1, l2⟩ := okg_of hl
  exact ⟨GK_x h.1 x k l1, RVe_kp k l2 h.2⟩
theorem GL_xE {f f' : Nat → Nat → Int32} (h : GL f) (x : XI f') (k : kp [0, 7] f f') (e : EI f') : GL f' := ⟨GK_xE h.1 x k e, RVe_kp k rfl h.2⟩
theorem GL_j {l l' : List Nat} {f f1 f2 : Nat → Nat → Int32} (h : GL f) (k1 : kp l f f1) (k2 : kp l' f1 f2) (j : GK f2) (hl : okw l = true) (hl' : okw l' = true) : GL f2 := ⟨j, RVe_kp k2 hl' (RVe_kp k1 hl h.2)⟩
theorem GK_2 {l l' : List Nat} {f f1 f2 : Nat → Nat → Int32} (h : GK f) (k1 : kp l f f1) (k2 : kp l' f1 f2) (x : XI f2) (hl : okk l = true) (hl' : okk l' = true) : GK f2 := by
  obtain ⟨l1, l2⟩ := okk_of hl
  obtain ⟨m1, m2⟩ := okk_of hl'
  exact ⟨GJ_2 h.1 k1 k2 x l1 m1, RN3_kp k2 m2 (RN3_kp k1 l2 h.2)⟩
theorem GL_v {f f1 f2 : Nat → Nat → Int32} (h : GL f) (k1 : kp [4] f f1) (k2 : kp [10, 14, 22] f1 f2) (x : XI f2) (r : ∃ v, RV v f2) : GL f2 := ⟨GK_2 h.1 k1 k2 x rfl rfl, r⟩
theorem GL_ini {f : Nat → Nat → Int32} (hf : ∀ a i, 6 ≤ a → f a i = if a < 227 then inix a i else 0) (h3 : ab3 f) (h2 : ab2 f) : GL f := by
  refine ⟨GK_ini hf h3 h2, 0, by omega, ?_, ?_, fun k hk => absurd hk (by omega)⟩
  · rw [hf 119 7 (by omega), if_pos (by omega), inix_0 _ (by decide)]
    rfl
  · rw [hf 181 48 (by omega), if_pos (by omega), inix_0 _ (by decide)]
    rfl
