def GK (f : Nat → Nat → Int32) : Prop := GJ f ∧ RK f ∧ (∃ c, RC c f) ∧ (∃ m, RM m f) ∧ ab2 f ∧ (∃ t, RT t f) ∧ RR f
def okn (l : List Nat) : Bool := (!hasN l 9 && (!hasN l 19 && (!hasN l 5 && (!hasN l 15 && (!hasN l 6 && (!hasN l 16 && (!hasN l 3 && (!hasN l 13 && !hasN l 20))))))))
def okk (l : List Nat) : Bool := okj l && okn l
theorem okn_of {l : List Nat} (h : okn l = true) : hasN l 9 = false ∧ hasN l 19 = false ∧ hasN l 5 = false ∧ hasN l 15 = false ∧ hasN l 6 = false ∧ hasN l 16 = false ∧ hasN l 3 = false ∧ hasN l 13 = false ∧ hasN l 20 = false := by
  unfold okn at h
  simp only [Bool.and_eq_true, Bool.not_eq_true'] at h
  exact h
theorem okk_of {l : List Nat} (h : okk l = true) : okj l = true ∧ okn l = true := by
  unfold okk at h
  simp only [Bool.and_eq_true] at h
  exact h
theorem RN3_kp {l : List Nat} {f f' : Nat → Nat → Int32} (k : kp l f f') (hl : okn l = true) (h : RK f ∧ (∃ c, RC c f) ∧ (∃ m, RM m f) ∧ ab2 f ∧ (∃ t, RT t f) ∧ RR f) : RK f' ∧ (∃ c, RC c f') ∧ (∃ m, RM m f') ∧ ab2 f' ∧ (∃ t, RT t f') ∧ RR f' := by
  obtain ⟨l9, l19, l5, l15, l6, l16, l3, l13, l20⟩ := okn_of hl
  obtain ⟨a, ⟨c, b⟩, ⟨m, e⟩, h2, ⟨t, i⟩, j⟩ := h
  exact ⟨RK_kp k l9 l19 a, ⟨c, RC_kp k l5 l15 b⟩, ⟨m, RM_kp k l6 l16 e⟩, ab2_kp k l20 h2, ⟨t, RT_kp k l3 l13 i⟩, RR_kp k l3 l13 j⟩
theorem GK_x {l : List Nat} {f f' : Nat → Nat → Int32} (h : GK f) (x : XI f') (k : kp l f f') (hl : okk l = true) : GK f' := by
  obtain ⟨l1, l2⟩ := okk_of hl
  exact ⟨GJ_x h.1 x k l1, RN3_kp k l2 h.2⟩
theorem GK_xE {f f' : Nat → Nat → Int32} (h : GK f) (x : XI f') (k : kp [0, 7] f f') (e : EI f') : GK f' := ⟨GJ_xE h.1 x k e, RN3_kp k rfl h.2⟩
theorem GK_j {l l' : List Nat} {f f1 f2 : Nat → Nat → Int32} (h : GK f) (k1 : kp l f f1) (k2 : kp l' f1 f2) (j : GJ f2) (hl : okn l = true) (hl' : okn l' = true) : GK f2 := ⟨j, RN3_kp k2 hl' (RN3_kp k1 hl h.2)⟩
theorem GJ_2 {l l' : List Nat} {f f1 f2 : Nat → Nat → Int32} (h : GJ f) (k1 : kp l f f1) (k2 : kp l' f1 f2) (x : XI f2) (hl : okj l = true) (hl' : okj l' = true) : GJ f2 := by
  obtain ⟨l0, l8, l18, l2, l12⟩ := okj_of hl
  obtain ⟨m0, m8, m18, m2, m12⟩ := okj_of hl'
  obtain ⟨a, b, c, d⟩ := h
  exact ⟨GI_2 a k1 k2 x l0 m0, RS_kp k2 m8 m18 (RS_kp k1 l8 l18 b), c, RO_kp k2 m2 m12 (RO_kp k1 l2 l12 d)⟩
theorem GK_kin {f f1 f2 : Nat → Nat → Int32} (hK : GK f) (k1 : kp [9] f f1) (k2 : kp [19] f1 f2) (x : XI f2) (r : RK f2) : GK f2 := by
  obtain ⟨a, b, ⟨c, d⟩, ⟨m, e⟩, h, ⟨t, i⟩, j⟩ := hK
  exact ⟨GJ_2 a k1 k2 x rfl rfl, r, ⟨c, RC_kp k2 rfl rfl (RC_kp k1 rfl rfl d)⟩, ⟨m, RM_kp k2 rfl rfl (RM_kp k1 rfl rfl e)⟩, ab2_kp k2 rfl (ab2_kp k1 rfl h), ⟨t, RT_kp k2 rfl rfl (RT_kp k1 rfl rfl i)⟩, RR_kp k2 rfl rfl (RR_kp k1 rfl rfl j)⟩
theorem GK_c {f f1 f2 : Nat → Nat → Int32} (hK : GK f) (k1 : kp [5] f f1) (k2 : kp [10, 15, 22] f1 f2) (x : XI f2) (r : ∃ c, RC c f2) : GK f2 := by
  obtain ⟨a, b, ⟨c, d⟩, ⟨m, e⟩, h, ⟨t, i⟩, j⟩ := hK
  exact ⟨GJ_2 a k1 k2 x rfl rfl, RK_kp k2 rfl rfl (RK_kp k1 rfl rfl b), r, ⟨m, RM_kp k2 rfl rfl (RM_kp k1 rfl rfl e)⟩, ab2_kp k2 rfl (ab2_kp k1 rfl h), ⟨t, RT_kp k2 rfl rfl (RT_kp k1 rfl rfl i)⟩, RR_kp k2 rfl rfl (RR_kp k1 rfl rfl j)⟩
theorem GK_m {f f1 f2 : Nat → Nat → Int32} (hK : GK f) (k1 : kp [6] f f1) (k2 : kp [10, 16, 22] f1 f2) (x : XI f2) (r : ∃ m, RM m f2) : GK f2 := by
  obtain ⟨a, b, ⟨c, d⟩, ⟨m, e⟩, h, ⟨t, i⟩, j⟩ := hK
  exact ⟨GJ_2 a k1 k2 x rfl rfl, RK_kp k2 rfl rfl (RK_kp k1 rfl rfl b), ⟨c, RC_kp k2 rfl rfl (RC_kp k1 rfl rfl d)⟩, r, ab2_kp k2 rfl (ab2_kp k1 rfl h), ⟨t, RT_kp k2 rfl rfl (RT_kp k1 rfl rfl i)⟩, RR_kp k2 rfl rfl (RR_kp k1 rfl rfl j)⟩
theorem GK_t {f f1 f2 : Nat → Nat → Int32} (hK : GK f) (k1 : kp [3] f f1) (k2 : kp [13] f1 f2) (x : XI f2) (r : (∃ t, RT t f2) ∧ RR f2) : GK f2 := by
  obtain ⟨a, b, ⟨c, d⟩, ⟨m, e⟩, h, ⟨t, i⟩, j⟩ := hK
  exact ⟨GJ_2 a k1 k2 x rfl rfl, RK_kp k2 rfl rfl (RK_kp k1 rfl rfl b), ⟨c, RC_kp k2 rfl rfl (RC_kp k1 rfl rfl d)⟩, ⟨m, RM_kp k2 rfl rfl (RM_kp k1 rfl rfl e)⟩, ab2_kp k2 rfl (ab2_kp k1 rfl h), r.1, r.2⟩
theorem GK_r {f f1 f2 : Nat → Nat → Int32} (hK : GK f) (k1 : kp [3] f f1) (k2 : kp [10, 13] f1 f2) (x : XI f2) (r : (∃ t, RT t f2) ∧ RR f2) : GK f2 := by
  obtain ⟨a, b, ⟨c, d⟩, ⟨m, e⟩, h, ⟨t, i⟩, j⟩ := hK
  exact ⟨GJ_2 a k1 k2 x rfl rfl, RK_kp k2 rfl rfl (RK_kp k1 rfl rfl b), ⟨c, RC_kp k2 rfl rfl (RC_kp k1 rfl rfl d)⟩, ⟨m, RM_kp k2 rfl rfl (RM_kp k1 rfl rfl e)⟩, ab2_kp k2 rfl (ab2_kp k1 rfl h), r.1, r.2⟩
theorem RR_ty {t : Nat} {f f1 f2 : Nat → Nat → Int32} {w : Int64} {x v1 v2 : Int32} (hR : RR f) (s1 : tyS 107 3 118 t f f1 w x v1) (s2 : tyS 181 46 217 t f1 f2 w x v2) : RR f2 := by
  have key : ∀ a i, ¬ a = 107 → ¬ a = 118 → ¬ a = 181 → ¬ a = 217 → f2 a i = f a i := fun a i h1 h2 h3 h4 => by
    have e2 : f2 a i = f1 a i := by
      rcases s2 with ⟨_, _, rfl⟩ | ⟨n, _, _, _, _, ⟨_, _, rfl⟩ | ⟨_, _, h⟩⟩
      · rfl
      · rfl
      · exact h.2.2 a i (fun z => h3 z.1) (fun z => h4 z.1)
    have e1 : f1 a i = f a i := by
      rcases s1 with ⟨_, _, rfl⟩ | ⟨n, _, _, _, _, ⟨_, _, rfl⟩ | ⟨_, _, h⟩⟩
      · rfl
      · rfl
      · exact h.2.2 a i (fun z => h1 z.1) (fun z => h2 z.1)
    exact e2.trans e1
  intro k t hk ht
  rw [key _ _ (by omega) (by omega) (by omega) (by omega), hR k t hk ht]
  exact eC_congr (fun k' t' hk' ht' => (key _ _ (by omega) (by omega) (by omega) (by omega)).symm) ht
theorem GK_ini {f : Nat → Nat → Int32} (hf : ∀ a i, 6 ≤ a → f a i = if a < 227 then inix a i else 0) (h3 : ab3 f) (h2 : ab2 f) : GK f := by
  refine ⟨GJ_ini hf h3, fun s hs => ?_, ⟨0, by omega, ?_, ?_, fun k hk => absurd hk (by omega)⟩, ⟨0, by omega, ?_, ?_, fun k hk => absurd hk (by omega)⟩, h2, ⟨0, by omega, ?_, ?_, fun k hk => absurd hk (by omega)⟩, fun k t hk ht => ?_⟩
  · rw [hf 120 s (by omega), if_pos (by omega), inix_0 _ (by decide), hf 212 s (by omega), if_pos (by omega), inix_0 _ (by decide)]
  · rw [hf 129 6 (by omega), if_pos (by omega), inix_0 _ (by decide)]
    rfl
  · rw [hf 181 16 (by omega), if_pos (by omega), inix_0 _ (by decide)]
    rfl
  · rw [hf 139 13 (by omega), if_pos (by omega), inix_0 _ (by decide)]
    rfl
  · rw [hf 181 27 (by omega), if_pos (by omega), inix_0 _ (by decide)]
    rfl
  · rw [hf 107 3 (by omega), if_pos (by omega), inix_0 _ (by decide)]
    rfl
  · rw [hf 181 46 (by omega), if_pos (by omega), inix_0 _ (by decide)]
    rfl
  · have key : ∀ k, k < 4 → ∀ t, t < 3 → (if 109 + k < 227 then inix (109 + k) t else 0) = eC (fun k t => if 213 + t < 227 then inix (213 + t) k else 0) k t := by decide
    have e := key k hk t ht
    rw [hf (109 + k) t (by omega), e]
    exact eC_congr (fun k' t' hk' ht' => (hf (213 + t') k' (by omega)).symm) ht
