def RVk (f : Nat → Nat → Int32) (k : Nat) : Prop := f 121 k = f 218 (6 * k) ∧ f 122 k = f 218 (6 * k + 1) ∧ f 123 k = f 218 (6 * k + 2) ∧ f 125 k = f 218 (6 * k + 3) ∧ f 126 k = f 218 (6 * k + 4) ∧ f 124 k = f 218 (6 * k + 5) ∧ inr 0 9999 (f 122 k) ∧ (f 123 k = 0 ∨ f 123 k = 1) ∧ (f 124 k = 0 ∨ f 124 k = 1)
/-- both objects have the same votes -/
def RV (v : Nat) (f : Nat → Nat → Int32) : Prop := v ≤ 60 ∧ f 119 7 = nI v ∧ f 181 48 = nI v ∧ ∀ k, k < v → RVk f k
theorem cmp_4 {i : Nat} : ∀ a, 119 ≤ a → a ≤ 126 → ¬ a = 120 → cmp a i = 4 := by
  intro a h h' h2
  have : a = 119 ∨ a = 121 ∨ a = 122 ∨ a = 123 ∨ a = 124 ∨ a = 125 ∨ a = 126 := by omega
  rcases this with rfl | rfl | rfl | rfl | rfl | rfl | rfl <;> rfl
theorem RV_kp {l : List Nat} {v : Nat} {f f' : Nat → Nat → Int32} (k : kp l f f') (h4 : hasN l 4 = false) (h14 : hasN l 14 = false) (r : RV v f) : RV v f' := by
  obtain ⟨a, b, c, d⟩ := r
  have e : ∀ p i, 119 ≤ p → p ≤ 126 → ¬ p = 120 → f' p i = f p i := fun p i h1 h2 h3 => k p i (by rw [cmp_4 p h1 h2 h3]; exact h4)
  have e2 : ∀ i, f' 218 i = f 218 i := fun i => k 218 i (by exact h14)
  refine ⟨a, (e 119 7 (by omega) (by omega) (by omega)).trans b, (k 181 48 (by exact h14)).trans c, fun j hj => ?_⟩
  unfold RVk
  rw [e 121 j (by omega) (by omega) (by omega), e 122 j (by omega) (by omega) (by omega), e 123 j (by omega) (by omega) (by omega), e 124 j (by omega) (by omega) (by omega), e 125 j (by omega) (by omega) (by omega), e 126 j (by omega) (by omega) (by omega)]
  simp only [e2]
  exact d j hj
theorem passw_congr {r r' : Nat → Int32} {A B A' B' : Int32} (h : ∀ t, t < 3 → r t = r' t) (hA : A = A') (hB : B = B') : passw r A B ↔ passw r' A' B' := by
  subst hA
  subst hB
  unfold passw
  rw [h 0 (by omega), h 1 (by omega), h 2 (by omega)]
theorem va_121 {f : Nat → Nat → Int32} {c k : Nat} {x1 x2 x5 ps vo lo : Int32} : mvadd (vadd f c x1 x2 x5 ps vo lo) c x1 x2 x5 ps vo lo 121 k = if k = c then x1 else f 121 k := by
  unfold mvadd vadd vadd0
  by_cases e : k = c
  · subst e
    rw [m_ui_o (by omega), m_ui_o (by omega), m_ui_o (by omega), m_ui_o (by omega), m_ui_o (by omega), m_ui_o (by omega), m_ui_o (by omega), m_ui_o (by omega), m_ui_o (by omega), m_ui_o (by omega), m_ui_o (by omega), m_ui_o (by omega), m_ui_o (by omega), m_ui_o (by omega), m_ui_s, if_pos rfl]
  · rw [m_ui_o (by omega), m_ui_o (by omega), m_ui_o (by omega), m_ui_o (by omega), m_ui_o (by omega), m_ui_o (by omega), m_ui_o (by omega), m_ui_o (by omega), m_ui_o (by omega), m_ui_o (by omega), m_ui_o (by omega), m_ui_o (by omega), m_ui_o (by omega), m_ui_o (by omega), m_ui_o (by omega), if_neg e]
theorem va_122 {f : Nat → Nat → Int32} {c k : Nat} {x1 x2 x5 ps vo lo : Int32} : mvadd (vadd f c x1 x2 x5 ps vo lo) c x1 x2 x5 ps vo lo 122 k = if k = c then x2 else f 122 k := by
  unfold mvadd vadd vadd0
  by_cases e : k = c
  · subst e
    rw [m_ui_o (by omega), m_ui_o (by omega), m_ui_o (by omega), m_ui_o (by omega), m_ui_o (by omega), m_ui_o (by omega), m_ui_o (by omega), m_ui_o (by omega), m_ui_o (by omega), m_ui_o (by omega), m_ui_o (by omega), m_ui_o (by omega), m_ui_o (by omega), m_ui_s, if_pos rfl]
  · rw [m_ui_o (by omega), m_ui_o (by omega), m_ui_o (by omega), m_ui_o (by omega), m_ui_o (by omega), m_ui_o (by omega), m_ui_o (by omega), m_ui_o (by omega), m_ui_o (by omega), m_ui_o (by omega), m_ui_o (by omega), m_ui_o (by omega), m_ui_o (by omega), m_ui_o (by omega), m_ui_o (by omega), if_neg e]
theorem va_123 {f : Nat → Nat → Int32} {c k : Nat} {x1 x2 x5 ps vo lo : Int32} : mvadd (vadd f c x1 x2 x5 ps vo lo) c x1 x2 x5 ps vo lo 123 k = if k = c then (vp_nar .boolean ps) else f 123 k := by
  unfold mvadd vadd vadd0
  by_cases e : k = c
  · subst e
    rw [m_ui_o (by omega), m_ui_o (by omega), m_ui_o (by omega), m_ui_o (by omega), m_ui_o (by omega), m_ui_o (by omega), m_ui_o (by omega), m_ui_o (by omega), m_ui_o (by omega), m_ui_o (by omega), m_ui_o (by omega), m_ui_s, if_pos rfl]
  · rw [m_ui_o (by omega), m_ui_o (by omega), m_ui_o (by omega), m_ui_o (by omega), m_ui_o (by omega), m_ui_o (by omega), m_ui_o (by omega), m_ui_o (by omega), m_ui_o (by omega), m_ui_o (by omega), m_ui_o (by omega), m_ui_o (by omega), m_ui_o (by omega), m_ui_o (by omega), m_ui_o (by omega), if_neg e]
theorem va_124 {f : Nat → Nat → Int32} {c k : Nat} {x1 x2 x5 ps vo lo : Int32} : mvadd (vadd f c x1 x2 x5 ps vo lo) c x1 x2 x5 ps vo lo 124 k = if k = c then (vp_nar .boolean x5) else f 124 k := by
  unfold mvadd vadd vadd0
  by_cases e : k = c
  · subst e
    rw [m_ui_o (by omega), m_ui_o (by omega), m_ui_o (by omega), m_ui_o (by omega), m_ui_o (by omega), m_ui_o (by omega), m_ui_o (by omega), m_ui_o (by omega), m_ui_o (by omega), m_ui_o (by omega), m_ui_o (by omega), m_ui_o (by omega), m_ui_s, if_pos rfl]
  · rw [m_ui_o (by omega), m_ui_o (by omega), m_ui_o (by omega), m_ui_o (by omega), m_ui_o (by omega), m_ui_o (by omega), m_ui_o (by omega), m_ui_o (by omega), m_ui_o (by omega), m_ui_o (by omega), m_ui_o (by omega), m_ui_o (by omega), m_ui_o (by omega), m_ui_o (by omega), m_ui_o (by omega), if_neg e]
theorem va_125 {f : Nat → Nat → Int32} {c k : Nat} {x1 x2 x5 ps vo lo : Int32} : mvadd (vadd f c x1 x2 x5 ps vo lo) c x1 x2 x5 ps vo lo 125 k = if k = c then vo else f 125 k := by
  unfold mvadd vadd vadd0
  by_cases e : k = c
  · subst e
    rw [m_ui_o (by omega), m_ui_o (by omega), m_ui_o (by omega), m_ui_o (by omega), m_ui_o (by omega), m_ui_o (by omega), m_ui_o (by omega), m_ui_o (by omega), m_ui_o (by omega), m_ui_s, if_pos rfl]
  · rw [m_ui_o (by omega), m_ui_o (by omega), m_ui_o (by omega), m_ui_o (by omega), m_ui_o (by omega), m_ui_o (by omega), m_ui_o (by omega), m_ui_o (by omega), m_ui_o (by omega), m_ui_o (by omega), m_ui_o (by omega), m_ui_o (by omega), m_ui_o (by omega), m_ui_o (by omega), m_ui_o (by omega), if_neg e]
theorem va_126 {f : Nat → Nat → Int32} {c k : Nat} {x1 x2 x5 ps vo lo : Int32} : mvadd (vadd f c x1 x2 x5 ps vo lo) c x1 x2 x5 ps vo lo 126 k = if k = c then lo else f 126 k := by
  unfold mvadd vadd vadd0
  by_cases e : k = c
  · subst e
    rw [m_ui_o (by omega), m_ui_o (by omega), m_ui_o (by omega), m_ui_o (by omega), m_ui_o (by omega), m_ui_o (by omega), m_ui_o (by omega), m_ui_o (by omega), m_ui_s, if_pos rfl]
  · rw [m_ui_o (by omega), m_ui_o (by omega), m_ui_o (by omega), m_ui_o (by omega), m_ui_o (by omega), m_ui_o (by omega), m_ui_o (by omega), m_ui_o (by omega), m_ui_o (by omega), m_ui_o (by omega), m_ui_o (by omega), m_ui_o (by omega), m_ui_o (by omega), m_ui_o (by omega), m_ui_o (by omega), if_neg e]
theorem vm_0 {f : Nat → Nat → Int32} {c k : Nat} {x1 x2 x5 ps vo lo : Int32} : mvadd (vadd f c x1 x2 x5 ps vo lo) c x1 x2 x5 ps vo lo 218 (6 * k) = if k = c then x1 else f 218 (6 * k) := by
  unfold mvadd vadd vadd0
  by_cases e : k = c
  · subst e
    rw [m_ui_o (by omega), m_ui_o (by omega), m_ui_o (by omega), m_ui_o (by omega), m_ui_o (by omega), m_ui_o (by omega), m_ui_o (by omega), m_ui_s, if_pos rfl]
  · rw [m_ui_o (by omega), m_ui_o (by omega), m_ui_o (by omega), m_ui_o (by omega), m_ui_o (by omega), m_ui_o (by omega), m_ui_o (by omega), m_ui_o (by omega), m_ui_o (by omega), m_ui_o (by omega), m_ui_o (by omega), m_ui_o (by omega), m_ui_o (by omega), m_ui_o (by omega), m_ui_o (by omega), if_neg e]
theorem vm_1 {f : Nat → Nat → Int32} {c k : Nat} {x1 x2 x5 ps vo lo : Int32} : mvadd (vadd f c x1 x2 x5 ps vo lo) c x1 x2 x5 ps vo lo 218 (6 * k + 1) = if k = c then x2 else f 218 (6 * k + 1) := by
  unfold mvadd vadd vadd0
  by_cases e : k = c
  · subst e
    rw [m_ui_o (by omega), m_ui_o (by omega), m_ui_o (by omega), m_ui_o (by omega), m_ui_o (by omega), m_ui_o (by omega), m_ui_s, if_pos rfl]
  · rw [m_ui_o (by omega), m_ui_o (by omega), m_ui_o (by omega), m_ui_o (by omega), m_ui_o (by omega), m_ui_o (by omega), m_ui_o (by omega), m_ui_o (by omega), m_ui_o (by omega), m_ui_o (by omega), m_ui_o (by omega), m_ui_o (by omega), m_ui_o (by omega), m_ui_o (by omega), m_ui_o (by omega), if_neg e]
theorem vm_2 {f : Nat → Nat → Int32} {c k : Nat} {x1 x2 x5 ps vo lo : Int32} : mvadd (vadd f c x1 x2 x5 ps vo lo) c x1 x2 x5 ps vo lo 218 (6 * k + 2) = if k = c then ps else f 218 (6 * k + 2) := by
  unfold mvadd vadd vadd0
  by_cases e : k = c
  · subst e
    rw [m_ui_o (by omega), m_ui_o (by omega), m_ui_o (by omega), m_ui_o (by omega), m_ui_o (by omega), m_ui_s, if_pos rfl]
  · rw [m_ui_o (by omega), m_ui_o (by omega), m_ui_o (by omega), m_ui_o (by omega), m_ui_o (by omega), m_ui_o (by omega), m_ui_o (by omega), m_ui_o (by omega), m_ui_o (by omega), m_ui_o (by omega), m_ui_o (by omega), m_ui_o (by omega), m_ui_o (by omega), m_ui_o (by omega), m_ui_o (by omega), if_neg e]
theorem vm_3 {f : Nat → Nat → Int32} {c k : Nat} {x1 x2 x5 ps vo lo : Int32} : mvadd (vadd f c x1 x2 x5 ps vo lo) c x1 x2 x5 ps vo lo 218 (6 * k + 3) = if k = c then vo else f 218 (6 * k + 3) := by
  unfold mvadd vadd vadd0
  by_cases e : k = c
  · subst e
    rw [m_ui_o (by omega), m_ui_o (by omega), m_ui_o (by omega), m_ui_o (by omega), m_ui_s, if_pos rfl]
  · rw [m_ui_o (by omega), m_ui_o (by omega), m_ui_o (by omega), m_ui_o (by omega), m_ui_o (by omega), m_ui_o (by omega), m_ui_o (by omega), m_ui_o (by omega), m_ui_o (by omega), m_ui_o (by omega), m_ui_o (by omega), m_ui_o (by omega), m_ui_o (by omega), m_ui_o (by omega), m_ui_o (by omega), if_neg e]
theorem vm_4 {f : Nat → Nat → Int32} {c k : Nat} {x1 x2 x5 ps vo lo : Int32} : mvadd (vadd f c x1 x2 x5 ps vo lo) c x1 x2 x5 ps vo lo 218 (6 * k + 4) = if k = c then lo else f 218 (6 * k + 4) := by
  unfold mvadd vadd vadd0
  by_cases e : k = c
  · subst e
    rw [m_ui_o (by omega), m_ui_o (by omega), m_ui_o (by omega), m_ui_s, if_pos rfl]
  · rw [m_ui_o (by omega), m_ui_o (by omega), m_ui_o (by omega), m_ui_o (by omega), m_ui_o (by omega), m_ui_o (by omega), m_ui_o (by omega), m_ui_o (by omega), m_ui_o (by omega), m_ui_o (by omega), m_ui_o (by omega), m_ui_o (by omega), m_ui_o (by omega), m_ui_o (by omega), m_ui_o (by omega), if_neg e]
theorem vm_5 {f : Nat → Nat → Int32} {c k : Nat} {x1 x2 x5 ps vo lo : Int32} : mvadd (vadd f c x1 x2 x5 ps vo lo) c x1 x2 x5 ps vo lo 218 (6 * k + 5) = if k = c then (fr x5) else f 218 (6 * k + 5) := by
  unfold mvadd vadd vadd0
  by_cases e : k = c
  · subst e
    rw [m_ui_o (by omega), m_ui_o (by omega), m_ui_s, if_pos rfl]
  · rw [m_ui_o (by omega), m_ui_o (by omega), m_ui_o (by omega), m_ui_o (by omega), m_ui_o (by omega), m_ui_o (by omega), m_ui_o (by omega), m_ui_o (by omega), m_ui_o (by omega), m_ui_o (by omega), m_ui_o (by omega), m_ui_o (by omega), m_ui_o (by omega), m_ui_o (by omega), m_ui_o (by omega), if_neg e]
theorem kx_vote {n h c : Nat} {f f1 : Nat → Nat → Int32} {x1 x2 x3 x4 x5 v : Int32} (s : SX_vote n h c f f1 x1 x2 x3 x4 x5 v) : kp [4] f f1 := by
  rcases s with ⟨_, _, rfl⟩ | ⟨j, _, _, _, ⟨_, _, rfl⟩ | ⟨_, _, _, rfl⟩ | ⟨_, _, k, _, _, _, rfl⟩⟩
  · exact kp_refl _ _
  · exact kp_refl _ _
  · exact kp_refl _ _
  · unfold vadd vadd0
    exact kp_ui rfl (kp_ui rfl (kp_ui rfl (kp_ui rfl (kp_ui rfl (kp_ui rfl (kp_ui rfl (kp_refl _ _)))))))
theorem km_vote {n h c : Nat} {f f1 : Nat → Nat → Int32} {x1 x2 x3 x4 x5 v : Int32} (s : SM_vote n h c f f1 x1 x2 x3 x4 x5 v) : kp [10, 14, 22] f f1 := by
  rcases s with ⟨_, _, rfl⟩ | ⟨j, _, _, _, ⟨_, _, rfl⟩ | ⟨_, _, _, rfl⟩ | ⟨_, _, k, _, _, _, rfl⟩⟩
  · exact kp_refl _ _
  · exact kp_refl _ _
  · exact kp_refl _ _
  · unfold mvadd
    exact kp_ui rfl (kp_ui rfl (kp_ui rfl (kp_ui rfl (kp_ui rfl (kp_ui rfl (kp_ui rfl (kp_ui rfl (kp_refl _ _))))))))
theorem XI_va {f : Nat → Nat → Int32} {c : Nat} {x1 x2 x5 ps vo lo : Int32} (hX : XI f) (hc : c < 60) (h1 : inr 0 39 x1) : XI (mvadd (vadd f c x1 x2 x5 ps vo lo) c x1 x2 x5 ps vo lo) := by
  unfold mvadd vadd vadd0
  exact XI_ui (XI_ui (XI_ui (XI_ui (XI_ui (XI_ui (XI_ui (XI_ui (XI_ui (XI_ui (XI_ui (XI_ui (XI_ui (XI_ui (XI_ui hX h1) True.intro) True.intro) True.intro) (show inr 0 60 _ from inr_n1 (m := 60) (by omega) rfl (by decide))) True.intro) True.intro) True.intro) True.intro) True.intro) True.intro) True.intro) True.intro) (show inr 0 60 _ from inr_n (m := 60) (by omega) rfl (by decide))) True.intro
theorem fin_vote {n h c : Nat} {f f1 f2 : Nat → Nat → Int32} {x1 x2 x3 x4 x5 v1 v2 : Int32} (hX : XI f) (hW : RW n f) (hO : RO h f) (hK : RK f) (hR : RR f) (hV : RV c f) (h5 : x5 = 0 ∨ x5 = 1) (s1 : SX_vote n h c f f1 x1 x2 x3 x4 x5 v1) (s2 : SM_vote n h c f1 f2 x1 x2 x3 x4 x5 v2) : XI f2 ∧ (∃ c, RV c f2) ∧ v1 = v2 := by
  have k1 := kx_vote s1
  have e195 : f1 195 = f 195 := funext (fun i => k1 195 i rfl)
  have e212 : f1 212 = f 212 := funext (fun i => k1 212 i rfl)
  have e182 : f1 182 = f 182 := funext (fun i => k1 182 i rfl)
  have ePM : PM f1 = PM f := by
    funext lo hi w y i
    unfold PM
    rw [e195]
  have hBB : (mayl (fun m => ¬ f 120 m &&& (mayl (PO f 103 106 x1 (1900 + x2 / 100)) (fun i => f 102 i) h 0 0) = 0) (fun m => nI m) 8 0 0) = (mayl (fun m => ¬ f 212 m &&& (mayl (PM f 2 5 x1 (1900 + x2 / 100)) (fun i => f 195 (6 * i + 1)) h 0 0) = 0) (fun m => nI m) 8 0 0) := by
    rw [may_RO hO]
    refine mayl_eq 8 (fun i hi => ?_) (fun i hi => rfl) 8 0 _ (by omega)
    rw [hK i hi]
  have eR : ∀ k t, k < 4 → t < 3 → eC (fun k t => f1 (213 + t) k) k t = f (109 + k) t := fun k t hk ht => by
    rw [hR k t hk ht]
    exact eC_congr (fun k' t' hk' ht' => k1 (213 + t') k' (by rw [cmp_13 _ (by omega) (by omega)]; rfl)) ht
  unfold SM_vote at s2
  rw [e195, e212, e182, ePM, ← hBB] at s2
  unfold SX_vote at s1
  generalize (mayl (fun m => ¬ f 120 m &&& (mayl (PO f 103 106 x1 (1900 + x2 / 100)) (fun i => f 102 i) h 0 0) = 0) (fun m => nI m) 8 0 0) = B at s1 s2
  rcases s1 with ⟨q1, rfl, rfl⟩ | ⟨j, hj, ej, w1, s1⟩
  · rcases s2 with ⟨q2, rfl, rfl⟩ | ⟨j2, _, _, w2, _⟩
    · exact ⟨hX, ⟨c, hV⟩, rfl⟩
    · exact absurd w2 q1
  · rcases s2 with ⟨q2, _⟩ | ⟨j2, hj2, ej2, w2, s2⟩
    · exact absurd w1 q2
    · have hn := hW.1
      have ejj : j = j2 := (nI_eq (by omega) (by omega)).mp (ej.symm.trans ej2)
      subst ejj
      rcases s1 with ⟨z1, rfl, rfl⟩ | ⟨z1, y1, rfl, rfl⟩ | ⟨z1, y1, k, hk, ek, p1, rfl⟩
      · rcases s2 with ⟨z2, rfl, rfl⟩ | ⟨z2, _⟩ | ⟨z2, _⟩
        · exact ⟨hX, ⟨c, hV⟩, rfl⟩
        · exact absurd z1 z2
        · exact absurd z1 z2
      · rcases s2 with ⟨z2, _⟩ | ⟨z2, y2, rfl, rfl⟩ | ⟨z2, y2, _⟩
        · exact absurd z2 z1
        · exact ⟨hX, ⟨c, hV⟩, rfl⟩
        · omega
      · rcases s2 with ⟨z2, _⟩ | ⟨z2, y2, _⟩ | ⟨z2, y2, k', hk', ek', p2, rfl⟩
        · exact absurd z2 z1
        · omega
        · have ekk : k = k' := (nI_eq (by omega) (by omega)).mp (ek.symm.trans ((hW.2.2.2.1 j hj).1.trans ek'))
          subst ekk
          have t1 := (bc_8 (and_255 (y := B ^^^ -1) (or_255 w1.2.2.1 w1.2.2.2.1))).1
          have t2 := (bc_8 (and_255 (y := B ^^^ -1) w1.2.2.1)).1
          have hp := passw_congr (r := fun t => f (109 + k) t) (fun t ht => (eR k t hk ht).symm) t1 t2
          have ev : v1 = v2 := by
            rcases p1 with ⟨a1, b1⟩ | ⟨a1, b1⟩
            · rcases p2 with ⟨_, b2⟩ | ⟨a2, _⟩
              · rw [b1, b2]
              · exact absurd (hp.mp a1) a2
            · rcases p2 with ⟨a2, _⟩ | ⟨_, b2⟩
              · exact absurd (hp.mpr a2) a1
              · rw [b1, b2]
          have hv : v1 = 0 ∨ v1 = 1 := p1.elim (fun z => Or.inr z.2) (fun z => Or.inl z.2)
          subst ev
          obtain ⟨a, b, e, d⟩ := hV
          refine ⟨XI_va hX y1 (by rw [ej]; exact inr_n (m := 39) (by omega) rfl (by decide)), ⟨c + 1, by omega, ?_, ?_, fun k hk => ?_⟩, rfl⟩
          · unfold mvadd vadd vadd0
            rw [m_ui_o (by omega), m_ui_o (by omega), m_ui_o (by omega), m_ui_o (by omega), m_ui_o (by omega), m_ui_o (by omega), m_ui_o (by omega), m_ui_o (by omega), m_ui_o (by omega), m_ui_o (by omega), m_ui_s]
            exact nI_1 c
          · unfold mvadd
            rw [m_ui_o (by omega), m_ui_s]
          · unfold RVk
            rw [va_121, va_122, va_123, va_124, va_125, va_126, vm_0, vm_1, vm_2, vm_3, vm_4, vm_5]
            by_cases q : k = c
            · simp only [if_pos q]
              rcases h5 with rfl | rfl
              · rcases hv with rfl | rfl
                · exact ⟨trivial, trivial, rfl, trivial, trivial, rfl, w1.2.1, Or.inl rfl, Or.inl rfl⟩
                · exact ⟨trivial, trivial, rfl, trivial, trivial, rfl, w1.2.1, Or.inr rfl, Or.inl rfl⟩
              · rcases hv with rfl | rfl
                · exact ⟨trivial, trivial, rfl, trivial, trivial, rfl, w1.2.1, Or.inl rfl, Or.inr rfl⟩
                · exact ⟨trivial, trivial, rfl, trivial, trivial, rfl, w1.2.1, Or.inr rfl, Or.inr rfl⟩
            · simp only [if_neg q]
              exact d k (by omega)
def vC (f : Nat → Nat → Int32) (k t : Nat) : Int32 := if t = 0 then f 121 k else if t = 1 then f 122 k else if t = 2 then fr (f 123 k) else if t = 3 then f 125 k else if t = 4 then f 126 k else fr (f 124 k)
def SX_votes (c : Nat) (f : Nat → Nat → Int32) (x1 x2 v : Int32) : Prop := (¬ (hasw c x1 ∧ inr 0 5 x2) ∧ v = -1) ∨ (∃ k t, k < c ∧ t < 6 ∧ x1 = nI k ∧ x2 = nI t ∧ v = vC f k t)
def SM_votes (c : Nat) (f : Nat → Nat → Int32) (x1 x2 v : Int32) : Prop := (¬ (hasw c x1 ∧ inr 0 5 x2) ∧ v = -1) ∨ (∃ k t, k < c ∧ t < 6 ∧ x1 = nI k ∧ x2 = nI t ∧ v = f 218 (6 * k + t))
theorem in5 {x : Int32} (h : inr 0 5 x) : ∃ t : Nat, t < 6 ∧ x = nI t := by
  obtain ⟨t, ht, e⟩ := inr_nat (n := 5) rfl h
  exact ⟨t, by omega, e⟩
theorem c6_c {t : Nat} (ht : t < 6) : t = 0 ∨ t = 1 ∨ t = 2 ∨ t = 3 ∨ t = 4 ∨ t = 5 := by omega
theorem sw_no {x : Int32} (h : ¬ inr 0 5 x) : ¬ x = 0 ∧ ¬ x = 1 ∧ ¬ x = 2 ∧ ¬ x = 3 ∧ ¬ x = 4 ∧ ¬ x = 5 := by
  refine ⟨?_, ?_, ?_, ?_, ?_, ?_⟩ <;> (intro e; subst e; exact h (by unfold inr; decide))
set_option maxRecDepth 100000 in
set_option maxHeartbeats 4000000 in
theorem sf_votes {d L : Nat} {f : Nat → Nat → Int32} {g : Nat → Nat → Int64} {c0 : Nat} {x1 x2 : Int32} {R : Option Value → mH → Prop} (hd : 2 ≤ d) (hvb : f 119 7 = nI c0) (hvm : c0 ≤ 60) (H : ∀ v, SX_votes c0 f x1 x2 v → R (some (.int v)) (shF L, f, g)) : Run mtab d 123 [.ref 5, .int x1, .int x2] (shF L, f, g) R := by
  obtain ⟨d, rfl⟩ : ∃ e, d = e + 1 := ⟨d - 1, by omega⟩
  refine go_X10_votes rfl ?_
  conv => whnf
  simp only [hvb]
  refine ct_isWithin (by omega) (fun p => ?_) (fun p => ?_)
  · obtain ⟨k, hk, rfl⟩ := inr_cnt (by omega) p
    have hcl : (nI k).toNatClampNeg = k := nI_clamp (by omega)
    conv => whnf
    (refine ⟨fun c => ?_, fun c => ?_⟩ <;> first | ((have c9 : (1 : Int32) = 0 := by with_reducible exact c); exact absurd c9 (by decide)) | exact absurd (rfl : (0 : Int32) = 0) (by with_reducible exact c) | exact absurd True.intro (by with_reducible exact c) | exact False.elim (by with_reducible exact c) | (conv => whnf))
    refine ⟨fun c => ?_, fun c => ?_, fun c => ?_, fun c => ?_, fun c => ?_, fun c => ?_, fun c => ?_⟩
    · conv => whnf
      refine ⟨vp_in_nI (by omega) (by decide), ?_⟩
      conv => whnf
      simp only [hcl]
      exact H _ (Or.inr ⟨k, 0, hk, by decide, rfl, c, rfl⟩)
    · conv => whnf
      refine ⟨vp_in_nI (by omega) (by decide), ?_⟩
      conv => whnf
      simp only [hcl]
      exact H _ (Or.inr ⟨k, 1, hk, by decide, rfl, c, rfl⟩)
    · conv => whnf
      refine ⟨vp_in_nI (by omega) (by decide), ?_⟩
      conv => whnf
      simp only [hcl]
      have H2 := H _ (Or.inr ⟨k, 2, hk, by decide, rfl, c, rfl⟩)
      refine ct_bit (by omega) (fun z => ?_) (fun z => ?_)
      · have e : vC f k 2 = 1 := if_neg z
        rw [e] at H2
        conv => whnf
        exact H2
      · have e : vC f k 2 = 0 := if_pos z
        rw [e] at H2
        conv => whnf
        exact H2
    · conv => whnf
      refine ⟨vp_in_nI (by omega) (by decide), ?_⟩
      conv => whnf
      simp only [hcl]
      exact H _ (Or.inr ⟨k, 3, hk, by decide, rfl, c, rfl⟩)
    · conv => whnf
      refine ⟨vp_in_nI (by omega) (by decide), ?_⟩
      conv => whnf
      simp only [hcl]
      exact H _ (Or.inr ⟨k, 4, hk, by decide, rfl, c, rfl⟩)
    · conv => whnf
      refine ⟨vp_in_nI (by omega) (by decide), ?_⟩
      conv => whnf
      simp only [hcl]
      have H2 := H _ (Or.inr ⟨k, 5, hk, by decide, rfl, c, rfl⟩)
      refine ct_bit (by omega) (fun z => ?_) (fun z => ?_)
      · have e : vC f k 5 = 1 := if_neg z
        rw [e] at H2
        conv => whnf
        exact H2
      · have e : vC f k 5 = 0 := if_pos z
        rw [e] at H2
        conv => whnf
        exact H2
    · conv => whnf
      exact H _ (Or.inl ⟨fun hh => by
        obtain ⟨t, ht, e⟩ := in5 hh.2
        rcases c6_c ht with rfl | rfl | rfl | rfl | rfl | rfl
        all_goals (subst e; revert c; decide), rfl⟩)
  · conv => whnf
    (refine ⟨fun c => ?_, fun c => ?_⟩ <;> first | ((have c9 : (1 : Int32) = 0 := by with_reducible exact c); exact absurd c9 (by decide)) | exact absurd (rfl : (0 : Int32) = 0) (by with_reducible exact c) | exact absurd True.intro (by with_reducible exact c) | exact False.elim (by with_reducible exact c) | (conv => whnf))
    exact H _ (Or.inl ⟨fun hh => cnt_no (by omega) p hh.1, rfl⟩)
set_option maxRecDepth 100000 in
set_option maxHeartbeats 4000000 in
theorem smf_votes {d L : Nat} {f : Nat → Nat → Int32} {g : Nat → Nat → Int64} {c0 : Nat} {x1 x2 : Int32} {R : Option Value → mH → Prop} (hd : 2 ≤ d) (hvb : f 181 48 = nI c0) (hvm : c0 ≤ 60) (H : ∀ v, SM_votes c0 f x1 x2 v → R (some (.int v)) (shF L, f, g)) : Run mtab d 226 [.ref 181, .int x1, .int x2] (shF L, f, g) R := by
  obtain ⟨d, rfl⟩ : ∃ e, d = e + 1 := ⟨d - 1, by omega⟩
  refine go_X11_votes rfl ?_
  conv => whnf
  simp only [hvb]
  refine ct_i_0_v (by omega) (fun p => ?_) (fun p => ?_)
  · obtain ⟨k, hk, rfl⟩ := inr_cnt (by omega) p
    conv => whnf
    (refine ⟨fun c => ?_, fun c => ?_⟩ <;> first | ((have c9 : (1 : Int32) = 0 := by with_reducible exact c); exact absurd c9 (by decide)) | exact absurd (rfl : (0 : Int32) = 0) (by with_reducible exact c) | exact absurd True.intro (by with_reducible exact c) | exact False.elim (by with_reducible exact c) | (conv => whnf))
    refine ct_i_0_5 (by omega) (fun p2 => ?_) (fun p2 => ?_)
    · obtain ⟨t, ht, rfl⟩ := in5 p2
      have hcl : (nI (6 * k + t)).toNatClampNeg = 6 * k + t := nI_clamp (by omega)
      conv => whnf
      (refine ⟨fun c => ?_, fun c => ?_⟩ <;> first | ((have c9 : (1 : Int32) = 0 := by with_reducible exact c); exact absurd c9 (by decide)) | exact absurd (rfl : (0 : Int32) = 0) (by with_reducible exact c) | exact absurd True.intro (by with_reducible exact c) | exact False.elim (by with_reducible exact c) | (conv => whnf))
      simp only [nI_6m, nI_add]
      refine ⟨vp_in_nI (by omega) (by decide), ?_⟩
      conv => whnf
      simp only [hcl]
      exact H _ (Or.inr ⟨k, t, hk, ht, rfl, rfl, rfl⟩)
    · conv => whnf
      (refine ⟨fun c => ?_, fun c => ?_⟩ <;> first | ((have c9 : (1 : Int32) = 0 := by with_reducible exact c); exact absurd c9 (by decide)) | exact absurd (rfl : (0 : Int32) = 0) (by with_reducible exact c) | exact absurd True.intro (by with_reducible exact c) | exact False.elim (by with_reducible exact c) | (conv => whnf))
      exact H _ (Or.inl ⟨fun hh => p2 hh.2, rfl⟩)
  · conv => whnf
    (refine ⟨fun c => ?_, fun c => ?_⟩ <;> first | ((have c9 : (1 : Int32) = 0 := by with_reducible exact c); exact absurd c9 (by decide)) | exact absurd (rfl : (0 : Int32) = 0) (by with_reducible exact c) | exact absurd True.intro (by with_reducible exact c) | exact False.elim (by with_reducible exact c) | (conv => whnf))
    exact H _ (Or.inl ⟨fun hh => cnt_no (by omega) p hh.1, rfl⟩)
theorem fr_b {x : Int32} (h : x = 0 ∨ x = 1) : fr x = x := by
  rcases h with rfl | rfl <;> rfl
theorem fin_votes {c : Nat} {f : Nat → Nat → Int32} {x1 x2 v1 v2 : Int32} (hV : RV c f) (s1 : SX_votes c f x1 x2 v1) (s2 : SM_votes c f x1 x2 v2) : v1 = v2 := by
  have hc := hV.1
  have inx : ∀ k t, k < c → t < 6 → x1 = nI k → x2 = nI t → (hasw c x1 ∧ inr 0 5 x2) := fun k t hk ht e1 e2 => ⟨⟨k, hk, e1⟩, by
    rw [e2]
    exact inr_n (m := 5) (by omega) rfl (by decide)⟩
  rcases s1 with ⟨q1, rfl⟩ | ⟨k, t, hk, ht, e1, e2, rfl⟩
  · rcases s2 with ⟨q2, rfl⟩ | ⟨k, t, hk, ht, e1, e2, rfl⟩
    · rfl
    · exact absurd (inx k t hk ht e1 e2) q1
  · rcases s2 with ⟨q2, rfl⟩ | ⟨k', t', hk', ht', e1', e2', rfl⟩
    · exact absurd (inx k t hk ht e1 e2) q2
    · have ek : k = k' := (nI_eq (by omega) (by omega)).mp (e1.symm.trans e1')
      have et : t = t' := (nI_eq (by omega) (by omega)).mp (e2.symm.trans e2')
      subst ek
      subst et
      obtain ⟨a0, a1, a2, a3, a4, a5, _, b2, b5⟩ := hV.2.2.2 k hk
      rcases c6_c ht with rfl | rfl | rfl | rfl | rfl | rfl
      · exact a0
      · exact a1
      · exact (fr_b b2).trans a2
      · exact a3
      · exact a4
      · exact (fr_b b5).trans a5
