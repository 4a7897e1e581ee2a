def hasw (n : Nat) (x : Int32) : Prop := ∃ j, j < n ∧ x = nI j
theorem nhasw {n : Nat} {x : Int32} (q : ∀ j, j < n → ¬ x = nI j) : ¬ hasw n x := fun ⟨j, hj, e⟩ => q j hj e
def AddS (n : Nat) (f f1 : Nat → Nat → Int32) (kind of h w t lo hi v : Int32) : Prop := (n = 40 ∧ v = -3 ∧ f1 = f) ∨ (n < 40 ∧ v = nI n ∧ f1 = wadd f n kind of h w t lo hi)
def SX_work (n : Nat) (f f1 : Nat → Nat → Int32) (x1 x2 x3 x4 x5 x6 v : Int32) : Prop :=
  (¬ ((x1 = 0 ∨ x1 = 2) ∧ toldw x2 x3 x4 x5 x6) ∧ v = -1 ∧ f1 = f) ∨ (((x1 = 0 ∨ x1 = 2) ∧ toldw x2 x3 x4 x5 x6) ∧ AddS n f f1 x1 (-4) x2 x3 x4 x5 x6 v)
def SX_version (n : Nat) (f f1 : Nat → Nat → Int32) (x1 x2 x3 x4 x5 x6 v : Int32) : Prop :=
  (¬ (hasw n x1 ∧ toldw x2 x3 x4 x5 x6) ∧ v = -1 ∧ f1 = f) ∨ (∃ j, j < n ∧ x1 = nI j ∧ toldw x2 x3 x4 x5 x6 ∧ ((¬ (f 7 j = 0 ∨ f 7 j = 1) ∧ v = -12 ∧ f1 = f) ∨ ((f 7 j = 0 ∨ f 7 j = 1) ∧ AddS n f f1 1 x1 x2 x3 x4 x5 x6 v)))
def SX_print (n : Nat) (f f1 : Nat → Nat → Int32) (x1 x2 x3 x4 x5 x6 x7 v : Int32) : Prop :=
  (¬ (hasw n x1 ∧ toldw x3 x4 x5 x6 x7) ∧ v = -1 ∧ f1 = f) ∨ (∃ j, j < n ∧ x1 = nI j ∧ toldw x3 x4 x5 x6 x7 ∧ ((n = 40 ∧ v = -3 ∧ f1 = f) ∨ (n < 40 ∧ v = nI n ∧ f1 = m_ui (wadd f n 3 x1 x3 x4 x5 x6 x7) 13 n (vp_nar .boolean x2))))
def SX_retitle (n : Nat) (f f1 : Nat → Nat → Int32) (x1 x2 x3 v : Int32) : Prop :=
  (¬ (hasw n x1 ∧ inr 1800 1999 x2 ∧ inr 1 1073741823 x3) ∧ v = -1 ∧ f1 = f) ∨ (∃ j q, j < n ∧ x1 = nI j ∧ inr 1800 1999 x2 ∧ inr 1 1073741823 x3 ∧ f 96 j = nI q ∧ 1 ≤ q ∧ q ≤ 4 ∧ ((x2 ≤ f (56 + j) (q - 1) ∧ v = -2 ∧ f1 = f) ∨ (¬ x2 ≤ f (56 + j) (q - 1) ∧ q = 4 ∧ v = -3 ∧ f1 = f) ∨ (¬ x2 ≤ f (56 + j) (q - 1) ∧ q < 4 ∧ v = nI q + 1 ∧ f1 = wtit f j q x2 x3)))
def cutok (f : Nat → Nat → Int32) (j : Nat) (x3 x4 : Int32) : Prop := f 97 j = 2000 ∧ x3 ≤ f 9 j ∧ x4 ≤ f 10 j ∧ ¬ (x3 = f 9 j ∧ x4 = f 10 j)
def SX_cut (n : Nat) (f f1 : Nat → Nat → Int32) (x1 x2 x3 x4 v : Int32) : Prop :=
  (¬ (hasw n x1 ∧ inr 1800 1999 x2 ∧ inr 10 5000 x3 ∧ inr 10 5000 x4) ∧ v = -1 ∧ f1 = f) ∨ (∃ j, j < n ∧ x1 = nI j ∧ inr 1800 1999 x2 ∧ inr 10 5000 x3 ∧ inr 10 5000 x4 ∧ ((¬ (f 7 j = 2 ∨ f 7 j = 3) ∧ v = -12 ∧ f1 = f) ∨ ((f 7 j = 2 ∨ f 7 j = 3) ∧ ¬ cutok f j x3 x4 ∧ v = -2 ∧ f1 = f) ∨ ((f 7 j = 2 ∨ f 7 j = 3) ∧ cutok f j x3 x4 ∧ v = 1 ∧ f1 = wcut f j x2 x3 x4)))
def SX_told (n : Nat) (f : Nat → Nat → Int32) (x1 x2 v : Int32) : Prop :=
  (¬ hasw n x1 ∧ v = -1) ∨ (∃ j, j < n ∧ x1 = nI j ∧ ((x2 = 0 ∧ v = f 7 j) ∨ (x2 = 1 ∧ v = f 9 j) ∨ (x2 = 2 ∧ v = f 10 j) ∨ (x2 = 3 ∧ v = f 11 j) ∨ (x2 = 4 ∧ v = f 12 j) ∨ (x2 = 5 ∧ v = f 8 j) ∨ ((¬ x2 = 0 ∧ ¬ x2 = 1 ∧ ¬ x2 = 2 ∧ ¬ x2 = 3 ∧ ¬ x2 = 4 ∧ ¬ x2 = 5) ∧ v = -1)))
/-- the last place up to k with p, else 0 -/
def lat (p : Nat → Prop) [DecidablePred p] : Nat → Nat
  | 0 => 0
  | k + 1 => if p (k + 1) then k + 1 else lat p k
theorem lat_le (p : Nat → Prop) [DecidablePred p] : ∀ k, lat p k ≤ k
  | 0 => Nat.le_refl 0
  | k + 1 => by
    unfold lat
    split
    · exact Nat.le_refl _
    · exact Nat.le_succ_of_le (lat_le p k)
def titC (f : Nat → Nat → Int32) (j q : Nat) (y : Int32) : Int32 := f (15 + j) (lat (fun i => f (56 + j) i ≤ y) (q - 1))
def SX_then (n : Nat) (f : Nat → Nat → Int32) (x1 x2 x3 v : Int32) : Prop :=
  (¬ (hasw n x1 ∧ inr 1800 1999 x2) ∧ v = -1) ∨ (∃ j q, j < n ∧ x1 = nI j ∧ inr 1800 1999 x2 ∧ f 96 j = nI q ∧ 1 ≤ q ∧ q ≤ 4 ∧ ((x3 = 0 ∧ v = titC f j q x2) ∨ (x3 = 1 ∧ v = if x2 < f 97 j then f 9 j else f 98 j) ∨ (x3 = 2 ∧ v = if x2 < f 97 j then f 10 j else f 99 j) ∨ ((¬ x3 = 0 ∧ ¬ x3 = 1 ∧ ¬ x3 = 2) ∧ v = -1)))
def SX_turned (n : Nat) (f : Nat → Nat → Int32) (x1 v : Int32) : Prop :=
  (¬ hasw n x1 ∧ v = -1) ∨ (∃ j, j < n ∧ x1 = nI j ∧ ((¬ f 7 j = 3 ∧ v = -12) ∨ (f 7 j = 3 ∧ ¬ f 13 j = 0 ∧ v = 1) ∨ (f 7 j = 3 ∧ f 13 j = 0 ∧ v = 0)))
set_option maxRecDepth 100000 in
set_option maxHeartbeats 4000000 in
theorem sf_isPainted {d L : Nat} {f : Nat → Nat → Int32} {g : Nat → Nat → Int64} {j : Nat} {R : Option Value → mH → Prop} (hd : 1 ≤ d) (hj : j < 40) (H1 : (f 7 j = 0 ∨ f 7 j = 1) → R (some (.int 1)) (shF L, f, g)) (H0 : ¬ (f 7 j = 0 ∨ f 7 j = 1) → R (some (.int 0)) (shF L, f, g)) : Run mtab d 68 [.ref 6, .int (nI j)] (shF L, f, g) R := by
  obtain ⟨d, rfl⟩ : ∃ e, d = e + 1 := ⟨d - 1, by omega⟩
  refine go_X8_isPainted rfl ?_
  conv => whnf
  have hcl : (nI j).toNatClampNeg = j := nI_clamp (by omega)
  repeat' first
    | (simp only [hcl])
    | ((with_reducible refine ⟨vp_in_nI (by omega) (by decide), ?_⟩) <;> conv => whnf)
    | (refine ⟨Or.inl rfl, ?_⟩ <;> conv => whnf)
    | (refine ⟨Or.inr rfl, ?_⟩ <;> conv => whnf)
    | (refine ⟨Or.inl True.intro, ?_⟩ <;> conv => whnf)
    | (refine ⟨Or.inr True.intro, ?_⟩ <;> conv => whnf)
    | (refine ⟨fun c => ?_, fun c => ?_⟩ <;> first | ((have c9 : (1 : Int32) = 0 := by with_reducible exact c); exact absurd c9 (by decide)) | exact absurd (rfl : (0 : Int32) = 0) (by with_reducible exact c) | exact absurd True.intro (by with_reducible exact c) | exact False.elim (by with_reducible exact c) | (conv => whnf))
    | (refine ⟨by unfold vp_in; decide, ?_⟩ <;> conv => whnf)
    | fail
  all_goals first | exact ⟨Or.inl rfl, H0 (by grind)⟩ | exact ⟨Or.inr rfl, H1 (by grind)⟩ | exact H0 (by grind) | exact H1 (by grind)
set_option maxRecDepth 100000 in
set_option maxHeartbeats 4000000 in
theorem sf_isOnPaper {d L : Nat} {f : Nat → Nat → Int32} {g : Nat → Nat → Int64} {j : Nat} {R : Option Value → mH → Prop} (hd : 1 ≤ d) (hj : j < 40) (H1 : (f 7 j = 2 ∨ f 7 j = 3) → R (some (.int 1)) (shF L, f, g)) (H0 : ¬ (f 7 j = 2 ∨ f 7 j = 3) → R (some (.int 0)) (shF L, f, g)) : Run mtab d 69 [.ref 6, .int (nI j)] (shF L, f, g) R := by
  obtain ⟨d, rfl⟩ : ∃ e, d = e + 1 := ⟨d - 1, by omega⟩
  refine go_X8_isOnPaper rfl ?_
  conv => whnf
  have hcl : (nI j).toNatClampNeg = j := nI_clamp (by omega)
  repeat' first
    | (simp only [hcl])
    | ((with_reducible refine ⟨vp_in_nI (by omega) (by decide), ?_⟩) <;> conv => whnf)
    | (refine ⟨Or.inl rfl, ?_⟩ <;> conv => whnf)
    | (refine ⟨Or.inr rfl, ?_⟩ <;> conv => whnf)
    | (refine ⟨Or.inl True.intro, ?_⟩ <;> conv => whnf)
    | (refine ⟨Or.inr True.intro, ?_⟩ <;> conv => whnf)
    | (refine ⟨fun c => ?_, fun c => ?_⟩ <;> first | ((have c9 : (1 : Int32) = 0 := by with_reducible exact c); exact absurd c9 (by decide)) | exact absurd (rfl : (0 : Int32) = 0) (by with_reducible exact c) | exact absurd True.intro (by with_reducible exact c) | exact False.elim (by with_reducible exact c) | (conv => whnf))
    | (refine ⟨by unfold vp_in; decide, ?_⟩ <;> conv => whnf)
    | fail
  all_goals first | exact ⟨Or.inl rfl, H0 (by grind)⟩ | exact ⟨Or.inr rfl, H1 (by grind)⟩ | exact H0 (by grind) | exact H1 (by grind)
set_option maxRecDepth 100000 in
set_option maxHeartbeats 4000000 in
theorem sf_heightIn {d L : Nat} {f : Nat → Nat → Int32} {g : Nat → Nat → Int64} {j : Nat} {y : Int32} {R : Option Value → mH → Prop} (hd : 1 ≤ d) (hj : j < 40) (H : R (some (.int (if y < f 97 j then f 9 j else f 98 j))) (shF L, f, g)) : Run mtab d 74 [.ref 6, .int (nI j), .int y] (shF L, f, g) R := by
  obtain ⟨d, rfl⟩ : ∃ e, d = e + 1 := ⟨d - 1, by omega⟩
  refine go_X8_heightIn rfl ?_
  conv => whnf
  have hcl : (nI j).toNatClampNeg = j := nI_clamp (by omega)
  repeat' first
    | (simp only [hcl])
    | ((with_reducible refine ⟨vp_in_nI (by omega) (by decide), ?_⟩) <;> conv => whnf)
    | (refine ⟨Or.inl rfl, ?_⟩ <;> conv => whnf)
    | (refine ⟨Or.inr rfl, ?_⟩ <;> conv => whnf)
    | (refine ⟨Or.inl True.intro, ?_⟩ <;> conv => whnf)
    | (refine ⟨Or.inr True.intro, ?_⟩ <;> conv => whnf)
    | (refine ⟨fun c => ?_, fun c => ?_⟩ <;> first | ((have c9 : (1 : Int32) = 0 := by with_reducible exact c); exact absurd c9 (by decide)) | exact absurd (rfl : (0 : Int32) = 0) (by with_reducible exact c) | exact absurd True.intro (by with_reducible exact c) | exact False.elim (by with_reducible exact c) | (conv => whnf))
    | (refine ⟨by unfold vp_in; decide, ?_⟩ <;> conv => whnf)
    | fail
  all_goals first | (rw [if_pos (by first | assumption | exact i32_nle.mp ‹_›)] at H; exact H) | (rw [if_neg (by first | assumption | exact i32_nlt.mpr ‹_›)] at H; exact H)
set_option maxRecDepth 100000 in
set_option maxHeartbeats 4000000 in
theorem sf_widthIn {d L : Nat} {f : Nat → Nat → Int32} {g : Nat → Nat → Int64} {j : Nat} {y : Int32} {R : Option Value → mH → Prop} (hd : 1 ≤ d) (hj : j < 40) (H : R (some (.int (if y < f 97 j then f 10 j else f 99 j))) (shF L, f, g)) : Run mtab d 75 [.ref 6, .int (nI j), .int y] (shF L, f, g) R := by
  obtain ⟨d, rfl⟩ : ∃ e, d = e + 1 := ⟨d - 1, by omega⟩
  refine go_X8_widthIn rfl ?_
  conv => whnf
  have hcl : (nI j).toNatClampNeg = j := nI_clamp (by omega)
  repeat' first
    | (simp only [hcl])
    | ((with_reducible refine ⟨vp_in_nI (by omega) (by decide), ?_⟩) <;> conv => whnf)
    | (refine ⟨Or.inl rfl, ?_⟩ <;> conv => whnf)
    | (refine ⟨Or.inr rfl, ?_⟩ <;> conv => whnf)
    | (refine ⟨Or.inl True.intro, ?_⟩ <;> conv => whnf)
    | (refine ⟨Or.inr True.intro, ?_⟩ <;> conv => whnf)
    | (refine ⟨fun c => ?_, fun c => ?_⟩ <;> first | ((have c9 : (1 : Int32) = 0 := by with_reducible exact c); exact absurd c9 (by decide)) | exact absurd (rfl : (0 : Int32) = 0) (by with_reducible exact c) | exact absurd True.intro (by with_reducible exact c) | exact False.elim (by with_reducible exact c) | (conv => whnf))
    | (refine ⟨by unfold vp_in; decide, ?_⟩ <;> conv => whnf)
    | fail
  all_goals first | (rw [if_pos (by first | assumption | exact i32_nle.mp ‹_›)] at H; exact H) | (rw [if_neg (by first | assumption | exact i32_nlt.mpr ‹_›)] at H; exact H)
set_option maxRecDepth 100000 in
set_option maxHeartbeats 4000000 in
theorem tif_lp {d L j q : Nat} {f : Nat → Nat → Int32} {g : Nat → Nat → Int64} {y : Int32} {R : Option Value → mH → Prop} (hj : j < 40) (hq : f 96 j = nI q) (hq1 : 1 ≤ q) (hq4 : q ≤ 4) (H : R (some (.int (titC f j q y))) (shF L, f, g)) :
    ∀ (k i : Nat) (x b : Int32), i + k = q - 1 → x = nI (i + 1) → b = nI (lat (fun i => f (56 + j) i ≤ y) i) → WPe pg_X8_titleIn none (Run mtab d) R (m_drop pg_X8_titleIn 4) [some (.ref 6), some (.int (nI j)), some (.int y), some (.int b), some (.int x)] [] (shF L, f, g)
  | 0, i, x, b, hk, hx, hb => by
    subst hx
    subst hb
    have hcl : (nI j).toNatClampNeg = j := nI_clamp (by omega)
    have e : i = q - 1 := by omega
    subst e
    have hqq : f 96 (nI j).toNatClampNeg = nI (q - 1 + 1) := by rw [hcl, hq]; congr 1; omega
    have hlt := lat_le (fun i => f (56 + j) i ≤ y) (q - 1)
    have hcb : (nI (lat (fun i => f (56 + j) i ≤ y) (q - 1))).toNatClampNeg = lat (fun i => f (56 + j) i ≤ y) (q - 1) := nI_clamp (by omega)
    refine at_X8_titleIn ?_
    conv => whnf
    refine ⟨vp_in_nI (by omega) (by decide), ?_⟩
    conv => whnf
    simp only [hqq]
    refine ⟨fun c => ?_, fun c => absurd (nI_le (Nat.le_refl _) (by omega)) c⟩
    conv => whnf
    ((refine ⟨⟨vp_in_nI (by omega) (by decide), by rw [hcl]; show j < 40; omega, by rw [hcl, row_14 j hj]; rfl⟩, ?_⟩) <;> simp only [hcl, row_14 j hj, Option.getD_some] <;> conv => whnf)
    ((simp only [m_act_eq, mi, mj, m_act0, m_arr2, m_arr, shp_14 L j hj, shp_55 L j hj]) <;> conv => whnf)
    refine ⟨vp_in_nI (by omega) (by decide), ?_⟩
    conv => whnf
    simp only [hcb]
    exact H
  | k + 1, i, x, b, hk, hx, hb => by
    subst hx
    subst hb
    have hcl : (nI j).toNatClampNeg = j := nI_clamp (by omega)
    have hqq : f 96 (nI j).toNatClampNeg = nI q := by rw [hcl, hq]
    have hci : (nI (i + 1)).toNatClampNeg = i + 1 := nI_clamp (by omega)
    refine at_X8_titleIn ?_
    conv => whnf
    refine ⟨vp_in_nI (by omega) (by decide), ?_⟩
    conv => whnf
    simp only [hqq]
    refine ⟨fun c => absurd c (nI_ge (b := q) (by omega) (by omega)), fun c => ?_⟩
    conv => whnf
    ((refine ⟨⟨vp_in_nI (by omega) (by decide), by rw [hcl]; show j < 40; omega, by rw [hcl, row_55 j hj]; rfl⟩, ?_⟩) <;> simp only [hcl, row_55 j hj, Option.getD_some] <;> conv => whnf)
    ((simp only [m_act_eq, mi, mj, m_act0, m_arr2, m_arr, shp_14 L j hj, shp_55 L j hj]) <;> conv => whnf)
    refine ⟨vp_in_nI (by omega) (by decide), ?_⟩
    conv => whnf
    simp only [hci]
    refine ⟨fun c2 => ?_, fun c2 => ?_⟩
    · conv => whnf
      exact tif_lp hj hq hq1 hq4 H k (i + 1) _ _ (by omega) (nI_1 (i + 1)) (by
        show _ = nI (if f (56 + j) (i + 1) ≤ y then i + 1 else lat (fun i => f (56 + j) i ≤ y) i)
        rw [if_neg (i32_nle.mpr c2)])
    · conv => whnf
      exact tif_lp hj hq hq1 hq4 H k (i + 1) _ _ (by omega) (nI_1 (i + 1)) (by
        show _ = nI (if f (56 + j) (i + 1) ≤ y then i + 1 else lat (fun i => f (56 + j) i ≤ y) i)
        rw [if_pos (i32_nlt.mp c2)])
set_option maxRecDepth 100000 in
set_option maxHeartbeats 4000000 in
theorem sf_titleIn {d L : Nat} {f : Nat → Nat → Int32} {g : Nat → Nat → Int64} {j q : Nat} {y : Int32} {R : Option Value → mH → Prop} (hd : 2 ≤ d) (hj : j < 40) (hq : f 96 j = nI q) (hq1 : 1 ≤ q) (hq4 : q ≤ 4) (H : R (some (.int (titC f j q y))) (shF L, f, g)) : Run mtab d 73 [.ref 6, .int (nI j), .int y] (shF L, f, g) R := by
  obtain ⟨d, rfl⟩ : ∃ e, d = e + 1 := ⟨d - 1, by omega⟩
  refine go_X8_titleIn rfl ?_
  conv => whnf
  exact tif_lp hj hq hq1 hq4 H (q - 1) 0 _ _ (by omega) rfl rfl
set_option maxRecDepth 100000 in
set_option maxHeartbeats 4000000 in
theorem sf_work {d L : Nat} {f : Nat → Nat → Int32} {g : Nat → Nat → Int64} {n : Nat} {x1 x2 x3 x4 x5 x6 : Int32} {R : Option Value → mH → Prop} (hd : 5 ≤ d) (hb : f 6 13 = nI n) (hm : n ≤ 40) (H : ∀ v f1, SX_work n f f1 x1 x2 x3 x4 x5 x6 v → R (some (.int v)) (shF L, f1, g)) : Run mtab d 90 [.ref 5, .int x1, .int x2, .int x3, .int x4, .int x5, .int x6] (shF L, f, g) R := by
  obtain ⟨d, rfl⟩ : ∃ e, d = e + 1 := ⟨d - 1, by omega⟩
  refine go_X10_work rfl ?_
  conv => whnf
  repeat' first
    | ((with_reducible refine ⟨vp_in_nI (by omega) (by decide), ?_⟩) <;> conv => whnf)
    | (refine ⟨Or.inl rfl, ?_⟩ <;> conv => whnf)
    | (refine ⟨Or.inr rfl, ?_⟩ <;> conv => whnf)
    | (refine ⟨Or.inl True.intro, ?_⟩ <;> conv => whnf)
    | (refine ⟨Or.inr True.intro, ?_⟩ <;> conv => whnf)
    | (refine ⟨fun c => ?_, fun c => ?_⟩ <;> first | ((have c9 : (1 : Int32) = 0 := by with_reducible exact c); exact absurd c9 (by decide)) | exact absurd (rfl : (0 : Int32) = 0) (by with_reducible exact c) | exact absurd True.intro (by with_reducible exact c) | exact False.elim (by with_reducible exact c) | (conv => whnf))
    | (refine ct_isWithin (by omega) (fun p => ?_) (fun p => ?_) <;> conv => whnf)
    | (refine ct_isYear (by omega) (fun p => ?_) (fun p => ?_) <;> conv => whnf)
    | (refine ct_isSide (by omega) (fun p => ?_) (fun p => ?_) <;> conv => whnf)
    | (refine ct_isTitle (by omega) (fun p => ?_) (fun p => ?_) <;> conv => whnf)
    | (refine ct_isBits8 (by omega) (fun p => ?_) (fun p => ?_) <;> conv => whnf)
    | (refine ct_isBits20 (by omega) (fun p => ?_) (fun p => ?_) <;> conv => whnf)
    | (refine ct_isBits30 (by omega) (fun p => ?_) (fun p => ?_) <;> conv => whnf)
    | (refine ct_isToldWell (by omega) (fun p => ?_) (fun p => ?_) <;> conv => whnf)
    | (refine ct_isSheet (by omega) (fun p => ?_) (fun p => ?_) <;> conv => whnf)
    | (refine ct_isLane (by omega) (fun p => ?_) (fun p => ?_) <;> conv => whnf)
    | (refine sx_Wadd (by omega) hb hm (fun q => ?_) (fun q => ?_) <;> conv => whnf)
    | (refine ⟨by unfold vp_in; decide, ?_⟩ <;> conv => whnf)
    | fail
  all_goals first | exact H _ _ (Or.inl ⟨(by first | exact fun hh => absurd hh.2 (by assumption) | exact fun hh => absurd hh.1 (nhasw (by assumption)) | grind), rfl, rfl⟩) | exact H _ _ (Or.inr ⟨⟨by grind, by assumption⟩, Or.inl ⟨q, rfl, rfl⟩⟩) | exact H _ _ (Or.inr ⟨⟨by grind, by assumption⟩, Or.inr ⟨q, rfl, rfl⟩⟩)
set_option maxRecDepth 100000 in
set_option maxHeartbeats 4000000 in
theorem sf_version {d L : Nat} {f : Nat → Nat → Int32} {g : Nat → Nat → Int64} {n : Nat} {x1 x2 x3 x4 x5 x6 : Int32} {R : Option Value → mH → Prop} (hd : 5 ≤ d) (hb : f 6 13 = nI n) (hm : n ≤ 40) (H : ∀ v f1, SX_version n f f1 x1 x2 x3 x4 x5 x6 v → R (some (.int v)) (shF L, f1, g)) : Run mtab d 91 [.ref 5, .int x1, .int x2, .int x3, .int x4, .int x5, .int x6] (shF L, f, g) R := by
  obtain ⟨d, rfl⟩ : ∃ e, d = e + 1 := ⟨d - 1, by omega⟩
  refine go_X10_version rfl ?_
  conv => whnf
  repeat' first
    | ((with_reducible refine ⟨vp_in_nI (by omega) (by decide), ?_⟩) <;> conv => whnf)
    | (refine ⟨Or.inl rfl, ?_⟩ <;> conv => whnf)
    | (refine ⟨Or.inr rfl, ?_⟩ <;> conv => whnf)
    | (refine ⟨Or.inl True.intro, ?_⟩ <;> conv => whnf)
    | (refine ⟨Or.inr True.intro, ?_⟩ <;> conv => whnf)
    | (refine ⟨fun c => ?_, fun c => ?_⟩ <;> first | ((have c9 : (1 : Int32) = 0 := by with_reducible exact c); exact absurd c9 (by decide)) | exact absurd (rfl : (0 : Int32) = 0) (by with_reducible exact c) | exact absurd True.intro (by with_reducible exact c) | exact False.elim (by with_reducible exact c) | (conv => whnf))
    | (refine ct_has (by omega) hb hm (fun j hj e => ?_) (fun q => ?_) <;> (try subst e) <;> conv => whnf)
    | (refine ct_isWithin (by omega) (fun p => ?_) (fun p => ?_) <;> conv => whnf)
    | (refine ct_isYear (by omega) (fun p => ?_) (fun p => ?_) <;> conv => whnf)
    | (refine ct_isSide (by omega) (fun p => ?_) (fun p => ?_) <;> conv => whnf)
    | (refine ct_isTitle (by omega) (fun p => ?_) (fun p => ?_) <;> conv => whnf)
    | (refine ct_isBits8 (by omega) (fun p => ?_) (fun p => ?_) <;> conv => whnf)
    | (refine ct_isBits20 (by omega) (fun p => ?_) (fun p => ?_) <;> conv => whnf)
    | (refine ct_isBits30 (by omega) (fun p => ?_) (fun p => ?_) <;> conv => whnf)
    | (refine ct_isToldWell (by omega) (fun p => ?_) (fun p => ?_) <;> conv => whnf)
    | (refine ct_isSheet (by omega) (fun p => ?_) (fun p => ?_) <;> conv => whnf)
    | (refine ct_isLane (by omega) (fun p => ?_) (fun p => ?_) <;> conv => whnf)
    | (refine sf_isPainted (by omega) (by omega) (fun p => ?_) (fun p => ?_) <;> conv => whnf)
    | (refine sx_Wadd (by omega) hb hm (fun q => ?_) (fun q => ?_) <;> conv => whnf)
    | (refine ⟨by unfold vp_in; decide, ?_⟩ <;> conv => whnf)
    | fail
  all_goals first | exact H _ _ (Or.inl ⟨(by first | exact fun hh => absurd hh.2 (by assumption) | exact fun hh => absurd hh.1 (nhasw (by assumption)) | grind), rfl, rfl⟩) | exact H _ _ (Or.inr ⟨_, hj, rfl, by assumption, Or.inl ⟨p, rfl, rfl⟩⟩) | exact H _ _ (Or.inr ⟨_, hj, rfl, by assumption, Or.inr ⟨p, Or.inl ⟨q, rfl, rfl⟩⟩⟩) | exact H _ _ (Or.inr ⟨_, hj, rfl, by assumption, Or.inr ⟨p, Or.inr ⟨q, rfl, rfl⟩⟩⟩)
set_option maxRecDepth 100000 in
set_option maxHeartbeats 4000000 in
theorem sf_print {d L : Nat} {f : Nat → Nat → Int32} {g : Nat → Nat → Int64} {n : Nat} {x1 x2 x3 x4 x5 x6 x7 : Int32} {R : Option Value → mH → Prop} (hd : 5 ≤ d) (hb : f 6 13 = nI n) (hm : n ≤ 40) (H : ∀ v f1, SX_print n f f1 x1 x2 x3 x4 x5 x6 x7 v → R (some (.int v)) (shF L, f1, g)) : Run mtab d 92 [.ref 5, .int x1, .int x2, .int x3, .int x4, .int x5, .int x6, .int x7] (shF L, f, g) R := by
  obtain ⟨d, rfl⟩ : ∃ e, d = e + 1 := ⟨d - 1, by omega⟩
  refine go_X10_print rfl ?_
  conv => whnf
  repeat' first
    | ((with_reducible refine ⟨vp_in_nI (by omega) (by decide), ?_⟩) <;> conv => whnf)
    | (refine ⟨Or.inl rfl, ?_⟩ <;> conv => whnf)
    | (refine ⟨Or.inr rfl, ?_⟩ <;> conv => whnf)
    | (refine ⟨Or.inl True.intro, ?_⟩ <;> conv => whnf)
    | (refine ⟨Or.inr True.intro, ?_⟩ <;> conv => whnf)
    | (refine ⟨fun c => ?_, fun c => ?_⟩ <;> first | ((have c9 : (1 : Int32) = 0 := by with_reducible exact c); exact absurd c9 (by decide)) | exact absurd (rfl : (0 : Int32) = 0) (by with_reducible exact c) | exact absurd True.intro (by with_reducible exact c) | exact False.elim (by with_reducible exact c) | exact absurd c (nI_pos (by omega)) | exact absurd (show (-3 : Int32) < 0 by decide) (by with_reducible exact c) | ((have c9 : (0 : Int32) ≤ -3 := by with_reducible exact c); exact absurd c9 (by decide)) | exact absurd (nI_pos' (by omega)) (by with_reducible exact c) | (conv => whnf))
    | (refine ct_has (by omega) hb hm (fun j hj e => ?_) (fun q => ?_) <;> (try subst e) <;> conv => whnf)
    | (refine ct_isWithin (by omega) (fun p => ?_) (fun p => ?_) <;> conv => whnf)
    | (refine ct_isYear (by omega) (fun p => ?_) (fun p => ?_) <;> conv => whnf)
    | (refine ct_isSide (by omega) (fun p => ?_) (fun p => ?_) <;> conv => whnf)
    | (refine ct_isTitle (by omega) (fun p => ?_) (fun p => ?_) <;> conv => whnf)
    | (refine ct_isBits8 (by omega) (fun p => ?_) (fun p => ?_) <;> conv => whnf)
    | (refine ct_isBits20 (by omega) (fun p => ?_) (fun p => ?_) <;> conv => whnf)
    | (refine ct_isBits30 (by omega) (fun p => ?_) (fun p => ?_) <;> conv => whnf)
    | (refine ct_isToldWell (by omega) (fun p => ?_) (fun p => ?_) <;> conv => whnf)
    | (refine ct_isSheet (by omega) (fun p => ?_) (fun p => ?_) <;> conv => whnf)
    | (refine ct_isLane (by omega) (fun p => ?_) (fun p => ?_) <;> conv => whnf)
    | (refine sx_Wadd (by omega) hb hm (fun qn => ?_) (fun qn => ?_) <;> (have hcn : (nI n).toNatClampNeg = n := nI_clamp (by omega)) <;> conv => whnf)
    | (refine ⟨by unfold vp_in; decide, ?_⟩ <;> conv => whnf)
    | fail
  all_goals first | exact H _ _ (Or.inl ⟨(by first | exact fun hh => absurd hh.2 (by assumption) | exact fun hh => absurd hh.1 (nhasw (by assumption)) | grind), rfl, rfl⟩) | exact H _ _ (Or.inr ⟨_, hj, rfl, by assumption, Or.inl ⟨qn, rfl, rfl⟩⟩) | (simp only [hcn]; exact H _ _ (Or.inr ⟨_, hj, rfl, by assumption, Or.inr ⟨qn, rfl, rfl⟩⟩))
set_option maxRecDepth 100000 in
set_option maxHeartbeats 4000000 in
theorem sf_retitle {d L : Nat} {f : Nat → Nat → Int32} {g : Nat → Nat → Int64} {n : Nat} {x1 x2 x3 : Int32} {R : Option Value → mH → Prop} (hd : 5 ≤ d) (hb : f 6 13 = nI n) (hm : n ≤ 40) (hT : ∀ j, j < n → ∃ q, 1 ≤ q ∧ q ≤ 4 ∧ f 96 j = nI q) (H : ∀ v f1, SX_retitle n f f1 x1 x2 x3 v → R (some (.int v)) (shF L, f1, g)) : Run mtab d 93 [.ref 5, .int x1, .int x2, .int x3] (shF L, f, g) R := by
  obtain ⟨d, rfl⟩ : ∃ e, d = e + 1 := ⟨d - 1, by omega⟩
  refine go_X10_retitle rfl ?_
  conv => whnf
  repeat' first
    | ((with_reducible refine ⟨vp_in_nI (by omega) (by decide), ?_⟩) <;> conv => whnf)
    | (refine ⟨Or.inl rfl, ?_⟩ <;> conv => whnf)
    | (refine ⟨Or.inr rfl, ?_⟩ <;> conv => whnf)
    | (refine ⟨Or.inl True.intro, ?_⟩ <;> conv => whnf)
    | (refine ⟨Or.inr True.intro, ?_⟩ <;> conv => whnf)
    | (refine ⟨fun c => ?_, fun c => ?_⟩ <;> first | ((have c9 : (1 : Int32) = 0 := by with_reducible exact c); exact absurd c9 (by decide)) | exact absurd (rfl : (0 : Int32) = 0) (by with_reducible exact c) | exact absurd True.intro (by with_reducible exact c) | exact False.elim (by with_reducible exact c) | (conv => whnf))
    | (refine ct_has (by omega) hb hm (fun j hj e => ?_) (fun q => ?_) <;> (try subst e) <;> conv => whnf)
    | (refine ct_isWithin (by omega) (fun p => ?_) (fun p => ?_) <;> conv => whnf)
    | (refine ct_isYear (by omega) (fun p => ?_) (fun p => ?_) <;> conv => whnf)
    | (refine ct_isSide (by omega) (fun p => ?_) (fun p => ?_) <;> conv => whnf)
    | (refine ct_isTitle (by omega) (fun p => ?_) (fun p => ?_) <;> conv => whnf)
    | (refine ct_isBits8 (by omega) (fun p => ?_) (fun p => ?_) <;> conv => whnf)
    | (refine ct_isBits20 (by omega) (fun p => ?_) (fun p => ?_) <;> conv => whnf)
    | (refine ct_isBits30 (by omega) (fun p => ?_) (fun p => ?_) <;> conv => whnf)
    | (refine ct_isToldWell (by omega) (fun p => ?_) (fun p => ?_) <;> conv => whnf)
    | (refine ct_isSheet (by omega) (fun p => ?_) (fun p => ?_) <;> conv => whnf)
    | (refine ct_isLane (by omega) (fun p => ?_) (fun p => ?_) <;> conv => whnf)
    | ((obtain ⟨q, hq1, hq4, hq⟩ := hT j hj); refine sx_addTitle (by omega) (by omega) hq hq1 hq4 (fun u => ?_) (fun u u2 => ?_) (fun u u2 => ?_) <;> conv => whnf)
    | (refine ⟨by unfold vp_in; decide, ?_⟩ <;> conv => whnf)
    | fail
  all_goals first | exact H _ _ (Or.inl ⟨(by first | exact fun hh => absurd hh.1 (nhasw (by assumption)) | exact fun hh => absurd hh.2.1 (by assumption) | exact fun hh => absurd hh.2.2 (by assumption) | exact fun hh => absurd hh.2.2.1 (by assumption) | exact fun hh => absurd hh.2.2.2 (by assumption)), rfl, rfl⟩) | exact H _ _ (Or.inr ⟨_, q, hj, rfl, by assumption, by assumption, hq, hq1, hq4, Or.inl ⟨u, rfl, rfl⟩⟩) | exact H _ _ (Or.inr ⟨_, q, hj, rfl, by assumption, by assumption, hq, hq1, hq4, Or.inr (Or.inl ⟨u, u2, rfl, rfl⟩)⟩) | exact H _ _ (Or.inr ⟨_, q, hj, rfl, by assumption, by assumption, hq, hq1, hq4, Or.inr (Or.inr ⟨u, u2, rfl, rfl⟩)⟩)
set_option maxRecDepth 100000 in
set_option maxHeartbeats 4000000 in
theorem sf_cut {d L : Nat} {f : Nat → Nat → Int32} {g : Nat → Nat → Int64} {n : Nat} {x1 x2 x3 x4 : Int32} {R : Option Value → mH → Prop} (hd : 5 ≤ d) (hb : f 6 13 = nI n) (hm : n ≤ 40) (H : ∀ v f1, SX_cut n f f1 x1 x2 x3 x4 v → R (some (.int v)) (shF L, f1, g)) : Run mtab d 94 [.ref 5, .int x1, .int x2, .int x3, .int x4] (shF L, f, g) R := by
  obtain ⟨d, rfl⟩ : ∃ e, d = e + 1 := ⟨d - 1, by omega⟩
  refine go_X10_cut rfl ?_
  conv => whnf
  repeat' first
    | ((with_reducible refine ⟨vp_in_nI (by omega) (by decide), ?_⟩) <;> conv => whnf)
    | (refine ⟨Or.inl rfl, ?_⟩ <;> conv => whnf)
    | (refine ⟨Or.inr rfl, ?_⟩ <;> conv => whnf)
    | (refine ⟨Or.inl True.intro, ?_⟩ <;> conv => whnf)
    | (refine ⟨Or.inr True.intro, ?_⟩ <;> conv => whnf)
    | (refine ⟨fun c => ?_, fun c => ?_⟩ <;> first | ((have c9 : (1 : Int32) = 0 := by with_reducible exact c); exact absurd c9 (by decide)) | exact absurd (rfl : (0 : Int32) = 0) (by with_reducible exact c) | exact absurd True.intro (by with_reducible exact c) | exact False.elim (by with_reducible exact c) | (conv => whnf))
    | (refine ct_has (by omega) hb hm (fun j hj e => ?_) (fun q => ?_) <;> (try subst e) <;> conv => whnf)
    | (refine ct_isWithin (by omega) (fun p => ?_) (fun p => ?_) <;> conv => whnf)
    | (refine ct_isYear (by omega) (fun p => ?_) (fun p => ?_) <;> conv => whnf)
    | (refine ct_isSide (by omega) (fun p => ?_) (fun p => ?_) <;> conv => whnf)
    | (refine ct_isTitle (by omega) (fun p => ?_) (fun p => ?_) <;> conv => whnf)
    | (refine ct_isBits8 (by omega) (fun p => ?_) (fun p => ?_) <;> conv => whnf)
    | (refine ct_isBits20 (by omega) (fun p => ?_) (fun p => ?_) <;> conv => whnf)
    | (refine ct_isBits30 (by omega) (fun p => ?_) (fun p => ?_) <;> conv => whnf)
    | (refine ct_isToldWell (by omega) (fun p => ?_) (fun p => ?_) <;> conv => whnf)
    | (refine ct_isSheet (by omega) (fun p => ?_) (fun p => ?_) <;> conv => whnf)
    | (refine ct_isLane (by omega) (fun p => ?_) (fun p => ?_) <;> conv => whnf)
    | (refine sf_isOnPaper (by omega) (by omega) (fun pp => ?_) (fun pp => ?_) <;> conv => whnf)
    | (refine sx_trim (by omega) (by omega) (fun u => ?_) (fun u => ?_) <;> conv => whnf)
    | (refine ⟨by unfold vp_in; decide, ?_⟩ <;> conv => whnf)
    | fail
  all_goals first | exact H _ _ (Or.inl ⟨(by first | exact fun hh => absurd hh.1 (nhasw (by assumption)) | exact fun hh => absurd hh.2.1 (by assumption) | exact fun hh => absurd hh.2.2 (by assumption) | exact fun hh => absurd hh.2.2.1 (by assumption) | exact fun hh => absurd hh.2.2.2 (by assumption)), rfl, rfl⟩) | exact H _ _ (Or.inr ⟨_, hj, rfl, by assumption, by assumption, by assumption, Or.inl ⟨pp, rfl, rfl⟩⟩) | exact H _ _ (Or.inr ⟨_, hj, rfl, by assumption, by assumption, by assumption, Or.inr (Or.inl ⟨pp, u, rfl, rfl⟩)⟩) | exact H _ _ (Or.inr ⟨_, hj, rfl, by assumption, by assumption, by assumption, Or.inr (Or.inr ⟨pp, u, rfl, rfl⟩)⟩)
set_option maxRecDepth 100000 in
set_option maxHeartbeats 4000000 in
theorem sf_told {d L : Nat} {f : Nat → Nat → Int32} {g : Nat → Nat → Int64} {n : Nat} {x1 x2 : Int32} {R : Option Value → mH → Prop} (hd : 5 ≤ d) (hb : f 6 13 = nI n) (hm : n ≤ 40) (H : ∀ v, SX_told n f x1 x2 v → R (some (.int v)) (shF L, f, g)) : Run mtab d 95 [.ref 5, .int x1, .int x2] (shF L, f, g) R := by
  obtain ⟨d, rfl⟩ : ∃ e, d = e + 1 := ⟨d - 1, by omega⟩
  refine go_X10_told rfl ?_
  conv => whnf
  repeat' first
    | ((with_reducible refine ⟨vp_in_nI (by omega) (by decide), ?_⟩) <;> conv => whnf)
    | (refine ⟨Or.inl rfl, ?_⟩ <;> conv => whnf)
    | (refine ⟨Or.inr rfl, ?_⟩ <;> conv => whnf)
    | (refine ⟨Or.inl True.intro, ?_⟩ <;> conv => whnf)
    | (refine ⟨Or.inr True.intro, ?_⟩ <;> conv => whnf)
    | (refine ⟨fun c => ?_, fun c => ?_⟩ <;> first | ((have c9 : (1 : Int32) = 0 := by with_reducible exact c); exact absurd c9 (by decide)) | exact absurd (rfl : (0 : Int32) = 0) (by with_reducible exact c) | exact absurd True.intro (by with_reducible exact c) | exact False.elim (by with_reducible exact c) | (conv => whnf))
    | (refine ct_has (by omega) hb hm (fun j hj e => ?_) (fun q => ?_) <;> (try subst e) <;> conv => whnf)
    | (refine ⟨by unfold vp_in; decide, ?_⟩ <;> conv => whnf)
    | (refine ⟨fun c => ?_, ?_⟩ <;> conv => whnf)
    | (intro c; conv => whnf)
    | fail
  all_goals first | exact H _ (Or.inl ⟨nhasw (by assumption), rfl⟩) | ((try simp only [show (nI j).toNatClampNeg = j from nI_clamp (by omega)]); first | exact H _ (Or.inr ⟨j, hj, rfl, Or.inl ⟨by exact c, rfl⟩⟩) | exact H _ (Or.inr ⟨j, hj, rfl, Or.inr (Or.inl ⟨by exact c, rfl⟩)⟩) | exact H _ (Or.inr ⟨j, hj, rfl, Or.inr (Or.inr (Or.inl ⟨by exact c, rfl⟩))⟩) | exact H _ (Or.inr ⟨j, hj, rfl, Or.inr (Or.inr (Or.inr (Or.inl ⟨by exact c, rfl⟩)))⟩) | exact H _ (Or.inr ⟨j, hj, rfl, Or.inr (Or.inr (Or.inr (Or.inr (Or.inl ⟨by exact c, rfl⟩))))⟩) | exact H _ (Or.inr ⟨j, hj, rfl, Or.inr (Or.inr (Or.inr (Or.inr (Or.inr (Or.inl ⟨by exact c, rfl⟩)))))⟩) | exact H _ (Or.inr ⟨j, hj, rfl, Or.inr (Or.inr (Or.inr (Or.inr (Or.inr (Or.inr (⟨⟨c.1.1.1.1.1, c.1.1.1.1.2, c.1.1.1.2, c.1.1.2, c.1.2, c.2⟩, rfl⟩))))))⟩))
set_option maxRecDepth 100000 in
set_option maxHeartbeats 4000000 in
theorem sf_then {d L : Nat} {f : Nat → Nat → Int32} {g : Nat → Nat → Int64} {n : Nat} {x1 x2 x3 : Int32} {R : Option Value → mH → Prop} (hd : 5 ≤ d) (hb : f 6 13 = nI n) (hm : n ≤ 40) (hT : ∀ j, j < n → ∃ q, 1 ≤ q ∧ q ≤ 4 ∧ f 96 j = nI q) (H : ∀ v, SX_then n f x1 x2 x3 v → R (some (.int v)) (shF L, f, g)) : Run mtab d 96 [.ref 5, .int x1, .int x2, .int x3] (shF L, f, g) R := by
  obtain ⟨d, rfl⟩ : ∃ e, d = e + 1 := ⟨d - 1, by omega⟩
  refine go_X10_then rfl ?_
  conv => whnf
  repeat' first
    | ((with_reducible refine ⟨vp_in_nI (by omega) (by decide), ?_⟩) <;> conv => whnf)
    | (refine ⟨Or.inl rfl, ?_⟩ <;> conv => whnf)
    | (refine ⟨Or.inr rfl, ?_⟩ <;> conv => whnf)
    | (refine ⟨Or.inl True.intro, ?_⟩ <;> conv => whnf)
    | (refine ⟨Or.inr True.intro, ?_⟩ <;> conv => whnf)
    | (refine ⟨fun c => ?_, fun c => ?_⟩ <;> first | ((have c9 : (1 : Int32) = 0 := by with_reducible exact c); exact absurd c9 (by decide)) | exact absurd (rfl : (0 : Int32) = 0) (by with_reducible exact c) | exact absurd True.intro (by with_reducible exact c) | exact False.elim (by with_reducible exact c) | (conv => whnf))
    | (refine ct_has (by omega) hb hm (fun j hj e => ?_) (fun q => ?_) <;> (try subst e) <;> conv => whnf)
    | (refine ct_isWithin (by omega) (fun p => ?_) (fun p => ?_) <;> conv => whnf)
    | (refine ct_isYear (by omega) (fun p => ?_) (fun p => ?_) <;> conv => whnf)
    | (refine ct_isSide (by omega) (fun p => ?_) (fun p => ?_) <;> conv => whnf)
    | (refine ct_isTitle (by omega) (fun p => ?_) (fun p => ?_) <;> conv => whnf)
    | (refine ct_isBits8 (by omega) (fun p => ?_) (fun p => ?_) <;> conv => whnf)
    | (refine ct_isBits20 (by omega) (fun p => ?_) (fun p => ?_) <;> conv => whnf)
    | (refine ct_isBits30 (by omega) (fun p => ?_) (fun p => ?_) <;> conv => whnf)
    | (refine ct_isToldWell (by omega) (fun p => ?_) (fun p => ?_) <;> conv => whnf)
    | (refine ct_isSheet (by omega) (fun p => ?_) (fun p => ?_) <;> conv => whnf)
    | (refine ct_isLane (by omega) (fun p => ?_) (fun p => ?_) <;> conv => whnf)
    | ((obtain ⟨q, hq1, hq4, hq⟩ := hT j hj); refine sf_titleIn (by omega) (by omega) hq hq1 hq4 ?_ <;> conv => whnf)
    | (refine sf_heightIn (by omega) (by omega) ?_ <;> conv => whnf)
    | (refine sf_widthIn (by omega) (by omega) ?_ <;> conv => whnf)
    | (refine ⟨by unfold vp_in; decide, ?_⟩ <;> conv => whnf)
    | (refine ⟨fun c => ?_, ?_⟩ <;> conv => whnf)
    | (intro c; conv => whnf)
    | fail
  all_goals first | exact H _ (Or.inl ⟨fun hh => absurd hh.1 (nhasw (by assumption)), rfl⟩) | exact H _ (Or.inl ⟨fun hh => absurd hh.2 (by assumption), rfl⟩) | exact H _ (Or.inr ⟨j, q, hj, rfl, by assumption, hq, hq1, hq4, Or.inl ⟨by exact c, rfl⟩⟩) | (obtain ⟨q, hq1, hq4, hq⟩ := hT j hj; first | exact H _ (Or.inr ⟨j, q, hj, rfl, by assumption, hq, hq1, hq4, Or.inl ⟨by exact c, rfl⟩⟩) | exact H _ (Or.inr ⟨j, q, hj, rfl, by assumption, hq, hq1, hq4, Or.inr (Or.inl ⟨by exact c, rfl⟩)⟩) | exact H _ (Or.inr ⟨j, q, hj, rfl, by assumption, hq, hq1, hq4, Or.inr (Or.inr (Or.inl ⟨by exact c, rfl⟩))⟩) | exact H _ (Or.inr ⟨j, q, hj, rfl, by assumption, hq, hq1, hq4, Or.inr (Or.inr (Or.inr (⟨⟨c.1.1, c.1.2, c.2⟩, rfl⟩)))⟩))
set_option maxRecDepth 100000 in
set_option maxHeartbeats 4000000 in
theorem sf_turned {d L : Nat} {f : Nat → Nat → Int32} {g : Nat → Nat → Int64} {n : Nat} {x1 : Int32} {R : Option Value → mH → Prop} (hd : 5 ≤ d) (hb : f 6 13 = nI n) (hm : n ≤ 40) (H : ∀ v, SX_turned n f x1 v → R (some (.int v)) (shF L, f, g)) : Run mtab d 97 [.ref 5, .int x1] (shF L, f, g) R := by
  obtain ⟨d, rfl⟩ : ∃ e, d = e + 1 := ⟨d - 1, by omega⟩
  refine go_X10_turned rfl ?_
  conv => whnf
  repeat' first
    | ((with_reducible refine ⟨vp_in_nI (by omega) (by decide), ?_⟩) <;> conv => whnf)
    | (refine ⟨Or.inl rfl, ?_⟩ <;> conv => whnf)
    | (refine ⟨Or.inr rfl, ?_⟩ <;> conv => whnf)
    | (refine ⟨Or.inl True.intro, ?_⟩ <;> conv => whnf)
    | (refine ⟨Or.inr True.intro, ?_⟩ <;> conv => whnf)
    | (refine ⟨fun c => ?_, fun c => ?_⟩ <;> first | ((have c9 : (1 : Int32) = 0 := by with_reducible exact c); exact absurd c9 (by decide)) | exact absurd (rfl : (0 : Int32) = 0) (by with_reducible exact c) | exact absurd True.intro (by with_reducible exact c) | exact False.elim (by with_reducible exact c) | (conv => whnf))
    | (refine ct_has (by omega) hb hm (fun j hj e => ?_) (fun q => ?_) <;> (try subst e) <;> conv => whnf)
    | (refine ct_bit (by omega) (fun p => ?_) (fun p => ?_) <;> conv => whnf)
    | (refine ⟨by unfold vp_in; decide, ?_⟩ <;> conv => whnf)
    | fail
  all_goals first | exact H _ (Or.inl ⟨nhasw (by assumption), rfl⟩) | (simp only [show (nI j).toNatClampNeg = j from nI_clamp (by omega)] at *; first | exact H _ (Or.inr ⟨j, hj, rfl, Or.inl ⟨by assumption, rfl⟩⟩) | exact H _ (Or.inr ⟨j, hj, rfl, Or.inr (Or.inl ⟨by assumption, by assumption, rfl⟩)⟩) | exact H _ (Or.inr ⟨j, hj, rfl, Or.inr (Or.inr ⟨by assumption, by assumption, rfl⟩)⟩))
