theorem ct_i_0_1 {d : Nat} {x : Int32} {h : mH} {R : Option Value → mH → Prop} (hd : 1 ≤ d) (H1 : inr 0 1 x → R (some (.int 1)) h) (H0 : ¬ inr 0 1 x → R (some (.int 0)) h) : Run mtab d 147 [.long x.toInt64, .long 0, .long 1] h R := ct_in hd rfl (by decide) (by decide) H1 H0
theorem ct_i_0_2 {d : Nat} {x : Int32} {h : mH} {R : Option Value → mH → Prop} (hd : 1 ≤ d) (H1 : inr 0 2 x → R (some (.int 1)) h) (H0 : ¬ inr 0 2 x → R (some (.int 0)) h) : Run mtab d 147 [.long x.toInt64, .long 0, .long 2] h R := ct_in hd rfl (by decide) (by decide) H1 H0
theorem ct_i_0_3 {d : Nat} {x : Int32} {h : mH} {R : Option Value → mH → Prop} (hd : 1 ≤ d) (H1 : inr 0 3 x → R (some (.int 1)) h) (H0 : ¬ inr 0 3 x → R (some (.int 0)) h) : Run mtab d 147 [.long x.toInt64, .long 0, .long 3] h R := ct_in hd rfl (by decide) (by decide) H1 H0
theorem ct_i_0_4 {d : Nat} {x : Int32} {h : mH} {R : Option Value → mH → Prop} (hd : 1 ≤ d) (H1 : inr 0 4 x → R (some (.int 1)) h) (H0 : ¬ inr 0 4 x → R (some (.int 0)) h) : Run mtab d 147 [.long x.toInt64, .long 0, .long 4] h R := ct_in hd rfl (by decide) (by decide) H1 H0
theorem ct_i_0_5 {d : Nat} {x : Int32} {h : mH} {R : Option Value → mH → Prop} (hd : 1 ≤ d) (H1 : inr 0 5 x → R (some (.int 1)) h) (H0 : ¬ inr 0 5 x → R (some (.int 0)) h) : Run mtab d 147 [.long x.toInt64, .long 0, .long 5] h R := ct_in hd rfl (by decide) (by decide) H1 H0
theorem ct_i_0_7 {d : Nat} {x : Int32} {h : mH} {R : Option Value → mH → Prop} (hd : 1 ≤ d) (H1 : inr 0 7 x → R (some (.int 1)) h) (H0 : ¬ inr 0 7 x → R (some (.int 0)) h) : Run mtab d 147 [.long x.toInt64, .long 0, .long 7] h R := ct_in hd rfl (by decide) (by decide) H1 H0
theorem ct_i_0_15 {d : Nat} {x : Int32} {h : mH} {R : Option Value → mH → Prop} (hd : 1 ≤ d) (H1 : inr 0 15 x → R (some (.int 1)) h) (H0 : ¬ inr 0 15 x → R (some (.int 0)) h) : Run mtab d 147 [.long x.toInt64, .long 0, .long 15] h R := ct_in hd rfl (by decide) (by decide) H1 H0
theorem ct_i_0_19 {d : Nat} {x : Int32} {h : mH} {R : Option Value → mH → Prop} (hd : 1 ≤ d) (H1 : inr 0 19 x → R (some (.int 1)) h) (H0 : ¬ inr 0 19 x → R (some (.int 0)) h) : Run mtab d 147 [.long x.toInt64, .long 0, .long 19] h R := ct_in hd rfl (by decide) (by decide) H1 H0
theorem ct_i_0_255 {d : Nat} {x : Int32} {h : mH} {R : Option Value → mH → Prop} (hd : 1 ≤ d) (H1 : inr 0 255 x → R (some (.int 1)) h) (H0 : ¬ inr 0 255 x → R (some (.int 0)) h) : Run mtab d 147 [.long x.toInt64, .long 0, .long 255] h R := ct_in hd rfl (by decide) (by decide) H1 H0
theorem ct_i_0_9999 {d : Nat} {x : Int32} {h : mH} {R : Option Value → mH → Prop} (hd : 1 ≤ d) (H1 : inr 0 9999 x → R (some (.int 1)) h) (H0 : ¬ inr 0 9999 x → R (some (.int 0)) h) : Run mtab d 147 [.long x.toInt64, .long 0, .long 9999] h R := ct_in hd rfl (by decide) (by decide) H1 H0
theorem ct_i_0_10 {d : Nat} {x : Int32} {h : mH} {R : Option Value → mH → Prop} (hd : 1 ≤ d) (H1 : inr 0 10 x → R (some (.int 1)) h) (H0 : ¬ inr 0 10 x → R (some (.int 0)) h) : Run mtab d 147 [.long x.toInt64, .long 0, .long 10] h R := ct_in hd rfl (by decide) (by decide) H1 H0
theorem ct_i_0_1048575 {d : Nat} {x : Int32} {h : mH} {R : Option Value → mH → Prop} (hd : 1 ≤ d) (H1 : inr 0 1048575 x → R (some (.int 1)) h) (H0 : ¬ inr 0 1048575 x → R (some (.int 0)) h) : Run mtab d 147 [.long x.toInt64, .long 0, .long 1048575] h R := ct_in hd rfl (by decide) (by decide) H1 H0
theorem ct_i_0_1073741823 {d : Nat} {x : Int32} {h : mH} {R : Option Value → mH → Prop} (hd : 1 ≤ d) (H1 : inr 0 1073741823 x → R (some (.int 1)) h) (H0 : ¬ inr 0 1073741823 x → R (some (.int 0)) h) : Run mtab d 147 [.long x.toInt64, .long 0, .long 1073741823] h R := ct_in hd rfl (by decide) (by decide) H1 H0
theorem ct_i_1_1073741823 {d : Nat} {x : Int32} {h : mH} {R : Option Value → mH → Prop} (hd : 1 ≤ d) (H1 : inr 1 1073741823 x → R (some (.int 1)) h) (H0 : ¬ inr 1 1073741823 x → R (some (.int 0)) h) : Run mtab d 147 [.long x.toInt64, .long 1, .long 1073741823] h R := ct_in hd rfl (by decide) (by decide) H1 H0
theorem ct_i_1_6000 {d : Nat} {x : Int32} {h : mH} {R : Option Value → mH → Prop} (hd : 1 ≤ d) (H1 : inr 1 6000 x → R (some (.int 1)) h) (H0 : ¬ inr 1 6000 x → R (some (.int 0)) h) : Run mtab d 147 [.long x.toInt64, .long 1, .long 6000] h R := ct_in hd rfl (by decide) (by decide) H1 H0
theorem ct_i_1_8 {d : Nat} {x : Int32} {h : mH} {R : Option Value → mH → Prop} (hd : 1 ≤ d) (H1 : inr 1 8 x → R (some (.int 1)) h) (H0 : ¬ inr 1 8 x → R (some (.int 0)) h) : Run mtab d 147 [.long x.toInt64, .long 1, .long 8] h R := ct_in hd rfl (by decide) (by decide) H1 H0
theorem ct_i_m1_19 {d : Nat} {x : Int32} {h : mH} {R : Option Value → mH → Prop} (hd : 1 ≤ d) (H1 : inr (-1) 19 x → R (some (.int 1)) h) (H0 : ¬ inr (-1) 19 x → R (some (.int 0)) h) : Run mtab d 147 [.long x.toInt64, .long (-1), .long 19] h R := ct_in hd rfl (by decide) (by decide) H1 H0
theorem ct_i_m30_30 {d : Nat} {x : Int32} {h : mH} {R : Option Value → mH → Prop} (hd : 1 ≤ d) (H1 : inr (-30) 30 x → R (some (.int 1)) h) (H0 : ¬ inr (-30) 30 x → R (some (.int 0)) h) : Run mtab d 147 [.long x.toInt64, .long (-30), .long 30] h R := ct_in hd rfl (by decide) (by decide) H1 H0
theorem ct_i_48_57 {d : Nat} {x : Int32} {h : mH} {R : Option Value → mH → Prop} (hd : 1 ≤ d) (H1 : inr 48 57 x → R (some (.int 1)) h) (H0 : ¬ inr 48 57 x → R (some (.int 0)) h) : Run mtab d 147 [.long x.toInt64, .long 48, .long 57] h R := ct_in hd rfl (by decide) (by decide) H1 H0
theorem ct_i_0_v {d : Nat} {x y : Int32} {h : mH} {R : Option Value → mH → Prop} (hd : 1 ≤ d) (H1 : inr 0 y x → R (some (.int 1)) h) (H0 : ¬ inr 0 y x → R (some (.int 0)) h) : Run mtab d 147 [.long x.toInt64, .long 0, .long y.toInt64] h R := ct_in hd rfl (by decide) rfl H1 H0
theorem ct_i_v_v {d : Nat} {x y z : Int32} {h : mH} {R : Option Value → mH → Prop} (hd : 1 ≤ d) (H1 : inr y z x → R (some (.int 1)) h) (H0 : ¬ inr y z x → R (some (.int 0)) h) : Run mtab d 147 [.long x.toInt64, .long y.toInt64, .long z.toInt64] h R := ct_in hd rfl rfl rfl H1 H0
theorem inr_cntI {n j : Nat} (hn : n < 2 ^ 31) (h : j < n) : inr 0 (nI n - 1) (nI j) := by
  obtain ⟨k, rfl⟩ : ∃ k, n = k + 1 := ⟨n - 1, by omega⟩
  rw [nI_pred]
  exact inr_n (m := k) (by omega) (nI_toInt (by omega)) (by omega)
theorem nI_4m (n : Nat) : 4 * nI n = nI (4 * n) := (Int32.ofNat_mul 4 n).symm
set_option maxRecDepth 100000 in
set_option maxHeartbeats 4000000 in
theorem ct_mIsWork {d L : Nat} {f : Nat → Nat → Int32} {g : Nat → Nat → Int64} {n : Nat} {w : Int32} {R : Option Value → mH → Prop} (hd : 2 ≤ d) (hb : f 181 0 = nI n) (hm : n ≤ 40) (H1 : ∀ j, j < n → w = nI j → R (some (.int 1)) (shF L, f, g)) (H0 : (∀ j, j < n → ¬ w = nI j) → R (some (.int 0)) (shF L, f, g)) : Run mtab d 150 [.ref 181, .int w] (shF L, f, g) R := by
  obtain ⟨d, rfl⟩ : ∃ e, d = e + 1 := ⟨d - 1, by omega⟩
  refine go_X11_isWork rfl ?_
  conv => whnf
  repeat' first
    | (simp only [hb])
    | ((with_reducible refine ⟨vp_in_nI (by omega) (by decide), ?_⟩) <;> conv => whnf)
    | (refine ⟨Or.inl rfl, ?_⟩ <;> conv => whnf)
    | (refine ⟨Or.inr rfl, ?_⟩ <;> conv => whnf)
    | (refine ⟨Or.inl True.intro, ?_⟩ <;> conv => whnf)
    | (refine ⟨Or.inr True.intro, ?_⟩ <;> conv => whnf)
    | (refine ⟨fun c => ?_, fun c => ?_⟩ <;> first | ((have c9 : (1 : Int32) = 0 := by with_reducible exact c); exact absurd c9 (by decide)) | exact absurd (rfl : (0 : Int32) = 0) (by with_reducible exact c) | exact absurd True.intro (by with_reducible exact c) | exact False.elim (by with_reducible exact c) | (conv => whnf))
    | ((with_reducible refine ct_i_0_v (by omega) (fun p => ?_) (fun p => ?_)) <;> conv => whnf)
    | (refine ⟨by unfold vp_in; decide, ?_⟩ <;> conv => whnf)
    | fail
  all_goals first | (obtain ⟨j, hj, e⟩ := inr_cnt (by omega) p; exact H1 j hj e) | exact H0 (fun j hj e => p (by rw [e]; exact inr_cntI (by omega) hj))
def madd (f : Nat → Nat → Int32) (n : Nat) (kind of tu h w t lo hi : Int32) : Nat → Nat → Int32 := (m_ui (m_ui (m_ui (m_ui (m_ui (m_ui (m_ui (m_ui (m_ui (m_ui (m_ui f 182 n kind) 183 n of) 184 n (vp_nar .boolean tu)) 185 n h) 186 n w) 187 n lo) 188 n hi) 189 (4 * n) t) 191 n 1) 181 0 (nI n + 1)) 181 29 0)
def mtit (f : Nat → Nat → Int32) (j q : Nat) (y t : Int32) : Nat → Nat → Int32 := (m_ui (m_ui (m_ui (m_ui f 189 (4 * j + q) t) 190 (4 * j + q) y) 191 j (nI q + 1)) 181 29 0)
def mcut (f : Nat → Nat → Int32) (j : Nat) (y h w : Int32) : Nat → Nat → Int32 := (m_ui (m_ui (m_ui (m_ui f 192 j y) 193 j h) 194 j w) 181 29 0)
set_option maxRecDepth 100000 in
set_option maxHeartbeats 4000000 in
theorem sm_Madd {d L : Nat} {f : Nat → Nat → Int32} {g : Nat → Nat → Int64} {n : Nat} {x1 x2 x3 x4 x5 x6 x7 x8 : Int32} {R : Option Value → mH → Prop} (hd : 1 ≤ d) (hb : f 181 0 = nI n) (hm : n ≤ 40) (HF : n = 40 → R (some (.int (-3))) (shF L, f, g)) (H : n < 40 → R (some (.int (nI n))) (shF L, madd f n x1 x2 x3 x4 x5 x6 x7 x8, g)) : Run mtab d 153 [.ref 181, .int x1, .int x2, .int x3, .int x4, .int x5, .int x6, .int x7, .int x8] (shF L, f, g) R := by
  obtain ⟨d, rfl⟩ : ∃ e, d = e + 1 := ⟨d - 1, by omega⟩
  refine go_X11_add rfl ?_
  conv => whnf
  by_cases hq : n = 40
  · subst hq
    repeat' first
      | (simp only [hb])
      | ((with_reducible refine ⟨vp_in_nI (by omega) (by decide), ?_⟩) <;> conv => whnf)
      | (refine ⟨Or.inl rfl, ?_⟩ <;> conv => whnf)
      | (refine ⟨Or.inr rfl, ?_⟩ <;> conv => whnf)
      | (refine ⟨Or.inl True.intro, ?_⟩ <;> conv => whnf)
      | (refine ⟨Or.inr True.intro, ?_⟩ <;> conv => whnf)
      | (refine ⟨fun c => ?_, fun c => ?_⟩ <;> first | ((have c9 : (1 : Int32) = 0 := by with_reducible exact c); exact absurd c9 (by decide)) | exact absurd (rfl : (0 : Int32) = 0) (by with_reducible exact c) | exact absurd True.intro (by with_reducible exact c) | exact False.elim (by with_reducible exact c) | exact absurd (by decide) c | (conv => whnf))
      | (refine ⟨by unfold vp_in; decide, ?_⟩ <;> conv => whnf)
      | fail
    all_goals exact HF rfl
  · have hlt : n < 40 := by omega
    have hcl : (nI n).toNatClampNeg = n := nI_clamp (by omega)
    have hc4 : (nI (4 * n)).toNatClampNeg = 4 * n := nI_clamp (by omega)
    have e1 : nI n + 1 - 1 = nI n := by rw [nI_1, nI_pred]
    repeat' first
      | (simp only [hb, nI_4m, m_ui_ap, m_fil_ap, m_cpy_ap, Nat.reduceEqDiff, Nat.reduceLT, Nat.reduceLeDiff, eq_self, ↓reduceIte, false_and, and_false, true_and, and_true, and_self])
      | ((with_reducible refine ⟨vp_in_nI (by omega) (by decide), ?_⟩) <;> conv => whnf)
      | (refine ⟨Or.inl rfl, ?_⟩ <;> conv => whnf)
      | (refine ⟨Or.inr rfl, ?_⟩ <;> conv => whnf)
      | (refine ⟨Or.inl True.intro, ?_⟩ <;> conv => whnf)
      | (refine ⟨Or.inr True.intro, ?_⟩ <;> conv => whnf)
      | (refine ⟨fun c => ?_, fun c => ?_⟩ <;> first | ((have c9 : (1 : Int32) = 0 := by with_reducible exact c); exact absurd c9 (by decide)) | exact absurd (rfl : (0 : Int32) = 0) (by with_reducible exact c) | exact absurd True.intro (by with_reducible exact c) | exact False.elim (by with_reducible exact c) | exact absurd ((nI_eq (b := 40) (by omega) (by decide)).mp c) hq | (conv => whnf))
      | (refine ⟨by unfold vp_in; decide, ?_⟩ <;> conv => whnf)
      | fail
    all_goals (simp only [hcl, hc4, e1]; exact H hlt)
def AddM (n : Nat) (f f1 : Nat → Nat → Int32) (kind of tu h w t lo hi v : Int32) : Prop := (n = 40 ∧ v = -3 ∧ f1 = f) ∨ (n < 40 ∧ v = nI n ∧ f1 = madd f n kind of tu h w t lo hi)
def SM_work (n : Nat) (f f1 : Nat → Nat → Int32) (x1 x2 x3 x4 x5 x6 v : Int32) : Prop :=
  (¬ ((x1 = 0 ∨ x1 = 2) ∧ toldw x2 x3 x4 x5 x6) ∧ v = -1 ∧ f1 = f) ∨ (((x1 = 0 ∨ x1 = 2) ∧ toldw x2 x3 x4 x5 x6) ∧ AddM n f f1 x1 (-1) 0 x2 x3 x4 x5 x6 v)
def SM_version (n : Nat) (f f1 : Nat → Nat → Int32) (x1 x2 x3 x4 x5 x6 v : Int32) : Prop :=
  (¬ (hasw n x1 ∧ toldw x2 x3 x4 x5 x6) ∧ v = -1 ∧ f1 = f) ∨ (∃ j, j < n ∧ x1 = nI j ∧ toldw x2 x3 x4 x5 x6 ∧ ((1 < f 182 j ∧ v = -12 ∧ f1 = f) ∨ (f 182 j ≤ 1 ∧ AddM n f f1 1 x1 0 x2 x3 x4 x5 x6 v)))
def SM_print (n : Nat) (f f1 : Nat → Nat → Int32) (x1 x2 x3 x4 x5 x6 x7 v : Int32) : Prop :=
  (¬ (hasw n x1 ∧ toldw x3 x4 x5 x6 x7) ∧ v = -1 ∧ f1 = f) ∨ (∃ j, j < n ∧ x1 = nI j ∧ toldw x3 x4 x5 x6 x7 ∧ AddM n f f1 3 x1 x2 x3 x4 x5 x6 x7 v)
def titno (f : Nat → Nat → Int32) (j q : Nat) (x2 : Int32) : Prop := 1 < q ∧ x2 ≤ f 190 (4 * j + q - 1)
def SM_retitle (n : Nat) (f f1 : Nat → Nat → Int32) (x1 x2 x3 v : Int32) : Prop :=
  (¬ (hasw n x1 ∧ inr 1800 1999 x2 ∧ inr 1 1073741823 x3) ∧ v = -1 ∧ f1 = f) ∨ (∃ j q, j < n ∧ x1 = nI j ∧ inr 1800 1999 x2 ∧ inr 1 1073741823 x3 ∧ f 191 j = nI q ∧ 1 ≤ q ∧ q ≤ 4 ∧ ((titno f j q x2 ∧ v = -2 ∧ f1 = f) ∨ (¬ titno f j q x2 ∧ q = 4 ∧ v = -3 ∧ f1 = f) ∨ (¬ titno f j q x2 ∧ q < 4 ∧ v = nI q + 1 ∧ f1 = mtit f j q x2 x3)))
def cutokm (f : Nat → Nat → Int32) (j : Nat) (x3 x4 : Int32) : Prop := ¬ 0 < f 192 j ∧ x3 ≤ f 185 j ∧ x4 ≤ f 186 j ∧ ¬ (x3 = f 185 j ∧ x4 = f 186 j)
def SM_cut (n : Nat) (f f1 : Nat → Nat → Int32) (x1 x2 x3 x4 v : Int32) : Prop :=
  (¬ (hasw n x1 ∧ inr 1800 1999 x2 ∧ inr 10 5000 x3 ∧ inr 10 5000 x4) ∧ v = -1 ∧ f1 = f) ∨ (∃ j, j < n ∧ x1 = nI j ∧ inr 1800 1999 x2 ∧ inr 10 5000 x3 ∧ inr 10 5000 x4 ∧ ((f 182 j < 2 ∧ v = -12 ∧ f1 = f) ∨ (2 ≤ f 182 j ∧ ¬ cutokm f j x3 x4 ∧ v = -2 ∧ f1 = f) ∨ (2 ≤ f 182 j ∧ cutokm f j x3 x4 ∧ v = 1 ∧ f1 = mcut f j x2 x3 x4)))
def SM_told (n : Nat) (f : Nat → Nat → Int32) (x1 x2 v : Int32) : Prop :=
  (¬ hasw n x1 ∧ v = -1) ∨ (∃ j, j < n ∧ x1 = nI j ∧ ((x2 = 0 ∧ v = f 182 j) ∨ (x2 = 1 ∧ v = f 185 j) ∨ (x2 = 2 ∧ v = f 186 j) ∨ (x2 = 3 ∧ v = f 187 j) ∨ (x2 = 4 ∧ v = f 188 j) ∨ (x2 = 5 ∧ f 183 j < 0 ∧ v = -4) ∨ (x2 = 5 ∧ ¬ f 183 j < 0 ∧ v = f 183 j) ∨ ((¬ x2 = 0 ∧ ¬ x2 = 1 ∧ ¬ x2 = 2 ∧ ¬ x2 = 3 ∧ ¬ x2 = 4 ∧ ¬ x2 = 5) ∧ v = -1)))
def titM (f : Nat → Nat → Int32) (j q : Nat) (y : Int32) : Int32 := f 189 (4 * j + lat (fun i => f 190 (4 * j + i) ≤ y) (q - 1))
def SM_then (n : Nat) (f : Nat → Nat → Int32) (x1 x2 x3 v : Int32) : Prop :=
  (¬ (hasw n x1 ∧ inr 1800 1999 x2 ∧ inr 0 2 x3) ∧ v = -1) ∨ (∃ j q, j < n ∧ x1 = nI j ∧ inr 1800 1999 x2 ∧ inr 0 2 x3 ∧ f 191 j = nI q ∧ 1 ≤ q ∧ q ≤ 4 ∧ ((x3 = 0 ∧ v = titM f j q x2) ∨ (x3 = 1 ∧ v = if 0 < f 192 j ∧ f 192 j ≤ x2 then f 193 j else f 185 j) ∨ (¬ x3 = 0 ∧ ¬ x3 = 1 ∧ v = if 0 < f 192 j ∧ f 192 j ≤ x2 then f 194 j else f 186 j)))
def SM_turned (n : Nat) (f : Nat → Nat → Int32) (x1 v : Int32) : Prop :=
  (¬ hasw n x1 ∧ v = -1) ∨ (∃ j, j < n ∧ x1 = nI j ∧ ((¬ f 182 j = 3 ∧ v = -12) ∨ (f 182 j = 3 ∧ ¬ f 184 j = 0 ∧ v = 1) ∨ (f 182 j = 3 ∧ f 184 j = 0 ∧ v = 0)))
set_option maxRecDepth 100000 in
set_option maxHeartbeats 4000000 in
theorem sm_work {d L : Nat} {f : Nat → Nat → Int32} {g : Nat → Nat → Int64} {n : Nat} {x1 x2 x3 x4 x5 x6 : Int32} {R : Option Value → mH → Prop} (hd : 5 ≤ d) (hb : f 181 0 = nI n) (hm : n ≤ 40) (H : ∀ v f1, SM_work n f f1 x1 x2 x3 x4 x5 x6 v → R (some (.int v)) (shF L, f1, g)) : Run mtab d 154 [.ref 181, .int x1, .int x2, .int x3, .int x4, .int x5, .int x6] (shF L, f, g) R := by
  obtain ⟨d, rfl⟩ : ∃ e, d = e + 1 := ⟨d - 1, by omega⟩
  refine go_X11_work rfl ?_
  conv => whnf
  repeat' first
    | ((with_reducible refine ⟨vp_in_nI (by omega) (by decide), ?_⟩) <;> conv => whnf)
    | (refine ⟨Or.inl rfl, ?_⟩ <;> conv => whnf)
    | (refine ⟨Or.inr rfl, ?_⟩ <;> conv => whnf)
    | (refine ⟨Or.inl True.intro, ?_⟩ <;> conv => whnf)
    | (refine ⟨Or.inr True.intro, ?_⟩ <;> conv => whnf)
    | (refine ⟨fun c => ?_, fun c => ?_⟩ <;> first | ((have c9 : (1 : Int32) = 0 := by with_reducible exact c); exact absurd c9 (by decide)) | exact absurd (rfl : (0 : Int32) = 0) (by with_reducible exact c) | exact absurd True.intro (by with_reducible exact c) | exact False.elim (by with_reducible exact c) | (conv => whnf))
    | (refine ct_mIsYear (by omega) (fun p => ?_) (fun p => ?_) <;> conv => whnf)
    | (refine ct_mIsSides (by omega) (fun p => ?_) (fun p => ?_) <;> conv => whnf)
    | (refine ct_mIsTold (by omega) (fun p => ?_) (fun p => ?_) <;> conv => whnf)
    | (refine ct_mIsSheet (by omega) (fun p => ?_) (fun p => ?_) <;> conv => whnf)
    | (refine sm_Madd (by omega) hb hm (fun q => ?_) (fun q => ?_) <;> conv => whnf)
    | (refine ⟨by unfold vp_in; decide, ?_⟩ <;> conv => whnf)
    | fail
  all_goals first | exact H _ _ (Or.inl ⟨(by first | exact fun hh => absurd hh.2 (by assumption) | exact fun hh => absurd hh.1 (nhasw (by assumption)) | grind), rfl, rfl⟩) | exact H _ _ (Or.inr ⟨⟨by grind, by assumption⟩, Or.inl ⟨q, rfl, rfl⟩⟩) | exact H _ _ (Or.inr ⟨⟨by grind, by assumption⟩, Or.inr ⟨q, rfl, rfl⟩⟩)
set_option maxRecDepth 100000 in
set_option maxHeartbeats 4000000 in
theorem sm_version {d L : Nat} {f : Nat → Nat → Int32} {g : Nat → Nat → Int64} {n : Nat} {x1 x2 x3 x4 x5 x6 : Int32} {R : Option Value → mH → Prop} (hd : 5 ≤ d) (hb : f 181 0 = nI n) (hm : n ≤ 40) (H : ∀ v f1, SM_version n f f1 x1 x2 x3 x4 x5 x6 v → R (some (.int v)) (shF L, f1, g)) : Run mtab d 155 [.ref 181, .int x1, .int x2, .int x3, .int x4, .int x5, .int x6] (shF L, f, g) R := by
  obtain ⟨d, rfl⟩ : ∃ e, d = e + 1 := ⟨d - 1, by omega⟩
  refine go_X11_version rfl ?_
  conv => whnf
  repeat' first
    | ((with_reducible refine ⟨vp_in_nI (by omega) (by decide), ?_⟩) <;> conv => whnf)
    | (refine ⟨Or.inl rfl, ?_⟩ <;> conv => whnf)
    | (refine ⟨Or.inr rfl, ?_⟩ <;> conv => whnf)
    | (refine ⟨Or.inl True.intro, ?_⟩ <;> conv => whnf)
    | (refine ⟨Or.inr True.intro, ?_⟩ <;> conv => whnf)
    | (refine ⟨fun c => ?_, fun c => ?_⟩ <;> first | ((have c9 : (1 : Int32) = 0 := by with_reducible exact c); exact absurd c9 (by decide)) | exact absurd (rfl : (0 : Int32) = 0) (by with_reducible exact c) | exact absurd True.intro (by with_reducible exact c) | exact False.elim (by with_reducible exact c) | (conv => whnf))
    | (refine ct_mIsWork (by omega) hb hm (fun j hj e => ?_) (fun q => ?_) <;> (try subst e) <;> conv => whnf)
    | (refine ct_mIsYear (by omega) (fun p => ?_) (fun p => ?_) <;> conv => whnf)
    | (refine ct_mIsSides (by omega) (fun p => ?_) (fun p => ?_) <;> conv => whnf)
    | (refine ct_mIsTold (by omega) (fun p => ?_) (fun p => ?_) <;> conv => whnf)
    | (refine ct_mIsSheet (by omega) (fun p => ?_) (fun p => ?_) <;> conv => whnf)
    | (refine sm_Madd (by omega) hb hm (fun q => ?_) (fun q => ?_) <;> conv => whnf)
    | (refine ⟨by unfold vp_in; decide, ?_⟩ <;> conv => whnf)
    | fail
  all_goals first | exact H _ _ (Or.inl ⟨(by first | exact fun hh => absurd hh.2 (by assumption) | exact fun hh => absurd hh.1 (nhasw (by assumption)) | grind), rfl, rfl⟩) | (simp only [show (nI j).toNatClampNeg = j from nI_clamp (by omega)] at *; first | exact H _ _ (Or.inr ⟨_, hj, rfl, by assumption, Or.inl ⟨by assumption, rfl, rfl⟩⟩) | exact H _ _ (Or.inr ⟨_, hj, rfl, by assumption, Or.inl ⟨i32_nle.mp (by assumption), rfl, rfl⟩⟩) | exact H _ _ (Or.inr ⟨_, hj, rfl, by assumption, Or.inr ⟨by assumption, Or.inl ⟨q, rfl, rfl⟩⟩⟩) | exact H _ _ (Or.inr ⟨_, hj, rfl, by assumption, Or.inr ⟨by assumption, Or.inr ⟨q, rfl, rfl⟩⟩⟩) | exact H _ _ (Or.inr ⟨_, hj, rfl, by assumption, Or.inr ⟨i32_nlt.mp (by assumption), Or.inl ⟨q, rfl, rfl⟩⟩⟩) | exact H _ _ (Or.inr ⟨_, hj, rfl, by assumption, Or.inr ⟨i32_nlt.mp (by assumption), Or.inr ⟨q, rfl, rfl⟩⟩⟩))
set_option maxRecDepth 100000 in
set_option maxHeartbeats 4000000 in
theorem sm_print {d L : Nat} {f : Nat → Nat → Int32} {g : Nat → Nat → Int64} {n : Nat} {x1 x2 x3 x4 x5 x6 x7 : Int32} {R : Option Value → mH → Prop} (hd : 5 ≤ d) (hb : f 181 0 = nI n) (hm : n ≤ 40) (H : ∀ v f1, SM_print n f f1 x1 x2 x3 x4 x5 x6 x7 v → R (some (.int v)) (shF L, f1, g)) : Run mtab d 156 [.ref 181, .int x1, .int x2, .int x3, .int x4, .int x5, .int x6, .int x7] (shF L, f, g) R := by
  obtain ⟨d, rfl⟩ : ∃ e, d = e + 1 := ⟨d - 1, by omega⟩
  refine go_X11_print rfl ?_
  conv => whnf
  repeat' first
    | ((with_reducible refine ⟨vp_in_nI (by omega) (by decide), ?_⟩) <;> conv => whnf)
    | (refine ⟨Or.inl rfl, ?_⟩ <;> conv => whnf)
    | (refine ⟨Or.inr rfl, ?_⟩ <;> conv => whnf)
    | (refine ⟨Or.inl True.intro, ?_⟩ <;> conv => whnf)
    | (refine ⟨Or.inr True.intro, ?_⟩ <;> conv => whnf)
    | (refine ⟨fun c => ?_, fun c => ?_⟩ <;> first | ((have c9 : (1 : Int32) = 0 := by with_reducible exact c); exact absurd c9 (by decide)) | exact absurd (rfl : (0 : Int32) = 0) (by with_reducible exact c) | exact absurd True.intro (by with_reducible exact c) | exact False.elim (by with_reducible exact c) | (conv => whnf))
    | (refine ct_mIsWork (by omega) hb hm (fun j hj e => ?_) (fun q => ?_) <;> (try subst e) <;> conv => whnf)
    | (refine ct_mIsYear (by omega) (fun p => ?_) (fun p => ?_) <;> conv => whnf)
    | (refine ct_mIsSides (by omega) (fun p => ?_) (fun p => ?_) <;> conv => whnf)
    | (refine ct_mIsTold (by omega) (fun p => ?_) (fun p => ?_) <;> conv => whnf)
    | (refine ct_mIsSheet (by omega) (fun p => ?_) (fun p => ?_) <;> conv => whnf)
    | (refine sm_Madd (by omega) hb hm (fun q => ?_) (fun q => ?_) <;> conv => whnf)
    | (refine ⟨by unfold vp_in; decide, ?_⟩ <;> conv => whnf)
    | fail
  all_goals first | exact H _ _ (Or.inl ⟨(by first | exact fun hh => absurd hh.2 (by assumption) | exact fun hh => absurd hh.1 (nhasw (by assumption)) | grind), rfl, rfl⟩) | exact H _ _ (Or.inr ⟨_, hj, rfl, by assumption, Or.inl ⟨q, rfl, rfl⟩⟩) | exact H _ _ (Or.inr ⟨_, hj, rfl, by assumption, Or.inr ⟨q, rfl, rfl⟩⟩)
set_option maxRecDepth 100000 in
set_option maxHeartbeats 4000000 in
theorem sm_retitle {d L : Nat} {f : Nat → Nat → Int32} {g : Nat → Nat → Int64} {n : Nat} {x1 x2 x3 : Int32} {R : Option Value → mH → Prop} (hd : 5 ≤ d) (hb : f 181 0 = nI n) (hm : n ≤ 40) (hT : ∀ j, j < n → ∃ q, 1 ≤ q ∧ q ≤ 4 ∧ f 191 j = nI q) (H : ∀ v f1, SM_retitle n f f1 x1 x2 x3 v → R (some (.int v)) (shF L, f1, g)) : Run mtab d 157 [.ref 181, .int x1, .int x2, .int x3] (shF L, f, g) R := by
  obtain ⟨d, rfl⟩ : ∃ e, d = e + 1 := ⟨d - 1, by omega⟩
  refine go_X11_retitle rfl ?_
  conv => whnf
  by_cases p1 : hasw n x1
  · by_cases p2 : inr 1800 1999 x2
    · by_cases p3 : inr 1 1073741823 x3
      · obtain ⟨j0, hj0, rfl⟩ := p1
        obtain ⟨q, hq1, hq4, hq⟩ := hT j0 hj0
        have hcl : (nI j0).toNatClampNeg = j0 := nI_clamp (by omega)
        have hqq : f 191 (nI j0).toNatClampNeg = nI q := by rw [hcl, hq]
        have hi1 : nI (4 * j0 + q) - 1 = nI (4 * j0 + q - 1) := by
          obtain ⟨k, rfl⟩ : ∃ k, q = k + 1 := ⟨q - 1, by omega⟩
          exact nI_pred (4 * j0 + k)
        have hi2 : 4 * nI j0 + nI q = nI (4 * j0 + q) := by rw [nI_4m, nI_add]
        have hc1 : (nI (4 * j0 + q - 1)).toNatClampNeg = 4 * j0 + q - 1 := nI_clamp (by omega)
        have hc2 : (nI (4 * j0 + q)).toNatClampNeg = 4 * j0 + q := nI_clamp (by omega)
        by_cases h1 : q = 1
        · subst h1
          repeat' first
            | exact absurd p2 ‹¬ inr 1800 1999 x2›
            | exact absurd p3 ‹¬ inr 1 1073741823 x3›
            | exact absurd rfl (‹∀ j_1, j_1 < n → ¬ nI j0 = nI j_1› j0 hj0)
            | (simp only [hqq, hi1, hi2, hc1, m_ui_ap, m_fil_ap, m_cpy_ap, Nat.reduceEqDiff, Nat.reduceLT, Nat.reduceLeDiff, eq_self, ↓reduceIte, false_and, and_false, true_and, and_true, and_self])
            | ((with_reducible refine ⟨vp_in_nI (by omega) (by decide), ?_⟩) <;> conv => whnf)
            | (refine ⟨Or.inl rfl, ?_⟩ <;> conv => whnf)
            | (refine ⟨Or.inr rfl, ?_⟩ <;> conv => whnf)
            | (refine ⟨Or.inl True.intro, ?_⟩ <;> conv => whnf)
            | (refine ⟨Or.inr True.intro, ?_⟩ <;> conv => whnf)
            | (refine ⟨fun c => ?_, fun c => ?_⟩ <;> first | ((have c9 : (1 : Int32) = 0 := by with_reducible exact c); exact absurd c9 (by decide)) | exact absurd (rfl : (0 : Int32) = 0) (by with_reducible exact c) | exact absurd True.intro (by with_reducible exact c) | exact False.elim (by with_reducible exact c) | exact absurd (by decide) c | exact absurd c (by decide) | (conv => whnf))
            | (refine ct_mIsWork (by omega) hb hm (fun j hj e => ?_) (fun q => ?_) <;> (try subst e) <;> conv => whnf)
            | (refine ct_mIsYear (by omega) (fun p => ?_) (fun p => ?_) <;> conv => whnf)
            | (refine ct_mIsSides (by omega) (fun p => ?_) (fun p => ?_) <;> conv => whnf)
            | (refine ct_mIsTold (by omega) (fun p => ?_) (fun p => ?_) <;> conv => whnf)
            | (refine ct_mIsSheet (by omega) (fun p => ?_) (fun p => ?_) <;> conv => whnf)
            | ((with_reducible refine ct_i_1_1073741823 (by omega) (fun p => ?_) (fun p => ?_)) <;> conv => whnf)
            | (refine ⟨by unfold vp_in; decide, ?_⟩ <;> conv => whnf)
            | fail
          all_goals (try simp only [hcl, hc2]) <;> (first | exact H _ _ (Or.inr ⟨j0, _, hj0, rfl, p2, p3, hq, hq1, hq4, Or.inr (Or.inr ⟨fun hh => absurd hh.1 (by decide), by decide, rfl, rfl⟩)⟩))
        · have hg1 : ¬ nI q ≤ 1 := nI_ge (a := 1) (by omega) (by omega)
          by_cases h4 : q = 4
          · subst h4
            repeat' first
              | exact absurd p2 ‹¬ inr 1800 1999 x2›
              | exact absurd p3 ‹¬ inr 1 1073741823 x3›
              | exact absurd rfl (‹∀ j_1, j_1 < n → ¬ nI j0 = nI j_1› j0 hj0)
              | (simp only [hqq, hi1, hi2, hc1, m_ui_ap, m_fil_ap, m_cpy_ap, Nat.reduceEqDiff, Nat.reduceLT, Nat.reduceLeDiff, eq_self, ↓reduceIte, false_and, and_false, true_and, and_true, and_self])
              | ((with_reducible refine ⟨vp_in_nI (by omega) (by decide), ?_⟩) <;> conv => whnf)
              | (refine ⟨Or.inl rfl, ?_⟩ <;> conv => whnf)
              | (refine ⟨Or.inr rfl, ?_⟩ <;> conv => whnf)
              | (refine ⟨Or.inl True.intro, ?_⟩ <;> conv => whnf)
              | (refine ⟨Or.inr True.intro, ?_⟩ <;> conv => whnf)
              | (refine ⟨fun c => ?_, fun c => ?_⟩ <;> first | ((have c9 : (1 : Int32) = 0 := by with_reducible exact c); exact absurd c9 (by decide)) | exact absurd (rfl : (0 : Int32) = 0) (by with_reducible exact c) | exact absurd True.intro (by with_reducible exact c) | exact False.elim (by with_reducible exact c) | exact absurd (by with_reducible exact c) hg1 | exact absurd (by decide) c | (conv => whnf))
              | (refine ct_mIsWork (by omega) hb hm (fun j hj e => ?_) (fun q => ?_) <;> (try subst e) <;> conv => whnf)
              | (refine ct_mIsYear (by omega) (fun p => ?_) (fun p => ?_) <;> conv => whnf)
              | (refine ct_mIsSides (by omega) (fun p => ?_) (fun p => ?_) <;> conv => whnf)
              | (refine ct_mIsTold (by omega) (fun p => ?_) (fun p => ?_) <;> conv => whnf)
              | (refine ct_mIsSheet (by omega) (fun p => ?_) (fun p => ?_) <;> conv => whnf)
              | ((with_reducible refine ct_i_1_1073741823 (by omega) (fun p => ?_) (fun p => ?_)) <;> conv => whnf)
              | (refine ⟨by unfold vp_in; decide, ?_⟩ <;> conv => whnf)
              | fail
            all_goals (try simp only [hcl, hc2]) <;> (first | exact H _ _ (Or.inr ⟨j0, _, hj0, rfl, p2, p3, hq, hq1, hq4, Or.inl ⟨⟨by omega, i32_nlt.mp ‹_›⟩, rfl, rfl⟩⟩) | exact H _ _ (Or.inr ⟨j0, _, hj0, rfl, p2, p3, hq, hq1, hq4, Or.inl ⟨⟨by omega, by assumption⟩, rfl, rfl⟩⟩) | exact H _ _ (Or.inr ⟨j0, _, hj0, rfl, p2, p3, hq, hq1, hq4, Or.inr (Or.inl ⟨fun hh => absurd hh.2 (i32_nle.mpr ‹_›), rfl, rfl, rfl⟩)⟩) | exact H _ _ (Or.inr ⟨j0, _, hj0, rfl, p2, p3, hq, hq1, hq4, Or.inr (Or.inl ⟨fun hh => absurd hh.2 (by assumption), rfl, rfl, rfl⟩)⟩))
          · have hlt4 : q < 4 := by omega
            repeat' first
              | exact absurd p2 ‹¬ inr 1800 1999 x2›
              | exact absurd p3 ‹¬ inr 1 1073741823 x3›
              | exact absurd rfl (‹∀ j_1, j_1 < n → ¬ nI j0 = nI j_1› j0 hj0)
              | (simp only [hqq, hi1, hi2, hc1, m_ui_ap, m_fil_ap, m_cpy_ap, Nat.reduceEqDiff, Nat.reduceLT, Nat.reduceLeDiff, eq_self, ↓reduceIte, false_and, and_false, true_and, and_true, and_self])
              | ((with_reducible refine ⟨vp_in_nI (by omega) (by decide), ?_⟩) <;> conv => whnf)
              | (refine ⟨Or.inl rfl, ?_⟩ <;> conv => whnf)
              | (refine ⟨Or.inr rfl, ?_⟩ <;> conv => whnf)
              | (refine ⟨Or.inl True.intro, ?_⟩ <;> conv => whnf)
              | (refine ⟨Or.inr True.intro, ?_⟩ <;> conv => whnf)
              | (refine ⟨fun c => ?_, fun c => ?_⟩ <;> first | ((have c9 : (1 : Int32) = 0 := by with_reducible exact c); exact absurd c9 (by decide)) | exact absurd (rfl : (0 : Int32) = 0) (by with_reducible exact c) | exact absurd True.intro (by with_reducible exact c) | exact False.elim (by with_reducible exact c) | exact absurd (by with_reducible exact c) hg1 | exact absurd ((nI_eq (b := 4) (by omega) (by decide)).mp c) h4 | (conv => whnf))
              | (refine ct_mIsWork (by omega) hb hm (fun j hj e => ?_) (fun q => ?_) <;> (try subst e) <;> conv => whnf)
              | (refine ct_mIsYear (by omega) (fun p => ?_) (fun p => ?_) <;> conv => whnf)
              | (refine ct_mIsSides (by omega) (fun p => ?_) (fun p => ?_) <;> conv => whnf)
              | (refine ct_mIsTold (by omega) (fun p => ?_) (fun p => ?_) <;> conv => whnf)
              | (refine ct_mIsSheet (by omega) (fun p => ?_) (fun p => ?_) <;> conv => whnf)
              | ((with_reducible refine ct_i_1_1073741823 (by omega) (fun p => ?_) (fun p => ?_)) <;> conv => whnf)
              | (refine ⟨by unfold vp_in; decide, ?_⟩ <;> conv => whnf)
              | fail
            all_goals (try simp only [hcl, hc2]) <;> (first | exact H _ _ (Or.inr ⟨j0, _, hj0, rfl, p2, p3, hq, hq1, hq4, Or.inl ⟨⟨by omega, i32_nlt.mp ‹_›⟩, rfl, rfl⟩⟩) | exact H _ _ (Or.inr ⟨j0, _, hj0, rfl, p2, p3, hq, hq1, hq4, Or.inl ⟨⟨by omega, by assumption⟩, rfl, rfl⟩⟩) | exact H _ _ (Or.inr ⟨j0, _, hj0, rfl, p2, p3, hq, hq1, hq4, Or.inr (Or.inr ⟨fun hh => absurd hh.2 (i32_nle.mpr ‹_›), hlt4, rfl, rfl⟩)⟩) | exact H _ _ (Or.inr ⟨j0, _, hj0, rfl, p2, p3, hq, hq1, hq4, Or.inr (Or.inr ⟨fun hh => absurd hh.2 (by assumption), hlt4, rfl, rfl⟩)⟩))
      · repeat' first
          | exact absurd ‹inr 1 1073741823 x3› p3
          | ((with_reducible refine ⟨vp_in_nI (by omega) (by decide), ?_⟩) <;> conv => whnf)
          | (refine ⟨Or.inl rfl, ?_⟩ <;> conv => whnf)
          | (refine ⟨Or.inr rfl, ?_⟩ <;> conv => whnf)
          | (refine ⟨Or.inl True.intro, ?_⟩ <;> conv => whnf)
          | (refine ⟨Or.inr True.intro, ?_⟩ <;> conv => whnf)
          | (refine ⟨fun c => ?_, fun c => ?_⟩ <;> first | ((have c9 : (1 : Int32) = 0 := by with_reducible exact c); exact absurd c9 (by decide)) | exact absurd (rfl : (0 : Int32) = 0) (by with_reducible exact c) | exact absurd True.intro (by with_reducible exact c) | exact False.elim (by with_reducible exact c) | (conv => whnf))
          | (refine ct_mIsWork (by omega) hb hm (fun j hj e => ?_) (fun q => ?_) <;> (try subst e) <;> conv => whnf)
          | (refine ct_mIsYear (by omega) (fun p => ?_) (fun p => ?_) <;> conv => whnf)
          | (refine ct_mIsSides (by omega) (fun p => ?_) (fun p => ?_) <;> conv => whnf)
          | (refine ct_mIsTold (by omega) (fun p => ?_) (fun p => ?_) <;> conv => whnf)
          | (refine ct_mIsSheet (by omega) (fun p => ?_) (fun p => ?_) <;> conv => whnf)
          | ((with_reducible refine ct_i_1_1073741823 (by omega) (fun p => ?_) (fun p => ?_)) <;> conv => whnf)
          | (refine ⟨by unfold vp_in; decide, ?_⟩ <;> conv => whnf)
          | fail
        all_goals exact H _ _ (Or.inl ⟨fun hh => p3 hh.2.2, rfl, rfl⟩)
    · repeat' first
        | exact absurd ‹inr 1800 1999 x2› p2
        | ((with_reducible refine ⟨vp_in_nI (by omega) (by decide), ?_⟩) <;> conv => whnf)
        | (refine ⟨Or.inl rfl, ?_⟩ <;> conv => whnf)
        | (refine ⟨Or.inr rfl, ?_⟩ <;> conv => whnf)
        | (refine ⟨Or.inl True.intro, ?_⟩ <;> conv => whnf)
        | (refine ⟨Or.inr True.intro, ?_⟩ <;> conv => whnf)
        | (refine ⟨fun c => ?_, fun c => ?_⟩ <;> first | ((have c9 : (1 : Int32) = 0 := by with_reducible exact c); exact absurd c9 (by decide)) | exact absurd (rfl : (0 : Int32) = 0) (by with_reducible exact c) | exact absurd True.intro (by with_reducible exact c) | exact False.elim (by with_reducible exact c) | (conv => whnf))
        | (refine ct_mIsWork (by omega) hb hm (fun j hj e => ?_) (fun q => ?_) <;> (try subst e) <;> conv => whnf)
        | (refine ct_mIsYear (by omega) (fun p => ?_) (fun p => ?_) <;> conv => whnf)
        | (refine ct_mIsSides (by omega) (fun p => ?_) (fun p => ?_) <;> conv => whnf)
        | (refine ct_mIsTold (by omega) (fun p => ?_) (fun p => ?_) <;> conv => whnf)
        | (refine ct_mIsSheet (by omega) (fun p => ?_) (fun p => ?_) <;> conv => whnf)
        | ((with_reducible refine ct_i_1_1073741823 (by omega) (fun p => ?_) (fun p => ?_)) <;> conv => whnf)
        | (refine ⟨by unfold vp_in; decide, ?_⟩ <;> conv => whnf)
        | fail
      all_goals exact H _ _ (Or.inl ⟨fun hh => p2 hh.2.1, rfl, rfl⟩)
  · refine ct_mIsWork (by omega) hb hm (fun j hj e => absurd ⟨j, hj, e⟩ p1) (fun q => ?_)
    conv => whnf
    repeat' first
      | ((with_reducible refine ⟨vp_in_nI (by omega) (by decide), ?_⟩) <;> conv => whnf)
      | (refine ⟨Or.inl rfl, ?_⟩ <;> conv => whnf)
      | (refine ⟨Or.inr rfl, ?_⟩ <;> conv => whnf)
      | (refine ⟨Or.inl True.intro, ?_⟩ <;> conv => whnf)
      | (refine ⟨Or.inr True.intro, ?_⟩ <;> conv => whnf)
      | (refine ⟨fun c => ?_, fun c => ?_⟩ <;> first | ((have c9 : (1 : Int32) = 0 := by with_reducible exact c); exact absurd c9 (by decide)) | exact absurd (rfl : (0 : Int32) = 0) (by with_reducible exact c) | exact absurd True.intro (by with_reducible exact c) | exact False.elim (by with_reducible exact c) | (conv => whnf))
      | (refine ct_mIsWork (by omega) hb hm (fun j hj e => ?_) (fun q => ?_) <;> (try subst e) <;> conv => whnf)
      | (refine ct_mIsYear (by omega) (fun p => ?_) (fun p => ?_) <;> conv => whnf)
      | (refine ct_mIsSides (by omega) (fun p => ?_) (fun p => ?_) <;> conv => whnf)
      | (refine ct_mIsTold (by omega) (fun p => ?_) (fun p => ?_) <;> conv => whnf)
      | (refine ct_mIsSheet (by omega) (fun p => ?_) (fun p => ?_) <;> conv => whnf)
      | ((with_reducible refine ct_i_1_1073741823 (by omega) (fun p => ?_) (fun p => ?_)) <;> conv => whnf)
      | (refine ⟨by unfold vp_in; decide, ?_⟩ <;> conv => whnf)
      | fail
    all_goals exact H _ _ (Or.inl ⟨fun hh => p1 hh.1, rfl, rfl⟩)
set_option maxRecDepth 100000 in
set_option maxHeartbeats 4000000 in
theorem sm_cut {d L : Nat} {f : Nat → Nat → Int32} {g : Nat → Nat → Int64} {n : Nat} {x1 x2 x3 x4 : Int32} {R : Option Value → mH → Prop} (hd : 5 ≤ d) (hb : f 181 0 = nI n) (hm : n ≤ 40) (H : ∀ v f1, SM_cut n f f1 x1 x2 x3 x4 v → R (some (.int v)) (shF L, f1, g)) : Run mtab d 158 [.ref 181, .int x1, .int x2, .int x3, .int x4] (shF L, f, g) R := by
  obtain ⟨d, rfl⟩ : ∃ e, d = e + 1 := ⟨d - 1, by omega⟩
  refine go_X11_cut rfl ?_
  conv => whnf
  repeat' first
    | ((with_reducible refine ⟨vp_in_nI (by omega) (by decide), ?_⟩) <;> conv => whnf)
    | (refine ⟨Or.inl rfl, ?_⟩ <;> conv => whnf)
    | (refine ⟨Or.inr rfl, ?_⟩ <;> conv => whnf)
    | (refine ⟨Or.inl True.intro, ?_⟩ <;> conv => whnf)
    | (refine ⟨Or.inr True.intro, ?_⟩ <;> conv => whnf)
    | (refine ⟨fun c => ?_, fun c => ?_⟩ <;> first | ((have c9 : (1 : Int32) = 0 := by with_reducible exact c); exact absurd c9 (by decide)) | exact absurd (rfl : (0 : Int32) = 0) (by with_reducible exact c) | exact absurd True.intro (by with_reducible exact c) | exact False.elim (by with_reducible exact c) | (conv => whnf))
    | (refine ct_mIsWork (by omega) hb hm (fun j hj e => ?_) (fun q => ?_) <;> (try subst e) <;> conv => whnf)
    | (refine ct_mIsYear (by omega) (fun p => ?_) (fun p => ?_) <;> conv => whnf)
    | (refine ct_mIsSides (by omega) (fun p => ?_) (fun p => ?_) <;> conv => whnf)
    | (refine ct_mIsTold (by omega) (fun p => ?_) (fun p => ?_) <;> conv => whnf)
    | (refine ct_mIsSheet (by omega) (fun p => ?_) (fun p => ?_) <;> conv => whnf)
    | (refine ⟨by unfold vp_in; decide, ?_⟩ <;> conv => whnf)
    | fail
  all_goals first | exact H _ _ (Or.inl ⟨by first | exact fun hh => absurd hh.1 (nhasw (by assumption)) | exact fun hh => absurd hh.2.1 (by assumption) | exact fun hh => absurd hh.2.2 (by assumption), rfl, rfl⟩) | (simp only [show (nI j).toNatClampNeg = j from nI_clamp (by omega)] at *; first | exact H _ _ (Or.inr ⟨_, hj, rfl, by assumption, (‹inr 10 5000 x3 ∧ inr 10 5000 x4›).1, (‹inr 10 5000 x3 ∧ inr 10 5000 x4›).2, Or.inl ⟨by assumption, rfl, rfl⟩⟩) | exact H _ _ (Or.inr ⟨_, hj, rfl, by assumption, (‹inr 10 5000 x3 ∧ inr 10 5000 x4›).1, (‹inr 10 5000 x3 ∧ inr 10 5000 x4›).2, Or.inl ⟨i32_nle.mp (by assumption), rfl, rfl⟩⟩) | exact H _ _ (Or.inr ⟨_, hj, rfl, by assumption, (‹inr 10 5000 x3 ∧ inr 10 5000 x4›).1, (‹inr 10 5000 x3 ∧ inr 10 5000 x4›).2, Or.inr (Or.inl ⟨by first | assumption | exact i32_nlt.mp (by assumption), (by unfold cutokm; simp only [← i32_nle] at *; grind), rfl, rfl⟩)⟩) | exact H _ _ (Or.inr ⟨_, hj, rfl, by assumption, (‹inr 10 5000 x3 ∧ inr 10 5000 x4›).1, (‹inr 10 5000 x3 ∧ inr 10 5000 x4›).2, Or.inr (Or.inr ⟨by first | assumption | exact i32_nlt.mp (by assumption), (by unfold cutokm; simp only [← i32_nle] at *; grind), rfl, rfl⟩)⟩))
set_option maxRecDepth 100000 in
set_option maxHeartbeats 4000000 in
theorem sm_told {d L : Nat} {f : Nat → Nat → Int32} {g : Nat → Nat → Int64} {n : Nat} {x1 x2 : Int32} {R : Option Value → mH → Prop} (hd : 5 ≤ d) (hb : f 181 0 = nI n) (hm : n ≤ 40) (H : ∀ v, SM_told n f x1 x2 v → R (some (.int v)) (shF L, f, g)) : Run mtab d 159 [.ref 181, .int x1, .int x2] (shF L, f, g) R := by
  obtain ⟨d, rfl⟩ : ∃ e, d = e + 1 := ⟨d - 1, by omega⟩
  refine go_X11_told rfl ?_
  conv => whnf
  repeat' first
    | ((with_reducible refine ⟨vp_in_nI (by omega) (by decide), ?_⟩) <;> conv => whnf)
    | (refine ⟨Or.inl rfl, ?_⟩ <;> conv => whnf)
    | (refine ⟨Or.inr rfl, ?_⟩ <;> conv => whnf)
    | (refine ⟨Or.inl True.intro, ?_⟩ <;> conv => whnf)
    | (refine ⟨Or.inr True.intro, ?_⟩ <;> conv => whnf)
    | (refine ⟨fun c => ?_, fun c => ?_⟩ <;> first | ((have c9 : (1 : Int32) = 0 := by with_reducible exact c); exact absurd c9 (by decide)) | exact absurd (rfl : (0 : Int32) = 0) (by with_reducible exact c) | exact absurd True.intro (by with_reducible exact c) | exact False.elim (by with_reducible exact c) | (conv => whnf))
    | (refine ct_mIsWork (by omega) hb hm (fun j hj e => ?_) (fun q => ?_) <;> (try subst e) <;> conv => whnf)
    | (refine ⟨by unfold vp_in; decide, ?_⟩ <;> conv => whnf)
    | (refine ⟨fun c => ?_, ?_⟩ <;> conv => whnf)
    | (intro c; conv => whnf)
    | fail
  all_goals first | exact H _ (Or.inl ⟨nhasw (by assumption), rfl⟩) | ((try simp only [show (nI j).toNatClampNeg = j from nI_clamp (by omega)] at *); first | exact H _ (Or.inr ⟨j, hj, rfl, Or.inl ⟨by exact c, rfl⟩⟩) | exact H _ (Or.inr ⟨j, hj, rfl, Or.inr (Or.inl ⟨by exact c, rfl⟩)⟩) | exact H _ (Or.inr ⟨j, hj, rfl, Or.inr (Or.inr (Or.inl ⟨by exact c, rfl⟩))⟩) | exact H _ (Or.inr ⟨j, hj, rfl, Or.inr (Or.inr (Or.inr (Or.inl ⟨by exact c, rfl⟩)))⟩) | exact H _ (Or.inr ⟨j, hj, rfl, Or.inr (Or.inr (Or.inr (Or.inr (Or.inl ⟨by exact c, rfl⟩))))⟩) | exact H _ (Or.inr ⟨j, hj, rfl, Or.inr (Or.inr (Or.inr (Or.inr (Or.inr (Or.inl ⟨by assumption, by assumption, rfl⟩)))))⟩) | exact H _ (Or.inr ⟨j, hj, rfl, Or.inr (Or.inr (Or.inr (Or.inr (Or.inr (Or.inl ⟨by assumption, i32_nle.mp (by assumption), rfl⟩)))))⟩) | exact H _ (Or.inr ⟨j, hj, rfl, Or.inr (Or.inr (Or.inr (Or.inr (Or.inr (Or.inr (Or.inl ⟨by assumption, by assumption, rfl⟩))))))⟩) | exact H _ (Or.inr ⟨j, hj, rfl, Or.inr (Or.inr (Or.inr (Or.inr (Or.inr (Or.inr (Or.inl ⟨by assumption, i32_nlt.mpr (by assumption), rfl⟩))))))⟩) | exact H _ (Or.inr ⟨j, hj, rfl, Or.inr (Or.inr (Or.inr (Or.inr (Or.inr (Or.inr (Or.inr (⟨⟨c.1.1.1.1.1, c.1.1.1.1.2, c.1.1.1.2, c.1.1.2, c.1.2, c.2⟩, rfl⟩)))))))⟩))
set_option maxRecDepth 100000 in
set_option maxHeartbeats 4000000 in
theorem tmo_lp {d L j q : Nat} {f : Nat → Nat → Int32} {g : Nat → Nat → Int64} {y : Int32} {R : Option Value → mH → Prop} (hj : j < 40) (hq1 : 1 ≤ q) (hq4 : q ≤ 4) (H : R (some (.int (titM f j q y))) (shF L, f, g)) :
    ∀ (k : Nat) (x : Int32), k ≤ q - 1 → x = nI k → lat (fun i => f 190 (4 * j + i) ≤ y) k = lat (fun i => f 190 (4 * j + i) ≤ y) (q - 1) → WPe pg_X11_titleOf none (Run mtab d) R (m_drop pg_X11_titleOf 7) [some (.ref 181), some (.int (nI j)), some (.int y), some (.int x)] [] (shF L, f, g)
  | 0, x, hk, hx, he => by
    subst hx
    have hi : 4 * nI j + nI 0 = nI (4 * j + 0) := by rw [nI_4m, nI_add]
    have hc : (nI (4 * j + 0)).toNatClampNeg = 4 * j + 0 := nI_clamp (by omega)
    refine at_X11_titleOf ?_
    conv => whnf
    refine ⟨fun c => ?_, fun c => absurd (by decide) c⟩
    conv => whnf
    simp only [hi]
    refine ⟨vp_in_nI (by omega) (by decide), ?_⟩
    conv => whnf
    simp only [hc]
    unfold titM at H
    rw [← he] at H
    exact H
  | k + 1, x, hk, hx, he => by
    subst hx
    have hi : 4 * nI j + nI (k + 1) = nI (4 * j + (k + 1)) := by rw [nI_4m, nI_add]
    have hc : (nI (4 * j + (k + 1))).toNatClampNeg = 4 * j + (k + 1) := nI_clamp (by omega)
    have hl : lat (fun i => f 190 (4 * j + i) ≤ y) (k + 1) = if f 190 (4 * j + (k + 1)) ≤ y then k + 1 else lat (fun i => f 190 (4 * j + i) ≤ y) k := rfl
    refine at_X11_titleOf ?_
    conv => whnf
    refine ⟨fun c => absurd c (nI_nle (by omega) (by omega)), fun c => ?_⟩
    conv => whnf
    simp only [hi]
    refine ⟨vp_in_nI (by omega) (by decide), ?_⟩
    conv => whnf
    simp only [hc]
    refine ⟨fun c2 => ?_, fun c2 => ?_⟩
    · conv => whnf
      simp only [hi]
      refine ⟨vp_in_nI (by omega) (by decide), ?_⟩
      conv => whnf
      simp only [hc]
      unfold titM at H
      rw [← he, hl, if_pos c2] at H
      exact H
    · conv => whnf
      exact tmo_lp hj hq1 hq4 H k _ (by omega) (by rw [← Int32.sub_eq_add_neg, nI_pred]) (by rw [← he, hl, if_neg c2])
set_option maxRecDepth 100000 in
set_option maxHeartbeats 4000000 in
theorem sm_titleOf {d L : Nat} {f : Nat → Nat → Int32} {g : Nat → Nat → Int64} {j q : Nat} {y : Int32} {R : Option Value → mH → Prop} (hd : 1 ≤ d) (hj : j < 40) (hq : f 191 j = nI q) (hq1 : 1 ≤ q) (hq4 : q ≤ 4) (H : R (some (.int (titM f j q y))) (shF L, f, g)) : Run mtab d 160 [.ref 181, .int (nI j), .int y] (shF L, f, g) R := by
  obtain ⟨d, rfl⟩ : ∃ e, d = e + 1 := ⟨d - 1, by omega⟩
  refine go_X11_titleOf rfl ?_
  conv => whnf
  have hcl : (nI j).toNatClampNeg = j := nI_clamp (by omega)
  refine ⟨vp_in_nI (by omega) (by decide), ?_⟩
  conv => whnf
  simp only [hcl, hq]
  exact tmo_lp hj hq1 hq4 H (q - 1) _ (by omega) (by
    obtain ⟨k, rfl⟩ : ∃ k, q = k + 1 := ⟨q - 1, by omega⟩
    exact nI_pred k) rfl
set_option maxRecDepth 100000 in
set_option maxHeartbeats 4000000 in
theorem sm_isCut {d L : Nat} {f : Nat → Nat → Int32} {g : Nat → Nat → Int64} {j : Nat} {y : Int32} {R : Option Value → mH → Prop} (hd : 1 ≤ d) (hj : j < 40) (H1 : (0 < f 192 j ∧ f 192 j ≤ y) → R (some (.int 1)) (shF L, f, g)) (H0 : ¬ (0 < f 192 j ∧ f 192 j ≤ y) → R (some (.int 0)) (shF L, f, g)) : Run mtab d 161 [.ref 181, .int (nI j), .int y] (shF L, f, g) R := by
  obtain ⟨d, rfl⟩ : ∃ e, d = e + 1 := ⟨d - 1, by omega⟩
  refine go_X11_isCut rfl ?_
  conv => whnf
  have hcl : (nI j).toNatClampNeg = j := nI_clamp (by omega)
  repeat' first
    | (simp only [hcl])
    | ((with_reducible refine ⟨vp_in_nI (by omega) (by decide), ?_⟩) <;> conv => whnf)
    | (refine ⟨Or.inl rfl, ?_⟩ <;> conv => whnf)
    | (refine ⟨Or.inr rfl, ?_⟩ <;> conv => whnf)
    | (refine ⟨Or.inl True.intro, ?_⟩ <;> conv => whnf)
    | (refine ⟨Or.inr True.intro, ?_⟩ <;> conv => whnf)
    | (refine ⟨fun c => ?_, fun c => ?_⟩ <;> first | ((have c9 : (1 : Int32) = 0 := by with_reducible exact c); exact absurd c9 (by decide)) | exact absurd (rfl : (0 : Int32) = 0) (by with_reducible exact c) | exact absurd True.intro (by with_reducible exact c) | exact False.elim (by with_reducible exact c) | (conv => whnf))
    | (refine ⟨by unfold vp_in; decide, ?_⟩ <;> conv => whnf)
    | fail
  all_goals first | exact ⟨Or.inl rfl, H0 (by simp only [← i32_nle] at *; grind)⟩ | exact ⟨Or.inr rfl, H1 (by simp only [← i32_nle] at *; grind)⟩ | exact H0 (by simp only [← i32_nle] at *; grind) | exact H1 (by simp only [← i32_nle] at *; grind)
set_option maxRecDepth 100000 in
set_option maxHeartbeats 4000000 in
theorem sm_heightOf {d L : Nat} {f : Nat → Nat → Int32} {g : Nat → Nat → Int64} {j : Nat} {y : Int32} {R : Option Value → mH → Prop} (hd : 2 ≤ d) (hj : j < 40) (H : R (some (.int (if 0 < f 192 j ∧ f 192 j ≤ y then f 193 j else f 185 j))) (shF L, f, g)) : Run mtab d 162 [.ref 181, .int (nI j), .int y] (shF L, f, g) R := by
  obtain ⟨d, rfl⟩ : ∃ e, d = e + 1 := ⟨d - 1, by omega⟩
  refine go_X11_heightOf rfl ?_
  conv => whnf
  have hcl : (nI j).toNatClampNeg = j := nI_clamp (by omega)
  repeat' first
    | (simp only [hcl])
    | ((with_reducible refine ⟨vp_in_nI (by omega) (by decide), ?_⟩) <;> conv => whnf)
    | (refine ⟨Or.inl rfl, ?_⟩ <;> conv => whnf)
    | (refine ⟨Or.inr rfl, ?_⟩ <;> conv => whnf)
    | (refine ⟨Or.inl True.intro, ?_⟩ <;> conv => whnf)
    | (refine ⟨Or.inr True.intro, ?_⟩ <;> conv => whnf)
    | (refine ⟨fun c => ?_, fun c => ?_⟩ <;> first | ((have c9 : (1 : Int32) = 0 := by with_reducible exact c); exact absurd c9 (by decide)) | exact absurd (rfl : (0 : Int32) = 0) (by with_reducible exact c) | exact absurd True.intro (by with_reducible exact c) | exact False.elim (by with_reducible exact c) | (conv => whnf))
    | (refine sm_isCut (by omega) hj (fun p => ?_) (fun p => ?_) <;> conv => whnf)
    | (refine ⟨by unfold vp_in; decide, ?_⟩ <;> conv => whnf)
    | fail
  all_goals first | (rw [if_pos p] at H; exact H) | (rw [if_neg p] at H; exact H)
set_option maxRecDepth 100000 in
set_option maxHeartbeats 4000000 in
theorem sm_widthOf {d L : Nat} {f : Nat → Nat → Int32} {g : Nat → Nat → Int64} {j : Nat} {y : Int32} {R : Option Value → mH → Prop} (hd : 2 ≤ d) (hj : j < 40) (H : R (some (.int (if 0 < f 192 j ∧ f 192 j ≤ y then f 194 j else f 186 j))) (shF L, f, g)) : Run mtab d 163 [.ref 181, .int (nI j), .int y] (shF L, f, g) R := by
  obtain ⟨d, rfl⟩ : ∃ e, d = e + 1 := ⟨d - 1, by omega⟩
  refine go_X11_widthOf rfl ?_
  conv => whnf
  have hcl : (nI j).toNatClampNeg = j := nI_clamp (by omega)
  repeat' first
    | (simp only [hcl])
    | ((with_reducible refine ⟨vp_in_nI (by omega) (by decide), ?_⟩) <;> conv => whnf)
    | (refine ⟨Or.inl rfl, ?_⟩ <;> conv => whnf)
    | (refine ⟨Or.inr rfl, ?_⟩ <;> conv => whnf)
    | (refine ⟨Or.inl True.intro, ?_⟩ <;> conv => whnf)
    | (refine ⟨Or.inr True.intro, ?_⟩ <;> conv => whnf)
    | (refine ⟨fun c => ?_, fun c => ?_⟩ <;> first | ((have c9 : (1 : Int32) = 0 := by with_reducible exact c); exact absurd c9 (by decide)) | exact absurd (rfl : (0 : Int32) = 0) (by with_reducible exact c) | exact absurd True.intro (by with_reducible exact c) | exact False.elim (by with_reducible exact c) | (conv => whnf))
    | (refine sm_isCut (by omega) hj (fun p => ?_) (fun p => ?_) <;> conv => whnf)
    | (refine ⟨by unfold vp_in; decide, ?_⟩ <;> conv => whnf)
    | fail
  all_goals first | (rw [if_pos p] at H; exact H) | (rw [if_neg p] at H; exact H)
set_option maxRecDepth 100000 in
set_option maxHeartbeats 4000000 in
theorem sm_then {d L : Nat} {f : Nat → Nat → Int32} {g : Nat → Nat → Int64} {n : Nat} {x1 x2 x3 : Int32} {R : Option Value → mH → Prop} (hd : 5 ≤ d) (hb : f 181 0 = nI n) (hm : n ≤ 40) (hT : ∀ j, j < n → ∃ q, 1 ≤ q ∧ q ≤ 4 ∧ f 191 j = nI q) (H : ∀ v, SM_then n f x1 x2 x3 v → R (some (.int v)) (shF L, f, g)) : Run mtab d 164 [.ref 181, .int x1, .int x2, .int x3] (shF L, f, g) R := by
  obtain ⟨d, rfl⟩ : ∃ e, d = e + 1 := ⟨d - 1, by omega⟩
  refine go_X11_then rfl ?_
  conv => whnf
  repeat' first
    | ((with_reducible refine ⟨vp_in_nI (by omega) (by decide), ?_⟩) <;> conv => whnf)
    | (refine ⟨Or.inl rfl, ?_⟩ <;> conv => whnf)
    | (refine ⟨Or.inr rfl, ?_⟩ <;> conv => whnf)
    | (refine ⟨Or.inl True.intro, ?_⟩ <;> conv => whnf)
    | (refine ⟨Or.inr True.intro, ?_⟩ <;> conv => whnf)
    | (refine ⟨fun c => ?_, fun c => ?_⟩ <;> first | ((have c9 : (1 : Int32) = 0 := by with_reducible exact c); exact absurd c9 (by decide)) | exact absurd (rfl : (0 : Int32) = 0) (by with_reducible exact c) | exact absurd True.intro (by with_reducible exact c) | exact False.elim (by with_reducible exact c) | (conv => whnf))
    | (refine ct_mIsWork (by omega) hb hm (fun j hj e => ?_) (fun q => ?_) <;> (try subst e) <;> conv => whnf)
    | (refine ct_mIsYear (by omega) (fun p => ?_) (fun p => ?_) <;> conv => whnf)
    | (refine ct_mIsSides (by omega) (fun p => ?_) (fun p => ?_) <;> conv => whnf)
    | (refine ct_mIsTold (by omega) (fun p => ?_) (fun p => ?_) <;> conv => whnf)
    | (refine ct_mIsSheet (by omega) (fun p => ?_) (fun p => ?_) <;> conv => whnf)
    | ((with_reducible refine ct_i_0_2 (by omega) (fun p => ?_) (fun p => ?_)) <;> conv => whnf)
    | ((obtain ⟨q, hq1, hq4, hq⟩ := hT j hj); refine sm_titleOf (by omega) (by omega) hq hq1 hq4 ?_ <;> conv => whnf)
    | (refine sm_heightOf (by omega) (by omega) ?_ <;> conv => whnf)
    | (refine sm_widthOf (by omega) (by omega) ?_ <;> conv => whnf)
    | (refine ⟨by unfold vp_in; decide, ?_⟩ <;> conv => whnf)
    | fail
  all_goals first | exact H _ (Or.inl ⟨fun hh => absurd hh.1 (nhasw (by assumption)), rfl⟩) | exact H _ (Or.inl ⟨fun hh => absurd hh.2.1 (by assumption), rfl⟩) | exact H _ (Or.inl ⟨fun hh => absurd hh.2.2 (by assumption), rfl⟩) | exact H _ (Or.inr ⟨j, q, hj, rfl, by assumption, by assumption, hq, hq1, hq4, Or.inl ⟨by assumption, rfl⟩⟩) | (obtain ⟨q, hq1, hq4, hq⟩ := hT j hj; first | exact H _ (Or.inr ⟨j, q, hj, rfl, by assumption, by assumption, hq, hq1, hq4, Or.inl ⟨by assumption, rfl⟩⟩) | exact H _ (Or.inr ⟨j, q, hj, rfl, by assumption, by assumption, hq, hq1, hq4, Or.inr (Or.inl ⟨by assumption, rfl⟩)⟩) | exact H _ (Or.inr ⟨j, q, hj, rfl, by assumption, by assumption, hq, hq1, hq4, Or.inr (Or.inr ⟨by assumption, by assumption, rfl⟩)⟩))
set_option maxRecDepth 100000 in
set_option maxHeartbeats 4000000 in
theorem sm_turned {d L : Nat} {f : Nat → Nat → Int32} {g : Nat → Nat → Int64} {n : Nat} {x1 : Int32} {R : Option Value → mH → Prop} (hd : 5 ≤ d) (hb : f 181 0 = nI n) (hm : n ≤ 40) (H : ∀ v, SM_turned n f x1 v → R (some (.int v)) (shF L, f, g)) : Run mtab d 165 [.ref 181, .int x1] (shF L, f, g) R := by
  obtain ⟨d, rfl⟩ : ∃ e, d = e + 1 := ⟨d - 1, by omega⟩
  refine go_X11_turned rfl ?_
  conv => whnf
  repeat' first
    | ((with_reducible refine ⟨vp_in_nI (by omega) (by decide), ?_⟩) <;> conv => whnf)
    | (refine ⟨Or.inl rfl, ?_⟩ <;> conv => whnf)
    | (refine ⟨Or.inr rfl, ?_⟩ <;> conv => whnf)
    | (refine ⟨Or.inl True.intro, ?_⟩ <;> conv => whnf)
    | (refine ⟨Or.inr True.intro, ?_⟩ <;> conv => whnf)
    | (refine ⟨fun c => ?_, fun c => ?_⟩ <;> first | ((have c9 : (1 : Int32) = 0 := by with_reducible exact c); exact absurd c9 (by decide)) | exact absurd (rfl : (0 : Int32) = 0) (by with_reducible exact c) | exact absurd True.intro (by with_reducible exact c) | exact False.elim (by with_reducible exact c) | (conv => whnf))
    | (refine ct_mIsWork (by omega) hb hm (fun j hj e => ?_) (fun q => ?_) <;> (try subst e) <;> conv => whnf)
    | (refine ⟨by unfold vp_in; decide, ?_⟩ <;> conv => whnf)
    | fail
  all_goals first | exact H _ (Or.inl ⟨nhasw (by assumption), rfl⟩) | (simp only [show (nI j).toNatClampNeg = j from nI_clamp (by omega)] at *; first | exact H _ (Or.inr ⟨j, hj, rfl, Or.inl ⟨by assumption, rfl⟩⟩) | exact H _ (Or.inr ⟨j, hj, rfl, Or.inr (Or.inl ⟨by assumption, by assumption, rfl⟩)⟩) | exact H _ (Or.inr ⟨j, hj, rfl, Or.inr (Or.inr ⟨by assumption, by assumption, rfl⟩)⟩))
theorem nI_6m (n : Nat) : 6 * nI n = nI (6 * n) := (Int32.ofNat_mul 6 n).symm
theorem nI_9m (n : Nat) : 9 * nI n = nI (9 * n) := (Int32.ofNat_mul 9 n).symm
theorem nI_40m (n : Nat) : 40 * nI n = nI (40 * n) := (Int32.ofNat_mul 40 n).symm
theorem nI_3m (n : Nat) : 3 * nI n = nI (3 * n) := (Int32.ofNat_mul 3 n).symm
theorem nI_60m (n : Nat) : 60 * nI n = nI (60 * n) := (Int32.ofNat_mul 60 n).symm
/-- what the model's works keep: titles from 1 on, versions and prints behind what they are of -/
def MI (f : Nat → Nat → Int32) : Prop := ∀ n, n ≤ 40 → f 181 0 = nI n → ∀ j, j < n → (∃ q, 1 ≤ q ∧ q ≤ 4 ∧ f 191 j = nI q) ∧ f 183 j < nI j
theorem MI_kp {l : List Nat} {f f' : Nat → Nat → Int32} (h : MI f) (k : kp l f f') (hl : hasN l 11 = false) : MI f' := fun n hn e j hj => by
  rw [k 191 j (by exact hl), k 183 j (by exact hl)]
  exact h n hn ((k 181 0 (by exact hl)).symm.trans e) j hj
theorem MI_fx {lo hi : Nat} {f f' : Nat → Nat → Int32} (h : MI f) (k : fx lo hi f f') (hl : 195 ≤ lo) : MI f' := fun n hn e j hj => by
  rw [k 191 j (by omega), k 183 j (by omega)]
  exact h n hn ((k 181 0 (by omega)).symm.trans e) j hj
set_option maxRecDepth 100000 in
set_option maxHeartbeats 4000000 in
theorem sm_ownerOf_lp {d L n : Nat} {f : Nat → Nat → Int32} {g : Nat → Nat → Int64} {w y : Int32} {R : Option Value → mH → Prop} (hd : 1 ≤ d) (hX : XI f) (hb : f 181 14 = nI n) (hm : n ≤ 60) (H : ∀ v, R (some (.int v)) (shF L, f, g)) :
    ∀ (k i : Nat) (x : Int32) (a : Int32) (s5 : Option Value), i + k = n → x = nI i → WPe pg_X11_ownerOf none (Run mtab d) R (m_drop pg_X11_ownerOf 4) [some (.ref 181), some (.int w), some (.int y), some (.int a), some (.int x), s5] [] (shF L, f, g)
  | 0, i, x, a, s5, hi, hx => by
    have e : i = n := by omega
    subst hx
    subst e
    refine at_X11_ownerOf ?_
    conv => whnf
    simp only [hb]
    refine ⟨fun c => ?_, fun c => absurd (nI_le (Nat.le_refl _) (by omega)) c⟩
    conv => whnf
    repeat' first
      | (simp only [hb, nI_6m, nI_1, nI_k _ 2 2 rfl, nI_k _ 3 3 rfl, nI_k _ 4 4 rfl, nI_k _ 5 5 rfl, nI_k _ 6 6 rfl, nI_k _ 7 7 rfl, nI_k _ 8 8 rfl])
      | ((with_reducible refine ⟨vp_in_nI (by omega) (by decide), ?_⟩) <;> conv => whnf)
      | (refine ⟨Or.inl rfl, ?_⟩ <;> conv => whnf)
      | (refine ⟨Or.inr rfl, ?_⟩ <;> conv => whnf)
      | (refine ⟨Or.inl True.intro, ?_⟩ <;> conv => whnf)
      | (refine ⟨Or.inr True.intro, ?_⟩ <;> conv => whnf)
      | (refine ⟨fun c => ?_, fun c => ?_⟩ <;> first | ((have c9 : (1 : Int32) = 0 := by with_reducible exact c); exact absurd c9 (by decide)) | exact absurd (rfl : (0 : Int32) = 0) (by with_reducible exact c) | exact absurd True.intro (by with_reducible exact c) | exact False.elim (by with_reducible exact c) | (conv => whnf))
      | ((with_reducible refine ct_i_v_v (by omega) (fun p => ?_) (fun p => ?_)) <;> conv => whnf)
      | (refine ⟨by unfold vp_in; decide, ?_⟩ <;> conv => whnf)
      | fail
    all_goals exact H _
  | k + 1, i, x, a, s5, hi, hx => by
    subst hx
    refine at_X11_ownerOf ?_
    conv => whnf
    simp only [hb]
    refine ⟨fun c => absurd c (nI_ge (b := n) (by omega) (by omega)), fun c => ?_⟩
    conv => whnf
    repeat' first
      | exact sm_ownerOf_lp hd hX hb hm H k (i + 1) _ _ _ (by omega) (nI_1 i)
      | (simp only [hb, nI_6m, nI_1, nI_k _ 2 2 rfl, nI_k _ 3 3 rfl, nI_k _ 4 4 rfl, nI_k _ 5 5 rfl, nI_k _ 6 6 rfl, nI_k _ 7 7 rfl, nI_k _ 8 8 rfl])
      | ((with_reducible refine ⟨vp_in_nI (by omega) (by decide), ?_⟩) <;> conv => whnf)
      | (refine ⟨Or.inl rfl, ?_⟩ <;> conv => whnf)
      | (refine ⟨Or.inr rfl, ?_⟩ <;> conv => whnf)
      | (refine ⟨Or.inl True.intro, ?_⟩ <;> conv => whnf)
      | (refine ⟨Or.inr True.intro, ?_⟩ <;> conv => whnf)
      | (refine ⟨fun c => ?_, fun c => ?_⟩ <;> first | ((have c9 : (1 : Int32) = 0 := by with_reducible exact c); exact absurd c9 (by decide)) | exact absurd (rfl : (0 : Int32) = 0) (by with_reducible exact c) | exact absurd True.intro (by with_reducible exact c) | exact False.elim (by with_reducible exact c) | (conv => whnf))
      | ((with_reducible refine ct_i_v_v (by omega) (fun p => ?_) (fun p => ?_)) <;> conv => whnf)
      | (refine ⟨by unfold vp_in; decide, ?_⟩ <;> conv => whnf)
      | fail
    all_goals exact H _
set_option maxRecDepth 100000 in
set_option maxHeartbeats 4000000 in
theorem sm_ownerOf {d L : Nat} {f : Nat → Nat → Int32} {g : Nat → Nat → Int64} {w y : Int32} {R : Option Value → mH → Prop} (hd : 2 ≤ d) (hX : XI f) (H : ∀ v, R (some (.int v)) (shF L, f, g)) : Run mtab d 170 [.ref 181, .int w, .int y] (shF L, f, g) R := by
  obtain ⟨d, rfl⟩ : ∃ e, d = e + 1 := ⟨d - 1, by omega⟩
  refine go_X11_ownerOf rfl ?_
  conv => whnf
  obtain ⟨n, hm, hb⟩ := inr_nat (n := 60) rfl (xi_181_14 hX)
  exact sm_ownerOf_lp (by omega) hX hb hm H n 0 _ _ _ (by omega) rfl
set_option maxRecDepth 100000 in
set_option maxHeartbeats 4000000 in
theorem sm_mayHold_lp {d L n : Nat} {f : Nat → Nat → Int32} {g : Nat → Nat → Int64} {w y : Int32} {R : Option Value → mH → Prop} (hd : 1 ≤ d) (hX : XI f) (hb : f 181 14 = nI n) (hm : n ≤ 60) (H : ∀ v, R (some (.int v)) (shF L, f, g)) :
    ∀ (k i : Nat) (x : Int32) (a : Int32) (s5 : Option Value), i + k = n → x = nI i → WPe pg_X11_mayHold none (Run mtab d) R (m_drop pg_X11_mayHold 4) [some (.ref 181), some (.int w), some (.int y), some (.int a), some (.int x), s5] [] (shF L, f, g)
  | 0, i, x, a, s5, hi, hx => by
    have e : i = n := by omega
    subst hx
    subst e
    refine at_X11_mayHold ?_
    conv => whnf
    simp only [hb]
    refine ⟨fun c => ?_, fun c => absurd (nI_le (Nat.le_refl _) (by omega)) c⟩
    conv => whnf
    repeat' first
      | (simp only [hb, nI_6m, nI_1, nI_k _ 2 2 rfl, nI_k _ 3 3 rfl, nI_k _ 4 4 rfl, nI_k _ 5 5 rfl, nI_k _ 6 6 rfl, nI_k _ 7 7 rfl, nI_k _ 8 8 rfl])
      | ((with_reducible refine ⟨vp_in_nI (by omega) (by decide), ?_⟩) <;> conv => whnf)
      | (refine ⟨Or.inl rfl, ?_⟩ <;> conv => whnf)
      | (refine ⟨Or.inr rfl, ?_⟩ <;> conv => whnf)
      | (refine ⟨Or.inl True.intro, ?_⟩ <;> conv => whnf)
      | (refine ⟨Or.inr True.intro, ?_⟩ <;> conv => whnf)
      | (refine ⟨fun c => ?_, fun c => ?_⟩ <;> first | ((have c9 : (1 : Int32) = 0 := by with_reducible exact c); exact absurd c9 (by decide)) | exact absurd (rfl : (0 : Int32) = 0) (by with_reducible exact c) | exact absurd True.intro (by with_reducible exact c) | exact False.elim (by with_reducible exact c) | (conv => whnf))
      | ((with_reducible refine ct_i_v_v (by omega) (fun p => ?_) (fun p => ?_)) <;> conv => whnf)
      | (refine ⟨by unfold vp_in; decide, ?_⟩ <;> conv => whnf)
      | fail
    all_goals exact H _
  | k + 1, i, x, a, s5, hi, hx => by
    subst hx
    refine at_X11_mayHold ?_
    conv => whnf
    simp only [hb]
    refine ⟨fun c => absurd c (nI_ge (b := n) (by omega) (by omega)), fun c => ?_⟩
    conv => whnf
    repeat' first
      | exact sm_mayHold_lp hd hX hb hm H k (i + 1) _ _ _ (by omega) (nI_1 i)
      | (simp only [hb, nI_6m, nI_1, nI_k _ 2 2 rfl, nI_k _ 3 3 rfl, nI_k _ 4 4 rfl, nI_k _ 5 5 rfl, nI_k _ 6 6 rfl, nI_k _ 7 7 rfl, nI_k _ 8 8 rfl])
      | ((with_reducible refine ⟨vp_in_nI (by omega) (by decide), ?_⟩) <;> conv => whnf)
      | (refine ⟨Or.inl rfl, ?_⟩ <;> conv => whnf)
      | (refine ⟨Or.inr rfl, ?_⟩ <;> conv => whnf)
      | (refine ⟨Or.inl True.intro, ?_⟩ <;> conv => whnf)
      | (refine ⟨Or.inr True.intro, ?_⟩ <;> conv => whnf)
      | (refine ⟨fun c => ?_, fun c => ?_⟩ <;> first | ((have c9 : (1 : Int32) = 0 := by with_reducible exact c); exact absurd c9 (by decide)) | exact absurd (rfl : (0 : Int32) = 0) (by with_reducible exact c) | exact absurd True.intro (by with_reducible exact c) | exact False.elim (by with_reducible exact c) | (conv => whnf))
      | ((with_reducible refine ct_i_v_v (by omega) (fun p => ?_) (fun p => ?_)) <;> conv => whnf)
      | (refine ⟨by unfold vp_in; decide, ?_⟩ <;> conv => whnf)
      | fail
    all_goals exact H _
set_option maxRecDepth 100000 in
set_option maxHeartbeats 4000000 in
theorem sm_mayHold {d L : Nat} {f : Nat → Nat → Int32} {g : Nat → Nat → Int64} {w y : Int32} {R : Option Value → mH → Prop} (hd : 2 ≤ d) (hX : XI f) (H : ∀ v, R (some (.int v)) (shF L, f, g)) : Run mtab d 171 [.ref 181, .int w, .int y] (shF L, f, g) R := by
  obtain ⟨d, rfl⟩ : ∃ e, d = e + 1 := ⟨d - 1, by omega⟩
  refine go_X11_mayHold rfl ?_
  conv => whnf
  obtain ⟨n, hm, hb⟩ := inr_nat (n := 60) rfl (xi_181_14 hX)
  exact sm_mayHold_lp (by omega) hX hb hm H n 0 _ _ _ (by omega) rfl
set_option maxRecDepth 100000 in
set_option maxHeartbeats 4000000 in
theorem sm_stateOf_lp {d L n : Nat} {f : Nat → Nat → Int32} {g : Nat → Nat → Int64} {w y : Int32} {R : Option Value → mH → Prop} (hd : 1 ≤ d) (hX : XI f) (hm : n ≤ 60) (H : ∀ v, R (some (.int v)) (shF L, f, g)) :
    ∀ (k i : Nat) (x : Int32) (a : Int32) (b : Int32) (s7 : Option Value), i + k = n → x = nI i → WPe pg_X11_stateOf none (Run mtab d) R (m_drop pg_X11_stateOf 6) [some (.ref 181), some (.int w), some (.int y), some (.int (nI n)), some (.int a), some (.int b), some (.int x), s7] [] (shF L, f, g)
  | 0, i, x, a, b, s7, hi, hx => by
    have e : i = n := by omega
    subst hx
    subst e
    refine at_X11_stateOf ?_
    conv => whnf
    refine ⟨fun c => ?_, fun c => absurd (nI_le (Nat.le_refl _) (by omega)) c⟩
    conv => whnf
    repeat' first
      | (simp only [nI_6m, nI_1, nI_k _ 2 2 rfl, nI_k _ 3 3 rfl, nI_k _ 4 4 rfl, nI_k _ 5 5 rfl, nI_k _ 6 6 rfl, nI_k _ 7 7 rfl, nI_k _ 8 8 rfl])
      | ((with_reducible refine ⟨vp_in_nI (by omega) (by decide), ?_⟩) <;> conv => whnf)
      | (refine ⟨Or.inl rfl, ?_⟩ <;> conv => whnf)
      | (refine ⟨Or.inr rfl, ?_⟩ <;> conv => whnf)
      | (refine ⟨Or.inl True.intro, ?_⟩ <;> conv => whnf)
      | (refine ⟨Or.inr True.intro, ?_⟩ <;> conv => whnf)
      | (refine ⟨fun c => ?_, fun c => ?_⟩ <;> first | ((have c9 : (1 : Int32) = 0 := by with_reducible exact c); exact absurd c9 (by decide)) | exact absurd (rfl : (0 : Int32) = 0) (by with_reducible exact c) | exact absurd True.intro (by with_reducible exact c) | exact False.elim (by with_reducible exact c) | (conv => whnf))
      | (refine ⟨by unfold vp_in; decide, ?_⟩ <;> conv => whnf)
      | fail
    all_goals exact H _
  | k + 1, i, x, a, b, s7, hi, hx => by
    subst hx
    refine at_X11_stateOf ?_
    conv => whnf
    refine ⟨fun c => absurd c (nI_ge (b := n) (by omega) (by omega)), fun c => ?_⟩
    conv => whnf
    repeat' first
      | exact sm_stateOf_lp hd hX hm H k (i + 1) _ _ _ _ (by omega) (nI_1 i)
      | (simp only [nI_6m, nI_1, nI_k _ 2 2 rfl, nI_k _ 3 3 rfl, nI_k _ 4 4 rfl, nI_k _ 5 5 rfl, nI_k _ 6 6 rfl, nI_k _ 7 7 rfl, nI_k _ 8 8 rfl])
      | ((with_reducible refine ⟨vp_in_nI (by omega) (by decide), ?_⟩) <;> conv => whnf)
      | (refine ⟨Or.inl rfl, ?_⟩ <;> conv => whnf)
      | (refine ⟨Or.inr rfl, ?_⟩ <;> conv => whnf)
      | (refine ⟨Or.inl True.intro, ?_⟩ <;> conv => whnf)
      | (refine ⟨Or.inr True.intro, ?_⟩ <;> conv => whnf)
      | (refine ⟨fun c => ?_, fun c => ?_⟩ <;> first | ((have c9 : (1 : Int32) = 0 := by with_reducible exact c); exact absurd c9 (by decide)) | exact absurd (rfl : (0 : Int32) = 0) (by with_reducible exact c) | exact absurd True.intro (by with_reducible exact c) | exact False.elim (by with_reducible exact c) | (conv => whnf))
      | (refine ⟨by unfold vp_in; decide, ?_⟩ <;> conv => whnf)
      | fail
    all_goals exact H _
set_option maxRecDepth 100000 in
set_option maxHeartbeats 4000000 in
theorem sm_stateOf {d L : Nat} {f : Nat → Nat → Int32} {g : Nat → Nat → Int64} {n : Nat} {w y : Int32} {R : Option Value → mH → Prop} (hd : 2 ≤ d) (hX : XI f) (hm : n ≤ 60) (H : ∀ v, R (some (.int v)) (shF L, f, g)) : Run mtab d 227 [.ref 181, .int w, .int y, .int (nI n)] (shF L, f, g) R := by
  obtain ⟨d, rfl⟩ : ∃ e, d = e + 1 := ⟨d - 1, by omega⟩
  refine go_X11_stateOf rfl ?_
  conv => whnf
  exact sm_stateOf_lp (by omega) hX hm H n 0 _ _ _ _ (by omega) rfl
theorem and_dec {l : Int32} (h : ¬ l = 0) : (l &&& (l - 1)).toBitVec.toNat < l.toBitVec.toNat := by
  have h0 : ¬ l.toBitVec.toNat = 0 := fun e => h (Int32.toBitVec_inj.mp (BitVec.eq_of_toNat_eq (e.trans rfl)))
  have hb := l.toBitVec.isLt
  have e1 : (l - 1).toBitVec.toNat = l.toBitVec.toNat - 1 := by
    rw [Int32.toBitVec_sub, BitVec.toNat_sub]
    have : (1 : Int32).toBitVec.toNat = 1 := rfl
    rw [this]
    omega
  rw [Int32.toBitVec_and, BitVec.toNat_and, e1]
  have := @Nat.and_le_right (l.toBitVec.toNat) (l.toBitVec.toNat - 1)
  omega
set_option maxRecDepth 100000 in
theorem ones_lp {d : Nat} {h : mH} {R : Option Value → mH → Prop} (H : ∀ v, R (some (.int v)) h) : ∀ (k : Nat) (b a l : Int32), l.toBitVec.toNat < k → WPe pg_X11_ones none (Run mtab d) R (m_drop pg_X11_ones 4) [some (.int b), some (.int a), some (.int l)] [] h
  | 0, _, _, _, hk => absurd hk (by omega)
  | k + 1, b, a, l, hk => by
    refine at_X11_ones ?_
    conv => whnf
    refine ⟨fun c => ?_, fun c => ?_⟩
    · conv => whnf
      exact H _
    · conv => whnf
      exact ones_lp H k _ _ _ (Nat.lt_of_lt_of_le (and_dec c) (by omega))
theorem sm_ones {d : Nat} {x : Int32} {h : mH} {R : Option Value → mH → Prop} (hd : 1 ≤ d) (H : ∀ v, R (some (.int v)) h) : Run mtab d 194 [.int x] h R := by
  obtain ⟨d, rfl⟩ : ∃ e, d = e + 1 := ⟨d - 1, by omega⟩
  refine go_X11_ones rfl ?_
  conv => whnf
  exact ones_lp H _ _ _ _ (Nat.lt_succ_self _)
set_option maxRecDepth 100000 in
set_option maxHeartbeats 4000000 in
theorem sm_standsFor {d L : Nat} {f : Nat → Nat → Int32} {g : Nat → Nat → Int64} {x y z : Int32} {R : Option Value → mH → Prop} (hd : 2 ≤ d) (H : ∀ v, (v = 0 ∨ v = 1) → R (some (.int v)) (shF L, f, g)) : Run mtab d 191 [.int x, .int y, .int z] (shF L, f, g) R := by
  obtain ⟨d, rfl⟩ : ∃ e, d = e + 1 := ⟨d - 1, by omega⟩
  refine go_X11_standsFor rfl ?_
  conv => whnf
  repeat' first
    | ((with_reducible refine ⟨vp_in_nI (by omega) (by decide), ?_⟩) <;> conv => whnf)
    | (refine ⟨Or.inl rfl, ?_⟩ <;> conv => whnf)
    | (refine ⟨Or.inr rfl, ?_⟩ <;> conv => whnf)
    | (refine ⟨Or.inl True.intro, ?_⟩ <;> conv => whnf)
    | (refine ⟨Or.inr True.intro, ?_⟩ <;> conv => whnf)
    | (refine ⟨fun c => ?_, fun c => ?_⟩ <;> first | ((have c9 : (1 : Int32) = 0 := by with_reducible exact c); exact absurd c9 (by decide)) | exact absurd (rfl : (0 : Int32) = 0) (by with_reducible exact c) | exact absurd True.intro (by with_reducible exact c) | exact False.elim (by with_reducible exact c) | (conv => whnf))
    | ((with_reducible refine ct_i_v_v (by omega) (fun p => ?_) (fun p => ?_)) <;> conv => whnf)
    | (refine ⟨by unfold vp_in; decide, ?_⟩ <;> conv => whnf)
    | fail
  all_goals first | exact ⟨Or.inl rfl, H _ (Or.inl rfl)⟩ | exact ⟨Or.inr rfl, H _ (Or.inr rfl)⟩ | exact H _ (Or.inl rfl) | exact H _ (Or.inr rfl)
set_option maxRecDepth 100000 in
set_option maxHeartbeats 4000000 in
theorem fs_lp {d L : Nat} {f : Nat → Nat → Int32} {g : Nat → Nat → Int64} {x1 x2 x3 x4 x5 x6 : Int32} {R : Option Value → mH → Prop} (hd : 2 ≤ d) (H : ∀ v, (v = 0 ∨ v = 1) → R (some (.int v)) (shF L, f, g)) :
    ∀ (k i : Nat) (x b : Int32), i + k = 121 → x = nI i → (b = 0 ∨ b = 1) → WPe pg_X11_fitsSides none (Run mtab d) R (m_drop pg_X11_fitsSides 8) [some (.int x1), some (.int x2), some (.int x3), some (.int x4), some (.int x5), some (.int x6), some (.int b), some (.int x)] [] (shF L, f, g)
  | 0, i, x, b, hk, hx, hb => by
    have e : i = 121 := by omega
    subst e
    subst hx
    refine at_X11_fitsSides ?_
    conv => whnf
    refine ⟨fun c => ?_, fun c => ?_⟩
    · conv => whnf
      refine ⟨fun c => ?_, fun c => absurd (by decide) c⟩
      conv => whnf
      exact ⟨hb, H _ hb⟩
    · conv => whnf
      refine ⟨fun c => ?_, fun c => absurd (by decide) c⟩
      conv => whnf
      exact ⟨hb, H _ hb⟩
  | k + 1, i, x, b, hk, hx, hb => by
    subst hx
    refine at_X11_fitsSides ?_
    conv => whnf
    repeat' first
      | exact ⟨hb, H _ hb⟩
      | exact fs_lp hd H k (i + 1) _ _ (by omega) (nI_1 i) (by first | exact Or.inl rfl | exact Or.inr rfl)
      | ((with_reducible refine ⟨vp_in_nI (by omega) (by decide), ?_⟩) <;> conv => whnf)
      | (refine ⟨Or.inl rfl, ?_⟩ <;> conv => whnf)
      | (refine ⟨Or.inr rfl, ?_⟩ <;> conv => whnf)
      | (refine ⟨Or.inl True.intro, ?_⟩ <;> conv => whnf)
      | (refine ⟨Or.inr True.intro, ?_⟩ <;> conv => whnf)
      | (refine ⟨fun c => ?_, fun c => ?_⟩ <;> first | ((have c9 : (1 : Int32) = 0 := by with_reducible exact c); exact absurd c9 (by decide)) | exact absurd (rfl : (0 : Int32) = 0) (by with_reducible exact c) | exact absurd True.intro (by with_reducible exact c) | exact False.elim (by with_reducible exact c) | (conv => whnf))
      | (refine sm_standsFor (by omega) (fun v hv => ?_) <;> conv => whnf)
      | (refine ⟨by unfold vp_in; decide, ?_⟩ <;> conv => whnf)
      | fail
theorem sm_fitsSides {d L : Nat} {f : Nat → Nat → Int32} {g : Nat → Nat → Int64} {x1 x2 x3 x4 x5 x6 : Int32} {R : Option Value → mH → Prop} (hd : 3 ≤ d) (H : ∀ v, (v = 0 ∨ v = 1) → R (some (.int v)) (shF L, f, g)) : Run mtab d 192 [.int x1, .int x2, .int x3, .int x4, .int x5, .int x6] (shF L, f, g) R := by
  obtain ⟨d, rfl⟩ : ∃ e, d = e + 1 := ⟨d - 1, by omega⟩
  refine go_X11_fitsSides rfl ?_
  conv => whnf
  refine ⟨fun c => ?_, fun c => ?_⟩
  · exact fs_lp (by omega) H 121 0 _ _ (by omega) rfl (Or.inl rfl)
  · exact fs_lp (by omega) H 101 20 _ _ (by omega) rfl (Or.inl rfl)
set_option maxRecDepth 100000 in
set_option maxHeartbeats 4000000 in
theorem sm_fitsSizes {d L : Nat} {f : Nat → Nat → Int32} {g : Nat → Nat → Int64} {m j : Nat} {R : Option Value → mH → Prop} (hd : 4 ≤ d) (hX : XI f) (hm : m < 50) (hj : j < 40) (H : ∀ v, (v = 0 ∨ v = 1) → R (some (.int v)) (shF L, f, g)) : Run mtab d 193 [.ref 181, .int (nI (9 * m)), .int (nI j)] (shF L, f, g) R := by
  obtain ⟨d, rfl⟩ : ∃ e, d = e + 1 := ⟨d - 1, by omega⟩
  refine go_X11_fitsSizes rfl ?_
  conv => whnf
  repeat' first
    | (simp only [nI_6m, nI_1, nI_k _ 2 2 rfl, nI_k _ 3 3 rfl, nI_k _ 4 4 rfl, nI_k _ 5 5 rfl, nI_k _ 6 6 rfl, nI_k _ 7 7 rfl, nI_k _ 8 8 rfl])
    | ((with_reducible refine ⟨vp_in_nI (by omega) (by decide), ?_⟩) <;> conv => whnf)
    | (refine ⟨Or.inl rfl, ?_⟩ <;> conv => whnf)
    | (refine ⟨Or.inr rfl, ?_⟩ <;> conv => whnf)
    | (refine ⟨Or.inl True.intro, ?_⟩ <;> conv => whnf)
    | (refine ⟨Or.inr True.intro, ?_⟩ <;> conv => whnf)
    | (refine ⟨fun c => ?_, fun c => ?_⟩ <;> first | ((have c9 : (1 : Int32) = 0 := by with_reducible exact c); exact absurd c9 (by decide)) | exact absurd (rfl : (0 : Int32) = 0) (by with_reducible exact c) | exact absurd True.intro (by with_reducible exact c) | exact False.elim (by with_reducible exact c) | (conv => whnf))
    | (refine sm_fitsSides (by omega) (fun v hv => ?_) <;> conv => whnf)
    | (refine sm_heightOf (by omega) hj ?_ <;> conv => whnf)
    | (refine sm_widthOf (by omega) hj ?_ <;> conv => whnf)
    | (refine ⟨by unfold vp_in; decide, ?_⟩ <;> conv => whnf)
    | fail
  all_goals first | exact ⟨Or.inl rfl, H _ (Or.inl rfl)⟩ | exact ⟨Or.inr rfl, H _ (Or.inr rfl)⟩ | exact H _ (Or.inl rfl) | exact H _ (Or.inr rfl)
set_option maxRecDepth 100000 in
set_option maxHeartbeats 4000000 in
theorem sm_scoreOf {d L : Nat} {f : Nat → Nat → Int32} {g : Nat → Nat → Int64} {m j q : Nat} {R : Option Value → mH → Prop} (hd : 5 ≤ d) (hX : XI f) (hm : m < 50) (hj : j < 40) (hq : f 191 j = nI q) (hq1 : 1 ≤ q) (hq4 : q ≤ 4) (H : ∀ v, R (some (.int v)) (shF L, f, g)) : Run mtab d 195 [.ref 181, .int (nI m), .int (nI j)] (shF L, f, g) R := by
  obtain ⟨d, rfl⟩ : ∃ e, d = e + 1 := ⟨d - 1, by omega⟩
  refine go_X11_scoreOf rfl ?_
  conv => whnf
  obtain ⟨vn, hvn, hvb⟩ := inr_nat (n := 60) rfl (xi_181_48 hX)
  repeat' first
    | (simp only [hvb, nI_9m, nI_6m, nI_1, nI_k _ 2 2 rfl, nI_k _ 3 3 rfl, nI_k _ 4 4 rfl, nI_k _ 5 5 rfl, nI_k _ 6 6 rfl, nI_k _ 7 7 rfl, nI_k _ 8 8 rfl])
    | ((with_reducible refine ⟨vp_in_nI (by omega) (by decide), ?_⟩) <;> conv => whnf)
    | (refine ⟨Or.inl rfl, ?_⟩ <;> conv => whnf)
    | (refine ⟨Or.inr rfl, ?_⟩ <;> conv => whnf)
    | (refine ⟨Or.inl True.intro, ?_⟩ <;> conv => whnf)
    | (refine ⟨Or.inr True.intro, ?_⟩ <;> conv => whnf)
    | (refine ⟨fun c => ?_, fun c => ?_⟩ <;> first | ((have c9 : (1 : Int32) = 0 := by with_reducible exact c); exact absurd c9 (by decide)) | exact absurd (rfl : (0 : Int32) = 0) (by with_reducible exact c) | exact absurd True.intro (by with_reducible exact c) | exact False.elim (by with_reducible exact c) | (conv => whnf))
    | (refine sm_fitsSides (by omega) (fun v hv => ?_) <;> conv => whnf)
    | (refine sm_fitsSizes (by omega) hX hm hj (fun v hv => ?_) <;> conv => whnf)
    | (refine sm_stateOf (by omega) hX hvn (fun v => ?_) <;> conv => whnf)
    | (refine sm_ownerOf (by omega) hX (fun v => ?_) <;> conv => whnf)
    | (refine sm_ones (by omega) (fun v => ?_) <;> conv => whnf)
    | (refine sm_titleOf (by omega) hj hq hq1 hq4 ?_ <;> conv => whnf)
    | (refine ⟨by unfold vp_in; decide, ?_⟩ <;> conv => whnf)
    | fail
  all_goals exact H _
set_option maxRecDepth 100000 in
set_option maxHeartbeats 4000000 in
theorem sm_rivalsOf_lp {d L n : Nat} {f : Nat → Nat → Int32} {g : Nat → Nat → Int64} {p : Nat} {R : Option Value → mH → Prop} (hd : 5 ≤ d) (hX : XI f) (hb : f 181 0 = nI n) (hm : n ≤ 40) (hI : MI f) (hp : p < 50) (H : ∀ v, R (some (.int v)) (shF L, f, g)) :
    ∀ (k i : Nat) (x : Int32) (a : Int32), i + k = n → x = nI i → WPe pg_X11_rivalsOf none (Run mtab d) R (m_drop pg_X11_rivalsOf 4) [some (.ref 181), some (.int (nI p)), some (.int a), some (.int x)] [] (shF L, f, g)
  | 0, i, x, a, hi, hx => by
    have e : i = n := by omega
    subst hx
    subst e
    refine at_X11_rivalsOf ?_
    conv => whnf
    simp only [hb]
    refine ⟨fun c => ?_, fun c => absurd (nI_le (Nat.le_refl _) (by omega)) c⟩
    conv => whnf
    repeat' first
      | (simp only [hb])
      | ((with_reducible refine ⟨vp_in_nI (by omega) (by decide), ?_⟩) <;> conv => whnf)
      | (refine ⟨Or.inl rfl, ?_⟩ <;> conv => whnf)
      | (refine ⟨Or.inr rfl, ?_⟩ <;> conv => whnf)
      | (refine ⟨Or.inl True.intro, ?_⟩ <;> conv => whnf)
      | (refine ⟨Or.inr True.intro, ?_⟩ <;> conv => whnf)
      | (refine ⟨fun c => ?_, fun c => ?_⟩ <;> first | ((have c9 : (1 : Int32) = 0 := by with_reducible exact c); exact absurd c9 (by decide)) | exact absurd (rfl : (0 : Int32) = 0) (by with_reducible exact c) | exact absurd True.intro (by with_reducible exact c) | exact False.elim (by with_reducible exact c) | (conv => whnf))
      | ((obtain ⟨⟨q, hq1, hq4, hq⟩, _⟩ := hI n hm hb i (by omega)); refine sm_scoreOf (by omega) hX hp (by omega) hq hq1 hq4 (fun v => ?_) <;> conv => whnf)
      | (refine ⟨by unfold vp_in; decide, ?_⟩ <;> conv => whnf)
      | fail
    all_goals exact H _
  | k + 1, i, x, a, hi, hx => by
    subst hx
    refine at_X11_rivalsOf ?_
    conv => whnf
    simp only [hb]
    refine ⟨fun c => absurd c (nI_ge (b := n) (by omega) (by omega)), fun c => ?_⟩
    conv => whnf
    repeat' first
      | exact sm_rivalsOf_lp hd hX hb hm hI hp H k (i + 1) _ _ (by omega) (nI_1 i)
      | (simp only [hb])
      | ((with_reducible refine ⟨vp_in_nI (by omega) (by decide), ?_⟩) <;> conv => whnf)
      | (refine ⟨Or.inl rfl, ?_⟩ <;> conv => whnf)
      | (refine ⟨Or.inr rfl, ?_⟩ <;> conv => whnf)
      | (refine ⟨Or.inl True.intro, ?_⟩ <;> conv => whnf)
      | (refine ⟨Or.inr True.intro, ?_⟩ <;> conv => whnf)
      | (refine ⟨fun c => ?_, fun c => ?_⟩ <;> first | ((have c9 : (1 : Int32) = 0 := by with_reducible exact c); exact absurd c9 (by decide)) | exact absurd (rfl : (0 : Int32) = 0) (by with_reducible exact c) | exact absurd True.intro (by with_reducible exact c) | exact False.elim (by with_reducible exact c) | (conv => whnf))
      | ((obtain ⟨⟨q, hq1, hq4, hq⟩, _⟩ := hI n hm hb i (by omega)); refine sm_scoreOf (by omega) hX hp (by omega) hq hq1 hq4 (fun v => ?_) <;> conv => whnf)
      | (refine ⟨by unfold vp_in; decide, ?_⟩ <;> conv => whnf)
      | fail
    all_goals exact H _
set_option maxRecDepth 100000 in
set_option maxHeartbeats 4000000 in
theorem sm_rivalsOf {d L : Nat} {f : Nat → Nat → Int32} {g : Nat → Nat → Int64} {p : Nat} {R : Option Value → mH → Prop} (hd : 6 ≤ d) (hX : XI f) (hI : MI f) (hp : p < 50) (H : ∀ v, R (some (.int v)) (shF L, f, g)) : Run mtab d 198 [.ref 181, .int (nI p)] (shF L, f, g) R := by
  obtain ⟨d, rfl⟩ : ∃ e, d = e + 1 := ⟨d - 1, by omega⟩
  refine go_X11_rivalsOf rfl ?_
  conv => whnf
  obtain ⟨n, hm, hb⟩ := inr_nat (n := 40) rfl (xi_181_0 hX)
  exact sm_rivalsOf_lp (by omega) hX hb hm hI hp H n 0 _ _ (by omega) rfl
