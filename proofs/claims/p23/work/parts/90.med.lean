set_option maxRecDepth 100000 in
set_option maxHeartbeats 4000000 in
theorem sm_isAhead {d L : Nat} {f : Nat → Nat → Int32} {g : Nat → Nat → Int64} {p : Nat} {w : Int32} {R : Option Value → mH → Prop} (hd : 1 ≤ d) (hX : XI f) (hp : p < 40) (hw : vp_in w 40) (H : ∀ v, (v = 0 ∨ v = 1) → R (some (.int v)) (shF L, f, g)) : Run mtab d 232 [.ref 181, .int (nI p), .int w] (shF L, f, g) R := by
  obtain ⟨d, rfl⟩ : ∃ e, d = e + 1 := ⟨d - 1, by omega⟩
  refine go_X11_isAhead rfl ?_
  conv => whnf
  repeat' first
    | ((with_reducible refine ⟨hw, ?_⟩) <;> conv => whnf)
    | ((with_reducible refine ⟨vp_in_nI (by omega) (by decide), ?_⟩) <;> conv => whnf)
    | (refine ⟨Or.inl rfl, ?_⟩ <;> conv => whnf)
    | (refine ⟨Or.inr rfl, ?_⟩ <;> conv => whnf)
    | (refine ⟨Or.inl True.intro, ?_⟩ <;> conv => whnf)
    | (refine ⟨Or.inr True.intro, ?_⟩ <;> conv => whnf)
    | (refine ⟨fun c => ?_, fun c => ?_⟩ <;> first | ((have c9 : (1 : Int32) = 0 := by with_reducible exact c); exact absurd c9 (by decide)) | exact absurd (rfl : (0 : Int32) = 0) (by with_reducible exact c) | exact absurd True.intro (by with_reducible exact c) | exact False.elim (by with_reducible exact c) | (conv => whnf))
    | (refine ⟨by unfold vp_in; decide, ?_⟩ <;> conv => whnf)
    | fail
  all_goals first | exact ⟨Or.inl rfl, H _ (Or.inl rfl)⟩ | exact ⟨Or.inr rfl, H _ (Or.inr rfl)⟩ | exact H _ (Or.inl rfl) | exact H _ (Or.inr rfl)
set_option maxRecDepth 100000 in
set_option maxHeartbeats 4000000 in
theorem msr_in {d L p q : Nat} {f0 : Nat → Nat → Int32} {s4 s5 s6 s7 : Option Value} {R : Option Value → mH → Prop} (hd : 1 ≤ d) (hp : p < 40) (hq : q < 40) (HO : ∀ (b' x' : Int32) (s3 : Option Value) (f' : Nat → Nat → Int32) (g' : Nat → Nat → Int64), b' = nI (q + 1) → x' = nI (p + 1) → XI f' → fx 223 224 f0 f' → WPe pg_X11_edition none (Run mtab d) R (m_drop pg_X11_edition 12) [some (.ref 181), some (.int b'), some (.int x'), s3, s4, s5, s6, s7] [] (shF L, f', g')) :
    ∀ (t : Nat) (y : Int32) (f : Nat → Nat → Int32) (g : Nat → Nat → Int64), t ≤ q → y = nI t → XI f → fx 223 224 f0 f → WPe pg_X11_edition none (Run mtab d) R (m_drop pg_X11_edition 26) [some (.ref 181), some (.int (nI q)), some (.int (nI p)), some (.int y), s4, s5, s6, s7] [] (shF L, f, g)
  | 0, y, f, g, ht, hy, hX, hF => by
    subst hy
    refine at_X11_edition ?_
    conv => whnf
    refine ⟨fun c => ?_, fun c => absurd (by decide) c⟩
    conv => whnf
    refine ⟨vp_in_nI (by omega) (by decide), ?_⟩
    conv => whnf
    exact HO _ _ _ _ _ (nI_1 q) (nI_1 p) (XI_ui hX (show inr 0 39 _ from inr_n (m := 39) (by omega) rfl (by decide))) (fx_ui (by decide) (by decide) hF)
  | t + 1, y, f, g, ht, hy, hX, hF => by
    subst hy
    have hp1 : nI (t + 1) - 1 = nI t := nI_pred t
    refine at_X11_edition ?_
    conv => whnf
    refine ⟨fun c => absurd c (nI_nle (by omega) (by omega)), fun c => ?_⟩
    conv => whnf
    simp only [hp1]
    refine ⟨vp_in_nI (by omega) (by decide), ?_⟩
    conv => whnf
    refine sm_isAhead (by omega) hX hp (vx_223 hX _) (fun v1 hv1 => ?_)
    conv => whnf
    refine ⟨fun c2 => ?_, fun c2 => ?_⟩
    · conv => whnf
      refine ⟨vp_in_nI (by omega) (by decide), ?_⟩
      conv => whnf
      exact HO _ _ _ _ _ (nI_1 q) (nI_1 p) (XI_ui hX (show inr 0 39 _ from inr_n (m := 39) (by omega) rfl (by decide))) (fx_ui (by decide) (by decide) hF)
    · conv => whnf
      simp only [hp1]
      refine ⟨vp_in_nI (by omega) (by decide), ?_⟩
      conv => whnf
      refine ⟨vp_in_nI (by omega) (by decide), ?_⟩
      conv => whnf
      exact msr_in hd hp hq HO t _ _ g (by omega) (by rw [← Int32.sub_eq_add_neg, nI_pred]) (XI_ui hX (show inr 0 39 _ from xi_223 hX _)) (fx_ui (by decide) (by decide) hF)
set_option maxRecDepth 100000 in
set_option maxHeartbeats 4000000 in
theorem sm_ed2_lp {d L n : Nat} {f0 : Nat → Nat → Int32}  {R : Option Value → mH → Prop} (hd : 1 ≤ d) (hm : n ≤ 40) (H : ∀ v f' g', XI f' → kp [10, 17, 22, 23] f0 f' → R (some (.int v)) (shF L, f', g'))  :
    ∀ (k i : Nat) (x : Int32) (a : Int32) (b : Int32) (s5 : Option Value) (s6 : Option Value) (s7 : Option Value) (f : Nat → Nat → Int32) (g : Nat → Nat → Int64), i + k = n → x = nI i → XI f → kp [10, 17, 22, 23] f0 f → inr 0 40 b → WPe pg_X11_edition none (Run mtab d) R (m_drop pg_X11_edition 64) [some (.ref 181), some (.int (nI n)), some (.int a), some (.int b), some (.int x), s5, s6, s7] [] (shF L, f, g)
  | 0, i, x, a, b, s5, s6, s7, f, g, he, hx, hX, hF, hb => by
    have e : i = n := by omega
    subst hx
    subst e
    refine at_X11_edition ?_
    conv => whnf
    try simp only [nI_1, m_ui_ap, m_fil_ap, m_cpy_ap, Nat.reduceEqDiff, Nat.reduceLT, Nat.reduceLeDiff, eq_self, ↓reduceIte, false_and, and_false, true_and, and_true, and_self]
    refine ⟨fun c => ?_, fun c => absurd (nI_le (Nat.le_refl _) (by omega)) c⟩
    conv => whnf
    repeat' first
      | ((with_reducible refine ⟨vx_223 hX _, ?_⟩) <;> conv => whnf)
      | ((with_reducible refine ⟨vpi hb (by decide), ?_⟩) <;> conv => whnf)
      | (simp only [nI_1, m_ui_ap, m_fil_ap, m_cpy_ap, Nat.reduceEqDiff, Nat.reduceLT, Nat.reduceLeDiff, eq_self, ↓reduceIte, false_and, and_false, true_and, and_true, and_self])
      | ((with_reducible refine ⟨vp_in_nI (by omega) (by decide), ?_⟩) <;> conv => whnf)
      | (refine ⟨Or.inl rfl, ?_⟩ <;> conv => whnf)
      | (refine ⟨Or.inr rfl, ?_⟩ <;> conv => whnf)
      | (refine ⟨Or.inl True.intro, ?_⟩ <;> conv => whnf)
      | (refine ⟨Or.inr True.intro, ?_⟩ <;> conv => whnf)
      | (refine ⟨fun c => ?_, fun c => ?_⟩ <;> first | ((have c9 : (1 : Int32) = 0 := by with_reducible exact c); exact absurd c9 (by decide)) | exact absurd (rfl : (0 : Int32) = 0) (by with_reducible exact c) | exact absurd True.intro (by with_reducible exact c) | exact False.elim (by with_reducible exact c) | (conv => whnf))
      | (refine ⟨by unfold vp_in; decide, ?_⟩ <;> conv => whnf)
      | fail
    all_goals exact H _ _ _ (XI_ui hX True.intro) (kp_ui rfl hF)
  | k + 1, i, x, a, b, s5, s6, s7, f, g, he, hx, hX, hF, hb => by
    subst hx
    refine at_X11_edition ?_
    conv => whnf
    try simp only [nI_1, m_ui_ap, m_fil_ap, m_cpy_ap, Nat.reduceEqDiff, Nat.reduceLT, Nat.reduceLeDiff, eq_self, ↓reduceIte, false_and, and_false, true_and, and_true, and_self]
    refine ⟨fun c => absurd c (nI_ge (b := n) (by omega) (by omega)), fun c => ?_⟩
    conv => whnf
    repeat' first
      | exact sm_ed2_lp hd hm H k (i + 1) _ _ _ _ _ _ _ _ (by omega) (by first | rfl | exact nI_1 i) (by repeat' first | (with_reducible assumption) | (with_reducible refine XI_ui ?_ ?_) | (with_reducible refine XI_fil ?_ (fun _ => ?_)) | (with_reducible refine XI_cpy ?_ (fun _ _ => ?_)) | exact True.intro | ((show inr _ _ _); first | (with_reducible assumption) | ((with_reducible refine inr_n1 (m := 40) ?_ ?_ ?_) <;> first | omega | rfl | decide) | ((with_reducible refine inr_n (m := 40) ?_ ?_ ?_) <;> first | omega | rfl | decide) | (unfold inr; decide)) | fail) (by repeat' first | (with_reducible exact kp_refl _ _) | (with_reducible assumption) | (with_reducible refine kp_ui ?_ ?_) | (with_reducible refine kp_fil ?_ ?_) | (with_reducible refine kp_cpy ?_ ?_) | rfl | fail) (by first | (with_reducible assumption) | (with_reducible exact xi_221 hX _) | (with_reducible refine inr_n (m := 40) ?_ ?_ ?_) <;> first | omega | rfl | decide)
      | ((with_reducible refine ⟨vx_223 hX _, ?_⟩) <;> conv => whnf)
      | ((with_reducible refine ⟨vpi hb (by decide), ?_⟩) <;> conv => whnf)
      | (simp only [nI_1, m_ui_ap, m_fil_ap, m_cpy_ap, Nat.reduceEqDiff, Nat.reduceLT, Nat.reduceLeDiff, eq_self, ↓reduceIte, false_and, and_false, true_and, and_true, and_self])
      | ((with_reducible refine ⟨vp_in_nI (by omega) (by decide), ?_⟩) <;> conv => whnf)
      | (refine ⟨Or.inl rfl, ?_⟩ <;> conv => whnf)
      | (refine ⟨Or.inr rfl, ?_⟩ <;> conv => whnf)
      | (refine ⟨Or.inl True.intro, ?_⟩ <;> conv => whnf)
      | (refine ⟨Or.inr True.intro, ?_⟩ <;> conv => whnf)
      | (refine ⟨fun c => ?_, fun c => ?_⟩ <;> first | ((have c9 : (1 : Int32) = 0 := by with_reducible exact c); exact absurd c9 (by decide)) | exact absurd (rfl : (0 : Int32) = 0) (by with_reducible exact c) | exact absurd True.intro (by with_reducible exact c) | exact False.elim (by with_reducible exact c) | (conv => whnf))
      | (refine ⟨by unfold vp_in; decide, ?_⟩ <;> conv => whnf)
      | fail
    all_goals exact H _ _ _ (XI_ui hX True.intro) (kp_ui rfl hF)
set_option maxRecDepth 100000 in
set_option maxHeartbeats 4000000 in
theorem sm_ed1_lp {d L n : Nat} {f0 : Nat → Nat → Int32} {vn : Nat} {fz : Nat → Nat → Int32} {R : Option Value → mH → Prop} (hd : 3 ≤ d) (hm : n ≤ 40) (h0 : f0 181 0 = nI n) (hv0 : f0 181 48 = nI vn) (hk : vn ≤ 60) (k0 : kp [10, 17, 22, 23] fz f0) (H : ∀ v f' g', XI f' → kp [10, 17, 22, 23] fz f' → R (some (.int v)) (shF L, f', g'))  :
    ∀ (k i : Nat) (x : Int32) (b : Int32) (s3 : Option Value) (s4 : Option Value) (s5 : Option Value) (s6 : Option Value) (s7 : Option Value) (f : Nat → Nat → Int32) (g : Nat → Nat → Int64), i + k = n → x = nI i → XI f → fx 223 224 f0 f → (∃ q, q ≤ i ∧ b = nI q) → WPe pg_X11_edition none (Run mtab d) R (m_drop pg_X11_edition 12) [some (.ref 181), some (.int b), some (.int x), s3, s4, s5, s6, s7] [] (shF L, f, g)
  | 0, i, x, b, s3, s4, s5, s6, s7, f, g, he, hx, hX, hF, hb => by
    have e : i = n := by omega
    subst hx
    have hc : f 181 0 = nI n := (hF 181 0 (by omega)).trans h0
    have hvb : f 181 48 = nI vn := (hF 181 48 (by omega)).trans hv0
    obtain ⟨q, hqi, rfl⟩ := hb
    subst e
    refine at_X11_edition ?_
    conv => whnf
    try simp only [hc, hvb]
    refine ⟨fun c => ?_, fun c => absurd (nI_le (Nat.le_refl _) (by omega)) c⟩
    conv => whnf
    repeat' first
      | exact sm_ed2_lp (f0 := fz) (by omega) (by omega) H q 0 _ _ _ _ _ _ _ _ (by omega) rfl hX (kp_trans k0 (kp_fx hF rfl)) (show inr 0 40 0 by unfold inr; decide)
      | (simp only [hc, hvb])
      | ((with_reducible refine ⟨vp_in_nI (by omega) (by decide), ?_⟩) <;> conv => whnf)
      | (refine ⟨Or.inl rfl, ?_⟩ <;> conv => whnf)
      | (refine ⟨Or.inr rfl, ?_⟩ <;> conv => whnf)
      | (refine ⟨Or.inl True.intro, ?_⟩ <;> conv => whnf)
      | (refine ⟨Or.inr True.intro, ?_⟩ <;> conv => whnf)
      | (refine ⟨fun c => ?_, fun c => ?_⟩ <;> first | ((have c9 : (1 : Int32) = 0 := by with_reducible exact c); exact absurd c9 (by decide)) | exact absurd (rfl : (0 : Int32) = 0) (by with_reducible exact c) | exact absurd True.intro (by with_reducible exact c) | exact False.elim (by with_reducible exact c) | (conv => whnf))
      | (refine ⟨by unfold vp_in; decide, ?_⟩ <;> conv => whnf)
      | fail
    all_goals fail
  | k + 1, i, x, b, s3, s4, s5, s6, s7, f, g, he, hx, hX, hF, hb => by
    subst hx
    have hc : f 181 0 = nI n := (hF 181 0 (by omega)).trans h0
    have hvb : f 181 48 = nI vn := (hF 181 48 (by omega)).trans hv0
    obtain ⟨q, hqi, rfl⟩ := hb
    refine at_X11_edition ?_
    conv => whnf
    try simp only [hc, hvb]
    refine ⟨fun c => absurd c (nI_ge (b := n) (by omega) (by omega)), fun c => ?_⟩
    conv => whnf
    repeat' first
      | exact sm_ed1_lp hd hm h0 hv0 hk k0 H k (i + 1) _ _ _ _ _ _ _ _ _ (by omega) (nI_1 i) (by repeat' first | (with_reducible assumption) | (with_reducible refine XI_ui ?_ ?_) | (with_reducible refine XI_fil ?_ (fun _ => ?_)) | (with_reducible refine XI_cpy ?_ (fun _ _ => ?_)) | exact True.intro | ((show inr _ _ _); first | (with_reducible assumption) | (unfold inr; decide)) | fail) (by repeat' first | (with_reducible exact fx_refl _ _ _) | (with_reducible assumption) | (with_reducible refine fx_ui ?_ ?_ ?_) | (with_reducible refine fx_fil ?_ ?_ ?_) | (with_reducible refine fx_cpy ?_ ?_ ?_) | omega | decide | fail) ⟨q, by omega, rfl⟩
      | exact msr_in (p := i) (q := q) (by omega) (by omega) (by omega) (fun b' x' s3 f' g' hb' hx' hX' hF' => sm_ed1_lp hd hm h0 hv0 hk k0 H k (i + 1) x' b' s3 _ _ _ _ f' g' (by omega) hx' hX' hF' ⟨q + 1, by omega, hb'⟩) q _ _ _ (Nat.le_refl q) rfl hX hF
      | (simp only [hc, hvb])
      | ((with_reducible refine ⟨vp_in_nI (by omega) (by decide), ?_⟩) <;> conv => whnf)
      | (refine ⟨Or.inl rfl, ?_⟩ <;> conv => whnf)
      | (refine ⟨Or.inr rfl, ?_⟩ <;> conv => whnf)
      | (refine ⟨Or.inl True.intro, ?_⟩ <;> conv => whnf)
      | (refine ⟨Or.inr True.intro, ?_⟩ <;> conv => whnf)
      | (refine ⟨fun c => ?_, fun c => ?_⟩ <;> first | ((have c9 : (1 : Int32) = 0 := by with_reducible exact c); exact absurd c9 (by decide)) | exact absurd (rfl : (0 : Int32) = 0) (by with_reducible exact c) | exact absurd True.intro (by with_reducible exact c) | exact False.elim (by with_reducible exact c) | (conv => whnf))
      | (refine sm_stateOf (by omega) hX hk (fun v => ?_) <;> conv => whnf)
      | (refine ⟨by unfold vp_in; decide, ?_⟩ <;> conv => whnf)
      | fail
    all_goals fail
set_option maxRecDepth 100000 in
set_option maxHeartbeats 4000000 in
theorem sm_edition {d L : Nat} {f : Nat → Nat → Int32} {g : Nat → Nat → Int64}  {R : Option Value → mH → Prop} (hd : 9 ≤ d) (hX : XI f) (H : ∀ v f' g', XI f' → kp [10, 17, 22, 23] f f' → R (some (.int v)) (shF L, f', g')) : Run mtab d 233 [.ref 181] (shF L, f, g) R := by
  obtain ⟨d, rfl⟩ : ∃ e, d = e + 1 := ⟨d - 1, by omega⟩
  refine go_X11_edition rfl ?_
  conv => whnf
  refine ⟨fun c => ?_, fun c => ?_⟩
  · conv => whnf
    refine sm_refresh (by omega) hX (fun f1 g1 h1 k1 => ?_)
    obtain ⟨n, hm, hb⟩ := inr_nat (n := 40) rfl (xi_181_0 h1)
    obtain ⟨vn, hvm, hvb⟩ := inr_nat (n := 60) rfl (xi_181_48 h1)
    conv => whnf
    exact sm_ed1_lp (f0 := f1) (by omega) hm hb hvb hvm (kp_wd k1 rfl) H n 0 _ _ _ _ _ _ _ _ _ (by omega) rfl h1 (fx_refl _ _ _) ⟨0, by omega, rfl⟩
  · conv => whnf
    exact H _ _ _ hX (kp_refl _ _)
def OF (a b : Int32) (j : Nat) : Prop := (a = -4 ∧ b = -1) ∨ (a = b ∧ ¬ b < 0 ∧ b < nI j)
def TI (f : Nat → Nat → Int32) (j q : Nat) : Prop := 1 ≤ q ∧ q ≤ 4 ∧ f 96 j = nI q ∧ f 191 j = nI q ∧ (∀ t, t < q → f (15 + j) t = f 189 (4 * j + t)) ∧ (∀ t, 1 ≤ t → t < q → f (56 + j) t = f 190 (4 * j + t))
def CU (f : Nat → Nat → Int32) (j : Nat) : Prop := (f 97 j = 2000 ∧ f 192 j = 0) ∨ (f 97 j = f 192 j ∧ inr 1800 1999 (f 192 j) ∧ f 98 j = f 193 j ∧ f 99 j = f 194 j)
def RJ (f : Nat → Nat → Int32) (j : Nat) : Prop := f 7 j = f 182 j ∧ OF (f 8 j) (f 183 j) j ∧ f 9 j = f 185 j ∧ f 10 j = f 186 j ∧ f 11 j = f 187 j ∧ f 12 j = f 188 j ∧ (f 7 j = 3 → f 13 j = f 184 j) ∧ (∃ q, TI f j q) ∧ CU f j
/-- both objects have the same works -/
def RW (n : Nat) (f : Nat → Nat → Int32) : Prop := n ≤ 40 ∧ f 6 13 = nI n ∧ f 181 0 = nI n ∧ (∀ j, j < n → RJ f j) ∧ (∀ j, j < 40 → f (56 + j) 0 = 0) ∧ (∀ j, n ≤ j → f 192 j = 0)
theorem RJ_congr {f f' : Nat → Nat → Int32} {j : Nat} (hj : j < 40) (h1 : ∀ a i, 7 ≤ a → a ≤ 99 → ((i = j ∧ (a < 15 ∨ 96 ≤ a)) ∨ a = 15 + j ∨ a = 56 + j) → f' a i = f a i) (h2 : ∀ a, 182 ≤ a → a ≤ 194 → ¬ a = 189 → ¬ a = 190 → f' a j = f a j) (h3 : ∀ t, t < 4 → f' 189 (4 * j + t) = f 189 (4 * j + t) ∧ f' 190 (4 * j + t) = f 190 (4 * j + t)) (h : RJ f j) : RJ f' j := by
  obtain ⟨a1, a2, a3, a4, a5, a6, a7, ⟨q, b1, b2, b3, b4, b5, b6⟩, a9⟩ := h
  unfold RJ CU
  rw [h1 7 j (by omega) (by omega) (Or.inl ⟨rfl, by omega⟩), h1 8 j (by omega) (by omega) (Or.inl ⟨rfl, by omega⟩), h1 9 j (by omega) (by omega) (Or.inl ⟨rfl, by omega⟩), h1 10 j (by omega) (by omega) (Or.inl ⟨rfl, by omega⟩), h1 11 j (by omega) (by omega) (Or.inl ⟨rfl, by omega⟩), h1 12 j (by omega) (by omega) (Or.inl ⟨rfl, by omega⟩), h1 13 j (by omega) (by omega) (Or.inl ⟨rfl, by omega⟩), h1 97 j (by omega) (by omega) (Or.inl ⟨rfl, by omega⟩), h1 98 j (by omega) (by omega) (Or.inl ⟨rfl, by omega⟩), h1 99 j (by omega) (by omega) (Or.inl ⟨rfl, by omega⟩), h2 182 (by omega) (by omega) (by omega) (by omega), h2 183 (by omega) (by omega) (by omega) (by omega), h2 184 (by omega) (by omega) (by omega) (by omega), h2 185 (by omega) (by omega) (by omega) (by omega), h2 186 (by omega) (by omega) (by omega) (by omega), h2 187 (by omega) (by omega) (by omega) (by omega), h2 188 (by omega) (by omega) (by omega) (by omega), h2 192 (by omega) (by omega) (by omega) (by omega), h2 193 (by omega) (by omega) (by omega) (by omega), h2 194 (by omega) (by omega) (by omega) (by omega)]
  refine ⟨a1, a2, a3, a4, a5, a6, a7, ⟨q, b1, b2, ?_, ?_, ?_, ?_⟩, a9⟩
  · rw [h1 96 j (by omega) (by omega) (Or.inl ⟨rfl, by omega⟩), b3]
  · rw [h2 191 (by omega) (by omega) (by omega) (by omega), b4]
  · intro t ht
    rw [h1 (15 + j) t (by omega) (by omega) (Or.inr (Or.inl rfl)), (h3 t (by omega)).1, b5 t ht]
  · intro t ht ht2
    rw [h1 (56 + j) t (by omega) (by omega) (Or.inr (Or.inr rfl)), (h3 t (by omega)).2, b6 t ht ht2]
theorem RW_congr {f f' : Nat → Nat → Int32} {n : Nat} (h1 : ∀ a i, 6 ≤ a → a ≤ 99 → f' a i = f a i) (h2 : ∀ a i, 182 ≤ a → a ≤ 194 → f' a i = f a i) (h3 : f' 181 0 = f 181 0) (h : RW n f) : RW n f' := by
  obtain ⟨a1, a2, a3, a4, a5, a6⟩ := h
  refine ⟨a1, (h1 6 13 (by omega) (by omega)).trans a2, h3.trans a3, fun j hj => RJ_congr (by omega) (fun a i p q _ => h1 a i (by omega) q) (fun a p q _ _ => h2 a j p q) (fun t _ => ⟨h2 189 _ (by omega) (by omega), h2 190 _ (by omega) (by omega)⟩) (a4 j hj), fun j hj => ?_, fun j hj => ?_⟩
  · rw [h1 (56 + j) 0 (by omega) (by omega), a5 j hj]
  · rw [h2 192 j (by omega) (by omega), a6 j hj]
theorem cmp_w {a i : Nat} (h : 6 ≤ a) (h' : a ≤ 99) : cmp a i = 1 := by
  have eb : ∀ b, ¬ a = b → Nat.beq a b = false := fun b hb => by
    cases q : Nat.beq a b with
    | false => rfl
    | true => exact absurd (Nat.eq_of_beq_eq_true q) hb
  have e1 := eb 129 (by omega)
  have e2 := eb 181 (by omega)
  have e3 : Nat.ble a 5 = false := by
    cases q : Nat.ble a 5 with
    | false => rfl
    | true => exact absurd (Nat.le_of_ble_eq_true q) (by omega)
  have e4 : Nat.ble a 99 = true := Nat.ble_eq_true_of_le h'
  unfold cmp cmp0
  rw [e1, e2, e3, e4]
  rfl
theorem cmp_m {i : Nat} : ∀ a, 182 ≤ a → a ≤ 194 → cmp a i = 11 := by
  intro a h h'
  have : a = 182 ∨ a = 183 ∨ a = 184 ∨ a = 185 ∨ a = 186 ∨ a = 187 ∨ a = 188 ∨ a = 189 ∨ a = 190 ∨ a = 191 ∨ a = 192 ∨ a = 193 ∨ a = 194 := by omega
  rcases this with rfl | rfl | rfl | rfl | rfl | rfl | rfl | rfl | rfl | rfl | rfl | rfl | rfl <;> rfl
theorem RW_kp {l : List Nat} {f f' : Nat → Nat → Int32} {n : Nat} (k : kp l f f') (h1 : hasN l 1 = false) (h11 : hasN l 11 = false) (h : RW n f) : RW n f' :=
  RW_congr (fun a i p q => k a i (by rw [cmp_w p q]; exact h1)) (fun a i p q => k a i (by rw [cmp_m a p q]; exact h11)) (k 181 0 (by exact h11)) h
theorem RW_MI {f : Nat → Nat → Int32} {n : Nat} (h : RW n f) : MI f := by
  intro n' hn' e j hj
  obtain ⟨a1, a2, a3, a4, a5, a6⟩ := h
  have : n' = n := (nI_eq (by omega) (by omega)).mp (e.symm.trans a3)
  subst this
  obtain ⟨_, b2, _, _, _, _, _, ⟨q, c1, c2, c3, c4, _⟩, _⟩ := a4 j hj
  refine ⟨⟨q, c1, c2, c4⟩, ?_⟩
  rcases b2 with ⟨_, e2⟩ | ⟨_, _, e3⟩
  · rw [e2, Int32.lt_iff_toInt_lt, nI_toInt (by omega)]
    have : (-1 : Int32).toInt = -1 := rfl
    omega
  · exact e3
theorem RW_T {f : Nat → Nat → Int32} {n : Nat} (h : RW n f) : ∀ j, j < n → ∃ q, 1 ≤ q ∧ q ≤ 4 ∧ f 96 j = nI q := fun j hj => by
  obtain ⟨_, _, _, _, _, _, _, ⟨q, c1, c2, c3, _⟩, _⟩ := h.2.2.2.1 j hj
  exact ⟨q, c1, c2, c3⟩
theorem RW_M {f : Nat → Nat → Int32} {n : Nat} (h : RW n f) : ∀ j, j < n → ∃ q, 1 ≤ q ∧ q ≤ 4 ∧ f 191 j = nI q := fun j hj => by
  obtain ⟨_, _, _, _, _, _, _, ⟨q, c1, c2, c3, c4, _⟩, _⟩ := h.2.2.2.1 j hj
  exact ⟨q, c1, c2, c4⟩
theorem m_ui_o {f : Nat → Nat → Int32} {k j a i : Nat} {v : Int32} (h : ¬ (a = k ∧ i = j)) : m_ui f k j v a i = f a i := by
  rw [m_ui_ap]
  by_cases e : a = k
  · rw [if_pos e, if_neg (fun q => h ⟨e, q⟩)]
  · rw [if_neg e]
theorem m_ui_s {f : Nat → Nat → Int32} {k j : Nat} {v : Int32} : m_ui f k j v k j = v := by rw [m_ui_ap, if_pos rfl, if_pos rfl]
theorem wadd_o {f : Nat → Nat → Int32} {n a i : Nat} {kind of h w t lo hi : Int32} (h1 : ¬ (a = 6 ∧ i = 13)) (h2 : ¬ (i = n ∧ (7 ≤ a ∧ a ≤ 12 ∨ a = 96 ∨ a = 97))) (h3 : ¬ (a = 15 + n ∧ i = 0)) : wadd f n kind of h w t lo hi a i = f a i := by
  unfold wadd
  rw [m_ui_o (by omega), m_ui_o (by omega), m_ui_o (by omega), m_ui_o (by omega), m_ui_o (by omega), m_ui_o (by omega), m_ui_o (by omega), m_ui_o (by omega), m_ui_o (by omega), m_ui_o (by omega)]
theorem wadd_7 {f : Nat → Nat → Int32} {n : Nat} {kind of h w t lo hi : Int32} (hn : n < 40) : wadd f n kind of h w t lo hi 7 n = kind := by
  unfold wadd
  rw [m_ui_o (by omega), m_ui_o (by omega), m_ui_o (by omega), m_ui_o (by omega), m_ui_o (by omega), m_ui_o (by omega), m_ui_o (by omega), m_ui_o (by omega), m_ui_o (by omega), m_ui_s]
theorem wadd_8 {f : Nat → Nat → Int32} {n : Nat} {kind of h w t lo hi : Int32} (hn : n < 40) : wadd f n kind of h w t lo hi 8 n = of := by
  unfold wadd
  rw [m_ui_o (by omega), m_ui_o (by omega), m_ui_o (by omega), m_ui_o (by omega), m_ui_o (by omega), m_ui_o (by omega), m_ui_o (by omega), m_ui_o (by omega), m_ui_s]
theorem wadd_9 {f : Nat → Nat → Int32} {n : Nat} {kind of h w t lo hi : Int32} (hn : n < 40) : wadd f n kind of h w t lo hi 9 n = h := by
  unfold wadd
  rw [m_ui_o (by omega), m_ui_o (by omega), m_ui_o (by omega), m_ui_o (by omega), m_ui_o (by omega), m_ui_o (by omega), m_ui_o (by omega), m_ui_s]
theorem wadd_10 {f : Nat → Nat → Int32} {n : Nat} {kind of h w t lo hi : Int32} (hn : n < 40) : wadd f n kind of h w t lo hi 10 n = w := by
  unfold wadd
  rw [m_ui_o (by omega), m_ui_o (by omega), m_ui_o (by omega), m_ui_o (by omega), m_ui_o (by omega), m_ui_o (by omega), m_ui_s]
theorem wadd_11 {f : Nat → Nat → Int32} {n : Nat} {kind of h w t lo hi : Int32} (hn : n < 40) : wadd f n kind of h w t lo hi 11 n = lo := by
  unfold wadd
  rw [m_ui_o (by omega), m_ui_o (by omega), m_ui_o (by omega), m_ui_o (by omega), m_ui_o (by omega), m_ui_s]
theorem wadd_12 {f : Nat → Nat → Int32} {n : Nat} {kind of h w t lo hi : Int32} (hn : n < 40) : wadd f n kind of h w t lo hi 12 n = hi := by
  unfold wadd
  rw [m_ui_o (by omega), m_ui_o (by omega), m_ui_o (by omega), m_ui_o (by omega), m_ui_s]
theorem wadd_15 {f : Nat → Nat → Int32} {n : Nat} {kind of h w t lo hi : Int32} (hn : n < 40) : wadd f n kind of h w t lo hi (15 + n) 0 = t := by
  unfold wadd
  rw [m_ui_o (by omega), m_ui_o (by omega), m_ui_o (by omega), m_ui_s]
theorem wadd_96 {f : Nat → Nat → Int32} {n : Nat} {kind of h w t lo hi : Int32} (hn : n < 40) : wadd f n kind of h w t lo hi 96 n = 1 := by
  unfold wadd
  rw [m_ui_o (by omega), m_ui_o (by omega), m_ui_s]
theorem wadd_97 {f : Nat → Nat → Int32} {n : Nat} {kind of h w t lo hi : Int32} (hn : n < 40) : wadd f n kind of h w t lo hi 97 n = 2000 := by
  unfold wadd
  rw [m_ui_o (by omega), m_ui_s]
theorem wadd_6 {f : Nat → Nat → Int32} {n : Nat} {kind of h w t lo hi : Int32} (hn : n < 40) : wadd f n kind of h w t lo hi 6 13 = (nI n + 1) := by
  unfold wadd
  rw [m_ui_s]
theorem madd_o {f : Nat → Nat → Int32} {n a i : Nat} {kind of tu h w t lo hi : Int32} (h1 : ¬ (a = 181 ∧ (i = 0 ∨ i = 29))) (h2 : ¬ (i = n ∧ (182 ≤ a ∧ a ≤ 188 ∨ a = 191))) (h3 : ¬ (a = 189 ∧ i = 4 * n)) : madd f n kind of tu h w t lo hi a i = f a i := by
  unfold madd
  rw [m_ui_o (by omega), m_ui_o (by omega), m_ui_o (by omega), m_ui_o (by omega), m_ui_o (by omega), m_ui_o (by omega), m_ui_o (by omega), m_ui_o (by omega), m_ui_o (by omega), m_ui_o (by omega), m_ui_o (by omega)]
theorem madd_182 {f : Nat → Nat → Int32} {n : Nat} {kind of tu h w t lo hi : Int32} : madd f n kind of tu h w t lo hi 182 n = kind := by
  unfold madd
  rw [m_ui_o (by omega), m_ui_o (by omega), m_ui_o (by omega), m_ui_o (by omega), m_ui_o (by omega), m_ui_o (by omega), m_ui_o (by omega), m_ui_o (by omega), m_ui_o (by omega), m_ui_o (by omega), m_ui_s]
theorem madd_183 {f : Nat → Nat → Int32} {n : Nat} {kind of tu h w t lo hi : Int32} : madd f n kind of tu h w t lo hi 183 n = of := by
  unfold madd
  rw [m_ui_o (by omega), m_ui_o (by omega), m_ui_o (by omega), m_ui_o (by omega), m_ui_o (by omega), m_ui_o (by omega), m_ui_o (by omega), m_ui_o (by omega), m_ui_o (by omega), m_ui_s]
theorem madd_184 {f : Nat → Nat → Int32} {n : Nat} {kind of tu h w t lo hi : Int32} : madd f n kind of tu h w t lo hi 184 n = (vp_nar .boolean tu) := by
  unfold madd
  rw [m_ui_o (by omega), m_ui_o (by omega), m_ui_o (by omega), m_ui_o (by omega), m_ui_o (by omega), m_ui_o (by omega), m_ui_o (by omega), m_ui_o (by omega), m_ui_s]
theorem madd_185 {f : Nat → Nat → Int32} {n : Nat} {kind of tu h w t lo hi : Int32} : madd f n kind of tu h w t lo hi 185 n = h := by
  unfold madd
  rw [m_ui_o (by omega), m_ui_o (by omega), m_ui_o (by omega), m_ui_o (by omega), m_ui_o (by omega), m_ui_o (by omega), m_ui_o (by omega), m_ui_s]
theorem madd_186 {f : Nat → Nat → Int32} {n : Nat} {kind of tu h w t lo hi : Int32} : madd f n kind of tu h w t lo hi 186 n = w := by
  unfold madd
  rw [m_ui_o (by omega), m_ui_o (by omega), m_ui_o (by omega), m_ui_o (by omega), m_ui_o (by omega), m_ui_o (by omega), m_ui_s]
theorem madd_187 {f : Nat → Nat → Int32} {n : Nat} {kind of tu h w t lo hi : Int32} : madd f n kind of tu h w t lo hi 187 n = lo := by
  unfold madd
  rw [m_ui_o (by omega), m_ui_o (by omega), m_ui_o (by omega), m_ui_o (by omega), m_ui_o (by omega), m_ui_s]
theorem madd_188 {f : Nat → Nat → Int32} {n : Nat} {kind of tu h w t lo hi : Int32} : madd f n kind of tu h w t lo hi 188 n = hi := by
  unfold madd
  rw [m_ui_o (by omega), m_ui_o (by omega), m_ui_o (by omega), m_ui_o (by omega), m_ui_s]
theorem madd_189 {f : Nat → Nat → Int32} {n : Nat} {kind of tu h w t lo hi : Int32} : madd f n kind of tu h w t lo hi 189 (4 * n) = t := by
  unfold madd
  rw [m_ui_o (by omega), m_ui_o (by omega), m_ui_o (by omega), m_ui_s]
theorem madd_191 {f : Nat → Nat → Int32} {n : Nat} {kind of tu h w t lo hi : Int32} : madd f n kind of tu h w t lo hi 191 n = 1 := by
  unfold madd
  rw [m_ui_o (by omega), m_ui_o (by omega), m_ui_s]
theorem madd_181 {f : Nat → Nat → Int32} {n : Nat} {kind of tu h w t lo hi : Int32} : madd f n kind of tu h w t lo hi 181 0 = (nI n + 1) := by
  unfold madd
  rw [m_ui_o (by omega), m_ui_s]
/-- a work more on both sides -/
theorem RW_add {f f1 : Nat → Nat → Int32} {n : Nat} {kind of pm tu hh ww tt lo hi : Int32} (h : RW n f) (hn : n < 40) (hof : OF of pm n)
    (hA : ∀ a i, ¬ (a = 6 ∧ i = 13) → ¬ (i = n ∧ (7 ≤ a ∧ a ≤ 13 ∨ a = 96 ∨ a = 97)) → ¬ (a = 15 + n ∧ i = 0) → f1 a i = f a i)
    (e6 : f1 6 13 = nI n + 1) (e7 : f1 7 n = kind) (e8 : f1 8 n = of) (e9 : f1 9 n = hh) (e10 : f1 10 n = ww) (e11 : f1 11 n = lo) (e12 : f1 12 n = hi) (e15 : f1 (15 + n) 0 = tt) (e96 : f1 96 n = 1) (e97 : f1 97 n = 2000) (e13 : kind = 3 → f1 13 n = vp_nar .boolean tu) :
    RW (n + 1) (madd f1 n kind pm tu hh ww tt lo hi) := by
  obtain ⟨a1, a2, a3, a4, a5, a6⟩ := h
  have hX : ∀ a i, a < 181 → madd f1 n kind pm tu hh ww tt lo hi a i = f1 a i := fun a i ha => madd_o (by omega) (by omega) (by omega)
  refine ⟨by omega, ?_, ?_, fun j hj => ?_, fun j hj => ?_, fun j hj => ?_⟩
  · rw [hX 6 13 (by omega), e6, nI_1]
  · rw [madd_181, nI_1]
  · by_cases e : j = n
    · subst e
      unfold RJ CU
      rw [hX 7 j (by omega), hX 8 j (by omega), hX 9 j (by omega), hX 10 j (by omega), hX 11 j (by omega), hX 12 j (by omega), hX 13 j (by omega), hX 97 j (by omega), madd_182, madd_183, madd_184, madd_185, madd_186, madd_187, madd_188, e7, e8, e9, e10, e11, e12, e97]
      refine ⟨rfl, hof, rfl, rfl, rfl, rfl, e13, ⟨1, by omega, by omega, ?_, ?_, fun t ht => ?_, fun t h1 h2 => absurd h2 (by omega)⟩, Or.inl ⟨rfl, ?_⟩⟩
      · rw [hX 96 j (by omega), e96]
        rfl
      · rw [madd_191]
        rfl
      · have e0 : t = 0 := by omega
        subst e0
        rw [hX (15 + j) 0 (by omega), e15, Nat.add_zero, madd_189]
      · rw [madd_o (by omega) (by omega) (by omega), hA 192 j (by omega) (by omega) (by omega), a6 j (by omega)]
    · refine RJ_congr (f := f) (by omega) (fun a i p q r => ?_) (fun a p q r1 r2 => ?_) (fun t ht => ⟨?_, ?_⟩) (a4 j (by omega))
      · rw [hX a i (by omega)]
        exact hA a i (by omega) (by omega) (by omega)
      · rw [madd_o (by omega) (by omega) (by omega), hA a j (by omega) (by omega) (by omega)]
      · rw [madd_o (by omega) (by omega) (by omega), hA 189 _ (by omega) (by omega) (by omega)]
      · rw [madd_o (by omega) (by omega) (by omega), hA 190 _ (by omega) (by omega) (by omega)]
  · rw [hX (56 + j) 0 (by omega), hA (56 + j) 0 (by omega) (by omega) (by omega), a5 j hj]
  · rw [madd_o (by omega) (by omega) (by omega), hA 192 j (by omega) (by omega) (by omega), a6 j (by omega)]
/-- what holds between calls -/
def GI (f : Nat → Nat → Int32) : Prop := XI f ∧ EI f ∧ ab3 f ∧ ∃ n, RW n f
def okl (l : List Nat) : Bool := !hasN l 1 && (!hasN l 7 && (!hasN l 11 && !hasN l 20))
theorem ab3_kp {l : List Nat} {f f' : Nat → Nat → Int32} (h : ab3 f) (k : kp l f f') (hl : hasN l 20 = false) : ab3 f' := by
  unfold ab3
  rw [k 3 0 (by exact hl), k 3 1 (by exact hl), k 3 2 (by exact hl), k 3 3 (by exact hl)]
  exact h
theorem okl_of {l : List Nat} (h : okl l = true) : hasN l 1 = false ∧ hasN l 7 = false ∧ hasN l 11 = false ∧ hasN l 20 = false := by
  unfold okl at h
  simp only [Bool.and_eq_true, Bool.not_eq_true'] at h
  exact h
theorem GI_x {l : List Nat} {f f' : Nat → Nat → Int32} (h : GI f) (x : XI f') (k : kp l f f') (hl : okl l = true) : GI f' := by
  obtain ⟨a, b, c, n, d⟩ := h
  obtain ⟨l1, l7, l11, l20⟩ := okl_of hl
  exact ⟨x, EI_kp b k l7, ab3_kp c k l20, n, RW_kp k l1 l11 d⟩
theorem GI_xE {f f' : Nat → Nat → Int32} (h : GI f) (x : XI f') (k : kp [0, 7] f f') (e : EI f') : GI f' := by
  obtain ⟨a, b, c, n, d⟩ := h
  exact ⟨x, e, ab3_kp c k rfl, n, RW_kp k rfl rfl d⟩
theorem GI_MI {f : Nat → Nat → Int32} (h : GI f) : MI f := by
  obtain ⟨a, b, c, n, d⟩ := h
  exact RW_MI d
theorem GI_w {f f1 f2 : Nat → Nat → Int32} {n : Nat} (h : GI f) (k1 : kp [1] f f1) (k2 : kp [10, 11, 22] f1 f2) (x2 : XI f2) (r : RW n f2) : GI f2 := by
  obtain ⟨a, b, c, _, d⟩ := h
  exact ⟨x2, EI_kp (EI_kp b k1 rfl) k2 rfl, ab3_kp (ab3_kp c k1 rfl) k2 rfl, n, r⟩
theorem has_w {a i : Nat} (h : 6 ≤ a) (h' : a ≤ 99) : hasN [1] (cmp a i) = true := by
  rw [cmp_w h h']
  rfl
theorem kp_wadd {f : Nat → Nat → Int32} {n : Nat} {kind of h w t lo hi : Int32} (hn : n < 40) : kp [1] f (wadd f n kind of h w t lo hi) := by
  unfold wadd
  exact kp_ui rfl (kp_ui rfl (kp_ui rfl (kp_ui (has_w (by omega) (by omega)) (kp_ui rfl (kp_ui rfl (kp_ui rfl (kp_ui rfl (kp_ui rfl (kp_ui rfl (kp_refl _ _))))))))))
theorem kp_wtit {f : Nat → Nat → Int32} {j q : Nat} {y t : Int32} (hn : j < 40) : kp [1] f (wtit f j q y t) := by
  unfold wtit
  exact kp_ui rfl (kp_ui (has_w (by omega) (by omega)) (kp_ui (has_w (by omega) (by omega)) (kp_refl _ _)))
theorem kp_wcut {f : Nat → Nat → Int32} {j : Nat} {y h w : Int32} : kp [1] f (wcut f j y h w) := by
  unfold wcut
  exact kp_ui rfl (kp_ui rfl (kp_ui rfl (kp_refl _ _)))
theorem kp_madd {f : Nat → Nat → Int32} {n : Nat} {kind of tu h w t lo hi : Int32} : kp [10, 11, 22] f (madd f n kind of tu h w t lo hi) := by
  unfold madd
  exact kp_ui rfl (kp_ui rfl (kp_ui rfl (kp_ui rfl (kp_ui rfl (kp_ui rfl (kp_ui rfl (kp_ui rfl (kp_ui rfl (kp_ui rfl (kp_ui rfl (kp_refl _ _)))))))))))
theorem kp_mtit {f : Nat → Nat → Int32} {j q : Nat} {y t : Int32} : kp [10, 11, 22] f (mtit f j q y t) := by
  unfold mtit
  exact kp_ui rfl (kp_ui rfl (kp_ui rfl (kp_ui rfl (kp_refl _ _))))
theorem kp_mcut {f : Nat → Nat → Int32} {j : Nat} {y h w : Int32} : kp [10, 11, 22] f (mcut f j y h w) := by
  unfold mcut
  exact kp_ui rfl (kp_ui rfl (kp_ui rfl (kp_ui rfl (kp_refl _ _))))
theorem XI_wadd {f : Nat → Nat → Int32} {n : Nat} {kind of h w t lo hi : Int32} (hX : XI f) (hn : n < 40) (hk : inr 0 3 kind) (ho : inr (-4) 39 of) : XI (wadd f n kind of h w t lo hi) := by
  unfold wadd
  exact XI_ui (XI_ui (XI_ui (XI_ui (XI_ui (XI_ui (XI_ui (XI_ui (XI_ui (XI_ui hX hk) ho) True.intro) True.intro) True.intro) True.intro) (okv_r (by omega) (by omega))) (show inr 0 4 1 by unfold inr; decide)) True.intro) (show inr 0 40 _ from inr_n1 (m := 40) (by omega) rfl (by decide))
theorem XI_wtit {f : Nat → Nat → Int32} {j q : Nat} {y t : Int32} (hX : XI f) (hj : j < 40) (hq : q < 4) : XI (wtit f j q y t) := by
  unfold wtit
  exact XI_ui (XI_ui (XI_ui hX (okv_r (by omega) (by omega))) (okv_r (by omega) (by omega))) (show inr 0 4 _ from inr_n1 (m := 4) (by omega) rfl (by decide))
theorem XI_wcut {f : Nat → Nat → Int32} {j : Nat} {y h w : Int32} (hX : XI f) : XI (wcut f j y h w) := by
  unfold wcut
  exact XI_ui (XI_ui (XI_ui hX True.intro) True.intro) True.intro
theorem XI_madd {f : Nat → Nat → Int32} {n : Nat} {kind of tu h w t lo hi : Int32} (hX : XI f) (hn : n < 40) (hk : inr 0 3 kind) (ho : inr (-1) 39 of) : XI (madd f n kind of tu h w t lo hi) := by
  unfold madd
  exact XI_ui (XI_ui (XI_ui (XI_ui (XI_ui (XI_ui (XI_ui (XI_ui (XI_ui (XI_ui (XI_ui hX hk) ho) True.intro) True.intro) True.intro) True.intro) True.intro) True.intro) (show inr 0 4 1 by unfold inr; decide)) (show inr 0 40 _ from inr_n1 (m := 40) (by omega) rfl (by decide))) True.intro
theorem XI_mtit {f : Nat → Nat → Int32} {j q : Nat} {y t : Int32} (hX : XI f) (hq : q < 4) : XI (mtit f j q y t) := by
  unfold mtit
  exact XI_ui (XI_ui (XI_ui (XI_ui hX True.intro) True.intro) (show inr 0 4 _ from inr_n1 (m := 4) (by omega) rfl (by decide))) True.intro
theorem XI_mcut {f : Nat → Nat → Int32} {j : Nat} {y h w : Int32} (hX : XI f) : XI (mcut f j y h w) := by
  unfold mcut
  exact XI_ui (XI_ui (XI_ui (XI_ui hX True.intro) True.intro) True.intro) True.intro
theorem inr_low {lo : Int32} {j : Nat} (h : j < 40) (hl : lo.toInt ≤ 0) : inr lo 39 (nI j) := by
  refine ⟨?_, (inr_n (n := j) (m := 39) (hi := 39) (by omega) rfl (by decide)).2⟩
  rw [Int32.le_iff_toInt_le, nI_toInt (by omega)]
  omega
theorem kx_work {n : Nat} {f f1 : Nat → Nat → Int32} {x1 x2 x3 x4 x5 x6 v : Int32} (s : SX_work n f f1 x1 x2 x3 x4 x5 x6 v) : kp [1] f f1 := by
  rcases s with ⟨_, _, rfl⟩ | ⟨_, ⟨_, _, rfl⟩ | ⟨hn, _, rfl⟩⟩
  · exact kp_refl _ _
  · exact kp_refl _ _
  · exact kp_wadd hn
theorem fin_work {n : Nat} {f f1 f2 : Nat → Nat → Int32} {x1 x2 x3 x4 x5 x6 v1 v2 : Int32} (hG : GI f) (hR : RW n f) (s1 : SX_work n f f1 x1 x2 x3 x4 x5 x6 v1) (s2 : SM_work n f1 f2 x1 x2 x3 x4 x5 x6 v2) : GI f2 ∧ v1 = v2 := by
  rcases s1 with ⟨q1, rfl, rfl⟩ | ⟨p1, s1⟩
  · rcases s2 with ⟨q2, rfl, rfl⟩ | ⟨p2, s2⟩
    · exact ⟨hG, rfl⟩
    · exact absurd p2 q1
  · rcases s2 with ⟨q2, rfl, rfl⟩ | ⟨p2, s2⟩
    · exact absurd p1 q2
    · rcases s1 with ⟨e1, rfl, rfl⟩ | ⟨e1, rfl, rfl⟩
      · rcases s2 with ⟨e2, rfl, rfl⟩ | ⟨e2, rfl, rfl⟩
        · exact ⟨hG, rfl⟩
        · omega
      · rcases s2 with ⟨e2, rfl, rfl⟩ | ⟨e2, rfl, rfl⟩
        · omega
        · have hk : inr 0 3 x1 := by
            rcases p1.1 with e | e <;> (rw [e]; unfold inr; decide)
          have hx1 := XI_wadd (h := x2) (w := x3) (t := x4) (lo := x5) (hi := x6) hG.1 e1 hk (show inr (-4) 39 (-4) by unfold inr; decide)
          refine ⟨GI_w hG (kp_wadd e1) kp_madd (XI_madd hx1 e1 hk (show inr (-1) 39 (-1) by unfold inr; decide)) (RW_add hR e1 (Or.inl ⟨rfl, rfl⟩) (fun a i h1 h2 h3 => wadd_o h1 (by omega) h3) (wadd_6 e1) (wadd_7 e1) (wadd_8 e1) (wadd_9 e1) (wadd_10 e1) (wadd_11 e1) (wadd_12 e1) (wadd_15 e1) (wadd_96 e1) (wadd_97 e1) (fun e => ?_)), rfl⟩
          rcases p1.1 with e3 | e3 <;> (rw [e] at e3; exact absurd e3 (by decide))
theorem kx_version {n : Nat} {f f1 : Nat → Nat → Int32} {x1 x2 x3 x4 x5 x6 v : Int32} (s : SX_version n f f1 x1 x2 x3 x4 x5 x6 v) : kp [1] f f1 := by
  rcases s with ⟨_, _, rfl⟩ | ⟨j, _, _, _, ⟨_, _, rfl⟩ | ⟨_, ⟨_, _, rfl⟩ | ⟨hn, _, rfl⟩⟩⟩
  · exact kp_refl _ _
  · exact kp_refl _ _
  · exact kp_refl _ _
  · exact kp_wadd hn
theorem k_01 {k : Int32} (h : inr 0 3 k) : (k = 0 ∨ k = 1) ↔ k ≤ 1 := by
  rcases inr_c3 h with rfl | rfl | rfl | rfl <;> decide
theorem k_23 {k : Int32} (h : inr 0 3 k) : (k = 2 ∨ k = 3) ↔ 2 ≤ k := by
  rcases inr_c3 h with rfl | rfl | rfl | rfl <;> decide
theorem fin_version {n : Nat} {f f1 f2 : Nat → Nat → Int32} {x1 x2 x3 x4 x5 x6 v1 v2 : Int32} (hG : GI f) (hR : RW n f) (s1 : SX_version n f f1 x1 x2 x3 x4 x5 x6 v1) (s2 : SM_version n f1 f2 x1 x2 x3 x4 x5 x6 v2) : GI f2 ∧ v1 = v2 := by
  have k1 := kx_version s1
  have hn40 := hR.1
  rcases s1 with ⟨q1, rfl, rfl⟩ | ⟨j, hj, ej, p1, s1⟩
  · rcases s2 with ⟨q2, rfl, rfl⟩ | ⟨j2, hj2, ej2, p2, s2⟩
    · exact ⟨hG, rfl⟩
    · exact absurd ⟨⟨j2, hj2, ej2⟩, p2⟩ q1
  · rcases s2 with ⟨q2, rfl, rfl⟩ | ⟨j2, hj2, ej2, p2, s2⟩
    · exact absurd ⟨⟨j, hj, ej⟩, p1⟩ q2
    · have ejj : j = j2 := (nI_eq (by omega) (by omega)).mp (ej.symm.trans ej2)
      subst ejj
      have hk := k_01 (xi_7 hG.1 j)
      have hkk : f1 182 j = f 7 j := (k1 182 j rfl).trans (hR.2.2.2.1 j hj).1.symm
      rw [hkk] at s2
      rcases s1 with ⟨c1, rfl, rfl⟩ | ⟨c1, s1⟩
      · rcases s2 with ⟨c2, rfl, rfl⟩ | ⟨c2, s2⟩
        · exact ⟨hG, rfl⟩
        · exact absurd (hk.mpr c2) c1
      · rcases s2 with ⟨c2, rfl, rfl⟩ | ⟨c2, s2⟩
        · exact absurd (hk.mp c1) (i32_nle.mpr c2)
        · rcases s1 with ⟨e1, rfl, rfl⟩ | ⟨e1, rfl, rfl⟩
          · rcases s2 with ⟨e2, rfl, rfl⟩ | ⟨e2, rfl, rfl⟩
            · exact ⟨hG, rfl⟩
            · omega
          · rcases s2 with ⟨e2, rfl, rfl⟩ | ⟨e2, rfl, rfl⟩
            · omega
            · have h1k : inr 0 3 (1 : Int32) := by unfold inr; decide
              subst ej
              have hx1 := XI_wadd (h := x2) (w := x3) (t := x4) (lo := x5) (hi := x6) hG.1 e1 h1k (inr_low (lo := -4) (j := j) (by omega) (by decide))
              exact ⟨GI_w hG k1 kp_madd (XI_madd hx1 e1 h1k (inr_low (lo := -1) (by omega) (by decide))) (RW_add hR e1 (Or.inr ⟨rfl, nI_pos (by omega), nI_lt hj (by omega)⟩) (fun a i h1 h2 h3 => wadd_o h1 (by omega) h3) (wadd_6 e1) (wadd_7 e1) (wadd_8 e1) (wadd_9 e1) (wadd_10 e1) (wadd_11 e1) (wadd_12 e1) (wadd_15 e1) (wadd_96 e1) (wadd_97 e1) (fun e => absurd e (by decide))), rfl⟩
theorem kx_print {n : Nat} {f f1 : Nat → Nat → Int32} {x1 x2 x3 x4 x5 x6 x7 v : Int32} (s : SX_print n f f1 x1 x2 x3 x4 x5 x6 x7 v) : kp [1] f f1 := by
  rcases s with ⟨_, _, rfl⟩ | ⟨j, _, _, _, ⟨_, _, rfl⟩ | ⟨hn, _, rfl⟩⟩
  · exact kp_refl _ _
  · exact kp_refl _ _
  · exact kp_ui rfl (kp_wadd hn)
theorem fin_print {n : Nat} {f f1 f2 : Nat → Nat → Int32} {x1 x2 x3 x4 x5 x6 x7 v1 v2 : Int32} (hG : GI f) (hR : RW n f) (s1 : SX_print n f f1 x1 x2 x3 x4 x5 x6 x7 v1) (s2 : SM_print n f1 f2 x1 x2 x3 x4 x5 x6 x7 v2) : GI f2 ∧ v1 = v2 := by
  have k1 := kx_print s1
  have hn40 := hR.1
  rcases s1 with ⟨q1, rfl, rfl⟩ | ⟨j, hj, ej, p1, s1⟩
  · rcases s2 with ⟨q2, rfl, rfl⟩ | ⟨j2, hj2, ej2, p2, s2⟩
    · exact ⟨hG, rfl⟩
    · exact absurd ⟨⟨j2, hj2, ej2⟩, p2⟩ q1
  · rcases s2 with ⟨q2, rfl, rfl⟩ | ⟨j2, hj2, ej2, p2, s2⟩
    · exact absurd ⟨⟨j, hj, ej⟩, p1⟩ q2
    · rcases s1 with ⟨e1, rfl, rfl⟩ | ⟨e1, rfl, rfl⟩
      · rcases s2 with ⟨e2, rfl, rfl⟩ | ⟨e2, rfl, rfl⟩
        · exact ⟨hG, rfl⟩
        · omega
      · rcases s2 with ⟨e2, rfl, rfl⟩ | ⟨e2, rfl, rfl⟩
        · omega
        · have h3k : inr 0 3 (3 : Int32) := by unfold inr; decide
          subst ej
          have hx1 := XI_ui (k := 13) (j := n) (v := vp_nar .boolean x2) (XI_wadd (h := x3) (w := x4) (t := x5) (lo := x6) (hi := x7) hG.1 e1 h3k (inr_low (lo := -4) (j := j) (by omega) (by decide))) True.intro
          exact ⟨GI_w hG k1 kp_madd (XI_madd hx1 e1 h3k (inr_low (lo := -1) (by omega) (by decide))) (RW_add hR e1 (Or.inr ⟨rfl, nI_pos (by omega), nI_lt hj (by omega)⟩) (fun a i h1 h2 h3 => by rw [m_ui_o (by omega)]; exact wadd_o h1 (by omega) h3)
            (by rw [m_ui_o (by omega)]; exact wadd_6 e1) (by rw [m_ui_o (by omega)]; exact wadd_7 e1) (by rw [m_ui_o (by omega)]; exact wadd_8 e1) (by rw [m_ui_o (by omega)]; exact wadd_9 e1) (by rw [m_ui_o (by omega)]; exact wadd_10 e1) (by rw [m_ui_o (by omega)]; exact wadd_11 e1) (by rw [m_ui_o (by omega)]; exact wadd_12 e1) (by rw [m_ui_o (by omega)]; exact wadd_15 e1) (by rw [m_ui_o (by omega)]; exact wadd_96 e1) (by rw [m_ui_o (by omega)]; exact wadd_97 e1) (fun _ => m_ui_s)), rfl⟩
theorem kx_retitle {n : Nat} {f f1 : Nat → Nat → Int32} {x1 x2 x3 v : Int32} (hn : n ≤ 40) (s : SX_retitle n f f1 x1 x2 x3 v) : kp [1] f f1 := by
  rcases s with ⟨_, _, rfl⟩ | ⟨j, q, hj, _, _, _, _, _, _, ⟨_, _, rfl⟩ | ⟨_, _, _, rfl⟩ | ⟨_, _, _, rfl⟩⟩
  · exact kp_refl _ _
  · exact kp_refl _ _
  · exact kp_refl _ _
  · exact kp_wtit (by omega)
theorem tit_o {f : Nat → Nat → Int32} {j q a i : Nat} {y t : Int32} (h1 : ¬ (a = 15 + j ∧ i = q)) (h2 : ¬ (a = 56 + j ∧ i = q)) (h3 : ¬ (a = 96 ∧ i = j)) : wtit f j q y t a i = f a i := by
  unfold wtit
  rw [m_ui_o (by omega), m_ui_o (by omega), m_ui_o (by omega)]
theorem mtit_o {f : Nat → Nat → Int32} {j q a i : Nat} {y t : Int32} (h1 : ¬ (a = 189 ∧ i = 4 * j + q)) (h2 : ¬ (a = 190 ∧ i = 4 * j + q)) (h3 : ¬ (a = 191 ∧ i = j)) (h4 : ¬ (a = 181 ∧ i = 29)) : mtit f j q y t a i = f a i := by
  unfold mtit
  rw [m_ui_o (by omega), m_ui_o (by omega), m_ui_o (by omega), m_ui_o (by omega)]
theorem RW_tit {f : Nat → Nat → Int32} {n j q : Nat} {y t : Int32} (h : RW n f) (hj : j < n) (hT : TI f j q) (hq : q < 4) : RW n (mtit (wtit f j q y t) j q y t) := by
  obtain ⟨a1, a2, a3, a4, a5, a6⟩ := h
  obtain ⟨b1, b2, b3, b4, b5, b6⟩ := hT
  have hX : ∀ a i, a < 181 → mtit (wtit f j q y t) j q y t a i = wtit f j q y t a i := fun a i ha => mtit_o (by omega) (by omega) (by omega) (by omega)
  have hM : ∀ a i, 181 ≤ a → ¬ (a = 189 ∧ i = 4 * j + q) → ¬ (a = 190 ∧ i = 4 * j + q) → ¬ (a = 191 ∧ i = j) → ¬ (a = 181 ∧ i = 29) → mtit (wtit f j q y t) j q y t a i = f a i := fun a i ha h1 h2 h3 h4 => by
    rw [mtit_o h1 h2 h3 h4, tit_o (by omega) (by omega) (by omega)]
  refine ⟨a1, ?_, ?_, fun k hk => ?_, fun k hk => ?_, fun k hk => ?_⟩
  · rw [hX 6 13 (by omega), tit_o (by omega) (by omega) (by omega), a2]
  · rw [hM 181 0 (by omega) (by omega) (by omega) (by omega) (by omega), a3]
  · by_cases e : k = j
    · subst e
      obtain ⟨c1, c2, c3, c4, c5, c6, c7, _, c9⟩ := a4 k hk
      unfold RJ CU
      have w : ∀ a, a < 15 ∨ 97 ≤ a → a < 181 → mtit (wtit f k q y t) k q y t a k = f a k := fun a h1 h2 => by
        rw [hX a k (by omega), tit_o (by omega) (by omega) (by omega)]
      have m : ∀ a, 182 ≤ a → ¬ a = 189 → ¬ a = 190 → ¬ a = 191 → mtit (wtit f k q y t) k q y t a k = f a k := fun a h1 h2 h3 h4 => hM a k (by omega) (by omega) (by omega) (by omega) (by omega)
      rw [w 7 (by omega) (by omega), w 8 (by omega) (by omega), w 9 (by omega) (by omega), w 10 (by omega) (by omega), w 11 (by omega) (by omega), w 12 (by omega) (by omega), w 13 (by omega) (by omega), w 97 (by omega) (by omega), w 98 (by omega) (by omega), w 99 (by omega) (by omega), m 182 (by omega) (by omega) (by omega) (by omega), m 183 (by omega) (by omega) (by omega) (by omega), m 184 (by omega) (by omega) (by omega) (by omega), m 185 (by omega) (by omega) (by omega) (by omega), m 186 (by omega) (by omega) (by omega) (by omega), m 187 (by omega) (by omega) (by omega) (by omega), m 188 (by omega) (by omega) (by omega) (by omega), m 192 (by omega) (by omega) (by omega) (by omega), m 193 (by omega) (by omega) (by omega) (by omega), m 194 (by omega) (by omega) (by omega) (by omega)]
      refine ⟨c1, c2, c3, c4, c5, c6, c7, ⟨q + 1, by omega, by omega, ?_, ?_, fun s hs => ?_, fun s h1 hs => ?_⟩, c9⟩
      · rw [hX 96 k (by omega)]
        unfold wtit
        rw [m_ui_s, nI_1]
      · unfold mtit
        rw [m_ui_o (by omega), m_ui_s, nI_1]
      · by_cases es : s = q
        · subst es
          rw [hX (15 + k) s (by omega)]
          unfold wtit mtit
          rw [m_ui_o (by omega), m_ui_o (by omega), m_ui_s, m_ui_o (by omega), m_ui_o (by omega), m_ui_o (by omega), m_ui_s]
        · rw [hX (15 + k) s (by omega), tit_o (by omega) (by omega) (by omega), hM 189 _ (by omega) (by omega) (by omega) (by omega) (by omega), b5 s (by omega)]
      · by_cases es : s = q
        · subst es
          rw [hX (56 + k) s (by omega)]
          unfold wtit mtit
          rw [m_ui_o (by omega), m_ui_s, m_ui_o (by omega), m_ui_o (by omega), m_ui_s]
        · rw [hX (56 + k) s (by omega), tit_o (by omega) (by omega) (by omega), hM 190 _ (by omega) (by omega) (by omega) (by omega) (by omega), b6 s h1 (by omega)]
    · refine RJ_congr (f := f) (by omega) (fun a i p r s => ?_) (fun a p r r1 r2 => ?_) (fun s hs => ⟨?_, ?_⟩) (a4 k hk)
      · rw [hX a i (by omega), tit_o (by omega) (by omega) (by omega)]
      · exact hM a k (by omega) (by omega) (by omega) (by omega) (by omega)
      · exact hM 189 _ (by omega) (by omega) (by omega) (by omega) (by omega)
      · exact hM 190 _ (by omega) (by omega) (by omega) (by omega) (by omega)
  · rw [hX (56 + k) 0 (by omega), tit_o (by omega) (by omega) (by omega), a5 k hk]
  · rw [hM 192 k (by omega) (by omega) (by omega) (by omega) (by omega), a6 k hk]
theorem fin_retitle {n : Nat} {f f1 f2 : Nat → Nat → Int32} {x1 x2 x3 v1 v2 : Int32} (hG : GI f) (hR : RW n f) (s1 : SX_retitle n f f1 x1 x2 x3 v1) (s2 : SM_retitle n f1 f2 x1 x2 x3 v2) : GI f2 ∧ v1 = v2 := by
  have hn40 := hR.1
  have k1 := kx_retitle hn40 s1
  rcases s1 with ⟨q1, rfl, rfl⟩ | ⟨j, q, hj, ej, p1, p2, eq, hq1, hq4, s1⟩
  · rcases s2 with ⟨q2, rfl, rfl⟩ | ⟨j2, q2, hj2, ej2, r1, r2, _⟩
    · exact ⟨hG, rfl⟩
    · exact absurd ⟨⟨j2, hj2, ej2⟩, r1, r2⟩ q1
  · rcases s2 with ⟨q2, rfl, rfl⟩ | ⟨j2, q2, hj2, ej2, r1, r2, eq2, hq12, hq42, s2⟩
    · exact absurd ⟨⟨j, hj, ej⟩, p1, p2⟩ q2
    · have ejj : j = j2 := (nI_eq (by omega) (by omega)).mp (ej.symm.trans ej2)
      subst ejj
      obtain ⟨_, _, _, _, _, _, _, ⟨q9, T9⟩, _⟩ := hR.2.2.2.1 j hj
      have e9 : q9 = q := (nI_eq (by have := T9.2.1; omega) (by omega)).mp (T9.2.2.1.symm.trans eq)
      subst e9
      have e8 : q9 = q2 := (nI_eq (by omega) (by omega)).mp (T9.2.2.2.1.symm.trans ((k1 191 j rfl).symm.trans eq2))
      subst e8
      have hiff : titno f1 j q9 x2 ↔ x2 ≤ f (56 + j) (q9 - 1) := by
        unfold titno
        rw [k1 190 _ rfl]
        by_cases hh : 1 < q9
        · rw [T9.2.2.2.2.2 (q9 - 1) (by omega) (by omega), show 4 * j + (q9 - 1) = 4 * j + q9 - 1 by omega]
          exact ⟨fun x => x.2, fun x => ⟨hh, x⟩⟩
        · have h1 : q9 = 1 := by omega
          subst h1
          rw [hR.2.2.2.2.1 j (by omega)]
          constructor
          · exact fun x => absurd x.1 hh
          · intro x
            have a := Int32.le_iff_toInt_le.mp x
            have b := Int32.le_iff_toInt_le.mp p1.1
            have e0 : (0 : Int32).toInt = 0 := rfl
            have e1 : (1800 : Int32).toInt = 1800 := rfl
            omega
      rw [hiff] at s2
      rcases s1 with ⟨c1, rfl, rfl⟩ | ⟨c1, d1, rfl, rfl⟩ | ⟨c1, d1, rfl, rfl⟩
      · rcases s2 with ⟨c2, rfl, rfl⟩ | ⟨c2, d2, rfl, rfl⟩ | ⟨c2, d2, rfl, rfl⟩
        · exact ⟨hG, rfl⟩
        · exact absurd c1 c2
        · exact absurd c1 c2
      · rcases s2 with ⟨c2, rfl, rfl⟩ | ⟨c2, d2, rfl, rfl⟩ | ⟨c2, d2, rfl, rfl⟩
        · exact absurd c2 c1
        · exact ⟨hG, rfl⟩
        · omega
      · rcases s2 with ⟨c2, rfl, rfl⟩ | ⟨c2, d2, rfl, rfl⟩ | ⟨c2, d2, rfl, rfl⟩
        · exact absurd c2 c1
        · omega
        · exact ⟨GI_w hG k1 kp_mtit (XI_mtit (XI_wtit hG.1 (by omega) d1) d1) (RW_tit hR hj T9 d1), rfl⟩
theorem kx_cut {n : Nat} {f f1 : Nat → Nat → Int32} {x1 x2 x3 x4 v : Int32} (s : SX_cut n f f1 x1 x2 x3 x4 v) : kp [1] f f1 := by
  rcases s with ⟨_, _, rfl⟩ | ⟨j, hj, _, _, _, _, ⟨_, _, rfl⟩ | ⟨_, _, _, rfl⟩ | ⟨_, _, _, rfl⟩⟩
  · exact kp_refl _ _
  · exact kp_refl _ _
  · exact kp_refl _ _
  · exact kp_wcut
theorem wcut_o {f : Nat → Nat → Int32} {j a i : Nat} {y h w : Int32} (h1 : ¬ (97 ≤ a ∧ a ≤ 99 ∧ i = j)) : wcut f j y h w a i = f a i := by
  unfold wcut
  rw [m_ui_o (by omega), m_ui_o (by omega), m_ui_o (by omega)]
theorem mcut_o {f : Nat → Nat → Int32} {j a i : Nat} {y h w : Int32} (h1 : ¬ (192 ≤ a ∧ a ≤ 194 ∧ i = j)) (h4 : ¬ (a = 181 ∧ i = 29)) : mcut f j y h w a i = f a i := by
  unfold mcut
  rw [m_ui_o (by omega), m_ui_o (by omega), m_ui_o (by omega), m_ui_o (by omega)]
theorem RW_cut {f : Nat → Nat → Int32} {n j : Nat} {y h w : Int32} (hR : RW n f) (hj : j < n) (hy : inr 1800 1999 y) : RW n (mcut (wcut f j y h w) j y h w) := by
  obtain ⟨a1, a2, a3, a4, a5, a6⟩ := hR
  have hX : ∀ a i, a < 181 → ¬ (97 ≤ a ∧ a ≤ 99 ∧ i = j) → mcut (wcut f j y h w) j y h w a i = f a i := fun a i ha h1 => by
    rw [mcut_o (by omega) (by omega), wcut_o h1]
  have hM : ∀ a i, 181 ≤ a → ¬ (192 ≤ a ∧ a ≤ 194 ∧ i = j) → ¬ (a = 181 ∧ i = 29) → mcut (wcut f j y h w) j y h w a i = f a i := fun a i ha h1 h2 => by
    rw [mcut_o h1 h2, wcut_o (by omega)]
  refine ⟨a1, ?_, ?_, fun k hk => ?_, fun k hk => ?_, fun k hk => ?_⟩
  · rw [hX 6 13 (by omega) (by omega), a2]
  · rw [hM 181 0 (by omega) (by omega) (by omega), a3]
  · by_cases e : k = j
    · subst e
      obtain ⟨c1, c2, c3, c4, c5, c6, c7, ⟨q, b1, b2, b3, b4, b5, b6⟩, c9⟩ := a4 k hk
      unfold RJ
      rw [hX 7 k (by omega) (by omega), hX 8 k (by omega) (by omega), hX 9 k (by omega) (by omega), hX 10 k (by omega) (by omega), hX 11 k (by omega) (by omega), hX 12 k (by omega) (by omega), hX 13 k (by omega) (by omega), hM 182 k (by omega) (by omega) (by omega), hM 183 k (by omega) (by omega) (by omega), hM 184 k (by omega) (by omega) (by omega), hM 185 k (by omega) (by omega) (by omega), hM 186 k (by omega) (by omega) (by omega), hM 187 k (by omega) (by omega) (by omega), hM 188 k (by omega) (by omega) (by omega)]
      refine ⟨c1, c2, c3, c4, c5, c6, c7, ⟨q, b1, b2, ?_, ?_, fun s hs => ?_, fun s h1 hs => ?_⟩, Or.inr ?_⟩
      · rw [hX 96 k (by omega) (by omega), b3]
      · rw [hM 191 k (by omega) (by omega) (by omega), b4]
      · rw [hX (15 + k) s (by omega) (by omega), hM 189 _ (by omega) (by omega) (by omega), b5 s hs]
      · rw [hX (56 + k) s (by omega) (by omega), hM 190 _ (by omega) (by omega) (by omega), b6 s h1 hs]
      · unfold mcut wcut
        rw [m_ui_o (by omega), m_ui_o (by omega), m_ui_o (by omega), m_ui_o (by omega), m_ui_o (by omega), m_ui_o (by omega), m_ui_s, m_ui_o (by omega), m_ui_o (by omega), m_ui_o (by omega), m_ui_s, m_ui_o (by omega), m_ui_o (by omega), m_ui_o (by omega), m_ui_o (by omega), m_ui_o (by omega), m_ui_s, m_ui_o (by omega), m_ui_o (by omega), m_ui_s, m_ui_o (by omega), m_ui_o (by omega), m_ui_o (by omega), m_ui_o (by omega), m_ui_s, m_ui_o (by omega), m_ui_s]
        exact ⟨rfl, hy, rfl, rfl⟩
    · refine RJ_congr (f := f) (by omega) (fun a i p r s => ?_) (fun a p r r1 r2 => ?_) (fun s hs => ⟨?_, ?_⟩) (a4 k hk)
      · exact hX a i (by omega) (by omega)
      · exact hM a k (by omega) (by omega) (by omega)
      · exact hM 189 _ (by omega) (by omega) (by omega)
      · exact hM 190 _ (by omega) (by omega) (by omega)
  · rw [hX (56 + k) 0 (by omega) (by omega), a5 k hk]
  · rw [hM 192 k (by omega) (by omega) (by omega), a6 k hk]
theorem fin_cut {n : Nat} {f f1 f2 : Nat → Nat → Int32} {x1 x2 x3 x4 v1 v2 : Int32} (hG : GI f) (hR : RW n f) (s1 : SX_cut n f f1 x1 x2 x3 x4 v1) (s2 : SM_cut n f1 f2 x1 x2 x3 x4 v2) : GI f2 ∧ v1 = v2 := by
  have hn40 := hR.1
  have k1 := kx_cut s1
  rcases s1 with ⟨q1, rfl, rfl⟩ | ⟨j, hj, ej, p1, p2, p3, s1⟩
  · rcases s2 with ⟨q2, rfl, rfl⟩ | ⟨j2, hj2, ej2, r1, r2, r3, _⟩
    · exact ⟨hG, rfl⟩
    · exact absurd ⟨⟨j2, hj2, ej2⟩, r1, r2, r3⟩ q1
  · rcases s2 with ⟨q2, rfl, rfl⟩ | ⟨j2, hj2, ej2, r1, r2, r3, s2⟩
    · exact absurd ⟨⟨j, hj, ej⟩, p1, p2, p3⟩ q2
    · have ejj : j = j2 := (nI_eq (by omega) (by omega)).mp (ej.symm.trans ej2)
      subst ejj
      obtain ⟨c1, _, c3, c4, _, _, _, _, c9⟩ := hR.2.2.2.1 j hj
      have hk := k_23 (xi_7 hG.1 j)
      have hkk : f1 182 j = f 7 j := (k1 182 j rfl).trans c1.symm
      have hiff : cutokm f1 j x3 x4 ↔ cutok f j x3 x4 := by
        unfold cutokm cutok
        rw [k1 192 j rfl, k1 185 j rfl, k1 186 j rfl, ← c3, ← c4]
        rcases c9 with ⟨u1, u2⟩ | ⟨u1, u2, _⟩
        · rw [u1, u2]
          exact ⟨fun x => ⟨rfl, x.2⟩, fun x => ⟨by decide, x.2⟩⟩
        · rw [u1]
          have a := Int32.le_iff_toInt_le.mp u2.1
          have b := Int32.le_iff_toInt_le.mp u2.2
          have e0 : (0 : Int32).toInt = 0 := rfl
          have e1 : (1800 : Int32).toInt = 1800 := rfl
          have e2 : (1999 : Int32).toInt = 1999 := rfl
          have e3 : (2000 : Int32).toInt = 2000 := rfl
          constructor
          · intro x
            refine absurd ?_ x.1
            rw [Int32.lt_iff_toInt_lt]
            omega
          · intro x
            have := congrArg Int32.toInt x.1
            omega
      rw [hkk, hiff] at s2
      rcases s1 with ⟨d1, rfl, rfl⟩ | ⟨d1, g1, rfl, rfl⟩ | ⟨d1, g1, rfl, rfl⟩
      · rcases s2 with ⟨d2, rfl, rfl⟩ | ⟨d2, g2, rfl, rfl⟩ | ⟨d2, g2, rfl, rfl⟩
        · exact ⟨hG, rfl⟩
        · exact absurd (hk.mpr d2) d1
        · exact absurd (hk.mpr d2) d1
      · rcases s2 with ⟨d2, rfl, rfl⟩ | ⟨d2, g2, rfl, rfl⟩ | ⟨d2, g2, rfl, rfl⟩
        · exact absurd (hk.mp d1) (i32_nle.mpr d2)
        · exact ⟨hG, rfl⟩
        · exact absurd g2 g1
      · rcases s2 with ⟨d2, rfl, rfl⟩ | ⟨d2, g2, rfl, rfl⟩ | ⟨d2, g2, rfl, rfl⟩
        · exact absurd (hk.mp d1) (i32_nle.mpr d2)
        · exact absurd g1 g2
        · exact ⟨GI_w hG k1 kp_mcut (XI_mcut (XI_wcut hG.1)) (RW_cut hR hj p1), rfl⟩
theorem i32_lt0 {x : Int32} (h : x < 0) (h' : ¬ x < 0) : False := h' h
theorem fin_told {n : Nat} {f : Nat → Nat → Int32} {x1 x2 v1 v2 : Int32} (hR : RW n f) (s1 : SX_told n f x1 x2 v1) (s2 : SM_told n f x1 x2 v2) : v1 = v2 := by
  have hn40 := hR.1
  rcases s1 with ⟨q1, rfl⟩ | ⟨j, hj, ej, s1⟩
  · rcases s2 with ⟨q2, rfl⟩ | ⟨j2, hj2, ej2, _⟩
    · rfl
    · exact absurd ⟨j2, hj2, ej2⟩ q1
  · rcases s2 with ⟨q2, rfl⟩ | ⟨j2, hj2, ej2, s2⟩
    · exact absurd ⟨j, hj, ej⟩ q2
    · have ejj : j = j2 := (nI_eq (by omega) (by omega)).mp (ej.symm.trans ej2)
      subst ejj
      obtain ⟨c1, c2, c3, c4, c5, c6, _, _, _⟩ := hR.2.2.2.1 j hj
      rcases s1 with ⟨e, rfl⟩ | ⟨e, rfl⟩ | ⟨e, rfl⟩ | ⟨e, rfl⟩ | ⟨e, rfl⟩ | ⟨e, rfl⟩ | ⟨e, rfl⟩ <;> rcases s2 with ⟨d, rfl⟩ | ⟨d, rfl⟩ | ⟨d, rfl⟩ | ⟨d, rfl⟩ | ⟨d, rfl⟩ | ⟨d, d2, rfl⟩ | ⟨d, d2, rfl⟩ | ⟨d, rfl⟩
      all_goals first
        | (rw [e] at d; exact absurd d (by decide))
        | (rw [d] at e; exact absurd e (by decide))
        | exact c1
        | exact c3
        | exact c4
        | exact c5
        | exact c6
        | rfl
        | (rcases c2 with ⟨u1, u2⟩ | ⟨u1, u2, u3⟩; exact u1; exact absurd d2 u2)
        | (rcases c2 with ⟨u1, u2⟩ | ⟨u1, u2, u3⟩; (rw [u2] at d2; exact absurd (by decide) d2); exact u1)
theorem lat_congr {p p' : Nat → Prop} [DecidablePred p] [DecidablePred p'] : ∀ k, (∀ i, 1 ≤ i → i ≤ k → (p i ↔ p' i)) → lat p k = lat p' k
  | 0, _ => rfl
  | k + 1, h => by
    show (if p (k + 1) then k + 1 else lat p k) = (if p' (k + 1) then k + 1 else lat p' k)
    rw [lat_congr k (fun i h1 h2 => h i h1 (by omega))]
    by_cases q : p (k + 1)
    · rw [if_pos q, if_pos ((h (k + 1) (by omega) (by omega)).mp q)]
    · rw [if_neg q, if_neg (fun e => q ((h (k + 1) (by omega) (by omega)).mpr e))]
theorem cut_eq {f : Nat → Nat → Int32} {j : Nat} {x a b a' b' : Int32} (h : (f 97 j = 2000 ∧ f 192 j = 0) ∨ (f 97 j = f 192 j ∧ inr 1800 1999 (f 192 j) ∧ b = b')) (ha : a = a') (hx : inr 1800 1999 x) : (if x < f 97 j then a else b) = (if 0 < f 192 j ∧ f 192 j ≤ x then b' else a') := by
  have p := Int32.le_iff_toInt_le.mp hx.2
  have e0 : (0 : Int32).toInt = 0 := rfl
  have e1 : (1800 : Int32).toInt = 1800 := rfl
  have e2 : (1999 : Int32).toInt = 1999 := rfl
  have e3 : (2000 : Int32).toInt = 2000 := rfl
  rcases h with ⟨u1, u2⟩ | ⟨u1, u2, u3⟩
  · rw [u1, u2, if_pos (by rw [Int32.lt_iff_toInt_lt]; omega), if_neg (fun q => absurd q.1 (by decide)), ha]
  · have b1 := Int32.le_iff_toInt_le.mp u2.1
    rw [u1]
    by_cases q : x < f 192 j
    · rw [if_pos q, if_neg (fun z => absurd q (i32_nlt.mpr z.2)), ha]
    · rw [if_neg q, if_pos ⟨by rw [Int32.lt_iff_toInt_lt]; omega, i32_nlt.mp q⟩, u3]
theorem tit_eq {f : Nat → Nat → Int32} {j q : Nat} {y : Int32} (h : TI f j q) : titC f j q y = titM f j q y := by
  obtain ⟨b1, b2, b3, b4, b5, b6⟩ := h
  unfold titC titM
  have e := lat_congr (p := fun i => f (56 + j) i ≤ y) (p' := fun i => f 190 (4 * j + i) ≤ y) (q - 1) (fun i h1 h2 => by
    show f (56 + j) i ≤ y ↔ f 190 (4 * j + i) ≤ y
    rw [b6 i h1 (by omega)])
  rw [e]
  exact b5 _ (by have := lat_le (fun i => f 190 (4 * j + i) ≤ y) (q - 1); omega)
theorem fin_then {n : Nat} {f : Nat → Nat → Int32} {x1 x2 x3 v1 v2 : Int32} (hR : RW n f) (s1 : SX_then n f x1 x2 x3 v1) (s2 : SM_then n f x1 x2 x3 v2) : v1 = v2 := by
  have hn40 := hR.1
  rcases s1 with ⟨q1, rfl⟩ | ⟨j, q, hj, ej, p1, eq, hq1, hq4, s1⟩
  · rcases s2 with ⟨q2, rfl⟩ | ⟨j2, q2, hj2, ej2, r1, r2, _⟩
    · rfl
    · exact absurd ⟨⟨j2, hj2, ej2⟩, r1⟩ q1
  · rcases s2 with ⟨q2, rfl⟩ | ⟨j2, q2, hj2, ej2, r1, r2, eq2, hq12, hq42, s2⟩
    · rcases s1 with ⟨e, rfl⟩ | ⟨e, rfl⟩ | ⟨e, rfl⟩ | ⟨e, rfl⟩
      · exact absurd ⟨⟨j, hj, ej⟩, p1, by rw [e]; unfold inr; decide⟩ q2
      · exact absurd ⟨⟨j, hj, ej⟩, p1, by rw [e]; unfold inr; decide⟩ q2
      · exact absurd ⟨⟨j, hj, ej⟩, p1, by rw [e]; unfold inr; decide⟩ q2
      · rfl
    · have ejj : j = j2 := (nI_eq (by omega) (by omega)).mp (ej.symm.trans ej2)
      subst ejj
      obtain ⟨c1, c2, c3, c4, c5, c6, _, ⟨q9, T9⟩, c9⟩ := hR.2.2.2.1 j hj
      have e9 : q9 = q := (nI_eq (by have := T9.2.1; omega) (by omega)).mp (T9.2.2.1.symm.trans eq)
      subst e9
      have e8 : q9 = q2 := (nI_eq (by omega) (by omega)).mp (T9.2.2.2.1.symm.trans eq2)
      subst e8
      have hc3 := inr_c2 r2
      rcases s1 with ⟨e, rfl⟩ | ⟨e, rfl⟩ | ⟨e, rfl⟩ | ⟨e, rfl⟩ <;> rcases s2 with ⟨d, rfl⟩ | ⟨d, rfl⟩ | ⟨d, d2, rfl⟩
      all_goals first
        | (rw [e] at d; exact absurd d (by decide))
        | (exact absurd d e.1)
        | (exact absurd d e.2.1)
        | (exact absurd e d)
        | (exact absurd e d2)
        | exact tit_eq T9
        | exact cut_eq (c9.imp id (fun z => ⟨z.1, z.2.1, z.2.2.1⟩)) c3 p1
        | exact cut_eq (c9.imp id (fun z => ⟨z.1, z.2.1, z.2.2.2⟩)) c4 p1
        | (rcases hc3 with z | z | z; exact absurd z e.1; exact absurd z e.2.1; exact absurd z e.2.2)
theorem fin_turned {n : Nat} {f : Nat → Nat → Int32} {x1 v1 v2 : Int32} (hR : RW n f) (s1 : SX_turned n f x1 v1) (s2 : SM_turned n f x1 v2) : v1 = v2 := by
  have hn40 := hR.1
  rcases s1 with ⟨q1, rfl⟩ | ⟨j, hj, ej, s1⟩
  · rcases s2 with ⟨q2, rfl⟩ | ⟨j2, hj2, ej2, _⟩
    · rfl
    · exact absurd ⟨j2, hj2, ej2⟩ q1
  · rcases s2 with ⟨q2, rfl⟩ | ⟨j2, hj2, ej2, s2⟩
    · exact absurd ⟨j, hj, ej⟩ q2
    · have ejj : j = j2 := (nI_eq (by omega) (by omega)).mp (ej.symm.trans ej2)
      subst ejj
      obtain ⟨c1, _, _, _, _, _, c7, _, _⟩ := hR.2.2.2.1 j hj
      rw [← c1] at s2
      rcases s1 with ⟨e, rfl⟩ | ⟨e, e2, rfl⟩ | ⟨e, e2, rfl⟩ <;> rcases s2 with ⟨d, rfl⟩ | ⟨d, d2, rfl⟩ | ⟨d, d2, rfl⟩
      all_goals first
        | rfl
        | exact absurd d e
        | exact absurd e d
        | exact absurd ((c7 e).trans d2) e2
        | exact absurd ((c7 e).symm.trans e2) d2
theorem inix_0 {a : Nat} (i : Nat) (h : ¬ (109 ≤ a ∧ a ≤ 112) ∧ a ≠ 169 ∧ a ≠ 180 ∧ a ≠ 224 ∧ a ≠ 213 ∧ a ≠ 214 ∧ a ≠ 215) : inix a i = 0 := by
  unfold inix
  repeat rw [if_neg (by omega)]
theorem okv_lo {a i : Nat} {v : Int32} (h : a < 6 ∨ 227 ≤ a) : okv a i v := by
  unfold okv
  repeat rw [if_neg (by omega)]
  trivial
theorem ini_169 (i : Nat) : (inix 169 i = -4 ∨ inr 0 40 (inix 169 i)) := by
  unfold inix
  rw [if_neg (by omega)]
  by_cases h : i < 40
  · rw [if_pos ⟨rfl, h⟩]
    exact Or.inl rfl
  · rw [if_neg (by omega)]
    repeat rw [if_neg (by omega)]
    exact Or.inr (by unfold inr; decide)
theorem ini_180 (i : Nat) : inr (-1) 60 (inix 180 i) := by
  unfold inix
  rw [if_neg (by omega), if_neg (by omega)]
  by_cases h : i < 4
  · rw [if_pos ⟨rfl, h⟩]
    unfold inr
    decide
  · repeat rw [if_neg (by omega)]
    unfold inr
    decide
theorem ini_ok (a i : Nat) : okv a i (inix a i) := by
  unfold okv
  by_cases h : a = 6
  · rw [if_pos h]
    subst h
    rw [inix_0 _ (by decide)]
    unfold inr
    decide
  rw [if_neg h]
  clear h
  by_cases h : a = 7
  · rw [if_pos h]
    subst h
    rw [inix_0 _ (by decide)]
    unfold inr
    decide
  rw [if_neg h]
  clear h
  by_cases h : a = 8
  · rw [if_pos h]
    subst h
    rw [inix_0 _ (by decide)]
    unfold inr
    decide
  rw [if_neg h]
  clear h
  by_cases h : a = 96
  · rw [if_pos h]
    subst h
    rw [inix_0 _ (by decide)]
    unfold inr
    decide
  rw [if_neg h]
  clear h
  by_cases h : a = 100
  · rw [if_pos h]
    subst h
    rw [inix_0 _ (by decide)]
    unfold inr
    decide
  rw [if_neg h]
  clear h
  by_cases h : a = 107 ∧ i = 3
  · rw [if_pos h]
    obtain ⟨h, h2⟩ := h
    subst h
    rw [inix_0 _ (by decide)]
    unfold inr
    decide
  rw [if_neg h]
  clear h
  by_cases h : a = 107 ∧ i = 4
  · rw [if_pos h]
    obtain ⟨h, h2⟩ := h
    subst h
    rw [inix_0 _ (by decide)]
    unfold inr
    decide
  rw [if_neg h]
  clear h
  by_cases h : a = 119
  · rw [if_pos h]
    subst h
    rw [inix_0 _ (by decide)]
    unfold inr
    decide
  rw [if_neg h]
  clear h
  by_cases h : a = 121
  · rw [if_pos h]
    subst h
    rw [inix_0 _ (by decide)]
    unfold inr
    decide
  rw [if_neg h]
  clear h
  by_cases h : a = 129
  · rw [if_pos h]
    subst h
    rw [inix_0 _ (by decide)]
    unfold inr
    decide
  rw [if_neg h]
  clear h
  by_cases h : a = 130
  · rw [if_pos h]
    subst h
    rw [inix_0 _ (by decide)]
    unfold inr
    decide
  rw [if_neg h]
  clear h
  by_cases h : a = 131
  · rw [if_pos h]
    subst h
    rw [inix_0 _ (by decide)]
    unfold inr
    decide
  rw [if_neg h]
  clear h
  by_cases h : a = 136
  · rw [if_pos h]
    subst h
    rw [inix_0 _ (by decide)]
    unfold inr
    decide
  rw [if_neg h]
  clear h
  by_cases h : a = 138
  · rw [if_pos h]
    subst h
    rw [inix_0 _ (by decide)]
    unfold inr
    decide
  rw [if_neg h]
  clear h
  by_cases h : a = 139
  · rw [if_pos h]
    subst h
    rw [inix_0 _ (by decide)]
    unfold inr
    decide
  rw [if_neg h]
  clear h
  by_cases h : a = 150 ∧ i = 7
  · rw [if_pos h]
    obtain ⟨h, h2⟩ := h
    subst h
    rw [inix_0 _ (by decide)]
    unfold inr
    decide
  rw [if_neg h]
  clear h
  by_cases h : a = 150 ∧ i = 8
  · rw [if_pos h]
    obtain ⟨h, h2⟩ := h
    subst h
    rw [inix_0 _ (by decide)]
    unfold inr
    decide
  rw [if_neg h]
  clear h
  by_cases h : a = 163
  · rw [if_pos h]
    subst h
    rw [inix_0 _ (by decide)]
    unfold inr
    decide
  rw [if_neg h]
  clear h
  by_cases h : a = 164
  · rw [if_pos h]
    subst h
    rw [inix_0 _ (by decide)]
    unfold inr
    decide
  rw [if_neg h]
  clear h
  by_cases h : a = 166
  · rw [if_pos h]
    subst h
    rw [inix_0 _ (by decide)]
    unfold inr
    decide
  rw [if_neg h]
  clear h
  by_cases h : a = 167
  · rw [if_pos h]
    subst h
    rw [inix_0 _ (by decide)]
    unfold inr
    decide
  rw [if_neg h]
  clear h
  by_cases h : a = 168
  · rw [if_pos h]
    subst h
    rw [inix_0 _ (by decide)]
    unfold inr
    decide
  rw [if_neg h]
  clear h
  by_cases h : a = 169
  · rw [if_pos h]
    subst h
    exact ini_169 i
  rw [if_neg h]
  clear h
  by_cases h : a = 172
  · rw [if_pos h]
    subst h
    rw [inix_0 _ (by decide)]
    unfold inr
    decide
  rw [if_neg h]
  clear h
  by_cases h : a = 180
  · rw [if_pos h]
    subst h
    exact ini_180 i
  rw [if_neg h]
  clear h
  by_cases h : a = 181 ∧ i = 0
  · rw [if_pos h]
    obtain ⟨h, h2⟩ := h
    subst h
    rw [inix_0 _ (by decide)]
    unfold inr
    decide
  rw [if_neg h]
  clear h
  by_cases h : a = 181 ∧ i = 14
  · rw [if_pos h]
    obtain ⟨h, h2⟩ := h
    subst h
    rw [inix_0 _ (by decide)]
    unfold inr
    decide
  rw [if_neg h]
  clear h
  by_cases h : a = 181 ∧ i = 16
  · rw [if_pos h]
    obtain ⟨h, h2⟩ := h
    subst h
    rw [inix_0 _ (by decide)]
    unfold inr
    decide
  rw [if_neg h]
  clear h
  by_cases h : a = 181 ∧ i = 27
  · rw [if_pos h]
    obtain ⟨h, h2⟩ := h
    subst h
    rw [inix_0 _ (by decide)]
    unfold inr
    decide
  rw [if_neg h]
  clear h
  by_cases h : a = 181 ∧ i = 34
  · rw [if_pos h]
    obtain ⟨h, h2⟩ := h
    subst h
    rw [inix_0 _ (by decide)]
    unfold inr
    decide
  rw [if_neg h]
  clear h
  by_cases h : a = 181 ∧ i = 46
  · rw [if_pos h]
    obtain ⟨h, h2⟩ := h
    subst h
    rw [inix_0 _ (by decide)]
    unfold inr
    decide
  rw [if_neg h]
  clear h
  by_cases h : a = 181 ∧ i = 47
  · rw [if_pos h]
    obtain ⟨h, h2⟩ := h
    subst h
    rw [inix_0 _ (by decide)]
    unfold inr
    decide
  rw [if_neg h]
  clear h
  by_cases h : a = 181 ∧ i = 48
  · rw [if_pos h]
    obtain ⟨h, h2⟩ := h
    subst h
    rw [inix_0 _ (by decide)]
    unfold inr
    decide
  rw [if_neg h]
  clear h
  by_cases h : a = 182
  · rw [if_pos h]
    subst h
    rw [inix_0 _ (by decide)]
    unfold inr
    decide
  rw [if_neg h]
  clear h
  by_cases h : a = 183
  · rw [if_pos h]
    subst h
    rw [inix_0 _ (by decide)]
    unfold inr
    decide
  rw [if_neg h]
  clear h
  by_cases h : a = 191
  · rw [if_pos h]
    subst h
    rw [inix_0 _ (by decide)]
    unfold inr
    decide
  rw [if_neg h]
  clear h
  by_cases h : a = 196
  · rw [if_pos h]
    subst h
    rw [inix_0 _ (by decide)]
    unfold inr
    decide
  rw [if_neg h]
  clear h
  by_cases h : a = 197
  · rw [if_pos h]
    subst h
    rw [inix_0 _ (by decide)]
    unfold inr
    decide
  rw [if_neg h]
  clear h
  by_cases h : a = 204
  · rw [if_pos h]
    subst h
    rw [inix_0 _ (by decide)]
    unfold inr
    decide
  rw [if_neg h]
  clear h
  by_cases h : a = 207
  · rw [if_pos h]
    subst h
    rw [inix_0 _ (by decide)]
    unfold inr
    decide
  rw [if_neg h]
  clear h
  by_cases h : a = 221
  · rw [if_pos h]
    subst h
    rw [inix_0 _ (by decide)]
    unfold inr
    decide
  rw [if_neg h]
  clear h
  by_cases h : a = 223
  · rw [if_pos h]
    subst h
    rw [inix_0 _ (by decide)]
    unfold inr
    decide
  rw [if_neg h]
  clear h
  by_cases h : a = 225
  · rw [if_pos h]
    subst h
    rw [inix_0 _ (by decide)]
    unfold inr
    decide
  rw [if_neg h]
  clear h
  trivial
theorem GI_ini {f : Nat → Nat → Int32} (hf : ∀ a i, 6 ≤ a → f a i = if a < 227 then inix a i else 0) (h3 : ab3 f) : GI f := by
  have z : ∀ a i, 6 ≤ a → a < 227 → ¬ (109 ≤ a ∧ a ≤ 112) ∧ a ≠ 169 ∧ a ≠ 180 ∧ a ≠ 224 ∧ a ≠ 213 ∧ a ≠ 214 ∧ a ≠ 215 → f a i = 0 := fun a i h1 h2 h => by
    rw [hf a i h1, if_pos h2, inix_0 i h]
  refine ⟨fun a i => ?_, fun _ j hj => ?_, h3, 0, by omega, z 6 13 (by omega) (by omega) (by decide), z 181 0 (by omega) (by omega) (by decide), fun j hj => absurd hj (by omega), fun j hj => z (56 + j) 0 (by omega) (by omega) (by omega), fun j _ => z 192 j (by omega) (by omega) (by decide)⟩
  · by_cases h : a < 6 ∨ 227 ≤ a
    · exact okv_lo h
    · rw [hf a i (by omega), if_pos (by omega)]
      exact ini_ok a i
  · rw [hf 169 j (by omega), if_pos (by omega)]
    unfold inix
    rw [if_neg (by omega), if_pos ⟨rfl, hj⟩]
set_option maxRecDepth 100000 in
set_option maxHeartbeats 4000000 in
theorem sm_holding {d L : Nat} {f : Nat → Nat → Int32} {g : Nat → Nat → Int64} {x1 x2 x3 x4 x5 x6 : Int32} {R : Option Value → mH → Prop} (hd : 8 ≤ d) (hX : XI f) (H : ∀ v f' g', XI f' → kp [10, 12, 22] f f' → R (some (.int v)) (shF L, f', g')) : Run mtab d 168 [.ref 181, .int x1, .int x2, .int x3, .int x4, .int x5, .int x6] (shF L, f, g) R := by
  obtain ⟨d, rfl⟩ : ∃ e, d = e + 1 := ⟨d - 1, by omega⟩
  refine go_X11_holding rfl ?_
  conv => whnf
  obtain ⟨cn, cnm, cnb⟩ := inr_nat (n := 60) rfl (xi_181_14 hX)
  by_cases hq : cn = 60
  · subst hq
    repeat' first
      | (simp only [cnb])
      | ((with_reducible refine ⟨vp_in_nI (by omega) (by decide), ?_⟩) <;> conv => whnf)
      | (refine ⟨Or.inl rfl, ?_⟩ <;> conv => whnf)
      | (refine ⟨Or.inr rfl, ?_⟩ <;> conv => whnf)
      | (refine ⟨Or.inl True.intro, ?_⟩ <;> conv => whnf)
      | (refine ⟨Or.inr True.intro, ?_⟩ <;> conv => whnf)
      | (refine ⟨fun c => ?_, fun c => ?_⟩ <;> first | ((have c9 : (1 : Int32) = 0 := by with_reducible exact c); exact absurd c9 (by decide)) | exact absurd (rfl : (0 : Int32) = 0) (by with_reducible exact c) | exact absurd True.intro (by with_reducible exact c) | exact False.elim (by with_reducible exact c) | exact absurd (by decide) c | (conv => whnf))
      | (refine sm_isHolding (by omega) hX (fun v hv => ?_) <;> conv => whnf)
      | (refine ⟨by unfold vp_in; decide, ?_⟩ <;> conv => whnf)
      | fail
    all_goals exact H _ _ _ (by repeat' first | (with_reducible assumption) | (with_reducible refine XI_ui ?_ ?_) | (with_reducible refine XI_fil ?_ (fun _ => ?_)) | (with_reducible refine XI_cpy ?_ (fun _ _ => ?_)) | exact True.intro | ((show inr _ _ _); first | (with_reducible assumption) | (unfold inr; decide)) | fail) (by repeat' first | (with_reducible exact kp_refl _ _) | (with_reducible assumption) | (with_reducible refine kp_ui ?_ ?_) | (with_reducible refine kp_fil ?_ ?_) | (with_reducible refine kp_cpy ?_ ?_) | rfl | fail)
  · have hlt : cn < 60 := by omega
    repeat' first
      | (simp only [cnb, nI_6m, nI_9m, nI_1, nI_k _ 2 2 rfl, nI_k _ 3 3 rfl, nI_k _ 4 4 rfl, nI_k _ 5 5 rfl, nI_k _ 6 6 rfl, nI_k _ 7 7 rfl, nI_k _ 8 8 rfl, m_ui_ap, m_fil_ap, m_cpy_ap, Nat.reduceEqDiff, Nat.reduceLT, Nat.reduceLeDiff, eq_self, ↓reduceIte, false_and, and_false, true_and, and_true, and_self])
      | ((with_reducible refine ⟨vp_in_nI (by omega) (by decide), ?_⟩) <;> conv => whnf)
      | (refine ⟨Or.inl rfl, ?_⟩ <;> conv => whnf)
      | (refine ⟨Or.inr rfl, ?_⟩ <;> conv => whnf)
      | (refine ⟨Or.inl True.intro, ?_⟩ <;> conv => whnf)
      | (refine ⟨Or.inr True.intro, ?_⟩ <;> conv => whnf)
      | (refine ⟨fun c => ?_, fun c => ?_⟩ <;> first | ((have c9 : (1 : Int32) = 0 := by with_reducible exact c); exact absurd c9 (by decide)) | exact absurd (rfl : (0 : Int32) = 0) (by with_reducible exact c) | exact absurd True.intro (by with_reducible exact c) | exact False.elim (by with_reducible exact c) | exact absurd ((nI_eq (b := 60) (by omega) (by decide)).mp c) hq | (conv => whnf))
      | (refine sm_isHolding (by omega) hX (fun v hv => ?_) <;> conv => whnf)
      | (refine sm_keepHolding (by omega) hX cnb hlt (fun f1 g1 h1 k1 e1 => ?_) <;> conv => whnf)
      | (refine ⟨by unfold vp_in; decide, ?_⟩ <;> conv => whnf)
      | fail
    all_goals exact H _ _ _ (by repeat' first | (with_reducible assumption) | (with_reducible refine XI_ui ?_ ?_) | (with_reducible refine XI_fil ?_ (fun _ => ?_)) | (with_reducible refine XI_cpy ?_ (fun _ _ => ?_)) | exact True.intro | ((show inr _ _ _); first | (with_reducible assumption) | (unfold inr; decide)) | fail) (by repeat' first | (with_reducible exact kp_refl _ _) | (with_reducible assumption) | (with_reducible refine kp_ui ?_ ?_) | (with_reducible refine kp_fil ?_ ?_) | (with_reducible refine kp_cpy ?_ ?_) | (refine kp_trans ?_ (kp_wd k1 rfl)) | (refine kp_trans ?_ (kp_fx k1 rfl)) | rfl | fail)
set_option maxRecDepth 100000 in
set_option maxHeartbeats 4000000 in
theorem sm_unhold {d L : Nat} {f : Nat → Nat → Int32} {g : Nat → Nat → Int64}  {R : Option Value → mH → Prop} (hd : 8 ≤ d) (hX : XI f) (H : ∀ v f' g', XI f' → kp [10, 12, 22] f f' → R (some (.int v)) (shF L, f', g')) : Run mtab d 169 [.ref 181] (shF L, f, g) R := by
  obtain ⟨d, rfl⟩ : ∃ e, d = e + 1 := ⟨d - 1, by omega⟩
  refine go_X11_unhold rfl ?_
  conv => whnf
  obtain ⟨cn, cnm, cnb⟩ := inr_nat (n := 60) rfl (xi_181_14 hX)
  simp only [cnb]
  by_cases h0 : cn = 0
  · subst h0
    refine ⟨fun c => absurd rfl c, fun _ => ?_⟩
    conv => whnf
    exact H _ _ _ hX (kp_refl _ _)
  · refine ⟨fun _ => ?_, fun c => absurd ((nI_eq (b := 0) (by omega) (by decide)).mp c) h0⟩
    conv => whnf
    simp only [cnb]
    refine ⟨by first | exact Or.inl rfl | exact Or.inl True.intro, ?_⟩
    conv => whnf
    exact H _ _ _ (XI_ui (XI_ui hX (show inr 0 60 (nI cn - 1) from inr_np (m := 60) (by omega) h0 rfl (by decide))) True.intro) (kp_ui rfl (kp_ui rfl (kp_refl _ _)))
set_option maxRecDepth 100000 in
set_option maxHeartbeats 4000000 in
theorem sm_clue {d L : Nat} {f : Nat → Nat → Int32} {g : Nat → Nat → Int64} {x1 x2 x3 : Int32} {R : Option Value → mH → Prop} (hd : 8 ≤ d) (hX : XI f) (H : ∀ v f' g', XI f' → kp [10, 15, 22] f f' → R (some (.int v)) (shF L, f', g')) : Run mtab d 176 [.ref 181, .int x1, .int x2, .int x3] (shF L, f, g) R := by
  obtain ⟨d, rfl⟩ : ∃ e, d = e + 1 := ⟨d - 1, by omega⟩
  refine go_X11_clue rfl ?_
  conv => whnf
  obtain ⟨n, hm, hb⟩ := inr_nat (n := 40) rfl (xi_181_0 hX)
  obtain ⟨cn, cnm, cnb⟩ := inr_nat (n := 20) rfl (xi_181_16 hX)
  by_cases hq : cn = 20
  · subst hq
    repeat' first
      | (simp only [cnb])
      | ((with_reducible refine ⟨vp_in_nI (by omega) (by decide), ?_⟩) <;> conv => whnf)
      | (refine ⟨Or.inl rfl, ?_⟩ <;> conv => whnf)
      | (refine ⟨Or.inr rfl, ?_⟩ <;> conv => whnf)
      | (refine ⟨Or.inl True.intro, ?_⟩ <;> conv => whnf)
      | (refine ⟨Or.inr True.intro, ?_⟩ <;> conv => whnf)
      | (refine ⟨fun c => ?_, fun c => ?_⟩ <;> first | ((have c9 : (1 : Int32) = 0 := by with_reducible exact c); exact absurd c9 (by decide)) | exact absurd (rfl : (0 : Int32) = 0) (by with_reducible exact c) | exact absurd True.intro (by with_reducible exact c) | exact False.elim (by with_reducible exact c) | exact absurd (by decide) c | (conv => whnf))
      | (refine ct_mIsWork (by omega) hb hm (fun j hj e => ?_) (fun q => ?_) <;> (try subst e) <;> conv => whnf)
      | ((with_reducible refine ct_i_m30_30 (by omega) (fun p => ?_) (fun p => ?_)) <;> conv => whnf)
      | (refine ⟨by unfold vp_in; decide, ?_⟩ <;> conv => whnf)
      | fail
    all_goals exact H _ _ _ (by repeat' first | (with_reducible assumption) | (with_reducible refine XI_ui ?_ ?_) | (with_reducible refine XI_fil ?_ (fun _ => ?_)) | (with_reducible refine XI_cpy ?_ (fun _ _ => ?_)) | exact True.intro | ((show inr _ _ _); first | (with_reducible assumption) | (unfold inr; decide)) | fail) (by repeat' first | (with_reducible exact kp_refl _ _) | (with_reducible assumption) | (with_reducible refine kp_ui ?_ ?_) | (with_reducible refine kp_fil ?_ ?_) | (with_reducible refine kp_cpy ?_ ?_) | rfl | fail)
  · have hlt : cn < 20 := by omega
    repeat' first
      | (simp only [cnb, nI_6m, nI_9m, nI_1, nI_k _ 2 2 rfl, nI_k _ 3 3 rfl, nI_k _ 4 4 rfl, nI_k _ 5 5 rfl, nI_k _ 6 6 rfl, nI_k _ 7 7 rfl, nI_k _ 8 8 rfl, m_ui_ap, m_fil_ap, m_cpy_ap, Nat.reduceEqDiff, Nat.reduceLT, Nat.reduceLeDiff, eq_self, ↓reduceIte, false_and, and_false, true_and, and_true, and_self])
      | ((with_reducible refine ⟨vp_in_nI (by omega) (by decide), ?_⟩) <;> conv => whnf)
      | (refine ⟨Or.inl rfl, ?_⟩ <;> conv => whnf)
      | (refine ⟨Or.inr rfl, ?_⟩ <;> conv => whnf)
      | (refine ⟨Or.inl True.intro, ?_⟩ <;> conv => whnf)
      | (refine ⟨Or.inr True.intro, ?_⟩ <;> conv => whnf)
      | (refine ⟨fun c => ?_, fun c => ?_⟩ <;> first | ((have c9 : (1 : Int32) = 0 := by with_reducible exact c); exact absurd c9 (by decide)) | exact absurd (rfl : (0 : Int32) = 0) (by with_reducible exact c) | exact absurd True.intro (by with_reducible exact c) | exact False.elim (by with_reducible exact c) | exact absurd ((nI_eq (b := 20) (by omega) (by decide)).mp c) hq | (conv => whnf))
      | (refine ct_mIsWork (by omega) hb hm (fun j hj e => ?_) (fun q => ?_) <;> (try subst e) <;> conv => whnf)
      | ((with_reducible refine ct_i_m30_30 (by omega) (fun p => ?_) (fun p => ?_)) <;> conv => whnf)
      | (refine ⟨by unfold vp_in; decide, ?_⟩ <;> conv => whnf)
      | fail
    all_goals exact H _ _ _ (by repeat' first | (with_reducible assumption) | (with_reducible refine XI_ui ?_ ?_) | (with_reducible refine XI_fil ?_ (fun _ => ?_)) | (with_reducible refine XI_cpy ?_ (fun _ _ => ?_)) | exact True.intro | ((show inr _ _ _); first | (with_reducible assumption) | ((with_reducible refine inr_n1 (m := 20) ?_ ?_ ?_) <;> first | omega | rfl | decide) | ((with_reducible refine inr_n (m := 20) ?_ ?_ ?_) <;> first | omega | rfl | decide) | ((with_reducible refine inr_n1 (m := 39) ?_ ?_ ?_) <;> first | omega | rfl | decide) | ((with_reducible refine inr_n (m := 39) ?_ ?_ ?_) <;> first | omega | rfl | decide) | (unfold inr; decide)) | fail) (by repeat' first | (with_reducible exact kp_refl _ _) | (with_reducible assumption) | (with_reducible refine kp_ui ?_ ?_) | (with_reducible refine kp_fil ?_ ?_) | (with_reducible refine kp_cpy ?_ ?_) | rfl | fail)
set_option maxRecDepth 100000 in
set_option maxHeartbeats 4000000 in
theorem sm_use {d L : Nat} {f : Nat → Nat → Int32} {g : Nat → Nat → Int64} {x1 x2 : Int32} {R : Option Value → mH → Prop} (hd : 8 ≤ d) (hX : XI f) (H : ∀ v f' g', XI f' → kp [10, 15, 22] f f' → R (some (.int v)) (shF L, f', g')) : Run mtab d 177 [.ref 181, .int x1, .int x2] (shF L, f, g) R := by
  obtain ⟨d, rfl⟩ : ∃ e, d = e + 1 := ⟨d - 1, by omega⟩
  refine go_X11_use rfl ?_
  conv => whnf
  obtain ⟨cn, cnm, cnb⟩ := inr_nat (n := 20) rfl (xi_181_16 hX)
  repeat' first
    | ((with_reducible refine ⟨vp_cnt ‹inr 0 (nI cn - 1) _› (by omega) (by decide), ?_⟩) <;> conv => whnf)
    | (simp only [cnb])
    | ((with_reducible refine ⟨vp_in_nI (by omega) (by decide), ?_⟩) <;> conv => whnf)
    | (refine ⟨Or.inl rfl, ?_⟩ <;> conv => whnf)
    | (refine ⟨Or.inr rfl, ?_⟩ <;> conv => whnf)
    | (refine ⟨Or.inl True.intro, ?_⟩ <;> conv => whnf)
    | (refine ⟨Or.inr True.intro, ?_⟩ <;> conv => whnf)
    | (refine ⟨fun c => ?_, fun c => ?_⟩ <;> first | ((have c9 : (1 : Int32) = 0 := by with_reducible exact c); exact absurd c9 (by decide)) | exact absurd (rfl : (0 : Int32) = 0) (by with_reducible exact c) | exact absurd True.intro (by with_reducible exact c) | exact False.elim (by with_reducible exact c) | (conv => whnf))
    | ((with_reducible refine ct_i_0_v (by omega) (fun p => ?_) (fun p => ?_)) <;> conv => whnf)
    | (refine ⟨by unfold vp_in; decide, ?_⟩ <;> conv => whnf)
    | fail
  all_goals exact H _ _ _ (by repeat' first | (with_reducible assumption) | (with_reducible refine XI_ui ?_ ?_) | (with_reducible refine XI_fil ?_ (fun _ => ?_)) | (with_reducible refine XI_cpy ?_ (fun _ _ => ?_)) | exact True.intro | ((show inr _ _ _); first | (with_reducible assumption) | (unfold inr; decide)) | fail) (by repeat' first | (with_reducible exact kp_refl _ _) | (with_reducible assumption) | (with_reducible refine kp_ui ?_ ?_) | (with_reducible refine kp_fil ?_ ?_) | (with_reducible refine kp_cpy ?_ ?_) | rfl | fail)
set_option maxRecDepth 100000 in
set_option maxHeartbeats 4000000 in
theorem sm_kin {d L : Nat} {f : Nat → Nat → Int32} {g : Nat → Nat → Int64} {x1 x2 : Int32} {R : Option Value → mH → Prop} (hd : 8 ≤ d) (hX : XI f) (H : ∀ v f' g', XI f' → kp [19] f f' → R (some (.int v)) (shF L, f', g')) : Run mtab d 214 [.ref 181, .int x1, .int x2] (shF L, f, g) R := by
  obtain ⟨d, rfl⟩ : ∃ e, d = e + 1 := ⟨d - 1, by omega⟩
  refine go_X11_kin rfl ?_
  conv => whnf
  repeat' first
    | ((with_reducible refine ⟨vpi ‹inr 0 7 _› (by decide), ?_⟩) <;> conv => whnf)
    | ((with_reducible refine ⟨vp_in_nI (by omega) (by decide), ?_⟩) <;> conv => whnf)
    | (refine ⟨Or.inl rfl, ?_⟩ <;> conv => whnf)
    | (refine ⟨Or.inr rfl, ?_⟩ <;> conv => whnf)
    | (refine ⟨Or.inl True.intro, ?_⟩ <;> conv => whnf)
    | (refine ⟨Or.inr True.intro, ?_⟩ <;> conv => whnf)
    | (refine ⟨fun c => ?_, fun c => ?_⟩ <;> first | ((have c9 : (1 : Int32) = 0 := by with_reducible exact c); exact absurd c9 (by decide)) | exact absurd (rfl : (0 : Int32) = 0) (by with_reducible exact c) | exact absurd True.intro (by with_reducible exact c) | exact False.elim (by with_reducible exact c) | (conv => whnf))
    | ((with_reducible refine ct_i_0_7 (by omega) (fun p => ?_) (fun p => ?_)) <;> conv => whnf)
    | ((with_reducible refine ct_i_0_1048575 (by omega) (fun p => ?_) (fun p => ?_)) <;> conv => whnf)
    | (refine ⟨by unfold vp_in; decide, ?_⟩ <;> conv => whnf)
    | fail
  all_goals exact H _ _ _ (by repeat' first | (with_reducible assumption) | (with_reducible refine XI_ui ?_ ?_) | (with_reducible refine XI_fil ?_ (fun _ => ?_)) | (with_reducible refine XI_cpy ?_ (fun _ _ => ?_)) | exact True.intro | ((show inr _ _ _); first | (with_reducible assumption) | (unfold inr; decide)) | fail) (by repeat' first | (with_reducible exact kp_refl _ _) | (with_reducible assumption) | (with_reducible refine kp_ui ?_ ?_) | (with_reducible refine kp_fil ?_ ?_) | (with_reducible refine kp_cpy ?_ ?_) | rfl | fail)
set_option maxRecDepth 100000 in
set_option maxHeartbeats 4000000 in
theorem sm_drop {d L : Nat} {f : Nat → Nat → Int32} {g : Nat → Nat → Int64} {x1 : Int32} {R : Option Value → mH → Prop} (hd : 8 ≤ d) (hX : XI f) (H : ∀ v f' g', XI f' → kp [18] f f' → R (some (.int v)) (shF L, f', g')) : Run mtab d 238 [.ref 181, .int x1] (shF L, f, g) R := by
  obtain ⟨d, rfl⟩ : ∃ e, d = e + 1 := ⟨d - 1, by omega⟩
  refine go_X11_drop rfl ?_
  conv => whnf
  repeat' first
    | ((with_reducible refine ⟨vpi ‹inr 0 3 _› (by decide), ?_⟩) <;> conv => whnf)
    | ((with_reducible refine ⟨vp_in_nI (by omega) (by decide), ?_⟩) <;> conv => whnf)
    | (refine ⟨Or.inl rfl, ?_⟩ <;> conv => whnf)
    | (refine ⟨Or.inr rfl, ?_⟩ <;> conv => whnf)
    | (refine ⟨Or.inl True.intro, ?_⟩ <;> conv => whnf)
    | (refine ⟨Or.inr True.intro, ?_⟩ <;> conv => whnf)
    | (refine ⟨fun c => ?_, fun c => ?_⟩ <;> first | ((have c9 : (1 : Int32) = 0 := by with_reducible exact c); exact absurd c9 (by decide)) | exact absurd (rfl : (0 : Int32) = 0) (by with_reducible exact c) | exact absurd True.intro (by with_reducible exact c) | exact False.elim (by with_reducible exact c) | (conv => whnf))
    | ((with_reducible refine ct_i_0_3 (by omega) (fun p => ?_) (fun p => ?_)) <;> conv => whnf)
    | (refine ⟨by unfold vp_in; decide, ?_⟩ <;> conv => whnf)
    | fail
  all_goals exact H _ _ _ (by repeat' first | (with_reducible assumption) | (with_reducible refine XI_ui ?_ ?_) | (with_reducible refine XI_fil ?_ (fun _ => ?_)) | (with_reducible refine XI_cpy ?_ (fun _ _ => ?_)) | exact True.intro | ((show inr _ _ _); first | (with_reducible assumption) | (unfold inr; decide)) | fail) (by repeat' first | (with_reducible exact kp_refl _ _) | (with_reducible assumption) | (with_reducible refine kp_ui ?_ ?_) | (with_reducible refine kp_fil ?_ ?_) | (with_reducible refine kp_cpy ?_ ?_) | rfl | fail)
theorem nI_60a (s t : Nat) : nI (60 * s) + nI t = nI (60 * s + t) := nI_add _ _
set_option maxRecDepth 100000 in
set_option maxHeartbeats 4000000 in
theorem sm_item {d L : Nat} {f : Nat → Nat → Int32} {g : Nat → Nat → Int64} {x1 x2 x3 x4 : Int32} {R : Option Value → mH → Prop} (hd : 8 ≤ d) (hX : XI f) (H : ∀ v f' g', XI f' → kp [18] f f' → R (some (.int v)) (shF L, f', g')) : Run mtab d 239 [.ref 181, .int x1, .int x2, .int x3, .int x4] (shF L, f, g) R := by
  obtain ⟨d, rfl⟩ : ∃ e, d = e + 1 := ⟨d - 1, by omega⟩
  refine go_X11_item rfl ?_
  conv => whnf
  refine ct_mIsSheet (by omega) (fun pp => ?_) (fun pp => ?_)
  · obtain ⟨s, hs, rfl⟩ := inr_nat (n := 3) rfl pp.1
    have hcl : (nI s).toNatClampNeg = s := nI_clamp (by omega)
    conv => whnf
    refine ⟨fun _ => ?_, fun c => absurd c (by decide)⟩
    conv => whnf
    obtain ⟨z, hz, hzb⟩ := inr_nat (n := 60) rfl (xi_225 hX s)
    have ez : f 225 (nI s).toNatClampNeg = nI z := by rw [hcl, hzb]
    repeat' first
      | (simp only [ez, nI_60m, nI_60a])
      | ((with_reducible refine ⟨vp_in_nI (by omega) (by decide), ?_⟩) <;> conv => whnf)
      | (refine ⟨Or.inl rfl, ?_⟩ <;> conv => whnf)
      | (refine ⟨Or.inr rfl, ?_⟩ <;> conv => whnf)
      | (refine ⟨Or.inl True.intro, ?_⟩ <;> conv => whnf)
      | (refine ⟨Or.inr True.intro, ?_⟩ <;> conv => whnf)
      | (refine ⟨fun c => ?_, fun c => ?_⟩ <;> first | ((have c9 : (1 : Int32) = 0 := by with_reducible exact c); exact absurd c9 (by decide)) | exact absurd (rfl : (0 : Int32) = 0) (by with_reducible exact c) | exact absurd True.intro (by with_reducible exact c) | exact False.elim (by with_reducible exact c) | (conv => whnf))
      | ((with_reducible refine ct_i_0_v (by omega) (fun p => ?_) (fun p => ?_)) <;> first | ((obtain ⟨t, ht, e⟩ := inr_cnt (by omega) p); (subst e); conv => whnf) | conv => whnf)
      | (refine ⟨by unfold vp_in; decide, ?_⟩ <;> conv => whnf)
      | fail
    all_goals exact H _ _ _ (by repeat' first | (with_reducible assumption) | (with_reducible refine XI_ui ?_ ?_) | (with_reducible refine XI_fil ?_ (fun _ => ?_)) | (with_reducible refine XI_cpy ?_ (fun _ _ => ?_)) | exact True.intro | ((show inr _ _ _); first | (with_reducible assumption) | (unfold inr; decide)) | fail) (by repeat' first | (with_reducible exact kp_refl _ _) | (with_reducible assumption) | (with_reducible refine kp_ui ?_ ?_) | (with_reducible refine kp_fil ?_ ?_) | (with_reducible refine kp_cpy ?_ ?_) | rfl | fail)
  · conv => whnf
    refine ⟨fun c => absurd (by decide) c, fun _ => ?_⟩
    conv => whnf
    exact H _ _ _ hX (kp_refl _ _)
set_option maxRecDepth 100000 in
set_option maxHeartbeats 4000000 in
theorem sm_sht_lp {d L : Nat} {f0 : Nat → Nat → Int32} {s : Nat} {w y : Int32} {R : Option Value → mH → Prop} (hd : 1 ≤ d) (hs : s ≤ 3) (H : ∀ v f' g', XI f' → fx 224 227 f0 f' → R (some (.int v)) (shF L, f', g'))  :
    ∀ (k i : Nat) (x : Int32) (f : Nat → Nat → Int32) (g : Nat → Nat → Int64), i + k = 60 → x = nI i → XI f → fx 224 227 f0 f → WPe pg_X11_sheet none (Run mtab d) R (m_drop pg_X11_sheet 25) [some (.ref 181), some (.int (nI s)), some (.int w), some (.int y), some (.int x)] [] (shF L, f, g)
  | 0, i, x, f, g, he, hx, hX, hF => by
    have e : i = 60 := by omega
    subst hx
    subst e
    refine at_X11_sheet ?_
    conv => whnf
    try simp only [nI_60m, nI_60a]
    refine ⟨fun c => ?_, fun c => absurd (by decide) c⟩
    conv => whnf
    repeat' first
      | (simp only [nI_60m, nI_60a])
      | ((with_reducible refine ⟨vp_in_nI (by omega) (by decide), ?_⟩) <;> conv => whnf)
      | (refine ⟨Or.inl rfl, ?_⟩ <;> conv => whnf)
      | (refine ⟨Or.inr rfl, ?_⟩ <;> conv => whnf)
      | (refine ⟨Or.inl True.intro, ?_⟩ <;> conv => whnf)
      | (refine ⟨Or.inr True.intro, ?_⟩ <;> conv => whnf)
      | (refine ⟨fun c => ?_, fun c => ?_⟩ <;> first | ((have c9 : (1 : Int32) = 0 := by with_reducible exact c); exact absurd c9 (by decide)) | exact absurd (rfl : (0 : Int32) = 0) (by with_reducible exact c) | exact absurd True.intro (by with_reducible exact c) | exact False.elim (by with_reducible exact c) | (conv => whnf))
      | (refine ⟨by unfold vp_in; decide, ?_⟩ <;> conv => whnf)
      | fail
    all_goals exact H _ _ _ hX hF
  | k + 1, i, x, f, g, he, hx, hX, hF => by
    subst hx
    refine at_X11_sheet ?_
    conv => whnf
    try simp only [nI_60m, nI_60a]
    refine ⟨fun c => absurd c (nI_ge (b := 60) (by omega) (by omega)), fun c => ?_⟩
    conv => whnf
    repeat' first
      | exact sm_sht_lp hd hs H k (i + 1) _  _ _ (by omega) (nI_1 i) (by repeat' first | (with_reducible assumption) | (with_reducible refine XI_ui ?_ ?_) | (with_reducible refine XI_fil ?_ (fun _ => ?_)) | (with_reducible refine XI_cpy ?_ (fun _ _ => ?_)) | exact True.intro | ((show inr _ _ _); first | (with_reducible assumption) | (unfold inr; decide)) | fail) (by repeat' first | (with_reducible exact fx_refl _ _ _) | (with_reducible assumption) | (with_reducible refine fx_ui ?_ ?_ ?_) | (with_reducible refine fx_fil ?_ ?_ ?_) | (with_reducible refine fx_cpy ?_ ?_ ?_) | omega | decide | fail)
      | (simp only [nI_60m, nI_60a])
      | ((with_reducible refine ⟨vp_in_nI (by omega) (by decide), ?_⟩) <;> conv => whnf)
      | (refine ⟨Or.inl rfl, ?_⟩ <;> conv => whnf)
      | (refine ⟨Or.inr rfl, ?_⟩ <;> conv => whnf)
      | (refine ⟨Or.inl True.intro, ?_⟩ <;> conv => whnf)
      | (refine ⟨Or.inr True.intro, ?_⟩ <;> conv => whnf)
      | (refine ⟨fun c => ?_, fun c => ?_⟩ <;> first | ((have c9 : (1 : Int32) = 0 := by with_reducible exact c); exact absurd c9 (by decide)) | exact absurd (rfl : (0 : Int32) = 0) (by with_reducible exact c) | exact absurd True.intro (by with_reducible exact c) | exact False.elim (by with_reducible exact c) | (conv => whnf))
      | (refine ⟨by unfold vp_in; decide, ?_⟩ <;> conv => whnf)
      | fail
    all_goals exact H _ _ _ hX hF
theorem inr_60 {w : Int32} (h1 : ¬ 60 < w) (h2 : ¬ w < 0) : inr 0 60 w := ⟨i32_nlt.mp h2, i32_nlt.mp h1⟩
set_option maxRecDepth 100000 in
set_option maxHeartbeats 4000000 in
theorem sm_sheet {d L : Nat} {f : Nat → Nat → Int32} {g : Nat → Nat → Int64} {x1 x2 x3 : Int32} {R : Option Value → mH → Prop} (hd : 8 ≤ d) (hX : XI f) (H : ∀ v f' g', XI f' → kp [18] f f' → R (some (.int v)) (shF L, f', g')) : Run mtab d 237 [.ref 181, .int x1, .int x2, .int x3] (shF L, f, g) R := by
  obtain ⟨d, rfl⟩ : ∃ e, d = e + 1 := ⟨d - 1, by omega⟩
  refine go_X11_sheet rfl ?_
  conv => whnf
  refine ct_mIsSheet (by omega) (fun pp => ?_) (fun pp => ?_)
  · obtain ⟨s, hs, rfl⟩ := inr_nat (n := 3) rfl pp.1
    have hcl : (nI s).toNatClampNeg = s := nI_clamp (by omega)
    conv => whnf
    refine ⟨fun c => absurd c (by decide), fun _ => ?_⟩
    conv => whnf
    by_cases q1 : 60 < x3
    · repeat' first
        | ((with_reducible refine ⟨vp_in_nI (by omega) (by decide), ?_⟩) <;> conv => whnf)
        | (refine ⟨Or.inl rfl, ?_⟩ <;> conv => whnf)
        | (refine ⟨Or.inr rfl, ?_⟩ <;> conv => whnf)
        | (refine ⟨Or.inl True.intro, ?_⟩ <;> conv => whnf)
        | (refine ⟨Or.inr True.intro, ?_⟩ <;> conv => whnf)
        | (refine ⟨fun c => ?_, fun c => ?_⟩ <;> first | ((have c9 : (1 : Int32) = 0 := by with_reducible exact c); exact absurd c9 (by decide)) | exact absurd (rfl : (0 : Int32) = 0) (by with_reducible exact c) | exact absurd True.intro (by with_reducible exact c) | exact False.elim (by with_reducible exact c) | exact absurd q1 (i32_nlt.mpr (by with_reducible exact c)) | exact absurd (by with_reducible exact c) (i32_nle.mpr q1) | (conv => whnf))
        | (refine ⟨by unfold vp_in; decide, ?_⟩ <;> conv => whnf)
        | fail
      all_goals exact H _ _ _ hX (kp_refl _ _)
    · by_cases q2 : x3 < 0
      · repeat' first
          | ((with_reducible refine ⟨vp_in_nI (by omega) (by decide), ?_⟩) <;> conv => whnf)
          | (refine ⟨Or.inl rfl, ?_⟩ <;> conv => whnf)
          | (refine ⟨Or.inr rfl, ?_⟩ <;> conv => whnf)
          | (refine ⟨Or.inl True.intro, ?_⟩ <;> conv => whnf)
          | (refine ⟨Or.inr True.intro, ?_⟩ <;> conv => whnf)
          | (refine ⟨fun c => ?_, fun c => ?_⟩ <;> first | ((have c9 : (1 : Int32) = 0 := by with_reducible exact c); exact absurd c9 (by decide)) | exact absurd (rfl : (0 : Int32) = 0) (by with_reducible exact c) | exact absurd True.intro (by with_reducible exact c) | exact False.elim (by with_reducible exact c) | exact absurd q2 (i32_nlt.mpr (by with_reducible exact c)) | exact absurd (by with_reducible exact c) (i32_nle.mpr q2) | (conv => whnf))
          | (refine ⟨by unfold vp_in; decide, ?_⟩ <;> conv => whnf)
          | fail
        all_goals exact H _ _ _ hX (kp_refl _ _)
      · repeat' first
          | exact sm_sht_lp (f0 := f) (by omega) hs (fun v f' g' a b => H v f' g' a (kp_fx b rfl)) 60 0 _ _ _ (by omega) rfl (XI_ui (XI_ui hX True.intro) (show inr 0 60 _ from inr_60 q1 q2)) (fx_ui (by decide) (by decide) (fx_ui (by decide) (by decide) (fx_refl _ _ _)))
          | ((with_reducible refine ⟨vp_in_nI (by omega) (by decide), ?_⟩) <;> conv => whnf)
          | (refine ⟨Or.inl rfl, ?_⟩ <;> conv => whnf)
          | (refine ⟨Or.inr rfl, ?_⟩ <;> conv => whnf)
          | (refine ⟨Or.inl True.intro, ?_⟩ <;> conv => whnf)
          | (refine ⟨Or.inr True.intro, ?_⟩ <;> conv => whnf)
          | (refine ⟨fun c => ?_, fun c => ?_⟩ <;> first | ((have c9 : (1 : Int32) = 0 := by with_reducible exact c); exact absurd c9 (by decide)) | exact absurd (rfl : (0 : Int32) = 0) (by with_reducible exact c) | exact absurd True.intro (by with_reducible exact c) | exact False.elim (by with_reducible exact c) | (conv => whnf))
          | (refine ⟨by unfold vp_in; decide, ?_⟩ <;> conv => whnf)
          | fail
        all_goals exact H _ _ _ hX (kp_refl _ _)
  · conv => whnf
    refine ⟨fun _ => ?_, fun c => absurd (by decide) c⟩
    conv => whnf
    exact H _ _ _ hX (kp_refl _ _)
def meA (x1 x2 x3 : Int32) : Prop := inr 0 2 x1 ∧ inr 0 15 x2 ∧ inr 1800 1999 x3
def meB (x4 x5 : Int32) : Prop := (x4 = 0 ∧ x5 = 0) ∨ (inr 1 6000 x4 ∧ inr 1 6000 x5)
def meC (x6 x8 x9 : Int32) : Prop := inr 0 1 x6 ∧ inr 0 1073741823 x8 ∧ inr (-1) 19 x9
def bo (p : Prop) (a : Int32) : Prop := (p ∧ a = 1) ∨ (¬ p ∧ a = 0)
def mentw (x1 x2 x3 x4 x5 x6 x7 x8 x9 : Int32) : Prop := meA x1 x2 x3 ∧ meB x4 x5 ∧ meC x6 x8 x9
def fr (x : Int32) : Int32 := if x = 0 then 0 else 1
def nadd0 (f : Nat → Nat → Int32) (h : Nat) (x1 x2 x3 x4 x5 x6 x7 x8 x9 : Int32) : Nat → Nat → Int32 := (m_ui (m_ui (m_ui (m_ui (m_ui (m_ui f 140 h x1) 141 h x2) 142 h x3) 147 h x8) 148 h x9) 139 13 (nI h + 1))
def nadd (f : Nat → Nat → Int32) (h : Nat) (x1 x2 x3 x4 x5 x6 x7 x8 x9 : Int32) : Nat → Nat → Int32 := (m_ui (m_ui (m_ui (m_ui (nadd0 f h x1 x2 x3 x4 x5 x6 x7 x8 x9) 143 h x4) 144 h x5) 145 h x6) 146 h (vp_nar .boolean x7))
def mnadd (f : Nat → Nat → Int32) (h : Nat) (x1 x2 x3 x4 x5 x6 x7 x8 x9 : Int32) : Nat → Nat → Int32 := (m_ui (m_ui (m_ui (m_ui (m_ui (m_ui (m_ui (m_ui (m_ui (m_ui (m_ui f 203 (9 * h) x1) 203 (9 * h + 1) x2) 203 (9 * h + 2) x3) 203 (9 * h + 3) x4) 203 (9 * h + 4) x5) 203 (9 * h + 5) x6) 203 (9 * h + 6) (fr x7)) 203 (9 * h + 7) x8) 203 (9 * h + 8) x9) 181 27 (nI (h + 1))) 181 29 0)
def SX_mention (h : Nat) (f f1 : Nat → Nat → Int32) (x1 x2 x3 x4 x5 x6 x7 x8 x9 v : Int32) : Prop := (¬ mentw x1 x2 x3 x4 x5 x6 x7 x8 x9 ∧ v = -1 ∧ f1 = f) ∨ (mentw x1 x2 x3 x4 x5 x6 x7 x8 x9 ∧ ((h = 50 ∧ v = -3 ∧ f1 = f) ∨ (h < 50 ∧ v = nI h ∧ f1 = nadd f h x1 x2 x3 x4 x5 x6 x7 x8 x9)))
def SM_mention (h : Nat) (f f1 : Nat → Nat → Int32) (x1 x2 x3 x4 x5 x6 x7 x8 x9 v : Int32) : Prop := (¬ mentw x1 x2 x3 x4 x5 x6 x7 x8 x9 ∧ v = -1 ∧ f1 = f) ∨ (mentw x1 x2 x3 x4 x5 x6 x7 x8 x9 ∧ ((h = 50 ∧ v = -3 ∧ f1 = f) ∨ (h < 50 ∧ v = nI h ∧ f1 = mnadd f h x1 x2 x3 x4 x5 x6 x7 x8 x9)))
def RN (f : Nat → Nat → Int32) (k : Nat) : Prop := f 140 k = f 203 (9 * k) ∧ f 141 k = f 203 (9 * k + 1) ∧ f 142 k = f 203 (9 * k + 2) ∧ f 143 k = f 203 (9 * k + 3) ∧ f 144 k = f 203 (9 * k + 4) ∧ f 145 k = f 203 (9 * k + 5) ∧ f 146 k = f 203 (9 * k + 6) ∧ f 147 k = f 203 (9 * k + 7) ∧ f 148 k = f 203 (9 * k + 8) ∧ mentw (f 140 k) (f 141 k) (f 142 k) (f 143 k) (f 144 k) (f 145 k) (f 146 k) (f 147 k) (f 148 k) ∧ (f 146 k = 0 ∨ f 146 k = 1)
/-- both objects have the same mentions -/
def RM (m : Nat) (f : Nat → Nat → Int32) : Prop := m ≤ 50 ∧ f 139 13 = nI m ∧ f 181 27 = nI m ∧ ∀ k, k < m → RN f k
set_option maxRecDepth 100000 in
set_option maxHeartbeats 4000000 in
theorem sf_Madd {d L : Nat} {f : Nat → Nat → Int32} {g : Nat → Nat → Int64} {h : Nat} {x1 x2 x3 x4 x5 x6 x7 x8 x9 : Int32} {R : Option Value → mH → Prop} (hd : 1 ≤ d) (hb : f 139 13 = nI h) (hm : h ≤ 50) (HF : h = 50 → R (some (.int (-3))) (shF L, f, g)) (H : h < 50 → R (some (.int (nI h))) (shF L, nadd0 f h x1 x2 x3 x4 x5 x6 x7 x8 x9, g)) : Run mtab d 35 [.ref 139, .int x1, .int x2, .int x3, .int x8, .int x9] (shF L, f, g) R := by
  obtain ⟨d, rfl⟩ : ∃ e, d = e + 1 := ⟨d - 1, by omega⟩
  refine go_X4_add rfl ?_
  conv => whnf
  by_cases hq : h = 50
  · subst hq
    repeat' first
      | (simp only [hb])
      | ((with_reducible refine ⟨vp_in_nI (by omega) (by decide), ?_⟩) <;> conv => whnf)
      | (refine ⟨Or.inl rfl, ?_⟩ <;> conv => whnf)
      | (refine ⟨Or.inr rfl, ?_⟩ <;> conv => whnf)
      | (refine ⟨Or.inl True.intro, ?_⟩ <;> conv => whnf)
      | (refine ⟨Or.inr True.intro, ?_⟩ <;> conv => whnf)
      | (refine ⟨fun c => ?_, fun c => ?_⟩ <;> first | ((have c9 : (1 : Int32) = 0 := by with_reducible exact c); exact absurd c9 (by decide)) | exact absurd (rfl : (0 : Int32) = 0) (by with_reducible exact c) | exact absurd True.intro (by with_reducible exact c) | exact False.elim (by with_reducible exact c) | exact absurd (by decide) c | (conv => whnf))
      | (refine ⟨by unfold vp_in; decide, ?_⟩ <;> conv => whnf)
      | fail
    all_goals exact HF rfl
  · have hlt : h < 50 := by omega
    have hcl : (nI h).toNatClampNeg = h := nI_clamp (by omega)
    repeat' first
      | (simp only [hb, m_ui_ap, m_fil_ap, m_cpy_ap, Nat.reduceEqDiff, Nat.reduceLT, Nat.reduceLeDiff, eq_self, ↓reduceIte, false_and, and_false, true_and, and_true, and_self])
      | ((with_reducible refine ⟨vp_in_nI (by omega) (by decide), ?_⟩) <;> conv => whnf)
      | (refine ⟨Or.inl rfl, ?_⟩ <;> conv => whnf)
      | (refine ⟨Or.inr rfl, ?_⟩ <;> conv => whnf)
      | (refine ⟨Or.inl True.intro, ?_⟩ <;> conv => whnf)
      | (refine ⟨Or.inr True.intro, ?_⟩ <;> conv => whnf)
      | (refine ⟨fun c => ?_, fun c => ?_⟩ <;> first | ((have c9 : (1 : Int32) = 0 := by with_reducible exact c); exact absurd c9 (by decide)) | exact absurd (rfl : (0 : Int32) = 0) (by with_reducible exact c) | exact absurd True.intro (by with_reducible exact c) | exact False.elim (by with_reducible exact c) | exact absurd ((nI_eq (b := 50) (by omega) (by decide)).mp c) hq | (conv => whnf))
      | (refine ⟨by unfold vp_in; decide, ?_⟩ <;> conv => whnf)
      | fail
    all_goals (simp only [hcl]; exact H hlt)
set_option maxRecDepth 100000 in
set_option maxHeartbeats 4000000 in
theorem sf_measure {d L : Nat} {f : Nat → Nat → Int32} {g : Nat → Nat → Int64} {j : Nat} {x4 x5 x6 x7 : Int32} {R : Option Value → mH → Prop} (hd : 1 ≤ d) (hj : j < 50) (H : R none (shF L, (m_ui (m_ui (m_ui (m_ui f 143 j x4) 144 j x5) 145 j x6) 146 j (vp_nar .boolean x7)), g)) : Run mtab d 36 [.ref 139, .int (nI j), .int x4, .int x5, .int x6, .int x7] (shF L, f, g) R := by
  obtain ⟨d, rfl⟩ : ∃ e, d = e + 1 := ⟨d - 1, by omega⟩
  refine go_X4_measure rfl ?_
  conv => whnf
  have hcl : (nI j).toNatClampNeg = j := nI_clamp (by omega)
  refine ⟨vp_in_nI (by omega) (by decide), ?_⟩
  conv => whnf
  refine ⟨vp_in_nI (by omega) (by decide), ?_⟩
  conv => whnf
  refine ⟨vp_in_nI (by omega) (by decide), ?_⟩
  conv => whnf
  refine ⟨vp_in_nI (by omega) (by decide), ?_⟩
  conv => whnf
  simp only [hcl]
  exact H
set_option maxRecDepth 100000 in
set_option maxHeartbeats 4000000 in
theorem mn_53 {d L h : Nat} {f : Nat → Nat → Int32} {g : Nat → Nat → Int64} {x1 x2 x3 x4 x5 x6 x7 x8 x9 a b e : Int32} {s13 : Option Value} {R : Option Value → mH → Prop} (hd : 3 ≤ d) (hb : f 139 13 = nI h) (hm : h ≤ 50) (H : ∀ v f1, SX_mention h f f1 x1 x2 x3 x4 x5 x6 x7 x8 x9 v → R (some (.int v)) (shF L, f1, g)) (ha : bo (meA x1 x2 x3) a) (hq : bo (meB x4 x5) b) (he : bo (meC x6 x8 x9) e) : WPe pg_X10_mention none (Run mtab d) R (m_drop pg_X10_mention 53) [some (.ref 5), some (.int x1), some (.int x2), some (.int x3), some (.int x4), some (.int x5), some (.int x6), some (.int x7), some (.int x8), some (.int x9), some (.int a), some (.int b), some (.int e), s13] [] (shF L, f, g) := by
  refine at_X10_mention ?_
  conv => whnf
  rcases ha with ⟨pa, rfl⟩ | ⟨pa, rfl⟩
  · (refine ⟨fun c => ?_, fun c => ?_⟩ <;> first | ((have c9 : (1 : Int32) = 0 := by with_reducible exact c); exact absurd c9 (by decide)) | exact absurd (rfl : (0 : Int32) = 0) (by with_reducible exact c) | exact absurd True.intro (by with_reducible exact c) | exact False.elim (by with_reducible exact c) | (conv => whnf))
    rcases hq with ⟨pb, rfl⟩ | ⟨pb, rfl⟩
    · (refine ⟨fun c => ?_, fun c => ?_⟩ <;> first | ((have c9 : (1 : Int32) = 0 := by with_reducible exact c); exact absurd c9 (by decide)) | exact absurd (rfl : (0 : Int32) = 0) (by with_reducible exact c) | exact absurd True.intro (by with_reducible exact c) | exact False.elim (by with_reducible exact c) | (conv => whnf))
      rcases he with ⟨pc, rfl⟩ | ⟨pc, rfl⟩
      · (refine ⟨fun c => ?_, fun c => ?_⟩ <;> first | ((have c9 : (1 : Int32) = 0 := by with_reducible exact c); exact absurd c9 (by decide)) | exact absurd (rfl : (0 : Int32) = 0) (by with_reducible exact c) | exact absurd True.intro (by with_reducible exact c) | exact False.elim (by with_reducible exact c) | (conv => whnf))
        refine sf_Madd (x4 := x4) (x5 := x5) (x6 := x6) (x7 := x7) (by omega) hb hm (fun q => ?_) (fun q => ?_)
        · conv => whnf
          refine ⟨fun _ => ?_, fun c => absurd (by decide) c⟩
          conv => whnf
          exact H _ _ (Or.inr ⟨⟨pa, pb, pc⟩, Or.inl ⟨q, rfl, rfl⟩⟩)
        · conv => whnf
          refine ⟨fun c => absurd c (nI_pos (by omega)), fun _ => ?_⟩
          conv => whnf
          refine sf_measure (by omega) (by omega) ?_
          conv => whnf
          exact H _ _ (Or.inr ⟨⟨pa, pb, pc⟩, Or.inr ⟨q, rfl, rfl⟩⟩)
      · (refine ⟨fun c => ?_, fun c => ?_⟩ <;> first | ((have c9 : (1 : Int32) = 0 := by with_reducible exact c); exact absurd c9 (by decide)) | exact absurd (rfl : (0 : Int32) = 0) (by with_reducible exact c) | exact absurd True.intro (by with_reducible exact c) | exact False.elim (by with_reducible exact c) | (conv => whnf))
        exact H _ _ (Or.inl ⟨fun hh => pc hh.2.2, rfl, rfl⟩)
    · (refine ⟨fun c => ?_, fun c => ?_⟩ <;> first | ((have c9 : (1 : Int32) = 0 := by with_reducible exact c); exact absurd c9 (by decide)) | exact absurd (rfl : (0 : Int32) = 0) (by with_reducible exact c) | exact absurd True.intro (by with_reducible exact c) | exact False.elim (by with_reducible exact c) | (conv => whnf))
      exact H _ _ (Or.inl ⟨fun hh => pb hh.2.1, rfl, rfl⟩)
  · (refine ⟨fun c => ?_, fun c => ?_⟩ <;> first | ((have c9 : (1 : Int32) = 0 := by with_reducible exact c); exact absurd c9 (by decide)) | exact absurd (rfl : (0 : Int32) = 0) (by with_reducible exact c) | exact absurd True.intro (by with_reducible exact c) | exact False.elim (by with_reducible exact c) | (conv => whnf))
    exact H _ _ (Or.inl ⟨fun hh => pa hh.1, rfl, rfl⟩)
set_option maxRecDepth 100000 in
set_option maxHeartbeats 4000000 in
theorem mn_35 {d L h : Nat} {f : Nat → Nat → Int32} {g : Nat → Nat → Int64} {x1 x2 x3 x4 x5 x6 x7 x8 x9 a b : Int32} {s13 : Option Value} {R : Option Value → mH → Prop} (hd : 3 ≤ d) (hb : f 139 13 = nI h) (hm : h ≤ 50) (H : ∀ v f1, SX_mention h f f1 x1 x2 x3 x4 x5 x6 x7 x8 x9 v → R (some (.int v)) (shF L, f1, g)) (ha : bo (meA x1 x2 x3) a) (hq : bo (meB x4 x5) b) : WPe pg_X10_mention none (Run mtab d) R (m_drop pg_X10_mention 35) [some (.ref 5), some (.int x1), some (.int x2), some (.int x3), some (.int x4), some (.int x5), some (.int x6), some (.int x7), some (.int x8), some (.int x9), some (.int a), some (.int b), none, s13] [] (shF L, f, g) := by
  refine at_X10_mention ?_
  conv => whnf
  refine ct_isWithin (by omega) (fun p6 => ?_) (fun p6 => ?_)
  · conv => whnf
    (refine ⟨fun c => ?_, fun c => ?_⟩ <;> first | ((have c9 : (1 : Int32) = 0 := by with_reducible exact c); exact absurd c9 (by decide)) | exact absurd (rfl : (0 : Int32) = 0) (by with_reducible exact c) | exact absurd True.intro (by with_reducible exact c) | exact False.elim (by with_reducible exact c) | (conv => whnf))
    refine ct_isBits30 (by omega) (fun p8 => ?_) (fun p8 => ?_)
    · conv => whnf
      (refine ⟨fun c => ?_, fun c => ?_⟩ <;> first | ((have c9 : (1 : Int32) = 0 := by with_reducible exact c); exact absurd c9 (by decide)) | exact absurd (rfl : (0 : Int32) = 0) (by with_reducible exact c) | exact absurd True.intro (by with_reducible exact c) | exact False.elim (by with_reducible exact c) | (conv => whnf))
      refine ct_isWithin (by omega) (fun p9 => ?_) (fun p9 => ?_)
      · conv => whnf
        (refine ⟨fun c => ?_, fun c => ?_⟩ <;> first | ((have c9 : (1 : Int32) = 0 := by with_reducible exact c); exact absurd c9 (by decide)) | exact absurd (rfl : (0 : Int32) = 0) (by with_reducible exact c) | exact absurd True.intro (by with_reducible exact c) | exact False.elim (by with_reducible exact c) | (conv => whnf))
        exact mn_53 hd hb hm H ha hq (Or.inl ⟨⟨p6, p8, p9⟩, rfl⟩)
      · conv => whnf
        (refine ⟨fun c => ?_, fun c => ?_⟩ <;> first | ((have c9 : (1 : Int32) = 0 := by with_reducible exact c); exact absurd c9 (by decide)) | exact absurd (rfl : (0 : Int32) = 0) (by with_reducible exact c) | exact absurd True.intro (by with_reducible exact c) | exact False.elim (by with_reducible exact c) | (conv => whnf))
        exact mn_53 hd hb hm H ha hq (Or.inr ⟨fun hh => p9 hh.2.2, rfl⟩)
    · conv => whnf
      (refine ⟨fun c => ?_, fun c => ?_⟩ <;> first | ((have c9 : (1 : Int32) = 0 := by with_reducible exact c); exact absurd c9 (by decide)) | exact absurd (rfl : (0 : Int32) = 0) (by with_reducible exact c) | exact absurd True.intro (by with_reducible exact c) | exact False.elim (by with_reducible exact c) | (conv => whnf))
      exact mn_53 hd hb hm H ha hq (Or.inr ⟨fun hh => p8 hh.2.1, rfl⟩)
  · conv => whnf
    (refine ⟨fun c => ?_, fun c => ?_⟩ <;> first | ((have c9 : (1 : Int32) = 0 := by with_reducible exact c); exact absurd c9 (by decide)) | exact absurd (rfl : (0 : Int32) = 0) (by with_reducible exact c) | exact absurd True.intro (by with_reducible exact c) | exact False.elim (by with_reducible exact c) | (conv => whnf))
    exact mn_53 hd hb hm H ha hq (Or.inr ⟨fun hh => p6 hh.1, rfl⟩)
set_option maxRecDepth 100000 in
set_option maxHeartbeats 4000000 in
theorem mn_17 {d L h : Nat} {f : Nat → Nat → Int32} {g : Nat → Nat → Int64} {x1 x2 x3 x4 x5 x6 x7 x8 x9 a : Int32} {s13 : Option Value} {R : Option Value → mH → Prop} (hd : 3 ≤ d) (hb : f 139 13 = nI h) (hm : h ≤ 50) (H : ∀ v f1, SX_mention h f f1 x1 x2 x3 x4 x5 x6 x7 x8 x9 v → R (some (.int v)) (shF L, f1, g)) (ha : bo (meA x1 x2 x3) a) : WPe pg_X10_mention none (Run mtab d) R (m_drop pg_X10_mention 17) [some (.ref 5), some (.int x1), some (.int x2), some (.int x3), some (.int x4), some (.int x5), some (.int x6), some (.int x7), some (.int x8), some (.int x9), some (.int a), none, none, s13] [] (shF L, f, g) := by
  refine at_X10_mention ?_
  conv => whnf
  refine ⟨fun c4 => ?_, fun c4 => ?_⟩
  · conv => whnf
    have nz : ¬ (x4 = 0 ∧ x5 = 0) := fun z => c4 z.1
    refine ct_isWithin (by omega) (fun p4 => ?_) (fun p4 => ?_)
    · conv => whnf
      (refine ⟨fun c => ?_, fun c => ?_⟩ <;> first | ((have c9 : (1 : Int32) = 0 := by with_reducible exact c); exact absurd c9 (by decide)) | exact absurd (rfl : (0 : Int32) = 0) (by with_reducible exact c) | exact absurd True.intro (by with_reducible exact c) | exact False.elim (by with_reducible exact c) | (conv => whnf))
      refine ct_isWithin (by omega) (fun p5 => ?_) (fun p5 => ?_)
      · conv => whnf
        (refine ⟨fun c => ?_, fun c => ?_⟩ <;> first | ((have c9 : (1 : Int32) = 0 := by with_reducible exact c); exact absurd c9 (by decide)) | exact absurd (rfl : (0 : Int32) = 0) (by with_reducible exact c) | exact absurd True.intro (by with_reducible exact c) | exact False.elim (by with_reducible exact c) | (conv => whnf))
        exact mn_35 hd hb hm H ha (Or.inl ⟨Or.inr ⟨p4, p5⟩, rfl⟩)
      · conv => whnf
        (refine ⟨fun c => ?_, fun c => ?_⟩ <;> first | ((have c9 : (1 : Int32) = 0 := by with_reducible exact c); exact absurd c9 (by decide)) | exact absurd (rfl : (0 : Int32) = 0) (by with_reducible exact c) | exact absurd True.intro (by with_reducible exact c) | exact False.elim (by with_reducible exact c) | (conv => whnf))
        exact mn_35 hd hb hm H ha (Or.inr ⟨fun hh => hh.elim (fun z => nz z) (fun z => p5 z.2), rfl⟩)
    · conv => whnf
      (refine ⟨fun c => ?_, fun c => ?_⟩ <;> first | ((have c9 : (1 : Int32) = 0 := by with_reducible exact c); exact absurd c9 (by decide)) | exact absurd (rfl : (0 : Int32) = 0) (by with_reducible exact c) | exact absurd True.intro (by with_reducible exact c) | exact False.elim (by with_reducible exact c) | (conv => whnf))
      exact mn_35 hd hb hm H ha (Or.inr ⟨fun hh => hh.elim (fun z => nz z) (fun z => p4 z.1), rfl⟩)
  · conv => whnf
    refine ⟨fun c5 => ?_, fun c5 => ?_⟩
    · conv => whnf
      exact mn_35 hd hb hm H ha (Or.inl ⟨Or.inl ⟨c4, c5⟩, rfl⟩)
    · conv => whnf
      have nz : ¬ (x4 = 0 ∧ x5 = 0) := fun z => c5 z.2
      refine ct_isWithin (by omega) (fun p4 => ?_) (fun p4 => ?_)
      · conv => whnf
        (refine ⟨fun c => ?_, fun c => ?_⟩ <;> first | ((have c9 : (1 : Int32) = 0 := by with_reducible exact c); exact absurd c9 (by decide)) | exact absurd (rfl : (0 : Int32) = 0) (by with_reducible exact c) | exact absurd True.intro (by with_reducible exact c) | exact False.elim (by with_reducible exact c) | (conv => whnf))
        refine ct_isWithin (by omega) (fun p5 => ?_) (fun p5 => ?_)
        · conv => whnf
          (refine ⟨fun c => ?_, fun c => ?_⟩ <;> first | ((have c9 : (1 : Int32) = 0 := by with_reducible exact c); exact absurd c9 (by decide)) | exact absurd (rfl : (0 : Int32) = 0) (by with_reducible exact c) | exact absurd True.intro (by with_reducible exact c) | exact False.elim (by with_reducible exact c) | (conv => whnf))
          exact mn_35 hd hb hm H ha (Or.inl ⟨Or.inr ⟨p4, p5⟩, rfl⟩)
        · conv => whnf
          (refine ⟨fun c => ?_, fun c => ?_⟩ <;> first | ((have c9 : (1 : Int32) = 0 := by with_reducible exact c); exact absurd c9 (by decide)) | exact absurd (rfl : (0 : Int32) = 0) (by with_reducible exact c) | exact absurd True.intro (by with_reducible exact c) | exact False.elim (by with_reducible exact c) | (conv => whnf))
          exact mn_35 hd hb hm H ha (Or.inr ⟨fun hh => hh.elim (fun z => nz z) (fun z => p5 z.2), rfl⟩)
      · conv => whnf
        (refine ⟨fun c => ?_, fun c => ?_⟩ <;> first | ((have c9 : (1 : Int32) = 0 := by with_reducible exact c); exact absurd c9 (by decide)) | exact absurd (rfl : (0 : Int32) = 0) (by with_reducible exact c) | exact absurd True.intro (by with_reducible exact c) | exact False.elim (by with_reducible exact c) | (conv => whnf))
        exact mn_35 hd hb hm H ha (Or.inr ⟨fun hh => hh.elim (fun z => nz z) (fun z => p4 z.1), rfl⟩)
set_option maxRecDepth 100000 in
set_option maxHeartbeats 4000000 in
theorem sf_mention {d L : Nat} {f : Nat → Nat → Int32} {g : Nat → Nat → Int64} {h : Nat} {x1 x2 x3 x4 x5 x6 x7 x8 x9 : Int32} {R : Option Value → mH → Prop} (hd : 4 ≤ d) (hb : f 139 13 = nI h) (hm : h ≤ 50) (H : ∀ v f1, SX_mention h f f1 x1 x2 x3 x4 x5 x6 x7 x8 x9 v → R (some (.int v)) (shF L, f1, g)) : Run mtab d 104 [.ref 5, .int x1, .int x2, .int x3, .int x4, .int x5, .int x6, .int x7, .int x8, .int x9] (shF L, f, g) R := by
  obtain ⟨d, rfl⟩ : ∃ e, d = e + 1 := ⟨d - 1, by omega⟩
  refine go_X10_mention rfl ?_
  conv => whnf
  refine ct_isWithin (by omega) (fun p1 => ?_) (fun p1 => ?_)
  · conv => whnf
    (refine ⟨fun c => ?_, fun c => ?_⟩ <;> first | ((have c9 : (1 : Int32) = 0 := by with_reducible exact c); exact absurd c9 (by decide)) | exact absurd (rfl : (0 : Int32) = 0) (by with_reducible exact c) | exact absurd True.intro (by with_reducible exact c) | exact False.elim (by with_reducible exact c) | (conv => whnf))
    refine ct_isWithin (by omega) (fun p2 => ?_) (fun p2 => ?_)
    · conv => whnf
      (refine ⟨fun c => ?_, fun c => ?_⟩ <;> first | ((have c9 : (1 : Int32) = 0 := by with_reducible exact c); exact absurd c9 (by decide)) | exact absurd (rfl : (0 : Int32) = 0) (by with_reducible exact c) | exact absurd True.intro (by with_reducible exact c) | exact False.elim (by with_reducible exact c) | (conv => whnf))
      refine ct_isYear (by omega) (fun p3 => ?_) (fun p3 => ?_)
      · conv => whnf
        (refine ⟨fun c => ?_, fun c => ?_⟩ <;> first | ((have c9 : (1 : Int32) = 0 := by with_reducible exact c); exact absurd c9 (by decide)) | exact absurd (rfl : (0 : Int32) = 0) (by with_reducible exact c) | exact absurd True.intro (by with_reducible exact c) | exact False.elim (by with_reducible exact c) | (conv => whnf))
        exact mn_17 (by omega) hb hm H (Or.inl ⟨⟨p1, p2, p3⟩, rfl⟩)
      · conv => whnf
        (refine ⟨fun c => ?_, fun c => ?_⟩ <;> first | ((have c9 : (1 : Int32) = 0 := by with_reducible exact c); exact absurd c9 (by decide)) | exact absurd (rfl : (0 : Int32) = 0) (by with_reducible exact c) | exact absurd True.intro (by with_reducible exact c) | exact False.elim (by with_reducible exact c) | (conv => whnf))
        exact mn_17 (by omega) hb hm H (Or.inr ⟨fun hh => p3 hh.2.2, rfl⟩)
    · conv => whnf
      (refine ⟨fun c => ?_, fun c => ?_⟩ <;> first | ((have c9 : (1 : Int32) = 0 := by with_reducible exact c); exact absurd c9 (by decide)) | exact absurd (rfl : (0 : Int32) = 0) (by with_reducible exact c) | exact absurd True.intro (by with_reducible exact c) | exact False.elim (by with_reducible exact c) | (conv => whnf))
      exact mn_17 (by omega) hb hm H (Or.inr ⟨fun hh => p2 hh.2.1, rfl⟩)
  · conv => whnf
    (refine ⟨fun c => ?_, fun c => ?_⟩ <;> first | ((have c9 : (1 : Int32) = 0 := by with_reducible exact c); exact absurd c9 (by decide)) | exact absurd (rfl : (0 : Int32) = 0) (by with_reducible exact c) | exact absurd True.intro (by with_reducible exact c) | exact False.elim (by with_reducible exact c) | (conv => whnf))
    exact mn_17 (by omega) hb hm H (Or.inr ⟨fun hh => p1 hh.1, rfl⟩)
set_option maxRecDepth 100000 in
set_option maxHeartbeats 4000000 in
theorem mm_20 {d L h : Nat} {f : Nat → Nat → Int32} {g : Nat → Nat → Int64} {x1 x2 x3 x4 x5 x6 x7 x8 x9 b : Int32} {s11 : Option Value} {R : Option Value → mH → Prop} (hd : 3 ≤ d) (hb : f 181 27 = nI h) (hm : h ≤ 50) (H : ∀ v f1, SM_mention h f f1 x1 x2 x3 x4 x5 x6 x7 x8 x9 v → R (some (.int v)) (shF L, f1, g)) (hq2 : bo (meB x4 x5) b) : WPe pg_X11_mention none (Run mtab d) R (m_drop pg_X11_mention 20) [some (.ref 181), some (.int x1), some (.int x2), some (.int x3), some (.int x4), some (.int x5), some (.int x6), some (.int x7), some (.int x8), some (.int x9), some (.int b), s11] [] (shF L, f, g) := by
  refine at_X11_mention ?_
  conv => whnf
  refine ct_i_0_2 (by omega) (fun p1 => ?_) (fun p1 => ?_)
  · conv => whnf
    (refine ⟨fun c => ?_, fun c => ?_⟩ <;> first | ((have c9 : (1 : Int32) = 0 := by with_reducible exact c); exact absurd c9 (by decide)) | exact absurd (rfl : (0 : Int32) = 0) (by with_reducible exact c) | exact absurd True.intro (by with_reducible exact c) | exact False.elim (by with_reducible exact c) | (conv => whnf))
    refine ct_i_0_15 (by omega) (fun p2 => ?_) (fun p2 => ?_)
    · conv => whnf
      (refine ⟨fun c => ?_, fun c => ?_⟩ <;> first | ((have c9 : (1 : Int32) = 0 := by with_reducible exact c); exact absurd c9 (by decide)) | exact absurd (rfl : (0 : Int32) = 0) (by with_reducible exact c) | exact absurd True.intro (by with_reducible exact c) | exact False.elim (by with_reducible exact c) | (conv => whnf))
      refine ct_mIsYear (by omega) (fun p3 => ?_) (fun p3 => ?_)
      · conv => whnf
        (refine ⟨fun c => ?_, fun c => ?_⟩ <;> first | ((have c9 : (1 : Int32) = 0 := by with_reducible exact c); exact absurd c9 (by decide)) | exact absurd (rfl : (0 : Int32) = 0) (by with_reducible exact c) | exact absurd True.intro (by with_reducible exact c) | exact False.elim (by with_reducible exact c) | (conv => whnf))
        rcases hq2 with ⟨pb, rfl⟩ | ⟨pb, rfl⟩
        · (refine ⟨fun c => ?_, fun c => ?_⟩ <;> first | ((have c9 : (1 : Int32) = 0 := by with_reducible exact c); exact absurd c9 (by decide)) | exact absurd (rfl : (0 : Int32) = 0) (by with_reducible exact c) | exact absurd True.intro (by with_reducible exact c) | exact False.elim (by with_reducible exact c) | (conv => whnf))
          refine ct_i_0_1 (by omega) (fun p6 => ?_) (fun p6 => ?_)
          · conv => whnf
            (refine ⟨fun c => ?_, fun c => ?_⟩ <;> first | ((have c9 : (1 : Int32) = 0 := by with_reducible exact c); exact absurd c9 (by decide)) | exact absurd (rfl : (0 : Int32) = 0) (by with_reducible exact c) | exact absurd True.intro (by with_reducible exact c) | exact False.elim (by with_reducible exact c) | (conv => whnf))
            refine ct_i_0_1073741823 (by omega) (fun p8 => ?_) (fun p8 => ?_)
            · conv => whnf
              (refine ⟨fun c => ?_, fun c => ?_⟩ <;> first | ((have c9 : (1 : Int32) = 0 := by with_reducible exact c); exact absurd c9 (by decide)) | exact absurd (rfl : (0 : Int32) = 0) (by with_reducible exact c) | exact absurd True.intro (by with_reducible exact c) | exact False.elim (by with_reducible exact c) | (conv => whnf))
              refine ct_i_m1_19 (by omega) (fun p9 => ?_) (fun p9 => ?_)
              · conv => whnf
                (refine ⟨fun c => ?_, fun c => ?_⟩ <;> first | ((have c9 : (1 : Int32) = 0 := by with_reducible exact c); exact absurd c9 (by decide)) | exact absurd (rfl : (0 : Int32) = 0) (by with_reducible exact c) | exact absurd True.intro (by with_reducible exact c) | exact False.elim (by with_reducible exact c) | (conv => whnf))
                simp only [hb]
                by_cases hq : h = 50
                · subst hq
                  refine ⟨fun c => absurd (by decide) c, fun _ => ?_⟩
                  conv => whnf
                  exact H _ _ (Or.inr ⟨⟨⟨p1, p2, p3⟩, pb, ⟨p6, p8, p9⟩⟩, Or.inl ⟨rfl, rfl, rfl⟩⟩)
                · refine ⟨fun _ => ?_, fun c => absurd ((nI_eq (b := 50) (by omega) (by decide)).mp c) hq⟩
                  have hc0 : (nI (9 * h)).toNatClampNeg = 9 * h := nI_clamp (by omega)
                  have hc1 : (nI (9 * h + 1)).toNatClampNeg = 9 * h + 1 := nI_clamp (by omega)
                  have hc2 : (nI (9 * h + 2)).toNatClampNeg = 9 * h + 2 := nI_clamp (by omega)
                  have hc3 : (nI (9 * h + 3)).toNatClampNeg = 9 * h + 3 := nI_clamp (by omega)
                  have hc4 : (nI (9 * h + 4)).toNatClampNeg = 9 * h + 4 := nI_clamp (by omega)
                  have hc5 : (nI (9 * h + 5)).toNatClampNeg = 9 * h + 5 := nI_clamp (by omega)
                  have hc6 : (nI (9 * h + 6)).toNatClampNeg = 9 * h + 6 := nI_clamp (by omega)
                  have hc7 : (nI (9 * h + 7)).toNatClampNeg = 9 * h + 7 := nI_clamp (by omega)
                  have hc8 : (nI (9 * h + 8)).toNatClampNeg = 9 * h + 8 := nI_clamp (by omega)
                  conv => whnf
                  (try simp only [hb, nI_9m, nI_1, nI_k _ 2 2 rfl, nI_k _ 3 3 rfl, nI_k _ 4 4 rfl, nI_k _ 5 5 rfl, nI_k _ 6 6 rfl, nI_k _ 7 7 rfl, nI_k _ 8 8 rfl, m_ui_ap, m_fil_ap, m_cpy_ap, Nat.reduceEqDiff, Nat.reduceLT, Nat.reduceLeDiff, eq_self, ↓reduceIte, false_and, and_false, true_and, and_true, and_self])
                  refine ⟨vp_in_nI (by omega) (by decide), ?_⟩
                  conv => whnf
                  (try simp only [hb, nI_9m, nI_1, nI_k _ 2 2 rfl, nI_k _ 3 3 rfl, nI_k _ 4 4 rfl, nI_k _ 5 5 rfl, nI_k _ 6 6 rfl, nI_k _ 7 7 rfl, nI_k _ 8 8 rfl, m_ui_ap, m_fil_ap, m_cpy_ap, Nat.reduceEqDiff, Nat.reduceLT, Nat.reduceLeDiff, eq_self, ↓reduceIte, false_and, and_false, true_and, and_true, and_self])
                  refine ⟨vp_in_nI (by omega) (by decide), ?_⟩
                  conv => whnf
                  (try simp only [hb, nI_9m, nI_1, nI_k _ 2 2 rfl, nI_k _ 3 3 rfl, nI_k _ 4 4 rfl, nI_k _ 5 5 rfl, nI_k _ 6 6 rfl, nI_k _ 7 7 rfl, nI_k _ 8 8 rfl, m_ui_ap, m_fil_ap, m_cpy_ap, Nat.reduceEqDiff, Nat.reduceLT, Nat.reduceLeDiff, eq_self, ↓reduceIte, false_and, and_false, true_and, and_true, and_self])
                  refine ⟨vp_in_nI (by omega) (by decide), ?_⟩
                  conv => whnf
                  (try simp only [hb, nI_9m, nI_1, nI_k _ 2 2 rfl, nI_k _ 3 3 rfl, nI_k _ 4 4 rfl, nI_k _ 5 5 rfl, nI_k _ 6 6 rfl, nI_k _ 7 7 rfl, nI_k _ 8 8 rfl, m_ui_ap, m_fil_ap, m_cpy_ap, Nat.reduceEqDiff, Nat.reduceLT, Nat.reduceLeDiff, eq_self, ↓reduceIte, false_and, and_false, true_and, and_true, and_self])
                  refine ⟨vp_in_nI (by omega) (by decide), ?_⟩
                  conv => whnf
                  (try simp only [hb, nI_9m, nI_1, nI_k _ 2 2 rfl, nI_k _ 3 3 rfl, nI_k _ 4 4 rfl, nI_k _ 5 5 rfl, nI_k _ 6 6 rfl, nI_k _ 7 7 rfl, nI_k _ 8 8 rfl, m_ui_ap, m_fil_ap, m_cpy_ap, Nat.reduceEqDiff, Nat.reduceLT, Nat.reduceLeDiff, eq_self, ↓reduceIte, false_and, and_false, true_and, and_true, and_self])
                  refine ⟨vp_in_nI (by omega) (by decide), ?_⟩
                  conv => whnf
                  (try simp only [hb, nI_9m, nI_1, nI_k _ 2 2 rfl, nI_k _ 3 3 rfl, nI_k _ 4 4 rfl, nI_k _ 5 5 rfl, nI_k _ 6 6 rfl, nI_k _ 7 7 rfl, nI_k _ 8 8 rfl, m_ui_ap, m_fil_ap, m_cpy_ap, Nat.reduceEqDiff, Nat.reduceLT, Nat.reduceLeDiff, eq_self, ↓reduceIte, false_and, and_false, true_and, and_true, and_self])
                  refine ⟨vp_in_nI (by omega) (by decide), ?_⟩
                  conv => whnf
                  refine ⟨fun c7 => ?_, fun c7 => ?_⟩
                  · conv => whnf
                    (try simp only [hb, nI_9m, nI_1, nI_k _ 2 2 rfl, nI_k _ 3 3 rfl, nI_k _ 4 4 rfl, nI_k _ 5 5 rfl, nI_k _ 6 6 rfl, nI_k _ 7 7 rfl, nI_k _ 8 8 rfl, m_ui_ap, m_fil_ap, m_cpy_ap, Nat.reduceEqDiff, Nat.reduceLT, Nat.reduceLeDiff, eq_self, ↓reduceIte, false_and, and_false, true_and, and_true, and_self])
                    refine ⟨vp_in_nI (by omega) (by decide), ?_⟩
                    conv => whnf
                    (try simp only [hb, nI_9m, nI_1, nI_k _ 2 2 rfl, nI_k _ 3 3 rfl, nI_k _ 4 4 rfl, nI_k _ 5 5 rfl, nI_k _ 6 6 rfl, nI_k _ 7 7 rfl, nI_k _ 8 8 rfl, m_ui_ap, m_fil_ap, m_cpy_ap, Nat.reduceEqDiff, Nat.reduceLT, Nat.reduceLeDiff, eq_self, ↓reduceIte, false_and, and_false, true_and, and_true, and_self])
                    refine ⟨vp_in_nI (by omega) (by decide), ?_⟩
                    conv => whnf
                    (try simp only [hb, nI_9m, nI_1, nI_k _ 2 2 rfl, nI_k _ 3 3 rfl, nI_k _ 4 4 rfl, nI_k _ 5 5 rfl, nI_k _ 6 6 rfl, nI_k _ 7 7 rfl, nI_k _ 8 8 rfl, m_ui_ap, m_fil_ap, m_cpy_ap, Nat.reduceEqDiff, Nat.reduceLT, Nat.reduceLeDiff, eq_self, ↓reduceIte, false_and, and_false, true_and, and_true, and_self])
                    refine ⟨vp_in_nI (by omega) (by decide), ?_⟩
                    conv => whnf
                    (try refine ⟨by first | exact Or.inl rfl | exact Or.inl True.intro, ?_⟩)
                    (try (conv => whnf))
                    have H2 := H _ _ (Or.inr ⟨⟨⟨p1, p2, p3⟩, pb, ⟨p6, p8, p9⟩⟩, Or.inr ⟨by omega, rfl, rfl⟩⟩)
                    have e7 : fr x7 = 0 := if_pos c7
                    have e : nI (h + 1) - 1 = nI h := nI_pred h
                    unfold mnadd at H2
                    rw [e7, ← e] at H2
                    simp only [hc0, hc1, hc2, hc3, hc4, hc5, hc6, hc7, hc8, hb, nI_9m, nI_1, nI_k _ 2 2 rfl, nI_k _ 3 3 rfl, nI_k _ 4 4 rfl, nI_k _ 5 5 rfl, nI_k _ 6 6 rfl, nI_k _ 7 7 rfl, nI_k _ 8 8 rfl, m_ui_ap, m_fil_ap, m_cpy_ap, Nat.reduceEqDiff, Nat.reduceLT, Nat.reduceLeDiff, eq_self, ↓reduceIte, false_and, and_false, true_and, and_true, and_self]
                    exact H2
                  · conv => whnf
                    (try simp only [hb, nI_9m, nI_1, nI_k _ 2 2 rfl, nI_k _ 3 3 rfl, nI_k _ 4 4 rfl, nI_k _ 5 5 rfl, nI_k _ 6 6 rfl, nI_k _ 7 7 rfl, nI_k _ 8 8 rfl, m_ui_ap, m_fil_ap, m_cpy_ap, Nat.reduceEqDiff, Nat.reduceLT, Nat.reduceLeDiff, eq_self, ↓reduceIte, false_and, and_false, true_and, and_true, and_self])
                    refine ⟨vp_in_nI (by omega) (by decide), ?_⟩
                    conv => whnf
                    (try simp only [hb, nI_9m, nI_1, nI_k _ 2 2 rfl, nI_k _ 3 3 rfl, nI_k _ 4 4 rfl, nI_k _ 5 5 rfl, nI_k _ 6 6 rfl, nI_k _ 7 7 rfl, nI_k _ 8 8 rfl, m_ui_ap, m_fil_ap, m_cpy_ap, Nat.reduceEqDiff, Nat.reduceLT, Nat.reduceLeDiff, eq_self, ↓reduceIte, false_and, and_false, true_and, and_true, and_self])
                    refine ⟨vp_in_nI (by omega) (by decide), ?_⟩
                    conv => whnf
                    (try simp only [hb, nI_9m, nI_1, nI_k _ 2 2 rfl, nI_k _ 3 3 rfl, nI_k _ 4 4 rfl, nI_k _ 5 5 rfl, nI_k _ 6 6 rfl, nI_k _ 7 7 rfl, nI_k _ 8 8 rfl, m_ui_ap, m_fil_ap, m_cpy_ap, Nat.reduceEqDiff, Nat.reduceLT, Nat.reduceLeDiff, eq_self, ↓reduceIte, false_and, and_false, true_and, and_true, and_self])
                    refine ⟨vp_in_nI (by omega) (by decide), ?_⟩
                    conv => whnf
                    (try refine ⟨by first | exact Or.inl rfl | exact Or.inl True.intro, ?_⟩)
                    (try (conv => whnf))
                    have H2 := H _ _ (Or.inr ⟨⟨⟨p1, p2, p3⟩, pb, ⟨p6, p8, p9⟩⟩, Or.inr ⟨by omega, rfl, rfl⟩⟩)
                    have e7 : fr x7 = 1 := if_neg c7
                    have e : nI (h + 1) - 1 = nI h := nI_pred h
                    unfold mnadd at H2
                    rw [e7, ← e] at H2
                    simp only [hc0, hc1, hc2, hc3, hc4, hc5, hc6, hc7, hc8, hb, nI_9m, nI_1, nI_k _ 2 2 rfl, nI_k _ 3 3 rfl, nI_k _ 4 4 rfl, nI_k _ 5 5 rfl, nI_k _ 6 6 rfl, nI_k _ 7 7 rfl, nI_k _ 8 8 rfl, m_ui_ap, m_fil_ap, m_cpy_ap, Nat.reduceEqDiff, Nat.reduceLT, Nat.reduceLeDiff, eq_self, ↓reduceIte, false_and, and_false, true_and, and_true, and_self]
                    exact H2
              · conv => whnf
                (refine ⟨fun c => ?_, fun c => ?_⟩ <;> first | ((have c9 : (1 : Int32) = 0 := by with_reducible exact c); exact absurd c9 (by decide)) | exact absurd (rfl : (0 : Int32) = 0) (by with_reducible exact c) | exact absurd True.intro (by with_reducible exact c) | exact False.elim (by with_reducible exact c) | (conv => whnf))
                exact H _ _ (Or.inl ⟨fun hh => p9 hh.2.2.2.2, rfl, rfl⟩)
            · conv => whnf
              (refine ⟨fun c => ?_, fun c => ?_⟩ <;> first | ((have c9 : (1 : Int32) = 0 := by with_reducible exact c); exact absurd c9 (by decide)) | exact absurd (rfl : (0 : Int32) = 0) (by with_reducible exact c) | exact absurd True.intro (by with_reducible exact c) | exact False.elim (by with_reducible exact c) | (conv => whnf))
              exact H _ _ (Or.inl ⟨fun hh => p8 hh.2.2.2.1, rfl, rfl⟩)
          · conv => whnf
            (refine ⟨fun c => ?_, fun c => ?_⟩ <;> first | ((have c9 : (1 : Int32) = 0 := by with_reducible exact c); exact absurd c9 (by decide)) | exact absurd (rfl : (0 : Int32) = 0) (by with_reducible exact c) | exact absurd True.intro (by with_reducible exact c) | exact False.elim (by with_reducible exact c) | (conv => whnf))
            exact H _ _ (Or.inl ⟨fun hh => p6 hh.2.2.1, rfl, rfl⟩)
        · (refine ⟨fun c => ?_, fun c => ?_⟩ <;> first | ((have c9 : (1 : Int32) = 0 := by with_reducible exact c); exact absurd c9 (by decide)) | exact absurd (rfl : (0 : Int32) = 0) (by with_reducible exact c) | exact absurd True.intro (by with_reducible exact c) | exact False.elim (by with_reducible exact c) | (conv => whnf))
          exact H _ _ (Or.inl ⟨fun hh => pb hh.2.1, rfl, rfl⟩)
      · conv => whnf
        (refine ⟨fun c => ?_, fun c => ?_⟩ <;> first | ((have c9 : (1 : Int32) = 0 := by with_reducible exact c); exact absurd c9 (by decide)) | exact absurd (rfl : (0 : Int32) = 0) (by with_reducible exact c) | exact absurd True.intro (by with_reducible exact c) | exact False.elim (by with_reducible exact c) | (conv => whnf))
        exact H _ _ (Or.inl ⟨fun hh => p3 hh.1.2.2, rfl, rfl⟩)
    · conv => whnf
      (refine ⟨fun c => ?_, fun c => ?_⟩ <;> first | ((have c9 : (1 : Int32) = 0 := by with_reducible exact c); exact absurd c9 (by decide)) | exact absurd (rfl : (0 : Int32) = 0) (by with_reducible exact c) | exact absurd True.intro (by with_reducible exact c) | exact False.elim (by with_reducible exact c) | (conv => whnf))
      exact H _ _ (Or.inl ⟨fun hh => p2 hh.1.2.1, rfl, rfl⟩)
  · conv => whnf
    (refine ⟨fun c => ?_, fun c => ?_⟩ <;> first | ((have c9 : (1 : Int32) = 0 := by with_reducible exact c); exact absurd c9 (by decide)) | exact absurd (rfl : (0 : Int32) = 0) (by with_reducible exact c) | exact absurd True.intro (by with_reducible exact c) | exact False.elim (by with_reducible exact c) | (conv => whnf))
    exact H _ _ (Or.inl ⟨fun hh => p1 hh.1.1, rfl, rfl⟩)
set_option maxRecDepth 100000 in
set_option maxHeartbeats 4000000 in
theorem smf_mention {d L : Nat} {f : Nat → Nat → Int32} {g : Nat → Nat → Int64} {h : Nat} {x1 x2 x3 x4 x5 x6 x7 x8 x9 : Int32} {R : Option Value → mH → Prop} (hd : 4 ≤ d) (hb : f 181 27 = nI h) (hm : h ≤ 50) (H : ∀ v f1, SM_mention h f f1 x1 x2 x3 x4 x5 x6 x7 x8 x9 v → R (some (.int v)) (shF L, f1, g)) : Run mtab d 190 [.ref 181, .int x1, .int x2, .int x3, .int x4, .int x5, .int x6, .int x7, .int x8, .int x9] (shF L, f, g) R := by
  obtain ⟨d, rfl⟩ : ∃ e, d = e + 1 := ⟨d - 1, by omega⟩
  refine go_X11_mention rfl ?_
  conv => whnf
  refine ⟨fun c4 => ?_, fun c4 => ?_⟩
  · conv => whnf
    have nz : ¬ (x4 = 0 ∧ x5 = 0) := fun z => c4 z.1
    refine ct_i_1_6000 (by omega) (fun p4 => ?_) (fun p4 => ?_)
    · conv => whnf
      (refine ⟨fun c => ?_, fun c => ?_⟩ <;> first | ((have c9 : (1 : Int32) = 0 := by with_reducible exact c); exact absurd c9 (by decide)) | exact absurd (rfl : (0 : Int32) = 0) (by with_reducible exact c) | exact absurd True.intro (by with_reducible exact c) | exact False.elim (by with_reducible exact c) | (conv => whnf))
      refine ct_i_1_6000 (by omega) (fun p5 => ?_) (fun p5 => ?_)
      · conv => whnf
        (refine ⟨fun c => ?_, fun c => ?_⟩ <;> first | ((have c9 : (1 : Int32) = 0 := by with_reducible exact c); exact absurd c9 (by decide)) | exact absurd (rfl : (0 : Int32) = 0) (by with_reducible exact c) | exact absurd True.intro (by with_reducible exact c) | exact False.elim (by with_reducible exact c) | (conv => whnf))
        exact mm_20 (by omega) hb hm H (Or.inl ⟨Or.inr ⟨p4, p5⟩, rfl⟩)
      · conv => whnf
        (refine ⟨fun c => ?_, fun c => ?_⟩ <;> first | ((have c9 : (1 : Int32) = 0 := by with_reducible exact c); exact absurd c9 (by decide)) | exact absurd (rfl : (0 : Int32) = 0) (by with_reducible exact c) | exact absurd True.intro (by with_reducible exact c) | exact False.elim (by with_reducible exact c) | (conv => whnf))
        exact mm_20 (by omega) hb hm H (Or.inr ⟨fun hh => hh.elim (fun z => nz z) (fun z => p5 z.2), rfl⟩)
    · conv => whnf
      (refine ⟨fun c => ?_, fun c => ?_⟩ <;> first | ((have c9 : (1 : Int32) = 0 := by with_reducible exact c); exact absurd c9 (by decide)) | exact absurd (rfl : (0 : Int32) = 0) (by with_reducible exact c) | exact absurd True.intro (by with_reducible exact c) | exact False.elim (by with_reducible exact c) | (conv => whnf))
      exact mm_20 (by omega) hb hm H (Or.inr ⟨fun hh => hh.elim (fun z => nz z) (fun z => p4 z.1), rfl⟩)
  · conv => whnf
    refine ⟨fun c5 => ?_, fun c5 => ?_⟩
    · conv => whnf
      exact mm_20 (by omega) hb hm H (Or.inl ⟨Or.inl ⟨c4, c5⟩, rfl⟩)
    · conv => whnf
      have nz : ¬ (x4 = 0 ∧ x5 = 0) := fun z => c5 z.2
      refine ct_i_1_6000 (by omega) (fun p4 => ?_) (fun p4 => ?_)
      · conv => whnf
        (refine ⟨fun c => ?_, fun c => ?_⟩ <;> first | ((have c9 : (1 : Int32) = 0 := by with_reducible exact c); exact absurd c9 (by decide)) | exact absurd (rfl : (0 : Int32) = 0) (by with_reducible exact c) | exact absurd True.intro (by with_reducible exact c) | exact False.elim (by with_reducible exact c) | (conv => whnf))
        refine ct_i_1_6000 (by omega) (fun p5 => ?_) (fun p5 => ?_)
        · conv => whnf
          (refine ⟨fun c => ?_, fun c => ?_⟩ <;> first | ((have c9 : (1 : Int32) = 0 := by with_reducible exact c); exact absurd c9 (by decide)) | exact absurd (rfl : (0 : Int32) = 0) (by with_reducible exact c) | exact absurd True.intro (by with_reducible exact c) | exact False.elim (by with_reducible exact c) | (conv => whnf))
          exact mm_20 (by omega) hb hm H (Or.inl ⟨Or.inr ⟨p4, p5⟩, rfl⟩)
        · conv => whnf
          (refine ⟨fun c => ?_, fun c => ?_⟩ <;> first | ((have c9 : (1 : Int32) = 0 := by with_reducible exact c); exact absurd c9 (by decide)) | exact absurd (rfl : (0 : Int32) = 0) (by with_reducible exact c) | exact absurd True.intro (by with_reducible exact c) | exact False.elim (by with_reducible exact c) | (conv => whnf))
          exact mm_20 (by omega) hb hm H (Or.inr ⟨fun hh => hh.elim (fun z => nz z) (fun z => p5 z.2), rfl⟩)
      · conv => whnf
        (refine ⟨fun c => ?_, fun c => ?_⟩ <;> first | ((have c9 : (1 : Int32) = 0 := by with_reducible exact c); exact absurd c9 (by decide)) | exact absurd (rfl : (0 : Int32) = 0) (by with_reducible exact c) | exact absurd True.intro (by with_reducible exact c) | exact False.elim (by with_reducible exact c) | (conv => whnf))
        exact mm_20 (by omega) hb hm H (Or.inr ⟨fun hh => hh.elim (fun z => nz z) (fun z => p4 z.1), rfl⟩)
theorem kx_mention {h : Nat} {f f1 : Nat → Nat → Int32} {x1 x2 x3 x4 x5 x6 x7 x8 x9 v : Int32} (s : SX_mention h f f1 x1 x2 x3 x4 x5 x6 x7 x8 x9 v) : kp [6] f f1 := by
  rcases s with ⟨_, _, rfl⟩ | ⟨_, ⟨_, _, rfl⟩ | ⟨_, _, rfl⟩⟩
  · exact kp_refl _ _
  · exact kp_refl _ _
  · unfold nadd nadd0
    exact kp_ui rfl (kp_ui rfl (kp_ui rfl (kp_ui rfl (kp_ui rfl (kp_ui rfl (kp_ui rfl (kp_ui rfl (kp_ui rfl (kp_ui rfl (kp_refl _ _))))))))))
theorem km_mention {h : Nat} {f f1 : Nat → Nat → Int32} {x1 x2 x3 x4 x5 x6 x7 x8 x9 v : Int32} (s : SM_mention h f f1 x1 x2 x3 x4 x5 x6 x7 x8 x9 v) : kp [10, 16, 22] f f1 := by
  rcases s with ⟨_, _, rfl⟩ | ⟨_, ⟨_, _, rfl⟩ | ⟨_, _, rfl⟩⟩
  · exact kp_refl _ _
  · exact kp_refl _ _
  · unfold mnadd
    exact kp_ui rfl (kp_ui rfl (kp_ui rfl (kp_ui rfl (kp_ui rfl (kp_ui rfl (kp_ui rfl (kp_ui rfl (kp_ui rfl (kp_ui rfl (kp_ui rfl (kp_refl _ _)))))))))))
theorem cmp_6 {i : Nat} : ∀ a, 139 ≤ a → a ≤ 148 → cmp a i = 6 := by
  intro a h h'
  have : a = 139 ∨ a = 140 ∨ a = 141 ∨ a = 142 ∨ a = 143 ∨ a = 144 ∨ a = 145 ∨ a = 146 ∨ a = 147 ∨ a = 148 := by omega
  rcases this with rfl | rfl | rfl | rfl | rfl | rfl | rfl | rfl | rfl | rfl <;> rfl
theorem RM_congr {m : Nat} {f f' : Nat → Nat → Int32} (h1 : ∀ a i, 139 ≤ a → a ≤ 148 → f' a i = f a i) (h2 : ∀ i, f' 203 i = f 203 i) (h3 : f' 181 27 = f 181 27) (r : RM m f) : RM m f' := by
  obtain ⟨a, b, e, d⟩ := r
  refine ⟨a, (h1 139 13 (by omega) (by omega)).trans b, h3.trans e, fun k hk => ?_⟩
  unfold RN
  rw [h1 140 k (by omega) (by omega), h1 141 k (by omega) (by omega), h1 142 k (by omega) (by omega), h1 143 k (by omega) (by omega), h1 144 k (by omega) (by omega), h1 145 k (by omega) (by omega), h1 146 k (by omega) (by omega), h1 147 k (by omega) (by omega), h1 148 k (by omega) (by omega)]
  simp only [h2]
  exact d k hk
theorem RM_kp {l : List Nat} {m : Nat} {f f' : Nat → Nat → Int32} (k : kp l f f') (h6 : hasN l 6 = false) (h16 : hasN l 16 = false) (r : RM m f) : RM m f' :=
  RM_congr (fun a i p q => k a i (by rw [cmp_6 a p q]; exact h6)) (fun i => k 203 i (by exact h16)) (k 181 27 (by exact h16)) r
theorem na_140 {f : Nat → Nat → Int32} {h k : Nat} {x1 x2 x3 x4 x5 x6 x7 x8 x9 : Int32} : mnadd (nadd f h x1 x2 x3 x4 x5 x6 x7 x8 x9) h x1 x2 x3 x4 x5 x6 x7 x8 x9 140 k = if k = h then x1 else f 140 k := by
  unfold mnadd nadd nadd0
  by_cases e : k = h
  · subst e
    rw [m_ui_o (by omega), m_ui_o (by omega), m_ui_o (by omega), m_ui_o (by omega), m_ui_o (by omega), m_ui_o (by omega), m_ui_o (by omega), m_ui_o (by omega), m_ui_o (by omega), m_ui_o (by omega), m_ui_o (by omega), m_ui_o (by omega), m_ui_o (by omega), m_ui_o (by omega), m_ui_o (by omega), m_ui_o (by omega), m_ui_o (by omega), m_ui_o (by omega), m_ui_o (by omega), m_ui_o (by omega), m_ui_s, if_pos rfl]
  · rw [m_ui_o (by omega), m_ui_o (by omega), m_ui_o (by omega), m_ui_o (by omega), m_ui_o (by omega), m_ui_o (by omega), m_ui_o (by omega), m_ui_o (by omega), m_ui_o (by omega), m_ui_o (by omega), m_ui_o (by omega), m_ui_o (by omega), m_ui_o (by omega), m_ui_o (by omega), m_ui_o (by omega), m_ui_o (by omega), m_ui_o (by omega), m_ui_o (by omega), m_ui_o (by omega), m_ui_o (by omega), m_ui_o (by omega), if_neg e]
theorem na_141 {f : Nat → Nat → Int32} {h k : Nat} {x1 x2 x3 x4 x5 x6 x7 x8 x9 : Int32} : mnadd (nadd f h x1 x2 x3 x4 x5 x6 x7 x8 x9) h x1 x2 x3 x4 x5 x6 x7 x8 x9 141 k = if k = h then x2 else f 141 k := by
  unfold mnadd nadd nadd0
  by_cases e : k = h
  · subst e
    rw [m_ui_o (by omega), m_ui_o (by omega), m_ui_o (by omega), m_ui_o (by omega), m_ui_o (by omega), m_ui_o (by omega), m_ui_o (by omega), m_ui_o (by omega), m_ui_o (by omega), m_ui_o (by omega), m_ui_o (by omega), m_ui_o (by omega), m_ui_o (by omega), m_ui_o (by omega), m_ui_o (by omega), m_ui_o (by omega), m_ui_o (by omega), m_ui_o (by omega), m_ui_o (by omega), m_ui_s, if_pos rfl]
  · rw [m_ui_o (by omega), m_ui_o (by omega), m_ui_o (by omega), m_ui_o (by omega), m_ui_o (by omega), m_ui_o (by omega), m_ui_o (by omega), m_ui_o (by omega), m_ui_o (by omega), m_ui_o (by omega), m_ui_o (by omega), m_ui_o (by omega), m_ui_o (by omega), m_ui_o (by omega), m_ui_o (by omega), m_ui_o (by omega), m_ui_o (by omega), m_ui_o (by omega), m_ui_o (by omega), m_ui_o (by omega), m_ui_o (by omega), if_neg e]
theorem na_142 {f : Nat → Nat → Int32} {h k : Nat} {x1 x2 x3 x4 x5 x6 x7 x8 x9 : Int32} : mnadd (nadd f h x1 x2 x3 x4 x5 x6 x7 x8 x9) h x1 x2 x3 x4 x5 x6 x7 x8 x9 142 k = if k = h then x3 else f 142 k := by
  unfold mnadd nadd nadd0
  by_cases e : k = h
  · subst e
    rw [m_ui_o (by omega), m_ui_o (by omega), m_ui_o (by omega), m_ui_o (by omega), m_ui_o (by omega), m_ui_o (by omega), m_ui_o (by omega), m_ui_o (by omega), m_ui_o (by omega), m_ui_o (by omega), m_ui_o (by omega), m_ui_o (by omega), m_ui_o (by omega), m_ui_o (by omega), m_ui_o (by omega), m_ui_o (by omega), m_ui_o (by omega), m_ui_o (by omega), m_ui_s, if_pos rfl]
  · rw [m_ui_o (by omega), m_ui_o (by omega), m_ui_o (by omega), m_ui_o (by omega), m_ui_o (by omega), m_ui_o (by omega), m_ui_o (by omega), m_ui_o (by omega), m_ui_o (by omega), m_ui_o (by omega), m_ui_o (by omega), m_ui_o (by omega), m_ui_o (by omega), m_ui_o (by omega), m_ui_o (by omega), m_ui_o (by omega), m_ui_o (by omega), m_ui_o (by omega), m_ui_o (by omega), m_ui_o (by omega), m_ui_o (by omega), if_neg e]
theorem na_143 {f : Nat → Nat → Int32} {h k : Nat} {x1 x2 x3 x4 x5 x6 x7 x8 x9 : Int32} : mnadd (nadd f h x1 x2 x3 x4 x5 x6 x7 x8 x9) h x1 x2 x3 x4 x5 x6 x7 x8 x9 143 k = if k = h then x4 else f 143 k := by
  unfold mnadd nadd nadd0
  by_cases e : k = h
  · subst e
    rw [m_ui_o (by omega), m_ui_o (by omega), m_ui_o (by omega), m_ui_o (by omega), m_ui_o (by omega), m_ui_o (by omega), m_ui_o (by omega), m_ui_o (by omega), m_ui_o (by omega), m_ui_o (by omega), m_ui_o (by omega), m_ui_o (by omega), m_ui_o (by omega), m_ui_o (by omega), m_ui_s, if_pos rfl]
  · rw [m_ui_o (by omega), m_ui_o (by omega), m_ui_o (by omega), m_ui_o (by omega), m_ui_o (by omega), m_ui_o (by omega), m_ui_o (by omega), m_ui_o (by omega), m_ui_o (by omega), m_ui_o (by omega), m_ui_o (by omega), m_ui_o (by omega), m_ui_o (by omega), m_ui_o (by omega), m_ui_o (by omega), m_ui_o (by omega), m_ui_o (by omega), m_ui_o (by omega), m_ui_o (by omega), m_ui_o (by omega), m_ui_o (by omega), if_neg e]
theorem na_144 {f : Nat → Nat → Int32} {h k : Nat} {x1 x2 x3 x4 x5 x6 x7 x8 x9 : Int32} : mnadd (nadd f h x1 x2 x3 x4 x5 x6 x7 x8 x9) h x1 x2 x3 x4 x5 x6 x7 x8 x9 144 k = if k = h then x5 else f 144 k := by
  unfold mnadd nadd nadd0
  by_cases e : k = h
  · subst e
    rw [m_ui_o (by omega), m_ui_o (by omega), m_ui_o (by omega), m_ui_o (by omega), m_ui_o (by omega), m_ui_o (by omega), m_ui_o (by omega), m_ui_o (by omega), m_ui_o (by omega), m_ui_o (by omega), m_ui_o (by omega), m_ui_o (by omega), m_ui_o (by omega), m_ui_s, if_pos rfl]
  · rw [m_ui_o (by omega), m_ui_o (by omega), m_ui_o (by omega), m_ui_o (by omega), m_ui_o (by omega), m_ui_o (by omega), m_ui_o (by omega), m_ui_o (by omega), m_ui_o (by omega), m_ui_o (by omega), m_ui_o (by omega), m_ui_o (by omega), m_ui_o (by omega), m_ui_o (by omega), m_ui_o (by omega), m_ui_o (by omega), m_ui_o (by omega), m_ui_o (by omega), m_ui_o (by omega), m_ui_o (by omega), m_ui_o (by omega), if_neg e]
theorem na_145 {f : Nat → Nat → Int32} {h k : Nat} {x1 x2 x3 x4 x5 x6 x7 x8 x9 : Int32} : mnadd (nadd f h x1 x2 x3 x4 x5 x6 x7 x8 x9) h x1 x2 x3 x4 x5 x6 x7 x8 x9 145 k = if k = h then x6 else f 145 k := by
  unfold mnadd nadd nadd0
  by_cases e : k = h
  · subst e
    rw [m_ui_o (by omega), m_ui_o (by omega), m_ui_o (by omega), m_ui_o (by omega), m_ui_o (by omega), m_ui_o (by omega), m_ui_o (by omega), m_ui_o (by omega), m_ui_o (by omega), m_ui_o (by omega), m_ui_o (by omega), m_ui_o (by omega), m_ui_s, if_pos rfl]
  · rw [m_ui_o (by omega), m_ui_o (by omega), m_ui_o (by omega), m_ui_o (by omega), m_ui_o (by omega), m_ui_o (by omega), m_ui_o (by omega), m_ui_o (by omega), m_ui_o (by omega), m_ui_o (by omega), m_ui_o (by omega), m_ui_o (by omega), m_ui_o (by omega), m_ui_o (by omega), m_ui_o (by omega), m_ui_o (by omega), m_ui_o (by omega), m_ui_o (by omega), m_ui_o (by omega), m_ui_o (by omega), m_ui_o (by omega), if_neg e]
theorem na_146 {f : Nat → Nat → Int32} {h k : Nat} {x1 x2 x3 x4 x5 x6 x7 x8 x9 : Int32} : mnadd (nadd f h x1 x2 x3 x4 x5 x6 x7 x8 x9) h x1 x2 x3 x4 x5 x6 x7 x8 x9 146 k = if k = h then (vp_nar .boolean x7) else f 146 k := by
  unfold mnadd nadd nadd0
  by_cases e : k = h
  · subst e
    rw [m_ui_o (by omega), m_ui_o (by omega), m_ui_o (by omega), m_ui_o (by omega), m_ui_o (by omega), m_ui_o (by omega), m_ui_o (by omega), m_ui_o (by omega), m_ui_o (by omega), m_ui_o (by omega), m_ui_o (by omega), m_ui_s, if_pos rfl]
  · rw [m_ui_o (by omega), m_ui_o (by omega), m_ui_o (by omega), m_ui_o (by omega), m_ui_o (by omega), m_ui_o (by omega), m_ui_o (by omega), m_ui_o (by omega), m_ui_o (by omega), m_ui_o (by omega), m_ui_o (by omega), m_ui_o (by omega), m_ui_o (by omega), m_ui_o (by omega), m_ui_o (by omega), m_ui_o (by omega), m_ui_o (by omega), m_ui_o (by omega), m_ui_o (by omega), m_ui_o (by omega), m_ui_o (by omega), if_neg e]
theorem na_147 {f : Nat → Nat → Int32} {h k : Nat} {x1 x2 x3 x4 x5 x6 x7 x8 x9 : Int32} : mnadd (nadd f h x1 x2 x3 x4 x5 x6 x7 x8 x9) h x1 x2 x3 x4 x5 x6 x7 x8 x9 147 k = if k = h then x8 else f 147 k := by
  unfold mnadd nadd nadd0
  by_cases e : k = h
  · subst e
    rw [m_ui_o (by omega), m_ui_o (by omega), m_ui_o (by omega), m_ui_o (by omega), m_ui_o (by omega), m_ui_o (by omega), m_ui_o (by omega), m_ui_o (by omega), m_ui_o (by omega), m_ui_o (by omega), m_ui_o (by omega), m_ui_o (by omega), m_ui_o (by omega), m_ui_o (by omega), m_ui_o (by omega), m_ui_o (by omega), m_ui_o (by omega), m_ui_s, if_pos rfl]
  · rw [m_ui_o (by omega), m_ui_o (by omega), m_ui_o (by omega), m_ui_o (by omega), m_ui_o (by omega), m_ui_o (by omega), m_ui_o (by omega), m_ui_o (by omega), m_ui_o (by omega), m_ui_o (by omega), m_ui_o (by omega), m_ui_o (by omega), m_ui_o (by omega), m_ui_o (by omega), m_ui_o (by omega), m_ui_o (by omega), m_ui_o (by omega), m_ui_o (by omega), m_ui_o (by omega), m_ui_o (by omega), m_ui_o (by omega), if_neg e]
theorem na_148 {f : Nat → Nat → Int32} {h k : Nat} {x1 x2 x3 x4 x5 x6 x7 x8 x9 : Int32} : mnadd (nadd f h x1 x2 x3 x4 x5 x6 x7 x8 x9) h x1 x2 x3 x4 x5 x6 x7 x8 x9 148 k = if k = h then x9 else f 148 k := by
  unfold mnadd nadd nadd0
  by_cases e : k = h
  · subst e
    rw [m_ui_o (by omega), m_ui_o (by omega), m_ui_o (by omega), m_ui_o (by omega), m_ui_o (by omega), m_ui_o (by omega), m_ui_o (by omega), m_ui_o (by omega), m_ui_o (by omega), m_ui_o (by omega), m_ui_o (by omega), m_ui_o (by omega), m_ui_o (by omega), m_ui_o (by omega), m_ui_o (by omega), m_ui_o (by omega), m_ui_s, if_pos rfl]
  · rw [m_ui_o (by omega), m_ui_o (by omega), m_ui_o (by omega), m_ui_o (by omega), m_ui_o (by omega), m_ui_o (by omega), m_ui_o (by omega), m_ui_o (by omega), m_ui_o (by omega), m_ui_o (by omega), m_ui_o (by omega), m_ui_o (by omega), m_ui_o (by omega), m_ui_o (by omega), m_ui_o (by omega), m_ui_o (by omega), m_ui_o (by omega), m_ui_o (by omega), m_ui_o (by omega), m_ui_o (by omega), m_ui_o (by omega), if_neg e]
theorem nm_0 {f : Nat → Nat → Int32} {h k : Nat} {x1 x2 x3 x4 x5 x6 x7 x8 x9 : Int32} : mnadd (nadd f h x1 x2 x3 x4 x5 x6 x7 x8 x9) h x1 x2 x3 x4 x5 x6 x7 x8 x9 203 (9 * k) = if k = h then x1 else f 203 (9 * k) := by
  unfold mnadd nadd nadd0
  by_cases e : k = h
  · subst e
    rw [m_ui_o (by omega), m_ui_o (by omega), m_ui_o (by omega), m_ui_o (by omega), m_ui_o (by omega), m_ui_o (by omega), m_ui_o (by omega), m_ui_o (by omega), m_ui_o (by omega), m_ui_o (by omega), m_ui_s, if_pos rfl]
  · rw [m_ui_o (by omega), m_ui_o (by omega), m_ui_o (by omega), m_ui_o (by omega), m_ui_o (by omega), m_ui_o (by omega), m_ui_o (by omega), m_ui_o (by omega), m_ui_o (by omega), m_ui_o (by omega), m_ui_o (by omega), m_ui_o (by omega), m_ui_o (by omega), m_ui_o (by omega), m_ui_o (by omega), m_ui_o (by omega), m_ui_o (by omega), m_ui_o (by omega), m_ui_o (by omega), m_ui_o (by omega), m_ui_o (by omega), if_neg e]
theorem nm_1 {f : Nat → Nat → Int32} {h k : Nat} {x1 x2 x3 x4 x5 x6 x7 x8 x9 : Int32} : mnadd (nadd f h x1 x2 x3 x4 x5 x6 x7 x8 x9) h x1 x2 x3 x4 x5 x6 x7 x8 x9 203 (9 * k + 1) = if k = h then x2 else f 203 (9 * k + 1) := by
  unfold mnadd nadd nadd0
  by_cases e : k = h
  · subst e
    rw [m_ui_o (by omega), m_ui_o (by omega), m_ui_o (by omega), m_ui_o (by omega), m_ui_o (by omega), m_ui_o (by omega), m_ui_o (by omega), m_ui_o (by omega), m_ui_o (by omega), m_ui_s, if_pos rfl]
  · rw [m_ui_o (by omega), m_ui_o (by omega), m_ui_o (by omega), m_ui_o (by omega), m_ui_o (by omega), m_ui_o (by omega), m_ui_o (by omega), m_ui_o (by omega), m_ui_o (by omega), m_ui_o (by omega), m_ui_o (by omega), m_ui_o (by omega), m_ui_o (by omega), m_ui_o (by omega), m_ui_o (by omega), m_ui_o (by omega), m_ui_o (by omega), m_ui_o (by omega), m_ui_o (by omega), m_ui_o (by omega), m_ui_o (by omega), if_neg e]
theorem nm_2 {f : Nat → Nat → Int32} {h k : Nat} {x1 x2 x3 x4 x5 x6 x7 x8 x9 : Int32} : mnadd (nadd f h x1 x2 x3 x4 x5 x6 x7 x8 x9) h x1 x2 x3 x4 x5 x6 x7 x8 x9 203 (9 * k + 2) = if k = h then x3 else f 203 (9 * k + 2) := by
  unfold mnadd nadd nadd0
  by_cases e : k = h
  · subst e
    rw [m_ui_o (by omega), m_ui_o (by omega), m_ui_o (by omega), m_ui_o (by omega), m_ui_o (by omega), m_ui_o (by omega), m_ui_o (by omega), m_ui_o (by omega), m_ui_s, if_pos rfl]
  · rw [m_ui_o (by omega), m_ui_o (by omega), m_ui_o (by omega), m_ui_o (by omega), m_ui_o (by omega), m_ui_o (by omega), m_ui_o (by omega), m_ui_o (by omega), m_ui_o (by omega), m_ui_o (by omega), m_ui_o (by omega), m_ui_o (by omega), m_ui_o (by omega), m_ui_o (by omega), m_ui_o (by omega), m_ui_o (by omega), m_ui_o (by omega), m_ui_o (by omega), m_ui_o (by omega), m_ui_o (by omega), m_ui_o (by omega), if_neg e]
theorem nm_3 {f : Nat → Nat → Int32} {h k : Nat} {x1 x2 x3 x4 x5 x6 x7 x8 x9 : Int32} : mnadd (nadd f h x1 x2 x3 x4 x5 x6 x7 x8 x9) h x1 x2 x3 x4 x5 x6 x7 x8 x9 203 (9 * k + 3) = if k = h then x4 else f 203 (9 * k + 3) := by
  unfold mnadd nadd nadd0
  by_cases e : k = h
  · subst e
    rw [m_ui_o (by omega), m_ui_o (by omega), m_ui_o (by omega), m_ui_o (by omega), m_ui_o (by omega), m_ui_o (by omega), m_ui_o (by omega), m_ui_s, if_pos rfl]
  · rw [m_ui_o (by omega), m_ui_o (by omega), m_ui_o (by omega), m_ui_o (by omega), m_ui_o (by omega), m_ui_o (by omega), m_ui_o (by omega), m_ui_o (by omega), m_ui_o (by omega), m_ui_o (by omega), m_ui_o (by omega), m_ui_o (by omega), m_ui_o (by omega), m_ui_o (by omega), m_ui_o (by omega), m_ui_o (by omega), m_ui_o (by omega), m_ui_o (by omega), m_ui_o (by omega), m_ui_o (by omega), m_ui_o (by omega), if_neg e]
theorem nm_4 {f : Nat → Nat → Int32} {h k : Nat} {x1 x2 x3 x4 x5 x6 x7 x8 x9 : Int32} : mnadd (nadd f h x1 x2 x3 x4 x5 x6 x7 x8 x9) h x1 x2 x3 x4 x5 x6 x7 x8 x9 203 (9 * k + 4) = if k = h then x5 else f 203 (9 * k + 4) := by
  unfold mnadd nadd nadd0
  by_cases e : k = h
  · subst e
    rw [m_ui_o (by omega), m_ui_o (by omega), m_ui_o (by omega), m_ui_o (by omega), m_ui_o (by omega), m_ui_o (by omega), m_ui_s, if_pos rfl]
  · rw [m_ui_o (by omega), m_ui_o (by omega), m_ui_o (by omega), m_ui_o (by omega), m_ui_o (by omega), m_ui_o (by omega), m_ui_o (by omega), m_ui_o (by omega), m_ui_o (by omega), m_ui_o (by omega), m_ui_o (by omega), m_ui_o (by omega), m_ui_o (by omega), m_ui_o (by omega), m_ui_o (by omega), m_ui_o (by omega), m_ui_o (by omega), m_ui_o (by omega), m_ui_o (by omega), m_ui_o (by omega), m_ui_o (by omega), if_neg e]
theorem nm_5 {f : Nat → Nat → Int32} {h k : Nat} {x1 x2 x3 x4 x5 x6 x7 x8 x9 : Int32} : mnadd (nadd f h x1 x2 x3 x4 x5 x6 x7 x8 x9) h x1 x2 x3 x4 x5 x6 x7 x8 x9 203 (9 * k + 5) = if k = h then x6 else f 203 (9 * k + 5) := by
  unfold mnadd nadd nadd0
  by_cases e : k = h
  · subst e
    rw [m_ui_o (by omega), m_ui_o (by omega), m_ui_o (by omega), m_ui_o (by omega), m_ui_o (by omega), m_ui_s, if_pos rfl]
  · rw [m_ui_o (by omega), m_ui_o (by omega), m_ui_o (by omega), m_ui_o (by omega), m_ui_o (by omega), m_ui_o (by omega), m_ui_o (by omega), m_ui_o (by omega), m_ui_o (by omega), m_ui_o (by omega), m_ui_o (by omega), m_ui_o (by omega), m_ui_o (by omega), m_ui_o (by omega), m_ui_o (by omega), m_ui_o (by omega), m_ui_o (by omega), m_ui_o (by omega), m_ui_o (by omega), m_ui_o (by omega), m_ui_o (by omega), if_neg e]
theorem nm_6 {f : Nat → Nat → Int32} {h k : Nat} {x1 x2 x3 x4 x5 x6 x7 x8 x9 : Int32} : mnadd (nadd f h x1 x2 x3 x4 x5 x6 x7 x8 x9) h x1 x2 x3 x4 x5 x6 x7 x8 x9 203 (9 * k + 6) = if k = h then (fr x7) else f 203 (9 * k + 6) := by
  unfold mnadd nadd nadd0
  by_cases e : k = h
  · subst e
    rw [m_ui_o (by omega), m_ui_o (by omega), m_ui_o (by omega), m_ui_o (by omega), m_ui_s, if_pos rfl]
  · rw [m_ui_o (by omega), m_ui_o (by omega), m_ui_o (by omega), m_ui_o (by omega), m_ui_o (by omega), m_ui_o (by omega), m_ui_o (by omega), m_ui_o (by omega), m_ui_o (by omega), m_ui_o (by omega), m_ui_o (by omega), m_ui_o (by omega), m_ui_o (by omega), m_ui_o (by omega), m_ui_o (by omega), m_ui_o (by omega), m_ui_o (by omega), m_ui_o (by omega), m_ui_o (by omega), m_ui_o (by omega), m_ui_o (by omega), if_neg e]
theorem nm_7 {f : Nat → Nat → Int32} {h k : Nat} {x1 x2 x3 x4 x5 x6 x7 x8 x9 : Int32} : mnadd (nadd f h x1 x2 x3 x4 x5 x6 x7 x8 x9) h x1 x2 x3 x4 x5 x6 x7 x8 x9 203 (9 * k + 7) = if k = h then x8 else f 203 (9 * k + 7) := by
  unfold mnadd nadd nadd0
  by_cases e : k = h
  · subst e
    rw [m_ui_o (by omega), m_ui_o (by omega), m_ui_o (by omega), m_ui_s, if_pos rfl]
  · rw [m_ui_o (by omega), m_ui_o (by omega), m_ui_o (by omega), m_ui_o (by omega), m_ui_o (by omega), m_ui_o (by omega), m_ui_o (by omega), m_ui_o (by omega), m_ui_o (by omega), m_ui_o (by omega), m_ui_o (by omega), m_ui_o (by omega), m_ui_o (by omega), m_ui_o (by omega), m_ui_o (by omega), m_ui_o (by omega), m_ui_o (by omega), m_ui_o (by omega), m_ui_o (by omega), m_ui_o (by omega), m_ui_o (by omega), if_neg e]
theorem nm_8 {f : Nat → Nat → Int32} {h k : Nat} {x1 x2 x3 x4 x5 x6 x7 x8 x9 : Int32} : mnadd (nadd f h x1 x2 x3 x4 x5 x6 x7 x8 x9) h x1 x2 x3 x4 x5 x6 x7 x8 x9 203 (9 * k + 8) = if k = h then x9 else f 203 (9 * k + 8) := by
  unfold mnadd nadd nadd0
  by_cases e : k = h
  · subst e
    rw [m_ui_o (by omega), m_ui_o (by omega), m_ui_s, if_pos rfl]
  · rw [m_ui_o (by omega), m_ui_o (by omega), m_ui_o (by omega), m_ui_o (by omega), m_ui_o (by omega), m_ui_o (by omega), m_ui_o (by omega), m_ui_o (by omega), m_ui_o (by omega), m_ui_o (by omega), m_ui_o (by omega), m_ui_o (by omega), m_ui_o (by omega), m_ui_o (by omega), m_ui_o (by omega), m_ui_o (by omega), m_ui_o (by omega), m_ui_o (by omega), m_ui_o (by omega), m_ui_o (by omega), m_ui_o (by omega), if_neg e]
theorem XI_na {f : Nat → Nat → Int32} {h : Nat} {x1 x2 x3 x4 x5 x6 x7 x8 x9 : Int32} (hX : XI f) (hh : h < 50) : XI (mnadd (nadd f h x1 x2 x3 x4 x5 x6 x7 x8 x9) h x1 x2 x3 x4 x5 x6 x7 x8 x9) := by
  unfold mnadd nadd nadd0
  exact XI_ui (XI_ui (XI_ui (XI_ui (XI_ui (XI_ui (XI_ui (XI_ui (XI_ui (XI_ui (XI_ui (XI_ui (XI_ui (XI_ui (XI_ui (XI_ui (XI_ui (XI_ui (XI_ui (XI_ui (XI_ui hX True.intro) True.intro) True.intro) True.intro) True.intro) (show inr 0 50 _ from inr_n1 (m := 50) (by omega) rfl (by decide))) True.intro) True.intro) True.intro) True.intro) True.intro) True.intro) True.intro) True.intro) True.intro) True.intro) True.intro) True.intro) True.intro) (show inr 0 50 _ from inr_n (m := 50) (by omega) rfl (by decide))) True.intro
theorem fin_mention {h : Nat} {f f1 f2 : Nat → Nat → Int32} {x1 x2 x3 x4 x5 x6 x7 x8 x9 v1 v2 : Int32} (hX : XI f) (hM : RM h f) (h7 : x7 = 0 ∨ x7 = 1) (s1 : SX_mention h f f1 x1 x2 x3 x4 x5 x6 x7 x8 x9 v1) (s2 : SM_mention h f1 f2 x1 x2 x3 x4 x5 x6 x7 x8 x9 v2) : XI f2 ∧ (∃ h, RM h f2) ∧ v1 = v2 := by
  rcases s1 with ⟨q1, rfl, rfl⟩ | ⟨p1, ⟨e1, rfl, rfl⟩ | ⟨l1, rfl, rfl⟩⟩
  · rcases s2 with ⟨q2, rfl, rfl⟩ | ⟨p2, _⟩
    · exact ⟨hX, ⟨h, hM⟩, rfl⟩
    · exact absurd p2 q1
  · rcases s2 with ⟨q2, _⟩ | ⟨p2, ⟨e2, rfl, rfl⟩ | ⟨l2, _⟩⟩
    · exact absurd p1 q2
    · exact ⟨hX, ⟨h, hM⟩, rfl⟩
    · omega
  · rcases s2 with ⟨q2, _⟩ | ⟨p2, ⟨e2, _⟩ | ⟨l2, rfl, rfl⟩⟩
    · exact absurd p1 q2
    · omega
    · obtain ⟨a, b, e, d⟩ := hM
      refine ⟨XI_na hX l1, ⟨h + 1, by omega, ?_, ?_, fun k hk => ?_⟩, rfl⟩
      · unfold mnadd nadd nadd0
        rw [m_ui_o (by omega), m_ui_o (by omega), m_ui_o (by omega), m_ui_o (by omega), m_ui_o (by omega), m_ui_o (by omega), m_ui_o (by omega), m_ui_o (by omega), m_ui_o (by omega), m_ui_o (by omega), m_ui_o (by omega), m_ui_o (by omega), m_ui_o (by omega), m_ui_o (by omega), m_ui_o (by omega), m_ui_s]
        exact nI_1 h
      · unfold mnadd
        rw [m_ui_o (by omega), m_ui_s]
      · unfold RN
        rw [na_140, na_141, na_142, na_143, na_144, na_145, na_146, na_147, na_148, nm_0, nm_1, nm_2, nm_3, nm_4, nm_5, nm_6, nm_7, nm_8]
        by_cases q : k = h
        · simp only [if_pos q]
          rcases h7 with rfl | rfl
          · exact ⟨trivial, trivial, trivial, trivial, trivial, trivial, rfl, trivial, trivial, p1, Or.inl rfl⟩
          · exact ⟨trivial, trivial, trivial, trivial, trivial, trivial, rfl, trivial, trivial, p1, Or.inr rfl⟩
        · simp only [if_neg q]
          exact d k (by omega)
theorem XI_n1 {h : Nat} {f f1 : Nat → Nat → Int32} {x1 x2 x3 x4 x5 x6 x7 x8 x9 v : Int32} (hX : XI f) (s : SX_mention h f f1 x1 x2 x3 x4 x5 x6 x7 x8 x9 v) : XI f1 := by
  rcases s with ⟨_, _, rfl⟩ | ⟨_, ⟨_, _, rfl⟩ | ⟨hh, _, rfl⟩⟩
  · exact hX
  · exact hX
  · unfold nadd nadd0
    exact XI_ui (XI_ui (XI_ui (XI_ui (XI_ui (XI_ui (XI_ui (XI_ui (XI_ui (XI_ui hX True.intro) True.intro) True.intro) True.intro) True.intro) (show inr 0 50 _ from inr_n1 (m := 50) (by omega) rfl (by decide))) True.intro) True.intro) True.intro) True.intro
theorem XI_n2 {h : Nat} {f f1 : Nat → Nat → Int32} {x1 x2 x3 x4 x5 x6 x7 x8 x9 v : Int32} (hX : XI f) (s : SM_mention h f f1 x1 x2 x3 x4 x5 x6 x7 x8 x9 v) : XI f1 := by
  rcases s with ⟨_, _, rfl⟩ | ⟨_, ⟨_, _, rfl⟩ | ⟨hh, _, rfl⟩⟩
  · exact hX
  · exact hX
  · unfold mnadd
    exact XI_ui (XI_ui (XI_ui (XI_ui (XI_ui (XI_ui (XI_ui (XI_ui (XI_ui (XI_ui (XI_ui hX True.intro) True.intro) True.intro) True.intro) True.intro) True.intro) True.intro) True.intro) True.intro) (show inr 0 50 _ from inr_n (m := 50) (by omega) rfl (by decide))) True.intro
theorem sx_mention {d L : Nat} {f : Nat → Nat → Int32} {g : Nat → Nat → Int64} {x1 x2 x3 x4 x5 x6 x7 x8 x9 : Int32} {R : Option Value → mH → Prop} (hd : 6 ≤ d) (hX : XI f) (H : ∀ v f' g', XI f' → kp [6] f f' → R (some (.int v)) (shF L, f', g')) : Run mtab d 104 [.ref 5, .int x1, .int x2, .int x3, .int x4, .int x5, .int x6, .int x7, .int x8, .int x9] (shF L, f, g) R := by
  obtain ⟨h, hm, hb⟩ := inr_nat (n := 50) rfl (xi_139 hX 13)
  exact sf_mention (by omega) hb hm (fun v f1 s => H v f1 _ (XI_n1 hX s) (kx_mention s))
theorem sm_mention {d L : Nat} {f : Nat → Nat → Int32} {g : Nat → Nat → Int64} {x1 x2 x3 x4 x5 x6 x7 x8 x9 : Int32} {R : Option Value → mH → Prop} (hd : 6 ≤ d) (hX : XI f) (H : ∀ v f' g', XI f' → kp [10, 16, 22] f f' → R (some (.int v)) (shF L, f', g')) : Run mtab d 190 [.ref 181, .int x1, .int x2, .int x3, .int x4, .int x5, .int x6, .int x7, .int x8, .int x9] (shF L, f, g) R := by
  obtain ⟨h, hm, hb⟩ := inr_nat (n := 50) rfl (xi_181_27 hX)
  exact smf_mention (by omega) hb hm (fun v f1 s => H v f1 _ (XI_n2 hX s) (km_mention s))
def holdw (n : Nat) (x1 x2 x3 x4 x5 x6 : Int32) : Prop := hasw n x1 ∧ inr 0 19 x2 ∧ inr 1800 1999 x3 ∧ inr 1800 1999 x6 ∧ inr x3 x6 x4 ∧ inr x3 x6 x5
theorem yr_mid {a d b : Int32} (ha : inr 1800 1999 a) (hd : inr 1800 1999 d) (h : inr a d b) : inr 1800 1999 b := by
  have p := Int32.le_iff_toInt_le.mp ha.1
  have q := Int32.le_iff_toInt_le.mp hd.2
  have r := Int32.le_iff_toInt_le.mp h.1
  have s := Int32.le_iff_toInt_le.mp h.2
  exact ⟨Int32.le_iff_toInt_le.mpr (by omega), Int32.le_iff_toInt_le.mpr (by omega)⟩
set_option maxRecDepth 100000 in
set_option maxHeartbeats 4000000 in
theorem sf_isHoldingWell {d L : Nat} {f : Nat → Nat → Int32} {g : Nat → Nat → Int64} {n : Nat} {x1 x2 x3 x4 x5 x6 : Int32} {R : Option Value → mH → Prop} (hd : 4 ≤ d) (hb : f 6 13 = nI n) (hm : n ≤ 40) (H1 : holdw n x1 x2 x3 x4 x5 x6 → R (some (.int 1)) (shF L, f, g)) (H0 : ¬ holdw n x1 x2 x3 x4 x5 x6 → R (some (.int 0)) (shF L, f, g)) : Run mtab d 143 [.ref 5, .int x1, .int x2, .int x3, .int x4, .int x5, .int x6] (shF L, f, g) R := by
  obtain ⟨d, rfl⟩ : ∃ e, d = e + 1 := ⟨d - 1, by omega⟩
  refine go_X10_isHoldingWell rfl ?_
  conv => whnf
  repeat' first
    | ((with_reducible refine ⟨vp_in_nI (by omega) (by decide), ?_⟩) <;> conv => whnf)
    | (refine ⟨Or.inl rfl, ?_⟩ <;> conv => whnf)
    | (refine ⟨Or.inr rfl, ?_⟩ <;> conv => whnf)
    | (refine ⟨Or.inl True.intro, ?_⟩ <;> conv => whnf)
    | (refine ⟨Or.inr True.intro, ?_⟩ <;> conv => whnf)
    | (refine ⟨fun c => ?_, fun c => ?_⟩ <;> first | ((have c9 : (1 : Int32) = 0 := by with_reducible exact c); exact absurd c9 (by decide)) | exact absurd (rfl : (0 : Int32) = 0) (by with_reducible exact c) | exact absurd True.intro (by with_reducible exact c) | exact False.elim (by with_reducible exact c) | (conv => whnf))
    | (refine ct_has (by omega) hb hm (fun j hj e => ?_) (fun q => ?_) <;> (try subst e) <;> conv => whnf)
    | (refine ct_isYear (by omega) (fun p => ?_) (fun p => ?_) <;> conv => whnf)
    | (refine ct_isWithin (by omega) (fun p => ?_) (fun p => ?_) <;> conv => whnf)
    | (refine ⟨by unfold vp_in; decide, ?_⟩ <;> conv => whnf)
    | fail
  all_goals first | exact H1 ⟨⟨_, hj, rfl⟩, by with_reducible assumption, by with_reducible assumption, by with_reducible assumption, by with_reducible assumption, by with_reducible assumption⟩ | exact H0 (fun hh => by first | exact absurd hh.1 (nhasw (by with_reducible assumption)) | exact absurd hh.2.1 (by with_reducible assumption) | exact absurd hh.2.2.1 (by with_reducible assumption) | exact absurd hh.2.2.2.1 (by with_reducible assumption) | exact absurd hh.2.2.2.2.1 (by with_reducible assumption) | exact absurd hh.2.2.2.2.2 (by with_reducible assumption))
set_option maxRecDepth 100000 in
set_option maxHeartbeats 4000000 in
theorem smf_isHolding {d L : Nat} {f : Nat → Nat → Int32} {g : Nat → Nat → Int64} {n : Nat} {x1 x2 x3 x4 x5 x6 : Int32} {R : Option Value → mH → Prop} (hd : 4 ≤ d) (hb : f 181 0 = nI n) (hm : n ≤ 40) (H1 : holdw n x1 x2 x3 x4 x5 x6 → R (some (.int 1)) (shF L, f, g)) (H0 : ¬ holdw n x1 x2 x3 x4 x5 x6 → R (some (.int 0)) (shF L, f, g)) : Run mtab d 166 [.ref 181, .int x1, .int x2, .int x3, .int x4, .int x5, .int x6] (shF L, f, g) R := by
  obtain ⟨d, rfl⟩ : ∃ e, d = e + 1 := ⟨d - 1, by omega⟩
  refine go_X11_isHolding rfl ?_
  conv => whnf
  repeat' first
    | ((with_reducible refine ⟨vp_in_nI (by omega) (by decide), ?_⟩) <;> conv => whnf)
    | (refine ⟨Or.inl rfl, ?_⟩ <;> conv => whnf)
    | (refine ⟨Or.inr rfl, ?_⟩ <;> conv => whnf)
    | (refine ⟨Or.inl True.intro, ?_⟩ <;> conv => whnf)
    | (refine ⟨Or.inr True.intro, ?_⟩ <;> conv => whnf)
    | (refine ⟨fun c => ?_, fun c => ?_⟩ <;> first | ((have c9 : (1 : Int32) = 0 := by with_reducible exact c); exact absurd c9 (by decide)) | exact absurd (rfl : (0 : Int32) = 0) (by with_reducible exact c) | exact absurd True.intro (by with_reducible exact c) | exact False.elim (by with_reducible exact c) | (conv => whnf))
    | (refine ct_mIsWork (by omega) hb hm (fun j hj e => ?_) (fun q => ?_) <;> (try subst e) <;> conv => whnf)
    | (refine ct_mIsYear (by omega) (fun p => ?_) (fun p => ?_) <;> conv => whnf)
    | ((with_reducible refine ct_i_0_19 (by omega) (fun p => ?_) (fun p => ?_)) <;> conv => whnf)
    | (refine ⟨by unfold vp_in; decide, ?_⟩ <;> conv => whnf)
    | fail
  all_goals first | exact H0 (fun hh => by first | exact absurd hh.1 (nhasw (by with_reducible assumption)) | exact absurd hh.2.1 (by with_reducible assumption) | exact absurd hh.2.2.1 (by with_reducible assumption) | exact absurd hh.2.2.2.1 (by with_reducible assumption) | exact absurd hh.2.2.2.2.1 (by with_reducible assumption) | exact absurd hh.2.2.2.2.2 (by with_reducible assumption) | exact absurd (yr_mid hh.2.2.1 hh.2.2.2.1 hh.2.2.2.2.1) (by with_reducible assumption) | exact absurd (yr_mid hh.2.2.1 hh.2.2.2.1 hh.2.2.2.2.2) (by with_reducible assumption) | exact absurd hh.2.2.2.2.1.1 (i32_nle.mpr (by with_reducible assumption)) | exact absurd hh.2.2.2.2.1.2 (i32_nle.mpr (by with_reducible assumption)) | exact absurd hh.2.2.2.2.2.1 (i32_nle.mpr (by with_reducible assumption)) | exact absurd hh.2.2.2.2.2.2 (i32_nle.mpr (by with_reducible assumption))) | exact H1 ⟨⟨_, hj, rfl⟩, by with_reducible assumption, by with_reducible assumption, by with_reducible assumption, ⟨i32_nlt.mp (by with_reducible assumption), i32_nlt.mp (by with_reducible assumption)⟩, ⟨i32_nlt.mp (by with_reducible assumption), i32_nlt.mp (by with_reducible assumption)⟩⟩
def oadd (f : Nat → Nat → Int32) (h : Nat) (x1 x2 x3 x4 x5 x6 : Int32) : Nat → Nat → Int32 := (m_ui (m_ui (m_ui (m_ui (m_ui (m_ui (m_ui f 101 h x1) 102 h x2) 103 h x3) 104 h x4) 105 h x5) 106 h x6) 100 6 (nI h + 1))
def kadd (f : Nat → Nat → Int32) (h : Nat) (x1 x2 x3 x4 x5 x6 : Int32) : Nat → Nat → Int32 := (m_ui (m_ui (m_ui (m_ui (m_ui (m_ui (m_ui (m_ui f 195 (6 * h) x1) 195 (6 * h + 1) x2) 195 (6 * h + 2) x3) 195 (6 * h + 3) x4) 195 (6 * h + 4) x5) 195 (6 * h + 5) x6) 181 14 (nI (h + 1))) 181 29 0)
set_option maxRecDepth 100000 in
set_option maxHeartbeats 4000000 in
theorem sf_Oadd {d L : Nat} {f : Nat → Nat → Int32} {g : Nat → Nat → Int64} {h : Nat} {x1 x2 x3 x4 x5 x6 : Int32} {R : Option Value → mH → Prop} (hd : 1 ≤ d) (hb : f 100 6 = nI h) (hm : h ≤ 60) (HF : h = 60 → R (some (.int (-3))) (shF L, f, g)) (H : h < 60 → R (some (.int (nI h))) (shF L, oadd f h x1 x2 x3 x4 x5 x6, g)) : Run mtab d 43 [.ref 100, .int x1, .int x2, .int x3, .int x4, .int x5, .int x6] (shF L, f, g) R := by
  obtain ⟨d, rfl⟩ : ∃ e, d = e + 1 := ⟨d - 1, by omega⟩
  refine go_X5_add rfl ?_
  conv => whnf
  by_cases hq : h = 60
  · subst hq
    repeat' first
      | (simp only [hb])
      | ((with_reducible refine ⟨vp_in_nI (by omega) (by decide), ?_⟩) <;> conv => whnf)
      | (refine ⟨Or.inl rfl, ?_⟩ <;> conv => whnf)
      | (refine ⟨Or.inr rfl, ?_⟩ <;> conv => whnf)
      | (refine ⟨Or.inl True.intro, ?_⟩ <;> conv => whnf)
      | (refine ⟨Or.inr True.intro, ?_⟩ <;> conv => whnf)
      | (refine ⟨fun c => ?_, fun c => ?_⟩ <;> first | ((have c9 : (1 : Int32) = 0 := by with_reducible exact c); exact absurd c9 (by decide)) | exact absurd (rfl : (0 : Int32) = 0) (by with_reducible exact c) | exact absurd True.intro (by with_reducible exact c) | exact False.elim (by with_reducible exact c) | exact absurd (by decide) c | (conv => whnf))
      | (refine ⟨by unfold vp_in; decide, ?_⟩ <;> conv => whnf)
      | fail
    all_goals exact HF rfl
  · have hlt : h < 60 := by omega
    have hcl : (nI h).toNatClampNeg = h := nI_clamp (by omega)
    repeat' first
      | (simp only [hb, m_ui_ap, m_fil_ap, m_cpy_ap, Nat.reduceEqDiff, Nat.reduceLT, Nat.reduceLeDiff, eq_self, ↓reduceIte, false_and, and_false, true_and, and_true, and_self])
      | ((with_reducible refine ⟨vp_in_nI (by omega) (by decide), ?_⟩) <;> conv => whnf)
      | (refine ⟨Or.inl rfl, ?_⟩ <;> conv => whnf)
      | (refine ⟨Or.inr rfl, ?_⟩ <;> conv => whnf)
      | (refine ⟨Or.inl True.intro, ?_⟩ <;> conv => whnf)
      | (refine ⟨Or.inr True.intro, ?_⟩ <;> conv => whnf)
      | (refine ⟨fun c => ?_, fun c => ?_⟩ <;> first | ((have c9 : (1 : Int32) = 0 := by with_reducible exact c); exact absurd c9 (by decide)) | exact absurd (rfl : (0 : Int32) = 0) (by with_reducible exact c) | exact absurd True.intro (by with_reducible exact c) | exact False.elim (by with_reducible exact c) | exact absurd ((nI_eq (b := 60) (by omega) (by decide)).mp c) hq | (conv => whnf))
      | (refine ⟨by unfold vp_in; decide, ?_⟩ <;> conv => whnf)
      | fail
    all_goals (simp only [hcl]; exact H hlt)
set_option maxRecDepth 100000 in
set_option maxHeartbeats 4000000 in
theorem smf_keep {d L : Nat} {f : Nat → Nat → Int32} {g : Nat → Nat → Int64} {h : Nat} {x1 x2 x3 x4 x5 x6 : Int32} {R : Option Value → mH → Prop} (hd : 1 ≤ d) (hb : f 181 14 = nI h) (hlt : h < 60) (H : R none (shF L, kadd f h x1 x2 x3 x4 x5 x6, g)) : Run mtab d 167 [.ref 181, .int x1, .int x2, .int x3, .int x4, .int x5, .int x6] (shF L, f, g) R := by
  obtain ⟨d, rfl⟩ : ∃ e, d = e + 1 := ⟨d - 1, by omega⟩
  refine go_X11_keepHolding rfl ?_
  conv => whnf
  have hc0 : (nI (6 * h)).toNatClampNeg = 6 * h := nI_clamp (by omega)
  have hc1 : (nI (6 * h + 1)).toNatClampNeg = 6 * h + 1 := nI_clamp (by omega)
  have hc2 : (nI (6 * h + 2)).toNatClampNeg = 6 * h + 2 := nI_clamp (by omega)
  have hc3 : (nI (6 * h + 3)).toNatClampNeg = 6 * h + 3 := nI_clamp (by omega)
  have hc4 : (nI (6 * h + 4)).toNatClampNeg = 6 * h + 4 := nI_clamp (by omega)
  have hc5 : (nI (6 * h + 5)).toNatClampNeg = 6 * h + 5 := nI_clamp (by omega)
  repeat' first
    | (simp only [hb, nI_6m, nI_1, nI_k _ 2 2 rfl, nI_k _ 3 3 rfl, nI_k _ 4 4 rfl, nI_k _ 5 5 rfl, m_ui_ap, m_fil_ap, m_cpy_ap, Nat.reduceEqDiff, Nat.reduceLT, Nat.reduceLeDiff, eq_self, ↓reduceIte, false_and, and_false, true_and, and_true, and_self])
    | ((with_reducible refine ⟨vp_in_nI (by omega) (by decide), ?_⟩) <;> conv => whnf)
    | (refine ⟨Or.inl rfl, ?_⟩ <;> conv => whnf)
    | (refine ⟨Or.inr rfl, ?_⟩ <;> conv => whnf)
    | (refine ⟨Or.inl True.intro, ?_⟩ <;> conv => whnf)
    | (refine ⟨Or.inr True.intro, ?_⟩ <;> conv => whnf)
    | (refine ⟨fun c => ?_, fun c => ?_⟩ <;> first | ((have c9 : (1 : Int32) = 0 := by with_reducible exact c); exact absurd c9 (by decide)) | exact absurd (rfl : (0 : Int32) = 0) (by with_reducible exact c) | exact absurd True.intro (by with_reducible exact c) | exact False.elim (by with_reducible exact c) | (conv => whnf))
    | (refine ⟨by unfold vp_in; decide, ?_⟩ <;> conv => whnf)
    | fail
  all_goals (simp only [hc0, hc1, hc2, hc3, hc4, hc5]; exact H)
def SX_holding (n h : Nat) (f f1 : Nat → Nat → Int32) (x1 x2 x3 x4 x5 x6 v : Int32) : Prop := (¬ holdw n x1 x2 x3 x4 x5 x6 ∧ v = -1 ∧ f1 = f) ∨ (holdw n x1 x2 x3 x4 x5 x6 ∧ ((h = 60 ∧ v = -3 ∧ f1 = f) ∨ (h < 60 ∧ v = nI h ∧ f1 = oadd f h x1 x2 x3 x4 x5 x6)))
def SM_holding (n h : Nat) (f f1 : Nat → Nat → Int32) (x1 x2 x3 x4 x5 x6 v : Int32) : Prop := (¬ holdw n x1 x2 x3 x4 x5 x6 ∧ v = -1 ∧ f1 = f) ∨ (holdw n x1 x2 x3 x4 x5 x6 ∧ ((h = 60 ∧ v = -3 ∧ f1 = f) ∨ (h < 60 ∧ v = nI h ∧ f1 = kadd f h x1 x2 x3 x4 x5 x6)))
def SX_unhold (h : Nat) (f f1 : Nat → Nat → Int32) (v : Int32) : Prop := (h = 0 ∧ v = -2 ∧ f1 = f) ∨ (0 < h ∧ v = nI (h - 1) ∧ f1 = m_ui f 100 6 (nI (h - 1)))
def SM_unhold (h : Nat) (f f1 : Nat → Nat → Int32) (v : Int32) : Prop := (h = 0 ∧ v = -2 ∧ f1 = f) ∨ (0 < h ∧ v = nI (h - 1) ∧ f1 = m_ui (m_ui f 181 14 (nI (h - 1))) 181 29 0)
theorem nI_pr {h : Nat} (h0 : 0 < h) : nI h - 1 = nI (h - 1) := by
  obtain ⟨k, rfl⟩ : ∃ k, h = k + 1 := ⟨h - 1, by omega⟩
  exact nI_pred k
set_option maxRecDepth 100000 in
set_option maxHeartbeats 4000000 in
theorem sf_holding {d L : Nat} {f : Nat → Nat → Int32} {g : Nat → Nat → Int64} {n h : Nat} {x1 x2 x3 x4 x5 x6 : Int32} {R : Option Value → mH → Prop} (hd : 6 ≤ d) (hb : f 6 13 = nI n) (hm : n ≤ 40) (hhb : f 100 6 = nI h) (hhm : h ≤ 60) (H : ∀ v f1, SX_holding n h f f1 x1 x2 x3 x4 x5 x6 v → R (some (.int v)) (shF L, f1, g)) : Run mtab d 98 [.ref 5, .int x1, .int x2, .int x3, .int x4, .int x5, .int x6] (shF L, f, g) R := by
  obtain ⟨d, rfl⟩ : ∃ e, d = e + 1 := ⟨d - 1, by omega⟩
  refine go_X10_holding rfl ?_
  conv => whnf
  refine sf_isHoldingWell (by omega) hb hm (fun p => ?_) (fun p => ?_)
  · conv => whnf
    refine ⟨fun _ => ?_, fun c => absurd c (by decide)⟩
    conv => whnf
    refine sf_Oadd (by omega) hhb hhm (fun q => ?_) (fun q => ?_)
    · conv => whnf
      exact H _ _ (Or.inr ⟨p, Or.inl ⟨q, rfl, rfl⟩⟩)
    · conv => whnf
      exact H _ _ (Or.inr ⟨p, Or.inr ⟨q, rfl, rfl⟩⟩)
  · conv => whnf
    refine ⟨fun c => absurd rfl c, fun _ => ?_⟩
    conv => whnf
    exact H _ _ (Or.inl ⟨p, rfl, rfl⟩)
set_option maxRecDepth 100000 in
set_option maxHeartbeats 4000000 in
theorem sf_unhold {d L : Nat} {f : Nat → Nat → Int32} {g : Nat → Nat → Int64} {h : Nat} {R : Option Value → mH → Prop} (hd : 1 ≤ d) (hhb : f 100 6 = nI h) (hhm : h ≤ 60) (H : ∀ v f1, SX_unhold h f f1 v → R (some (.int v)) (shF L, f1, g)) : Run mtab d 99 [.ref 5] (shF L, f, g) R := by
  obtain ⟨d, rfl⟩ : ∃ e, d = e + 1 := ⟨d - 1, by omega⟩
  refine go_X10_unhold rfl ?_
  conv => whnf
  simp only [hhb]
  by_cases h0 : h = 0
  · subst h0
    refine ⟨fun c => absurd rfl c, fun _ => ?_⟩
    conv => whnf
    exact H _ _ (Or.inl ⟨rfl, rfl, rfl⟩)
  · have hp := nI_pr (h := h) (by omega)
    refine ⟨fun _ => ?_, fun c => absurd ((nI_eq (b := 0) (by omega) (by decide)).mp c) h0⟩
    conv => whnf
    simp only [hhb, hp]
    exact H _ _ (Or.inr ⟨by omega, rfl, rfl⟩)
set_option maxRecDepth 100000 in
set_option maxHeartbeats 4000000 in
theorem smf_holding {d L : Nat} {f : Nat → Nat → Int32} {g : Nat → Nat → Int64} {n h : Nat} {x1 x2 x3 x4 x5 x6 : Int32} {R : Option Value → mH → Prop} (hd : 6 ≤ d) (hb : f 181 0 = nI n) (hm : n ≤ 40) (hhb : f 181 14 = nI h) (hhm : h ≤ 60) (H : ∀ v f1, SM_holding n h f f1 x1 x2 x3 x4 x5 x6 v → R (some (.int v)) (shF L, f1, g)) : Run mtab d 168 [.ref 181, .int x1, .int x2, .int x3, .int x4, .int x5, .int x6] (shF L, f, g) R := by
  obtain ⟨d, rfl⟩ : ∃ e, d = e + 1 := ⟨d - 1, by omega⟩
  refine go_X11_holding rfl ?_
  conv => whnf
  refine smf_isHolding (by omega) hb hm (fun p => ?_) (fun p => ?_)
  · conv => whnf
    refine ⟨fun _ => ?_, fun c => absurd c (by decide)⟩
    conv => whnf
    simp only [hhb]
    by_cases hq : h = 60
    · subst hq
      refine ⟨fun c => absurd (by decide) c, fun _ => ?_⟩
      conv => whnf
      exact H _ _ (Or.inr ⟨p, Or.inl ⟨rfl, rfl, rfl⟩⟩)
    · refine ⟨fun _ => ?_, fun c => absurd ((nI_eq (b := 60) (by omega) (by decide)).mp c) hq⟩
      conv => whnf
      refine smf_keep (by omega) hhb (by omega) ?_
      have e : kadd f h x1 x2 x3 x4 x5 x6 181 14 - 1 = nI h := by
        show nI (h + 1) - 1 = nI h
        exact nI_pred h
      conv => whnf
      have H2 := H _ _ (Or.inr ⟨p, Or.inr ⟨by omega, rfl, rfl⟩⟩)
      rw [← e] at H2
      exact H2
  · conv => whnf
    refine ⟨fun c => absurd rfl c, fun _ => ?_⟩
    conv => whnf
    exact H _ _ (Or.inl ⟨p, rfl, rfl⟩)
set_option maxRecDepth 100000 in
set_option maxHeartbeats 4000000 in
theorem smf_unhold {d L : Nat} {f : Nat → Nat → Int32} {g : Nat → Nat → Int64} {h : Nat} {R : Option Value → mH → Prop} (hd : 1 ≤ d) (hhb : f 181 14 = nI h) (hhm : h ≤ 60) (H : ∀ v f1, SM_unhold h f f1 v → R (some (.int v)) (shF L, f1, g)) : Run mtab d 169 [.ref 181] (shF L, f, g) R := by
  obtain ⟨d, rfl⟩ : ∃ e, d = e + 1 := ⟨d - 1, by omega⟩
  refine go_X11_unhold rfl ?_
  conv => whnf
  simp only [hhb]
  by_cases h0 : h = 0
  · subst h0
    refine ⟨fun c => absurd rfl c, fun _ => ?_⟩
    conv => whnf
    exact H _ _ (Or.inl ⟨rfl, rfl, rfl⟩)
  · have hp := nI_pr (h := h) (by omega)
    refine ⟨fun _ => ?_, fun c => absurd ((nI_eq (b := 0) (by omega) (by decide)).mp c) h0⟩
    conv => whnf
    simp only [hhb, hp]
    refine ⟨by first | exact Or.inl rfl | exact Or.inl True.intro, ?_⟩
    conv => whnf
    exact H _ _ (Or.inr ⟨by omega, rfl, rfl⟩)
