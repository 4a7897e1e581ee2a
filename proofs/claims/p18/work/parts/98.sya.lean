set_option maxRecDepth 100000 in
set_option maxHeartbeats 4000000 in
theorem sf_asideAt {d L : Nat} {f : Nat → Nat → Int32} {g : Nat → Nat → Int64} {j : Nat} {R : Option Value → mH → Prop} (hd : 1 ≤ d) (hX : XI f) (hj : j < 3) (H : R (some (.int (f 136 (f 138 (nI j).toNatClampNeg).toNatClampNeg))) (shF L, f, g)) : Run mtab d 84 [.ref 129, .int (nI j)] (shF L, f, g) R := by
  obtain ⟨d, rfl⟩ : ∃ e, d = e + 1 := ⟨d - 1, by omega⟩
  refine go_X9_asideAt rfl ?_
  conv => whnf
  repeat' first
    | ((with_reducible refine ⟨vx_138 hX _, ?_⟩) <;> conv => whnf)
    | ((with_reducible refine ⟨vp_in_nI (by omega) (by decide), ?_⟩) <;> conv => whnf)
    | (refine ⟨Or.inl rfl, ?_⟩ <;> conv => whnf)
    | (refine ⟨Or.inr rfl, ?_⟩ <;> conv => whnf)
    | (refine ⟨Or.inl True.intro, ?_⟩ <;> conv => whnf)
    | (refine ⟨Or.inr True.intro, ?_⟩ <;> conv => whnf)
    | (refine ⟨fun c => ?_, fun c => ?_⟩ <;> first | ((have c9 : (1 : Int32) = 0 := by with_reducible exact c); exact absurd c9 (by decide)) | exact absurd (rfl : (0 : Int32) = 0) (by with_reducible exact c) | exact absurd True.intro (by with_reducible exact c) | exact False.elim (by with_reducible exact c) | (conv => whnf))
    | (refine ⟨by unfold vp_in; decide, ?_⟩ <;> conv => whnf)
    | fail
  all_goals exact H
def ixA (f : Nat → Nat → Int32) (i : Nat) : Nat := (f 136 (f 138 (nI i).toNatClampNeg).toNatClampNeg).toNatClampNeg
/-- the first ones chosen are put aside, or back -/
def pa (f : Nat → Nat → Int32) (w : Int32) : Nat → Nat → Nat → Int32
  | 0 => f
  | i + 1 => m_ui (pa f w i) 137 (ixA f i) w
theorem pa_o {f : Nat → Nat → Int32} {w : Int32} {a b : Nat} (h : ¬ a = 137) : ∀ i, pa f w i a b = f a b
  | 0 => rfl
  | i + 1 => (m_ui_o (fun e => h e.1)).trans (pa_o h i)
theorem pa_n {f : Nat → Nat → Int32} {w : Int32} {b : Nat} : ∀ i, (∀ j, j < i → ¬ ixA f j = b) → pa f w i 137 b = f 137 b
  | 0, _ => rfl
  | i + 1, h => (m_ui_o (fun e => h i (by omega) e.2.symm)).trans (pa_n i (fun j hj => h j (by omega)))
theorem pa_y {f : Nat → Nat → Int32} {w : Int32} {b : Nat} : ∀ i, (∃ j, j < i ∧ ixA f j = b) → pa f w i 137 b = w
  | 0, h => absurd h (fun ⟨j, hj, _⟩ => by omega)
  | i + 1, h => by
    show m_ui (pa f w i) 137 (ixA f i) w 137 b = w
    by_cases e : ixA f i = b
    · rw [e]
      exact m_ui_s
    · rw [m_ui_o (fun z => e z.2.symm)]
      obtain ⟨j, hj, ej⟩ := h
      refine pa_y i ⟨j, ?_, ej⟩
      by_cases z : j = i
      · rw [z] at ej
        exact absurd ej e
      · omega
theorem XI_pa {f : Nat → Nat → Int32} {w : Int32} (h : XI f) : ∀ i, XI (pa f w i)
  | 0 => h
  | i + 1 => XI_ui (XI_pa h i) True.intro
set_option maxRecDepth 100000 in
set_option maxHeartbeats 4000000 in
theorem pa_lp {d L n : Nat} {f : Nat → Nat → Int32} {g : Nat → Nat → Int64} {w : Int32} {R : Option Value → mH → Prop} (hd : 1 ≤ d) (hX : XI f) (hw : vp_nar .boolean w = w) (hm : n ≤ 3) (H : R none (shF L, pa f w n, g)) :
    ∀ (k i : Nat) (x : Int32), i + k = n → x = nI i → WPe pg_X9_putAside none (Run mtab d) R (m_drop pg_X9_putAside 2) [some (.ref 129), some (.int (nI n)), some (.int w), some (.int x)] [] (shF L, pa f w i, g)
  | 0, i, x, hi, hx => by
    have e : i = n := by omega
    subst hx
    subst e
    refine at_X9_putAside ?_
    conv => whnf
    refine ⟨fun c => ?_, fun c => absurd (nI_le (Nat.le_refl _) (by omega)) c⟩
    conv => whnf
    exact H
  | k + 1, i, x, hi, hx => by
    subst hx
    have e136 : ∀ b, pa f w i 136 b = f 136 b := fun b => pa_o (by omega) i
    have e138 : ∀ b, pa f w i 138 b = f 138 b := fun b => pa_o (by omega) i
    have hXi := XI_pa (w := w) hX i
    refine at_X9_putAside ?_
    conv => whnf
    refine ⟨fun c => absurd c (nI_ge (b := n) (by omega) (by omega)), fun c => ?_⟩
    conv => whnf
    refine sf_asideAt (by omega) hXi (by omega) ?_
    conv => whnf
    refine ⟨vpi (xi_136 hXi _) (by decide), ?_⟩
    conv => whnf
    simp only [e136, e138, hw]
    exact pa_lp hd hX hw hm H k (i + 1) _ (by omega) (nI_1 i)
set_option maxRecDepth 100000 in
set_option maxHeartbeats 4000000 in
theorem sf_putAside {d L : Nat} {f : Nat → Nat → Int32} {g : Nat → Nat → Int64} {n : Nat} {w : Int32} {R : Option Value → mH → Prop} (hd : 2 ≤ d) (hX : XI f) (hw : vp_nar .boolean w = w) (hm : n ≤ 3) (H : R none (shF L, pa f w n, g)) : Run mtab d 87 [.ref 129, .int (nI n), .int w] (shF L, f, g) R := by
  obtain ⟨d, rfl⟩ : ∃ e, d = e + 1 := ⟨d - 1, by omega⟩
  refine go_X9_putAside rfl ?_
  conv => whnf
  exact pa_lp (by omega) hX hw hm H n 0 _ (by omega) rfl
theorem fx_pa {f f2 : Nat → Nat → Int32} {n : Nat} (hZ : Z137 f) (k2 : fx 134 135 (pa f 1 n) f2) : fx 134 135 f (pa f2 0 n) := fun a i q => by
  have ix : ∀ j, ixA f2 j = ixA f j := fun j => by
    have e1 : ∀ b, f2 136 b = f 136 b := fun b => (k2 136 b (by omega)).trans (pa_o (by omega) n)
    have e2 : ∀ b, f2 138 b = f 138 b := fun b => (k2 138 b (by omega)).trans (pa_o (by omega) n)
    unfold ixA
    rw [e2, e1]
  by_cases e : a = 137
  · subst e
    by_cases h : ∃ j, j < n ∧ ixA f2 j = i
    · rw [pa_y n h]
      exact (hZ i).symm
    · rw [pa_n n (fun j hj z => h ⟨j, hj, z⟩), k2 137 i (by omega)]
      exact pa_n n (fun j hj z => h ⟨j, hj, (ix j).trans z⟩)
  · rw [pa_o e, k2 a i q]
    exact pa_o e n
/-- nothing but the lows and what is chosen has changed -/
def zf (f f' : Nat → Nat → Int32) : Prop := ∀ a i, ¬ a = 134 → ¬ a = 138 → f' a i = f a i
theorem zf_refl (f : Nat → Nat → Int32) : zf f f := fun _ _ _ _ => rfl
theorem zf_1 {f f1 f2 : Nat → Nat → Int32} (h : zf f f1) (k : fx 134 135 f1 f2) : zf f f2 := fun a i p q => (k a i (by omega)).trans (h a i p q)
theorem zf_2 {f f1 f2 : Nat → Nat → Int32} (h : zf f f1) (k : fx 138 139 f1 f2) : zf f f2 := fun a i p q => (k a i (by omega)).trans (h a i p q)
theorem zf_t {f f1 f2 : Nat → Nat → Int32} (h : zf f f1) (k : zf f1 f2) : zf f f2 := fun a i p q => (k a i p q).trans (h a i p q)
theorem zf_ui {f f1 : Nat → Nat → Int32} {j : Nat} {v : Int32} (h : zf f f1) : zf f (m_ui f1 138 j v) := fun a i p q => (m_ui_o (fun e => q e.1)).trans (h a i p q)
theorem zf_z {f f1 : Nat → Nat → Int32} (h : zf f f1) (z : Z137 f) : Z137 f1 := fun k => (h 137 k (by omega) (by omega)).trans (z k)
theorem zf_kp {f f1 : Nat → Nat → Int32} (h : zf f f1) : kp [0] f f1 := fun a i z => h a i (fun e => by subst e; exact absurd (show true = false from z) (by decide)) (fun e => by subst e; exact absurd (show true = false from z) (by decide))
set_option maxRecDepth 100000 in
set_option maxHeartbeats 4000000 in
theorem zx_isFree {d L : Nat} {f : Nat → Nat → Int32} {g : Nat → Nat → Int64} {n : Nat} {R : Option Value → mH → Prop} (hd : 3 ≤ d) (hX : XI f) (hm : n ≤ 3) (hZ : Z137 f) (H : ∀ v f' g', (v = 0 ∨ v = 1) → XI f' → fx 134 135 f f' → R (some (.int v)) (shF L, f', g')) : Run mtab d 86 [.ref 129, .int (nI n)] (shF L, f, g) R := by
  obtain ⟨d, rfl⟩ : ∃ e, d = e + 1 := ⟨d - 1, by omega⟩
  refine go_X9_isFreeWithout rfl ?_
  conv => whnf
  refine sf_putAside (by omega) hX rfl hm ?_
  conv => whnf
  refine sx_raiseLows (by omega) (XI_pa hX n) (fun v f2 g2 hv h2 k2 => ?_)
  conv => whnf
  refine sf_putAside (by omega) h2 rfl hm ?_
  conv => whnf
  exact ⟨hv, H _ _ _ hv (XI_pa h2 n) (fx_pa hZ k2)⟩
set_option maxRecDepth 100000 in
theorem zcn_in {d L n s : Nat} {f0 : Nat → Nat → Int32} {w : Int32} {R : Option Value → mH → Prop} (hn : n ≤ 20) (hs : s ≤ 3) (H : ∀ v f' g', (v = 0 ∨ v = 1) → XI f' → fx 138 139 f0 f' → R (some (.int v)) (shF L, f', g')) :
    ∀ (k j u : Nat) (x : Int32) (f : Nat → Nat → Int32) (g : Nat → Nat → Int64), j + 1 + k = s → x = nI (j + 1) → f 138 j = nI u → u + s ≤ n + j → XI f → fx 138 139 f0 f → WPe pg_X9_chooseNext none (Run mtab d) R (m_drop pg_X9_chooseNext 29) [some (.ref 129), some (.int (nI s)), some (.int w), some (.int x)] [] (shF L, f, g)
  | 0, j, u, x, f, g, hk, hx, hu, hb, hX, hF => by
    subst hx
    have e : s = j + 1 := by omega
    subst e
    refine at_X9_chooseNext ?_
    conv => whnf
    refine ⟨fun c => ?_, fun c => absurd (nI_le (Nat.le_refl _) (by omega)) c⟩
    conv => whnf
    exact ⟨Or.inr rfl, H _ _ _ (Or.inr rfl) hX hF⟩
  | k + 1, j, u, x, f, g, hk, hx, hu, hb, hX, hF => by
    subst hx
    refine at_X9_chooseNext ?_
    conv => whnf
    refine ⟨fun c => absurd c (nI_ge (b := s) (by omega) (by omega)), fun c => ?_⟩
    conv => whnf
    simp only [nI_pred]
    refine ⟨vp_in_nI (by omega) (by decide), ?_⟩
    conv => whnf
    refine ⟨vp_in_nI (by omega) (by decide), ?_⟩
    conv => whnf
    have e1 : f 138 (nI j).toNatClampNeg = nI u := by rw [nI_clamp (by omega), hu]
    have e2 : (nI (j + 1)).toNatClampNeg = j + 1 := nI_clamp (by omega)
    refine zcn_in hn hs H k (j + 1) (u + 1) _ _ g (by omega) (nI_1 (j + 1)) ?_ (by omega) (XI_ui hX ?_) (fx_ui (by decide) (by decide) hF)
    · rw [m_ui_ap, if_pos rfl, if_pos e2.symm, e1]
      exact nI_1 u
    · show inr 0 19 _
      rw [e1]
      exact inr_n1 (m := 19) (by omega) rfl (by decide)
set_option maxRecDepth 100000 in
theorem zcn_out {d L n s : Nat} {f0 : Nat → Nat → Int32} {R : Option Value → mH → Prop} (hn : n ≤ 20) (hs : s ≤ 3) (h0 : f0 129 11 = nI n) (H : ∀ v f' g', (v = 0 ∨ v = 1) → XI f' → fx 138 139 f0 f' → R (some (.int v)) (shF L, f', g')) :
    ∀ (t : Nat) (y : Int32) (sl : Option Value) (f : Nat → Nat → Int32) (g : Nat → Nat → Int64), t ≤ s → y = nI t + -1 → XI f → fx 138 139 f0 f → WPe pg_X9_chooseNext none (Run mtab d) R (m_drop pg_X9_chooseNext 4) [some (.ref 129), some (.int (nI s)), some (.int y), sl] [] (shF L, f, g)
  | 0, y, sl, f, g, ht, hy, hX, hF => by
    subst hy
    refine at_X9_chooseNext ?_
    conv => whnf
    refine ⟨fun c => ?_, fun c => absurd (by decide) c⟩
    conv => whnf
    exact ⟨Or.inl rfl, H _ _ _ (Or.inl rfl) hX hF⟩
  | t + 1, y, sl, f, g, ht, hy, hX, hF => by
    have e : nI (t + 1) + -1 = nI t := by rw [← Int32.sub_eq_add_neg, nI_pred]
    rw [e] at hy
    subst hy
    have hc : f 129 11 = nI n := (hF 129 11 (by omega)).trans h0
    obtain ⟨u, hu, eu⟩ := inr_nat (n := 19) rfl (xi_138 hX t)
    have e1 : f 138 (nI t).toNatClampNeg = nI u := by rw [nI_clamp (by omega), eu]
    refine at_X9_chooseNext ?_
    conv => whnf
    refine ⟨fun c => absurd c (nI_pos (by omega)), fun c => ?_⟩
    conv => whnf
    refine ⟨vp_in_nI (by omega) (by decide), ?_⟩
    conv => whnf
    simp only [hc, e1]
    refine ⟨fun c2 => ?_, fun c2 => ?_⟩
    · conv => whnf
      exact zcn_out hn hs h0 H t _ _ f g (by omega) rfl hX hF
    · have lt := cn_lt hn hs (by omega) hu c2
      conv => whnf
      refine ⟨vp_in_nI (by omega) (by decide), ?_⟩
      conv => whnf
      simp only [e1]
      refine ⟨vp_in_nI (by omega) (by decide), ?_⟩
      conv => whnf
      refine zcn_in hn hs H (s - (t + 1)) t (u + 1) _ _ g (by omega) (nI_1 t) ?_ (by omega) (XI_ui hX ?_) (fx_ui (by decide) (by decide) hF)
      · rw [m_ui_ap, if_pos rfl, if_pos (nI_clamp (by omega)).symm]
        exact nI_1 u
      · show inr 0 19 _
        exact inr_n1 (m := 19) (by omega) rfl (by decide)
set_option maxRecDepth 100000 in
set_option maxHeartbeats 4000000 in
theorem zx_chooseNext {d L : Nat} {f : Nat → Nat → Int32} {g : Nat → Nat → Int64} {s : Nat} {R : Option Value → mH → Prop} (hd : 1 ≤ d) (hX : XI f) (hs : s ≤ 3) (H : ∀ v f' g', (v = 0 ∨ v = 1) → XI f' → fx 138 139 f f' → R (some (.int v)) (shF L, f', g')) : Run mtab d 88 [.ref 129, .int (nI s)] (shF L, f, g) R := by
  obtain ⟨d, rfl⟩ : ∃ e, d = e + 1 := ⟨d - 1, by omega⟩
  refine go_X9_chooseNext rfl ?_
  conv => whnf
  obtain ⟨n, hm, hc⟩ := inr_nat (n := 20) rfl (xi_129 hX 11)
  exact zcn_out hm hs hc H s _ _ _ _ (Nat.le_refl s) (Int32.sub_eq_add_neg ..) hX (fx_refl _ _ _)
set_option maxRecDepth 100000 in
set_option maxHeartbeats 4000000 in
theorem zx_chA2_lp {d L : Nat} {f0 : Nat → Nat → Int32} {s : Nat} {R : Option Value → mH → Prop} (hd : 3 ≤ d) (hs : s ≤ 3) (hZ0 : Z137 f0) (H : ∀ v f' g', (v = 0 ∨ v = 1) → XI f' → zf f0 f' → R (some (.int v)) (shF L, f', g'))  :
    ∀ (k i : Nat) (x : Int32) (f : Nat → Nat → Int32) (g : Nat → Nat → Int64), i + k = 2000 → x = nI i → XI f → zf f0 f → WPe pg_X9_chooseAsides none (Run mtab d) R (m_drop pg_X9_chooseAsides 20) [some (.ref 129), some (.int (nI s)), some (.int x)] [] (shF L, f, g)
  | 0, i, x, f, g, he, hx, hX, hF => by
    have e : i = 2000 := by omega
    subst hx
    have hZ : Z137 f := zf_z hF hZ0
    subst e
    refine at_X9_chooseAsides ?_
    conv => whnf
    refine ⟨fun c => ?_, fun c => absurd (by decide) c⟩
    conv => whnf
    repeat' first
      | ((with_reducible refine ⟨vp_in_nI (by omega) (by decide), ?_⟩) <;> conv => whnf)
      | (refine ⟨Or.inl rfl, ?_⟩ <;> conv => whnf)
      | (refine ⟨Or.inr rfl, ?_⟩ <;> conv => whnf)
      | (refine ⟨Or.inl True.intro, ?_⟩ <;> conv => whnf)
      | (refine ⟨Or.inr True.intro, ?_⟩ <;> conv => whnf)
      | (refine ⟨fun c => ?_, fun c => ?_⟩ <;> first | ((have c9 : (1 : Int32) = 0 := by with_reducible exact c); exact absurd c9 (by decide)) | exact absurd (rfl : (0 : Int32) = 0) (by with_reducible exact c) | exact absurd True.intro (by with_reducible exact c) | exact False.elim (by with_reducible exact c) | (conv => whnf))
      | (refine ⟨by unfold vp_in; decide, ?_⟩ <;> conv => whnf)
      | fail
    all_goals first | exact ⟨Or.inl rfl, H _ _ _ (Or.inl rfl) (by assumption) (by assumption)⟩ | exact ⟨Or.inr rfl, H _ _ _ (Or.inr rfl) (by assumption) (by assumption)⟩ | exact H _ _ _ (Or.inl rfl) (by assumption) (by assumption) | exact H _ _ _ (Or.inr rfl) (by assumption) (by assumption)
  | k + 1, i, x, f, g, he, hx, hX, hF => by
    subst hx
    have hZ : Z137 f := zf_z hF hZ0
    refine at_X9_chooseAsides ?_
    conv => whnf
    refine ⟨fun c => absurd c (nI_ge (b := 2000) (by omega) (by omega)), fun c => ?_⟩
    conv => whnf
    repeat' first
      | exact zx_chA2_lp hd hs hZ0 H k (i + 1) _  _ _ (by omega) (nI_1 i) (by repeat' first | (with_reducible assumption) | (with_reducible refine XI_ui ?_ ?_) | (with_reducible refine XI_fil ?_ (fun _ => ?_)) | (with_reducible refine XI_cpy ?_ (fun _ _ => ?_)) | exact True.intro | ((show inr _ _ _); first | (with_reducible assumption) | (unfold inr; decide)) | fail) (by first | (with_reducible assumption) | (with_reducible exact zf_ui hF))
      | ((with_reducible refine ⟨vp_in_nI (by omega) (by decide), ?_⟩) <;> conv => whnf)
      | (refine ⟨Or.inl rfl, ?_⟩ <;> conv => whnf)
      | (refine ⟨Or.inr rfl, ?_⟩ <;> conv => whnf)
      | (refine ⟨Or.inl True.intro, ?_⟩ <;> conv => whnf)
      | (refine ⟨Or.inr True.intro, ?_⟩ <;> conv => whnf)
      | (refine ⟨fun c => ?_, fun c => ?_⟩ <;> first | ((have c9 : (1 : Int32) = 0 := by with_reducible exact c); exact absurd c9 (by decide)) | exact absurd (rfl : (0 : Int32) = 0) (by with_reducible exact c) | exact absurd True.intro (by with_reducible exact c) | exact False.elim (by with_reducible exact c) | (conv => whnf))
      | (refine zx_isFree (by omega) hX hs hZ (fun v f1 g1 hv h1 k1 => ?_) <;> (have k1' := zf_1 hF k1) <;> conv => whnf)
      | (refine zx_chooseNext (by omega) h1 hs (fun v2 f2 g2 hv2 h2 k2 => ?_) <;> (have k2' := zf_2 k1' k2) <;> conv => whnf)
      | (refine ⟨by unfold vp_in; decide, ?_⟩ <;> conv => whnf)
      | fail
    all_goals first | exact ⟨Or.inl rfl, H _ _ _ (Or.inl rfl) (by assumption) (by assumption)⟩ | exact ⟨Or.inr rfl, H _ _ _ (Or.inr rfl) (by assumption) (by assumption)⟩ | exact H _ _ _ (Or.inl rfl) (by assumption) (by assumption) | exact H _ _ _ (Or.inr rfl) (by assumption) (by assumption)
set_option maxRecDepth 100000 in
set_option maxHeartbeats 4000000 in
theorem zx_chA1_lp {d L n : Nat} {f0 : Nat → Nat → Int32}  {R : Option Value → mH → Prop} (hd : 3 ≤ d) (hm : n ≤ 3) (hZ0 : Z137 f0) (H : ∀ v f' g', (v = 0 ∨ v = 1) → XI f' → zf f0 f' → R (some (.int v)) (shF L, f', g'))  :
    ∀ (k i : Nat) (x : Int32) (f : Nat → Nat → Int32) (g : Nat → Nat → Int64), i + k = n → x = nI i → XI f → zf f0 f → WPe pg_X9_chooseAsides none (Run mtab d) R (m_drop pg_X9_chooseAsides 8) [some (.ref 129), some (.int (nI n)), some (.int x)] [] (shF L, f, g)
  | 0, i, x, f, g, he, hx, hX, hF => by
    have e : i = n := by omega
    subst hx
    subst e
    refine at_X9_chooseAsides ?_
    conv => whnf
    refine ⟨fun c => ?_, fun c => absurd (nI_le (Nat.le_refl _) (by omega)) c⟩
    conv => whnf
    repeat' first
      | exact zx_chA2_lp (by omega) hm hZ0 H 2000 0 _ _ _ (by omega) rfl hX hF
      | ((with_reducible refine ⟨vp_in_nI (by omega) (by decide), ?_⟩) <;> conv => whnf)
      | (refine ⟨Or.inl rfl, ?_⟩ <;> conv => whnf)
      | (refine ⟨Or.inr rfl, ?_⟩ <;> conv => whnf)
      | (refine ⟨Or.inl True.intro, ?_⟩ <;> conv => whnf)
      | (refine ⟨Or.inr True.intro, ?_⟩ <;> conv => whnf)
      | (refine ⟨fun c => ?_, fun c => ?_⟩ <;> first | ((have c9 : (1 : Int32) = 0 := by with_reducible exact c); exact absurd c9 (by decide)) | exact absurd (rfl : (0 : Int32) = 0) (by with_reducible exact c) | exact absurd True.intro (by with_reducible exact c) | exact False.elim (by with_reducible exact c) | (conv => whnf))
      | (refine ⟨by unfold vp_in; decide, ?_⟩ <;> conv => whnf)
      | fail
    all_goals first | exact ⟨Or.inl rfl, H _ _ _ (Or.inl rfl) (by assumption) (by assumption)⟩ | exact ⟨Or.inr rfl, H _ _ _ (Or.inr rfl) (by assumption) (by assumption)⟩ | exact H _ _ _ (Or.inl rfl) (by assumption) (by assumption) | exact H _ _ _ (Or.inr rfl) (by assumption) (by assumption)
  | k + 1, i, x, f, g, he, hx, hX, hF => by
    subst hx
    refine at_X9_chooseAsides ?_
    conv => whnf
    refine ⟨fun c => absurd c (nI_ge (b := n) (by omega) (by omega)), fun c => ?_⟩
    conv => whnf
    repeat' first
      | exact zx_chA1_lp hd hm hZ0 H k (i + 1) _  _ _ (by omega) (nI_1 i) (by repeat' first | (with_reducible assumption) | (with_reducible refine XI_ui ?_ ?_) | (with_reducible refine XI_fil ?_ (fun _ => ?_)) | (with_reducible refine XI_cpy ?_ (fun _ _ => ?_)) | exact True.intro | ((show inr _ _ _); first | (with_reducible assumption) | ((with_reducible refine inr_n1 (m := 19) ?_ ?_ ?_) <;> first | omega | rfl | decide) | ((with_reducible refine inr_n (m := 19) ?_ ?_ ?_) <;> first | omega | rfl | decide) | (unfold inr; decide)) | fail) (by first | (with_reducible assumption) | (with_reducible exact zf_ui hF))
      | ((with_reducible refine ⟨vp_in_nI (by omega) (by decide), ?_⟩) <;> conv => whnf)
      | (refine ⟨Or.inl rfl, ?_⟩ <;> conv => whnf)
      | (refine ⟨Or.inr rfl, ?_⟩ <;> conv => whnf)
      | (refine ⟨Or.inl True.intro, ?_⟩ <;> conv => whnf)
      | (refine ⟨Or.inr True.intro, ?_⟩ <;> conv => whnf)
      | (refine ⟨fun c => ?_, fun c => ?_⟩ <;> first | ((have c9 : (1 : Int32) = 0 := by with_reducible exact c); exact absurd c9 (by decide)) | exact absurd (rfl : (0 : Int32) = 0) (by with_reducible exact c) | exact absurd True.intro (by with_reducible exact c) | exact False.elim (by with_reducible exact c) | (conv => whnf))
      | (refine ⟨by unfold vp_in; decide, ?_⟩ <;> conv => whnf)
      | fail
    all_goals first | exact ⟨Or.inl rfl, H _ _ _ (Or.inl rfl) (by assumption) (by assumption)⟩ | exact ⟨Or.inr rfl, H _ _ _ (Or.inr rfl) (by assumption) (by assumption)⟩ | exact H _ _ _ (Or.inl rfl) (by assumption) (by assumption) | exact H _ _ _ (Or.inr rfl) (by assumption) (by assumption)
set_option maxRecDepth 100000 in
set_option maxHeartbeats 4000000 in
theorem zx_chooseAsides {d L : Nat} {f : Nat → Nat → Int32} {g : Nat → Nat → Int64} {s : Nat} {w : Int32} {R : Option Value → mH → Prop} (hd : 4 ≤ d) (hX : XI f) (hw : w = nI s) (hs : s ≤ 3) (hZ : Z137 f) (H : ∀ v f' g', (v = 0 ∨ v = 1) → XI f' → zf f f' → R (some (.int v)) (shF L, f', g')) : Run mtab d 85 [.ref 129, .int w] (shF L, f, g) R := by
  obtain ⟨d, rfl⟩ : ∃ e, d = e + 1 := ⟨d - 1, by omega⟩
  refine go_X9_chooseAsides rfl ?_
  conv => whnf
  subst hw
  repeat' first
    | exact zx_chA1_lp (by omega) hs hZ H s 0 _ _ _ (by omega) rfl hX (zf_refl _)
    | ((with_reducible refine ⟨vp_in_nI (by omega) (by decide), ?_⟩) <;> conv => whnf)
    | (refine ⟨Or.inl rfl, ?_⟩ <;> conv => whnf)
    | (refine ⟨Or.inr rfl, ?_⟩ <;> conv => whnf)
    | (refine ⟨Or.inl True.intro, ?_⟩ <;> conv => whnf)
    | (refine ⟨Or.inr True.intro, ?_⟩ <;> conv => whnf)
    | (refine ⟨fun c => ?_, fun c => ?_⟩ <;> first | ((have c9 : (1 : Int32) = 0 := by with_reducible exact c); exact absurd c9 (by decide)) | exact absurd (rfl : (0 : Int32) = 0) (by with_reducible exact c) | exact absurd True.intro (by with_reducible exact c) | exact False.elim (by with_reducible exact c) | (conv => whnf))
    | (refine ⟨by unfold vp_in; decide, ?_⟩ <;> conv => whnf)
    | fail
  all_goals exact H _ _ _ (Or.inl rfl) hX (zf_refl _)
set_option maxRecDepth 100000 in
set_option maxHeartbeats 4000000 in
theorem zx_fA_lp {d L : Nat} {f0 : Nat → Nat → Int32}  {R : Option Value → mH → Prop} (hd : 4 ≤ d) (hZ0 : Z137 f0) (H : ∀ v f' g', (v = -4 ∨ ∃ s, s ≤ 3 ∧ v = nI s) → XI f' → zf f0 f' → R (some (.int v)) (shF L, f', g'))  :
    ∀ (k i : Nat) (x : Int32) (f : Nat → Nat → Int32) (g : Nat → Nat → Int64), i + k = 4 → x = nI i → XI f → zf f0 f → WPe pg_X9_findAsides none (Run mtab d) R (m_drop pg_X9_findAsides 7) [some (.ref 129), some (.int x)] [] (shF L, f, g)
  | 0, i, x, f, g, he, hx, hX, hF => by
    have e : i = 4 := by omega
    subst hx
    have hZ : Z137 f := zf_z hF hZ0
    subst e
    refine at_X9_findAsides ?_
    conv => whnf
    refine ⟨fun c => ?_, fun c => absurd (by decide) c⟩
    conv => whnf
    repeat' first
      | ((with_reducible refine ⟨vp_in_nI (by omega) (by decide), ?_⟩) <;> conv => whnf)
      | (refine ⟨Or.inl rfl, ?_⟩ <;> conv => whnf)
      | (refine ⟨Or.inr rfl, ?_⟩ <;> conv => whnf)
      | (refine ⟨Or.inl True.intro, ?_⟩ <;> conv => whnf)
      | (refine ⟨Or.inr True.intro, ?_⟩ <;> conv => whnf)
      | (refine ⟨fun c => ?_, fun c => ?_⟩ <;> first | ((have c9 : (1 : Int32) = 0 := by with_reducible exact c); exact absurd c9 (by decide)) | exact absurd (rfl : (0 : Int32) = 0) (by with_reducible exact c) | exact absurd True.intro (by with_reducible exact c) | exact False.elim (by with_reducible exact c) | (conv => whnf))
      | (refine ⟨by unfold vp_in; decide, ?_⟩ <;> conv => whnf)
      | fail
    all_goals first | exact H _ _ _ (Or.inl rfl) hX hF | exact H _ _ _ (Or.inr ⟨_, by omega, rfl⟩) h1 k1'
  | k + 1, i, x, f, g, he, hx, hX, hF => by
    subst hx
    have hZ : Z137 f := zf_z hF hZ0
    refine at_X9_findAsides ?_
    conv => whnf
    refine ⟨fun c => absurd c (nI_nlt (a := 3) (b := i) (by omega) (by omega)), fun c => ?_⟩
    conv => whnf
    repeat' first
      | exact zx_fA_lp hd hZ0 H k (i + 1) _  _ _ (by omega) (nI_1 i) (by repeat' first | (with_reducible assumption) | (with_reducible refine XI_ui ?_ ?_) | (with_reducible refine XI_fil ?_ (fun _ => ?_)) | (with_reducible refine XI_cpy ?_ (fun _ _ => ?_)) | exact True.intro | ((show inr _ _ _); first | (with_reducible assumption) | (unfold inr; decide)) | fail) (by first | (with_reducible assumption) | (with_reducible exact zf_ui hF))
      | ((with_reducible refine ⟨vp_in_nI (by omega) (by decide), ?_⟩) <;> conv => whnf)
      | (refine ⟨Or.inl rfl, ?_⟩ <;> conv => whnf)
      | (refine ⟨Or.inr rfl, ?_⟩ <;> conv => whnf)
      | (refine ⟨Or.inl True.intro, ?_⟩ <;> conv => whnf)
      | (refine ⟨Or.inr True.intro, ?_⟩ <;> conv => whnf)
      | (refine ⟨fun c => ?_, fun c => ?_⟩ <;> first | ((have c9 : (1 : Int32) = 0 := by with_reducible exact c); exact absurd c9 (by decide)) | exact absurd (rfl : (0 : Int32) = 0) (by with_reducible exact c) | exact absurd True.intro (by with_reducible exact c) | exact False.elim (by with_reducible exact c) | (conv => whnf))
      | (refine zx_chooseAsides (by omega) hX rfl (by omega) hZ (fun v f1 g1 hv h1 k1 => ?_) <;> (have k1' := zf_t hF k1) <;> conv => whnf)
      | (refine ⟨by unfold vp_in; decide, ?_⟩ <;> conv => whnf)
      | fail
    all_goals first | exact H _ _ _ (Or.inl rfl) hX hF | exact H _ _ _ (Or.inr ⟨_, by omega, rfl⟩) h1 k1'
set_option maxRecDepth 100000 in
set_option maxHeartbeats 4000000 in
theorem zx_findAsides {d L : Nat} {f : Nat → Nat → Int32} {g : Nat → Nat → Int64}  {R : Option Value → mH → Prop} (hd : 5 ≤ d) (hX : XI f) (hZ : Z137 f) (H : ∀ v f' g', (v = -4 ∨ ∃ s, s ≤ 3 ∧ v = nI s) → XI f' → zf f f' → R (some (.int v)) (shF L, f', g'))  : Run mtab d 83 [.ref 129] (shF L, f, g) R := by
  obtain ⟨d, rfl⟩ : ∃ e, d = e + 1 := ⟨d - 1, by omega⟩
  refine go_X9_findAsides rfl ?_
  conv => whnf
  repeat' first
    | exact zx_fA_lp (by omega) hZ H 3 1 _ _ _ (by omega) rfl hX (zf_refl _)
    | ((with_reducible refine ⟨vp_in_nI (by omega) (by decide), ?_⟩) <;> conv => whnf)
    | (refine ⟨Or.inl rfl, ?_⟩ <;> conv => whnf)
    | (refine ⟨Or.inr rfl, ?_⟩ <;> conv => whnf)
    | (refine ⟨Or.inl True.intro, ?_⟩ <;> conv => whnf)
    | (refine ⟨Or.inr True.intro, ?_⟩ <;> conv => whnf)
    | (refine ⟨fun c => ?_, fun c => ?_⟩ <;> first | ((have c9 : (1 : Int32) = 0 := by with_reducible exact c); exact absurd c9 (by decide)) | exact absurd (rfl : (0 : Int32) = 0) (by with_reducible exact c) | exact absurd True.intro (by with_reducible exact c) | exact False.elim (by with_reducible exact c) | (conv => whnf))
    | (refine ⟨by unfold vp_in; decide, ?_⟩ <;> conv => whnf)
    | fail
  all_goals exact H _ _ _ (Or.inr ⟨0, by omega, rfl⟩) hX (zf_refl _)
set_option maxRecDepth 100000 in
set_option maxHeartbeats 4000000 in
theorem zx_asides {d L : Nat} {f : Nat → Nat → Int32} {g : Nat → Nat → Int64}  {R : Option Value → mH → Prop} (hd : 8 ≤ d) (hX : XI f) (hZ : Z137 f) (H : ∀ v f' g', XI f' → kp [0] f f' → R (some (.int v)) (shF L, f', g')) : Run mtab d 116 [.ref 5] (shF L, f, g) R := by
  obtain ⟨d, rfl⟩ : ∃ e, d = e + 1 := ⟨d - 1, by omega⟩
  refine go_X10_asides rfl ?_
  conv => whnf
  refine sx_reckon (by omega) hX (fun f1 g1 h1 k1 => ?_)
  conv => whnf
  refine zx_findAsides (by omega) h1 (fun k => (k1 137 k rfl).trans (hZ k)) (fun v f2 g2 hv h2 k2 => ?_)
  conv => whnf
  exact H _ _ _ h2 (kp_trans k1 (zf_kp k2))
set_option maxRecDepth 100000 in
set_option maxHeartbeats 4000000 in
theorem zx_aside {d L : Nat} {f : Nat → Nat → Int32} {g : Nat → Nat → Int64} {x1 : Int32} {R : Option Value → mH → Prop} (hd : 8 ≤ d) (hX : XI f) (hZ : Z137 f) (H : ∀ v f' g', XI f' → kp [0] f f' → R (some (.int v)) (shF L, f', g')) : Run mtab d 117 [.ref 5, .int x1] (shF L, f, g) R := by
  obtain ⟨d, rfl⟩ : ∃ e, d = e + 1 := ⟨d - 1, by omega⟩
  refine go_X10_aside rfl ?_
  conv => whnf
  refine ct_isWithin (by omega) (fun p => ?_) (fun p => ?_)
  · obtain ⟨j, hj, rfl⟩ := inr_nat (n := 2) rfl p
    conv => whnf
    refine ⟨fun _ => ?_, fun c => absurd c (by decide)⟩
    conv => whnf
    refine sx_reckon (by omega) hX (fun f1 g1 h1 k1 => ?_)
    conv => whnf
    refine zx_findAsides (by omega) h1 (fun k => (k1 137 k rfl).trans (hZ k)) (fun v f2 g2 hv h2 k2 => ?_)
    conv => whnf
    repeat' first
      | ((with_reducible refine ⟨vp_in_nI (by omega) (by decide), ?_⟩) <;> conv => whnf)
      | (refine ⟨Or.inl rfl, ?_⟩ <;> conv => whnf)
      | (refine ⟨Or.inr rfl, ?_⟩ <;> conv => whnf)
      | (refine ⟨Or.inl True.intro, ?_⟩ <;> conv => whnf)
      | (refine ⟨Or.inr True.intro, ?_⟩ <;> conv => whnf)
      | (refine ⟨fun c => ?_, fun c => ?_⟩ <;> first | ((have c9 : (1 : Int32) = 0 := by with_reducible exact c); exact absurd c9 (by decide)) | exact absurd (rfl : (0 : Int32) = 0) (by with_reducible exact c) | exact absurd True.intro (by with_reducible exact c) | exact False.elim (by with_reducible exact c) | (conv => whnf))
      | (refine sx_asideAt (by omega) h2 (by omega) (fun v hv => ?_) <;> conv => whnf)
      | (refine ⟨by unfold vp_in; decide, ?_⟩ <;> conv => whnf)
      | fail
    all_goals exact H _ _ _ h2 (kp_trans k1 (zf_kp k2))
  · conv => whnf
    refine ⟨fun c => absurd (by decide) c, fun _ => ?_⟩
    conv => whnf
    exact H _ _ _ hX (kp_refl _ _)
