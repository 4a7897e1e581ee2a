set_option maxRecDepth 100000 in
set_option maxHeartbeats 4000000 in
theorem sm_fc_lp {d L n : Nat} {f : Nat → Nat → Int32} {g : Nat → Nat → Int64} {vn : Nat} {R : Option Value → mH → Prop} (hd : 3 ≤ d) (hX : XI f) (hb : f 181 16 = nI n) (hm : n ≤ 20) (hvb : f 181 48 = nI vn) (hk : vn ≤ 60) (H : ∀ v, R (some (.int v)) (shF L, f, g)) :
    ∀ (k i : Nat) (x : Int32) (a : Int32) (s3 : Option Value), i + k = n → x = nI i → WPe pg_X11_findCounting none (Run mtab d) R (m_drop pg_X11_findCounting 4) [some (.ref 181), some (.int a), some (.int x), s3] [] (shF L, f, g)
  | 0, i, x, a, s3, hi, hx => by
    have e : i = n := by omega
    subst hx
    subst e
    refine at_X11_findCounting ?_
    conv => whnf
    simp only [hb]
    refine ⟨fun c => ?_, fun c => absurd (nI_le (Nat.le_refl _) (by omega)) c⟩
    conv => whnf
    repeat' first
      | (simp only [hb, hvb])
      | ((with_reducible refine ⟨vp_in_nI (by omega) (by decide), ?_⟩) <;> conv => whnf)
      | (refine ⟨Or.inl rfl, ?_⟩ <;> conv => whnf)
      | (refine ⟨Or.inr rfl, ?_⟩ <;> conv => whnf)
      | (refine ⟨Or.inl True.intro, ?_⟩ <;> conv => whnf)
      | (refine ⟨Or.inr True.intro, ?_⟩ <;> conv => whnf)
      | (refine ⟨fun c => ?_, fun c => ?_⟩ <;> first | ((have c9 : (1 : Int32) = 0 := by with_reducible exact c); exact absurd c9 (by decide)) | exact absurd (rfl : (0 : Int32) = 0) (by with_reducible exact c) | exact absurd True.intro (by with_reducible exact c) | exact False.elim (by with_reducible exact c) | (conv => whnf))
      | (refine sm_stateOf (by omega) hX hk (fun v => ?_) <;> conv => whnf)
      | (refine ⟨by unfold vp_in; decide, ?_⟩ <;> conv => whnf)
      | fail
    all_goals exact H _
  | k + 1, i, x, a, s3, hi, hx => by
    subst hx
    refine at_X11_findCounting ?_
    conv => whnf
    simp only [hb]
    refine ⟨fun c => absurd c (nI_ge (b := n) (by omega) (by omega)), fun c => ?_⟩
    conv => whnf
    repeat' first
      | exact sm_fc_lp hd hX hb hm hvb hk H k (i + 1) _ _ _ (by omega) (nI_1 i)
      | (simp only [hb, hvb])
      | ((with_reducible refine ⟨vp_in_nI (by omega) (by decide), ?_⟩) <;> conv => whnf)
      | (refine ⟨Or.inl rfl, ?_⟩ <;> conv => whnf)
      | (refine ⟨Or.inr rfl, ?_⟩ <;> conv => whnf)
      | (refine ⟨Or.inl True.intro, ?_⟩ <;> conv => whnf)
      | (refine ⟨Or.inr True.intro, ?_⟩ <;> conv => whnf)
      | (refine ⟨fun c => ?_, fun c => ?_⟩ <;> first | ((have c9 : (1 : Int32) = 0 := by with_reducible exact c); exact absurd c9 (by decide)) | exact absurd (rfl : (0 : Int32) = 0) (by with_reducible exact c) | exact absurd True.intro (by with_reducible exact c) | exact False.elim (by with_reducible exact c) | (conv => whnf))
      | (refine sm_stateOf (by omega) hX hk (fun v => ?_) <;> conv => whnf)
      | (refine ⟨by unfold vp_in; decide, ?_⟩ <;> conv => whnf)
      | fail
    all_goals exact H _
set_option maxRecDepth 100000 in
set_option maxHeartbeats 4000000 in
theorem sm_findCounting {d L : Nat} {f : Nat → Nat → Int32} {g : Nat → Nat → Int64}  {R : Option Value → mH → Prop} (hd : 4 ≤ d) (hX : XI f) (H : ∀ v, R (some (.int v)) (shF L, f, g)) : Run mtab d 178 [.ref 181] (shF L, f, g) R := by
  obtain ⟨d, rfl⟩ : ∃ e, d = e + 1 := ⟨d - 1, by omega⟩
  refine go_X11_findCounting rfl ?_
  conv => whnf
  obtain ⟨n, hm, hb⟩ := inr_nat (n := 20) rfl (xi_181_16 hX)
  obtain ⟨vn, hvn, hvb⟩ := inr_nat (n := 60) rfl (xi_181_48 hX)
  exact sm_fc_lp (by omega) hX hb hm hvb hvn H n 0 _ _ _ (by omega) rfl
def msum (h : Nat → Nat) : Nat → Nat
  | 0 => 0
  | k + 1 => msum h k + h k
theorem msum_eq {h h' : Nat → Nat} : ∀ n, (∀ k, k < n → h' k = h k) → msum h' n = msum h n
  | 0, _ => rfl
  | n + 1, he => by
    show msum h' n + h' n = msum h n + h n
    rw [msum_eq n (fun k hk => he k (by omega)), he n (by omega)]
theorem msum_lt {h h' : Nat → Nat} {b : Nat} (he : ∀ k, ¬ k = b → h' k = h k) (hb : h' b < h b) : ∀ n, b < n → msum h' n < msum h n
  | 0, hn => absurd hn (by omega)
  | n + 1, hn => by
    show msum h' n + h' n < msum h n + h n
    by_cases e : b = n
    · subst e
      rw [msum_eq b (fun k hk => he k (by omega))]
      omega
    · have := msum_lt he hb n (by omega)
      rw [he n (fun q => e q.symm)]
      omega
def mu (f : Nat → Nat → Int32) : Nat := msum (fun k => (2147483647 - (f 200 k).toInt).toNat) 40
def md (f : Nat → Nat → Int32) : Nat := msum (fun k => ((f 201 k).toInt + 2147483648).toNat) 40
theorem mu_up {f : Nat → Nat → Int32} {b : Nat} {y : Int32} (hb : b < 40) (h : ¬ y ≤ f 200 b) : mu (m_ui f 200 b y) < mu f := by
  refine msum_lt (b := b) (fun k hk => ?_) ?_ 40 hb
  · show (2147483647 - (m_ui f 200 b y 200 k).toInt).toNat = _
    rw [m_ui_ap, if_pos rfl, if_neg hk]
  · show (2147483647 - (m_ui f 200 b y 200 b).toInt).toNat < _
    rw [m_ui_ap, if_pos rfl, if_pos rfl]
    rw [Int32.le_iff_toInt_le] at h
    have := Int32.toInt_lt y
    omega
theorem md_up {f : Nat → Nat → Int32} {b : Nat} {y : Int32} (hb : b < 40) (h : ¬ f 201 b ≤ y) : md (m_ui f 201 b y) < md f := by
  refine msum_lt (b := b) (fun k hk => ?_) ?_ 40 hb
  · show ((m_ui f 201 b y 201 k).toInt + 2147483648).toNat = _
    rw [m_ui_ap, if_pos rfl, if_neg hk]
  · show ((m_ui f 201 b y 201 b).toInt + 2147483648).toNat < _
    rw [m_ui_ap, if_pos rfl, if_pos rfl]
    rw [Int32.le_iff_toInt_le] at h
    have := Int32.le_toInt y
    omega

set_option maxRecDepth 100000 in
set_option maxHeartbeats 4000000 in
theorem flI_lp {d L n : Nat} {f0 : Nat → Nat → Int32} {M : Nat} {w : Int32} {R : Option Value → mH → Prop} (hd : 1 ≤ d) (hm : n ≤ 20) (h0 : f0 181 16 = nI n) (HO : ∀ (mo' : Int32) (s3 s4 : Option Value) (f' : Nat → Nat → Int32) (g' : Nat → Nat → Int64), XI f' → fx 200 201 f0 f' → (mo' = 0 ∨ mu f' < M) → WPe pg_X11_findLeast none (Run mtab d) R (m_drop pg_X11_findLeast 18) [some (.ref 181), some (.int w), some (.int mo'), s3, s4] [] (shF L, f', g')) (H : ∀ v f' g', (v = 0 ∨ v = 1) → XI f' → fx 200 201 f0 f' → R (some (.int v)) (shF L, f', g'))  :
    ∀ (k i : Nat) (x : Int32) (mo : Int32) (s4 : Option Value) (f : Nat → Nat → Int32) (g : Nat → Nat → Int64), i + k = n → x = nI i → XI f → fx 200 201 f0 f → (mu f ≤ M ∧ (mo = 0 ∨ mu f < M)) → WPe pg_X11_findLeast none (Run mtab d) R (m_drop pg_X11_findLeast 24) [some (.ref 181), some (.int w), some (.int mo), some (.int x), s4] [] (shF L, f, g)
  | 0, i, x, mo, s4, f, g, he, hx, hX, hF, hmu => by
    have e : i = n := by omega
    subst hx
    have hcb : f 181 16 = nI n := (hF 181 16 (by omega)).trans h0
    subst e
    refine at_X11_findLeast ?_
    conv => whnf
    try simp only [hcb, m_ui_ap, m_fil_ap, m_cpy_ap, Nat.reduceEqDiff, Nat.reduceLT, Nat.reduceLeDiff, eq_self, ↓reduceIte, false_and, and_false, true_and, and_true, and_self]
    refine ⟨fun c => ?_, fun c => absurd (nI_le (Nat.le_refl _) (by omega)) c⟩
    conv => whnf
    repeat' first
      | exact HO _ _ _ _ _ hX hF hmu.2
      | (simp only [hcb, m_ui_ap, m_fil_ap, m_cpy_ap, Nat.reduceEqDiff, Nat.reduceLT, Nat.reduceLeDiff, eq_self, ↓reduceIte, false_and, and_false, true_and, and_true, and_self])
      | ((with_reducible refine ⟨vp_in_nI (by omega) (by decide), ?_⟩) <;> conv => whnf)
      | (refine ⟨Or.inl rfl, ?_⟩ <;> conv => whnf)
      | (refine ⟨Or.inr rfl, ?_⟩ <;> conv => whnf)
      | (refine ⟨Or.inl True.intro, ?_⟩ <;> conv => whnf)
      | (refine ⟨Or.inr True.intro, ?_⟩ <;> conv => whnf)
      | (refine ⟨fun c => ?_, fun c => ?_⟩ <;> first | ((have c9 : (1 : Int32) = 0 := by with_reducible exact c); exact absurd c9 (by decide)) | exact absurd (rfl : (0 : Int32) = 0) (by with_reducible exact c) | exact absurd True.intro (by with_reducible exact c) | exact False.elim (by with_reducible exact c) | (conv => whnf))
      | (refine ⟨by unfold vp_in; decide, ?_⟩ <;> conv => whnf)
      | fail
    all_goals first | exact ⟨Or.inl rfl, H _ _ _ (Or.inl rfl) (by repeat' first | (with_reducible assumption) | (with_reducible refine XI_ui ?_ ?_) | (with_reducible refine XI_fil ?_ (fun _ => ?_)) | (with_reducible refine XI_cpy ?_ (fun _ _ => ?_)) | exact True.intro | ((show inr _ _ _); first | (with_reducible assumption) | (unfold inr; decide)) | fail) (by repeat' first | (with_reducible exact fx_refl _ _ _) | (with_reducible assumption) | (with_reducible refine fx_ui ?_ ?_ ?_) | (with_reducible refine fx_fil ?_ ?_ ?_) | (with_reducible refine fx_cpy ?_ ?_ ?_) | omega | decide | fail)⟩ | exact H _ _ _ (Or.inl rfl) (by repeat' first | (with_reducible assumption) | (with_reducible refine XI_ui ?_ ?_) | (with_reducible refine XI_fil ?_ (fun _ => ?_)) | (with_reducible refine XI_cpy ?_ (fun _ _ => ?_)) | exact True.intro | ((show inr _ _ _); first | (with_reducible assumption) | (unfold inr; decide)) | fail) (by repeat' first | (with_reducible exact fx_refl _ _ _) | (with_reducible assumption) | (with_reducible refine fx_ui ?_ ?_ ?_) | (with_reducible refine fx_fil ?_ ?_ ?_) | (with_reducible refine fx_cpy ?_ ?_ ?_) | omega | decide | fail)
  | k + 1, i, x, mo, s4, f, g, he, hx, hX, hF, hmu => by
    subst hx
    have hcb : f 181 16 = nI n := (hF 181 16 (by omega)).trans h0
    refine at_X11_findLeast ?_
    conv => whnf
    try simp only [hcb, m_ui_ap, m_fil_ap, m_cpy_ap, Nat.reduceEqDiff, Nat.reduceLT, Nat.reduceLeDiff, eq_self, ↓reduceIte, false_and, and_false, true_and, and_true, and_self]
    refine ⟨fun c => absurd c (nI_ge (b := n) (by omega) (by omega)), fun c => ?_⟩
    conv => whnf
    repeat' first
      | exact flI_lp hd hm h0 HO H k (i + 1) _ _ _ _ _ (by omega) (nI_1 i) (by repeat' first | (with_reducible assumption) | (with_reducible refine XI_ui ?_ ?_) | (with_reducible refine XI_fil ?_ (fun _ => ?_)) | (with_reducible refine XI_cpy ?_ (fun _ _ => ?_)) | exact True.intro | ((show inr _ _ _); first | (with_reducible assumption) | (unfold inr; decide)) | fail) (by repeat' first | (with_reducible exact fx_refl _ _ _) | (with_reducible assumption) | (with_reducible refine fx_ui ?_ ?_ ?_) | (with_reducible refine fx_fil ?_ ?_ ?_) | (with_reducible refine fx_cpy ?_ ?_ ?_) | omega | decide | fail) (by first | exact hmu | (have hup := mu_up (f := f) (vp_lt (vx_197 hX _)) (by with_reducible assumption); exact ⟨by omega, Or.inr (by omega)⟩))
      | ((with_reducible refine ⟨vx_196 hX _, ?_⟩) <;> conv => whnf)
      | ((with_reducible refine ⟨vx_197 hX _, ?_⟩) <;> conv => whnf)
      | (simp only [hcb, m_ui_ap, m_fil_ap, m_cpy_ap, Nat.reduceEqDiff, Nat.reduceLT, Nat.reduceLeDiff, eq_self, ↓reduceIte, false_and, and_false, true_and, and_true, and_self])
      | ((with_reducible refine ⟨vp_in_nI (by omega) (by decide), ?_⟩) <;> conv => whnf)
      | (refine ⟨Or.inl rfl, ?_⟩ <;> conv => whnf)
      | (refine ⟨Or.inr rfl, ?_⟩ <;> conv => whnf)
      | (refine ⟨Or.inl True.intro, ?_⟩ <;> conv => whnf)
      | (refine ⟨Or.inr True.intro, ?_⟩ <;> conv => whnf)
      | (refine ⟨fun c => ?_, fun c => ?_⟩ <;> first | ((have c9 : (1 : Int32) = 0 := by with_reducible exact c); exact absurd c9 (by decide)) | exact absurd (rfl : (0 : Int32) = 0) (by with_reducible exact c) | exact absurd True.intro (by with_reducible exact c) | exact False.elim (by with_reducible exact c) | (conv => whnf))
      | (refine ⟨by unfold vp_in; decide, ?_⟩ <;> conv => whnf)
      | fail
    all_goals first | exact ⟨Or.inl rfl, H _ _ _ (Or.inl rfl) (by repeat' first | (with_reducible assumption) | (with_reducible refine XI_ui ?_ ?_) | (with_reducible refine XI_fil ?_ (fun _ => ?_)) | (with_reducible refine XI_cpy ?_ (fun _ _ => ?_)) | exact True.intro | ((show inr _ _ _); first | (with_reducible assumption) | (unfold inr; decide)) | fail) (by repeat' first | (with_reducible exact fx_refl _ _ _) | (with_reducible assumption) | (with_reducible refine fx_ui ?_ ?_ ?_) | (with_reducible refine fx_fil ?_ ?_ ?_) | (with_reducible refine fx_cpy ?_ ?_ ?_) | omega | decide | fail)⟩ | exact H _ _ _ (Or.inl rfl) (by repeat' first | (with_reducible assumption) | (with_reducible refine XI_ui ?_ ?_) | (with_reducible refine XI_fil ?_ (fun _ => ?_)) | (with_reducible refine XI_cpy ?_ (fun _ _ => ?_)) | exact True.intro | ((show inr _ _ _); first | (with_reducible assumption) | (unfold inr; decide)) | fail) (by repeat' first | (with_reducible exact fx_refl _ _ _) | (with_reducible assumption) | (with_reducible refine fx_ui ?_ ?_ ?_) | (with_reducible refine fx_fil ?_ ?_ ?_) | (with_reducible refine fx_cpy ?_ ?_ ?_) | omega | decide | fail)
set_option maxRecDepth 100000 in
theorem flO_lp {d L n : Nat} {f0 : Nat → Nat → Int32} {w : Int32} {R : Option Value → mH → Prop} (hd : 1 ≤ d) (hm : n ≤ 20) (h0 : f0 181 16 = nI n) (H : ∀ v f' g', (v = 0 ∨ v = 1) → XI f' → fx 200 201 f0 f' → R (some (.int v)) (shF L, f', g')) :
    ∀ (N : Nat) (mo : Int32) (s3 s4 : Option Value) (f : Nat → Nat → Int32) (g : Nat → Nat → Int64), XI f → fx 200 201 f0 f → (mo = 0 ∨ mu f < N) → WPe pg_X11_findLeast none (Run mtab d) R (m_drop pg_X11_findLeast 18) [some (.ref 181), some (.int w), some (.int mo), s3, s4] [] (shF L, f, g) := by
  intro N
  induction N with
  | zero =>
    intro mo s3 s4 f g hX hF hmo
    have e : mo = 0 := hmo.resolve_right (by omega)
    subst e
    refine at_X11_findLeast ?_
    conv => whnf
    refine ⟨fun _ => ?_, fun c => absurd rfl c⟩
    conv => whnf
    exact ⟨Or.inr rfl, H _ _ _ (Or.inr rfl) hX hF⟩
  | succ N ih =>
    intro mo s3 s4 f g hX hF hmo
    refine at_X11_findLeast ?_
    conv => whnf
    refine ⟨fun _ => ?_, fun c => ?_⟩
    · conv => whnf
      exact ⟨Or.inr rfl, H _ _ _ (Or.inr rfl) hX hF⟩
    · conv => whnf
      have hlt := hmo.resolve_left c
      exact flI_lp (M := mu f) hd hm h0 (fun mo' s3 s4 f' g' hX' hF' hmo' => ih mo' s3 s4 f' g' hX' hF' (hmo'.imp id (fun q => by omega))) H n 0 _ _ _ _ _ (by omega) rfl hX hF ⟨Nat.le_refl _, Or.inl rfl⟩
set_option maxRecDepth 100000 in
set_option maxHeartbeats 4000000 in
theorem flA_lp {d L n : Nat} {f0 : Nat → Nat → Int32} {w : Int32} {q : Nat} {R : Option Value → mH → Prop} (hd : 1 ≤ d) (hm : n ≤ 40) (h0 : f0 181 0 = nI n) (hq : f0 181 16 = nI q) (hq20 : q ≤ 20) (H : ∀ v f' g', (v = 0 ∨ v = 1) → XI f' → fx 200 201 f0 f' → R (some (.int v)) (shF L, f', g'))  :
    ∀ (k i : Nat) (x : Int32) (s3 : Option Value) (s4 : Option Value) (f : Nat → Nat → Int32) (g : Nat → Nat → Int64), i + k = n → x = nI i → XI f → fx 200 201 f0 f → WPe pg_X11_findLeast none (Run mtab d) R (m_drop pg_X11_findLeast 2) [some (.ref 181), some (.int w), some (.int x), s3, s4] [] (shF L, f, g)
  | 0, i, x, s3, s4, f, g, he, hx, hX, hF => by
    have e : i = n := by omega
    subst hx
    have hcb : f 181 0 = nI n := (hF 181 0 (by omega)).trans h0
    subst e
    refine at_X11_findLeast ?_
    conv => whnf
    try simp only [hcb]
    refine ⟨fun c => ?_, fun c => absurd (nI_le (Nat.le_refl _) (by omega)) c⟩
    conv => whnf
    repeat' first
      | exact flO_lp (by omega) hq20 hq H (mu f + 1) _ _ _ _ _ hX hF (Or.inr (Nat.lt_succ_self _))
      | (simp only [hcb])
      | ((with_reducible refine ⟨vp_in_nI (by omega) (by decide), ?_⟩) <;> conv => whnf)
      | (refine ⟨Or.inl rfl, ?_⟩ <;> conv => whnf)
      | (refine ⟨Or.inr rfl, ?_⟩ <;> conv => whnf)
      | (refine ⟨Or.inl True.intro, ?_⟩ <;> conv => whnf)
      | (refine ⟨Or.inr True.intro, ?_⟩ <;> conv => whnf)
      | (refine ⟨fun c => ?_, fun c => ?_⟩ <;> first | ((have c9 : (1 : Int32) = 0 := by with_reducible exact c); exact absurd c9 (by decide)) | exact absurd (rfl : (0 : Int32) = 0) (by with_reducible exact c) | exact absurd True.intro (by with_reducible exact c) | exact False.elim (by with_reducible exact c) | (conv => whnf))
      | (refine ⟨by unfold vp_in; decide, ?_⟩ <;> conv => whnf)
      | fail
    all_goals fail
  | k + 1, i, x, s3, s4, f, g, he, hx, hX, hF => by
    subst hx
    have hcb : f 181 0 = nI n := (hF 181 0 (by omega)).trans h0
    refine at_X11_findLeast ?_
    conv => whnf
    try simp only [hcb]
    refine ⟨fun c => absurd c (nI_ge (b := n) (by omega) (by omega)), fun c => ?_⟩
    conv => whnf
    repeat' first
      | exact flA_lp hd hm h0 hq hq20 H k (i + 1) _ _ _ _ _ (by omega) (nI_1 i) (by repeat' first | (with_reducible assumption) | (with_reducible refine XI_ui ?_ ?_) | (with_reducible refine XI_fil ?_ (fun _ => ?_)) | (with_reducible refine XI_cpy ?_ (fun _ _ => ?_)) | exact True.intro | ((show inr _ _ _); first | (with_reducible assumption) | (unfold inr; decide)) | fail) (by repeat' first | (with_reducible exact fx_refl _ _ _) | (with_reducible assumption) | (with_reducible refine fx_ui ?_ ?_ ?_) | (with_reducible refine fx_fil ?_ ?_ ?_) | (with_reducible refine fx_cpy ?_ ?_ ?_) | omega | decide | fail)
      | (simp only [hcb])
      | ((with_reducible refine ⟨vp_in_nI (by omega) (by decide), ?_⟩) <;> conv => whnf)
      | (refine ⟨Or.inl rfl, ?_⟩ <;> conv => whnf)
      | (refine ⟨Or.inr rfl, ?_⟩ <;> conv => whnf)
      | (refine ⟨Or.inl True.intro, ?_⟩ <;> conv => whnf)
      | (refine ⟨Or.inr True.intro, ?_⟩ <;> conv => whnf)
      | (refine ⟨fun c => ?_, fun c => ?_⟩ <;> first | ((have c9 : (1 : Int32) = 0 := by with_reducible exact c); exact absurd c9 (by decide)) | exact absurd (rfl : (0 : Int32) = 0) (by with_reducible exact c) | exact absurd True.intro (by with_reducible exact c) | exact False.elim (by with_reducible exact c) | (conv => whnf))
      | (refine ⟨by unfold vp_in; decide, ?_⟩ <;> conv => whnf)
      | fail
    all_goals fail
set_option maxRecDepth 100000 in
set_option maxHeartbeats 4000000 in
theorem sm_findLeast {d L : Nat} {f : Nat → Nat → Int32} {g : Nat → Nat → Int64} {w : Int32} {R : Option Value → mH → Prop} (hd : 2 ≤ d) (hX : XI f) (H : ∀ v f' g', (v = 0 ∨ v = 1) → XI f' → fx 200 201 f f' → R (some (.int v)) (shF L, f', g')) : Run mtab d 179 [.ref 181, .int w] (shF L, f, g) R := by
  obtain ⟨d, rfl⟩ : ∃ e, d = e + 1 := ⟨d - 1, by omega⟩
  refine go_X11_findLeast rfl ?_
  conv => whnf
  obtain ⟨n, hm, hb⟩ := inr_nat (n := 40) rfl (xi_181_0 hX)
  obtain ⟨q, hq20, hq⟩ := inr_nat (n := 20) rfl (xi_181_16 hX)
  exact flA_lp (by omega) hm hb hq hq20 H n 0 _ _ _ _ _ (by omega) rfl hX (fx_refl _ _ _)
set_option maxRecDepth 100000 in
set_option maxHeartbeats 4000000 in
theorem fmI_lp {d L n : Nat} {f0 : Nat → Nat → Int32} {M : Nat} {w : Int32} {R : Option Value → mH → Prop} (hd : 1 ≤ d) (hm : n ≤ 20) (h0 : f0 181 16 = nI n) (HO : ∀ (mo' : Int32) (s3 s4 : Option Value) (f' : Nat → Nat → Int32) (g' : Nat → Nat → Int64), XI f' → fx 201 202 f0 f' → (mo' = 0 ∨ md f' < M) → WPe pg_X11_findMost none (Run mtab d) R (m_drop pg_X11_findMost 18) [some (.ref 181), some (.int w), some (.int mo'), s3, s4] [] (shF L, f', g')) (H : ∀ f' g', XI f' → fx 201 202 f0 f' → R none (shF L, f', g'))  :
    ∀ (k i : Nat) (x : Int32) (mo : Int32) (s4 : Option Value) (f : Nat → Nat → Int32) (g : Nat → Nat → Int64), i + k = n → x = nI i → XI f → fx 201 202 f0 f → (md f ≤ M ∧ (mo = 0 ∨ md f < M)) → WPe pg_X11_findMost none (Run mtab d) R (m_drop pg_X11_findMost 24) [some (.ref 181), some (.int w), some (.int mo), some (.int x), s4] [] (shF L, f, g)
  | 0, i, x, mo, s4, f, g, he, hx, hX, hF, hmu => by
    have e : i = n := by omega
    subst hx
    have hcb : f 181 16 = nI n := (hF 181 16 (by omega)).trans h0
    subst e
    refine at_X11_findMost ?_
    conv => whnf
    try simp only [hcb, m_ui_ap, m_fil_ap, m_cpy_ap, Nat.reduceEqDiff, Nat.reduceLT, Nat.reduceLeDiff, eq_self, ↓reduceIte, false_and, and_false, true_and, and_true, and_self]
    refine ⟨fun c => ?_, fun c => absurd (nI_le (Nat.le_refl _) (by omega)) c⟩
    conv => whnf
    repeat' first
      | exact HO _ _ _ _ _ hX hF hmu.2
      | (simp only [hcb, m_ui_ap, m_fil_ap, m_cpy_ap, Nat.reduceEqDiff, Nat.reduceLT, Nat.reduceLeDiff, eq_self, ↓reduceIte, false_and, and_false, true_and, and_true, and_self])
      | ((with_reducible refine ⟨vp_in_nI (by omega) (by decide), ?_⟩) <;> conv => whnf)
      | (refine ⟨Or.inl rfl, ?_⟩ <;> conv => whnf)
      | (refine ⟨Or.inr rfl, ?_⟩ <;> conv => whnf)
      | (refine ⟨Or.inl True.intro, ?_⟩ <;> conv => whnf)
      | (refine ⟨Or.inr True.intro, ?_⟩ <;> conv => whnf)
      | (refine ⟨fun c => ?_, fun c => ?_⟩ <;> first | ((have c9 : (1 : Int32) = 0 := by with_reducible exact c); exact absurd c9 (by decide)) | exact absurd (rfl : (0 : Int32) = 0) (by with_reducible exact c) | exact absurd True.intro (by with_reducible exact c) | exact False.elim (by with_reducible exact c) | (conv => whnf))
      | (refine ⟨by unfold vp_in; decide, ?_⟩ <;> conv => whnf)
      | fail
    all_goals fail
  | k + 1, i, x, mo, s4, f, g, he, hx, hX, hF, hmu => by
    subst hx
    have hcb : f 181 16 = nI n := (hF 181 16 (by omega)).trans h0
    refine at_X11_findMost ?_
    conv => whnf
    try simp only [hcb, m_ui_ap, m_fil_ap, m_cpy_ap, Nat.reduceEqDiff, Nat.reduceLT, Nat.reduceLeDiff, eq_self, ↓reduceIte, false_and, and_false, true_and, and_true, and_self]
    refine ⟨fun c => absurd c (nI_ge (b := n) (by omega) (by omega)), fun c => ?_⟩
    conv => whnf
    repeat' first
      | exact fmI_lp hd hm h0 HO H k (i + 1) _ _ _ _ _ (by omega) (nI_1 i) (by repeat' first | (with_reducible assumption) | (with_reducible refine XI_ui ?_ ?_) | (with_reducible refine XI_fil ?_ (fun _ => ?_)) | (with_reducible refine XI_cpy ?_ (fun _ _ => ?_)) | exact True.intro | ((show inr _ _ _); first | (with_reducible assumption) | (unfold inr; decide)) | fail) (by repeat' first | (with_reducible exact fx_refl _ _ _) | (with_reducible assumption) | (with_reducible refine fx_ui ?_ ?_ ?_) | (with_reducible refine fx_fil ?_ ?_ ?_) | (with_reducible refine fx_cpy ?_ ?_ ?_) | omega | decide | fail) (by first | exact hmu | (have hup := md_up (f := f) (vp_lt (vx_196 hX _)) (by with_reducible assumption); exact ⟨by omega, Or.inr (by omega)⟩))
      | ((with_reducible refine ⟨vx_196 hX _, ?_⟩) <;> conv => whnf)
      | ((with_reducible refine ⟨vx_197 hX _, ?_⟩) <;> conv => whnf)
      | (simp only [hcb, m_ui_ap, m_fil_ap, m_cpy_ap, Nat.reduceEqDiff, Nat.reduceLT, Nat.reduceLeDiff, eq_self, ↓reduceIte, false_and, and_false, true_and, and_true, and_self])
      | ((with_reducible refine ⟨vp_in_nI (by omega) (by decide), ?_⟩) <;> conv => whnf)
      | (refine ⟨Or.inl rfl, ?_⟩ <;> conv => whnf)
      | (refine ⟨Or.inr rfl, ?_⟩ <;> conv => whnf)
      | (refine ⟨Or.inl True.intro, ?_⟩ <;> conv => whnf)
      | (refine ⟨Or.inr True.intro, ?_⟩ <;> conv => whnf)
      | (refine ⟨fun c => ?_, fun c => ?_⟩ <;> first | ((have c9 : (1 : Int32) = 0 := by with_reducible exact c); exact absurd c9 (by decide)) | exact absurd (rfl : (0 : Int32) = 0) (by with_reducible exact c) | exact absurd True.intro (by with_reducible exact c) | exact False.elim (by with_reducible exact c) | (conv => whnf))
      | (refine ⟨by unfold vp_in; decide, ?_⟩ <;> conv => whnf)
      | fail
    all_goals fail
set_option maxRecDepth 100000 in
theorem fmO_lp {d L n : Nat} {f0 : Nat → Nat → Int32} {w : Int32} {R : Option Value → mH → Prop} (hd : 1 ≤ d) (hm : n ≤ 20) (h0 : f0 181 16 = nI n) (H : ∀ f' g', XI f' → fx 201 202 f0 f' → R none (shF L, f', g')) :
    ∀ (N : Nat) (mo : Int32) (s3 s4 : Option Value) (f : Nat → Nat → Int32) (g : Nat → Nat → Int64), XI f → fx 201 202 f0 f → (mo = 0 ∨ md f < N) → WPe pg_X11_findMost none (Run mtab d) R (m_drop pg_X11_findMost 18) [some (.ref 181), some (.int w), some (.int mo), s3, s4] [] (shF L, f, g) := by
  intro N
  induction N with
  | zero =>
    intro mo s3 s4 f g hX hF hmo
    have e : mo = 0 := hmo.resolve_right (by omega)
    subst e
    refine at_X11_findMost ?_
    conv => whnf
    refine ⟨fun _ => ?_, fun c => absurd rfl c⟩
    conv => whnf
    exact H _ _ hX hF
  | succ N ih =>
    intro mo s3 s4 f g hX hF hmo
    refine at_X11_findMost ?_
    conv => whnf
    refine ⟨fun _ => ?_, fun c => ?_⟩
    · conv => whnf
      exact H _ _ hX hF
    · conv => whnf
      have hlt := hmo.resolve_left c
      exact fmI_lp (M := md f) hd hm h0 (fun mo' s3 s4 f' g' hX' hF' hmo' => ih mo' s3 s4 f' g' hX' hF' (hmo'.imp id (fun q => by omega))) H n 0 _ _ _ _ _ (by omega) rfl hX hF ⟨Nat.le_refl _, Or.inl rfl⟩
set_option maxRecDepth 100000 in
set_option maxHeartbeats 4000000 in
theorem fmA_lp {d L n : Nat} {f0 : Nat → Nat → Int32} {w : Int32} {q : Nat} {R : Option Value → mH → Prop} (hd : 1 ≤ d) (hm : n ≤ 40) (h0 : f0 181 0 = nI n) (hq : f0 181 16 = nI q) (hq20 : q ≤ 20) (H : ∀ f' g', XI f' → fx 201 202 f0 f' → R none (shF L, f', g'))  :
    ∀ (k i : Nat) (x : Int32) (s3 : Option Value) (s4 : Option Value) (f : Nat → Nat → Int32) (g : Nat → Nat → Int64), i + k = n → x = nI i → XI f → fx 201 202 f0 f → WPe pg_X11_findMost none (Run mtab d) R (m_drop pg_X11_findMost 2) [some (.ref 181), some (.int w), some (.int x), s3, s4] [] (shF L, f, g)
  | 0, i, x, s3, s4, f, g, he, hx, hX, hF => by
    have e : i = n := by omega
    subst hx
    have hcb : f 181 0 = nI n := (hF 181 0 (by omega)).trans h0
    subst e
    refine at_X11_findMost ?_
    conv => whnf
    try simp only [hcb]
    refine ⟨fun c => ?_, fun c => absurd (nI_le (Nat.le_refl _) (by omega)) c⟩
    conv => whnf
    repeat' first
      | exact fmO_lp (by omega) hq20 hq H (md f + 1) _ _ _ _ _ hX hF (Or.inr (Nat.lt_succ_self _))
      | (simp only [hcb])
      | ((with_reducible refine ⟨vp_in_nI (by omega) (by decide), ?_⟩) <;> conv => whnf)
      | (refine ⟨Or.inl rfl, ?_⟩ <;> conv => whnf)
      | (refine ⟨Or.inr rfl, ?_⟩ <;> conv => whnf)
      | (refine ⟨Or.inl True.intro, ?_⟩ <;> conv => whnf)
      | (refine ⟨Or.inr True.intro, ?_⟩ <;> conv => whnf)
      | (refine ⟨fun c => ?_, fun c => ?_⟩ <;> first | ((have c9 : (1 : Int32) = 0 := by with_reducible exact c); exact absurd c9 (by decide)) | exact absurd (rfl : (0 : Int32) = 0) (by with_reducible exact c) | exact absurd True.intro (by with_reducible exact c) | exact False.elim (by with_reducible exact c) | (conv => whnf))
      | (refine ⟨by unfold vp_in; decide, ?_⟩ <;> conv => whnf)
      | fail
    all_goals fail
  | k + 1, i, x, s3, s4, f, g, he, hx, hX, hF => by
    subst hx
    have hcb : f 181 0 = nI n := (hF 181 0 (by omega)).trans h0
    refine at_X11_findMost ?_
    conv => whnf
    try simp only [hcb]
    refine ⟨fun c => absurd c (nI_ge (b := n) (by omega) (by omega)), fun c => ?_⟩
    conv => whnf
    repeat' first
      | exact fmA_lp hd hm h0 hq hq20 H k (i + 1) _ _ _ _ _ (by omega) (nI_1 i) (by repeat' first | (with_reducible assumption) | (with_reducible refine XI_ui ?_ ?_) | (with_reducible refine XI_fil ?_ (fun _ => ?_)) | (with_reducible refine XI_cpy ?_ (fun _ _ => ?_)) | exact True.intro | ((show inr _ _ _); first | (with_reducible assumption) | (unfold inr; decide)) | fail) (by repeat' first | (with_reducible exact fx_refl _ _ _) | (with_reducible assumption) | (with_reducible refine fx_ui ?_ ?_ ?_) | (with_reducible refine fx_fil ?_ ?_ ?_) | (with_reducible refine fx_cpy ?_ ?_ ?_) | omega | decide | fail)
      | (simp only [hcb])
      | ((with_reducible refine ⟨vp_in_nI (by omega) (by decide), ?_⟩) <;> conv => whnf)
      | (refine ⟨Or.inl rfl, ?_⟩ <;> conv => whnf)
      | (refine ⟨Or.inr rfl, ?_⟩ <;> conv => whnf)
      | (refine ⟨Or.inl True.intro, ?_⟩ <;> conv => whnf)
      | (refine ⟨Or.inr True.intro, ?_⟩ <;> conv => whnf)
      | (refine ⟨fun c => ?_, fun c => ?_⟩ <;> first | ((have c9 : (1 : Int32) = 0 := by with_reducible exact c); exact absurd c9 (by decide)) | exact absurd (rfl : (0 : Int32) = 0) (by with_reducible exact c) | exact absurd True.intro (by with_reducible exact c) | exact False.elim (by with_reducible exact c) | (conv => whnf))
      | (refine ⟨by unfold vp_in; decide, ?_⟩ <;> conv => whnf)
      | fail
    all_goals fail
set_option maxRecDepth 100000 in
set_option maxHeartbeats 4000000 in
theorem sm_findMost {d L : Nat} {f : Nat → Nat → Int32} {g : Nat → Nat → Int64} {w : Int32} {R : Option Value → mH → Prop} (hd : 2 ≤ d) (hX : XI f) (H : ∀ f' g', XI f' → fx 201 202 f f' → R none (shF L, f', g')) : Run mtab d 180 [.ref 181, .int w] (shF L, f, g) R := by
  obtain ⟨d, rfl⟩ : ∃ e, d = e + 1 := ⟨d - 1, by omega⟩
  refine go_X11_findMost rfl ?_
  conv => whnf
  obtain ⟨n, hm, hb⟩ := inr_nat (n := 40) rfl (xi_181_0 hX)
  obtain ⟨q, hq20, hq⟩ := inr_nat (n := 20) rfl (xi_181_16 hX)
  exact fmA_lp (by omega) hm hb hq hq20 H n 0 _ _ _ _ _ (by omega) rfl hX (fx_refl _ _ _)
set_option maxRecDepth 100000 in
set_option maxHeartbeats 4000000 in
theorem sm_fy_lp {d L n : Nat} {f0 : Nat → Nat → Int32}  {R : Option Value → mH → Prop} (hd : 1 ≤ d) (hm : n ≤ 40) (h0 : f0 181 0 = nI n) (H : ∀ f' g', XI f' → fx 200 202 f0 f' → R none (shF L, f', g'))  :
    ∀ (k i : Nat) (x : Int32) (f : Nat → Nat → Int32) (g : Nat → Nat → Int64), i + k = n → x = nI i → XI f → fx 200 202 f0 f → WPe pg_X11_findYears none (Run mtab d) R (m_drop pg_X11_findYears 24) [some (.ref 181), some (.int x)] [] (shF L, f, g)
  | 0, i, x, f, g, he, hx, hX, hF => by
    have e : i = n := by omega
    subst hx
    have hcb : f 181 0 = nI n := (hF 181 0 (by omega)).trans h0
    subst e
    refine at_X11_findYears ?_
    conv => whnf
    try simp only [hcb]
    refine ⟨fun c => ?_, fun c => absurd (nI_le (Nat.le_refl _) (by omega)) c⟩
    conv => whnf
    repeat' first
      | (simp only [hcb])
      | ((with_reducible refine ⟨vp_in_nI (by omega) (by decide), ?_⟩) <;> conv => whnf)
      | (refine ⟨Or.inl rfl, ?_⟩ <;> conv => whnf)
      | (refine ⟨Or.inr rfl, ?_⟩ <;> conv => whnf)
      | (refine ⟨Or.inl True.intro, ?_⟩ <;> conv => whnf)
      | (refine ⟨Or.inr True.intro, ?_⟩ <;> conv => whnf)
      | (refine ⟨fun c => ?_, fun c => ?_⟩ <;> first | ((have c9 : (1 : Int32) = 0 := by with_reducible exact c); exact absurd c9 (by decide)) | exact absurd (rfl : (0 : Int32) = 0) (by with_reducible exact c) | exact absurd True.intro (by with_reducible exact c) | exact False.elim (by with_reducible exact c) | (conv => whnf))
      | (refine ⟨by unfold vp_in; decide, ?_⟩ <;> conv => whnf)
      | fail
    all_goals exact H _ _ hX hF
  | k + 1, i, x, f, g, he, hx, hX, hF => by
    subst hx
    have hcb : f 181 0 = nI n := (hF 181 0 (by omega)).trans h0
    refine at_X11_findYears ?_
    conv => whnf
    try simp only [hcb]
    refine ⟨fun c => absurd c (nI_ge (b := n) (by omega) (by omega)), fun c => ?_⟩
    conv => whnf
    repeat' first
      | exact sm_fy_lp hd hm h0 H k (i + 1) _  _ _ (by omega) (nI_1 i) (by repeat' first | (with_reducible assumption) | (with_reducible refine XI_ui ?_ ?_) | (with_reducible refine XI_fil ?_ (fun _ => ?_)) | (with_reducible refine XI_cpy ?_ (fun _ _ => ?_)) | exact True.intro | ((show inr _ _ _); first | (with_reducible assumption) | (unfold inr; decide)) | fail) (by repeat' first | (with_reducible exact fx_refl _ _ _) | (with_reducible assumption) | (with_reducible refine fx_ui ?_ ?_ ?_) | (with_reducible refine fx_fil ?_ ?_ ?_) | (with_reducible refine fx_cpy ?_ ?_ ?_) | omega | decide | fail)
      | (simp only [hcb])
      | ((with_reducible refine ⟨vp_in_nI (by omega) (by decide), ?_⟩) <;> conv => whnf)
      | (refine ⟨Or.inl rfl, ?_⟩ <;> conv => whnf)
      | (refine ⟨Or.inr rfl, ?_⟩ <;> conv => whnf)
      | (refine ⟨Or.inl True.intro, ?_⟩ <;> conv => whnf)
      | (refine ⟨Or.inr True.intro, ?_⟩ <;> conv => whnf)
      | (refine ⟨fun c => ?_, fun c => ?_⟩ <;> first | ((have c9 : (1 : Int32) = 0 := by with_reducible exact c); exact absurd c9 (by decide)) | exact absurd (rfl : (0 : Int32) = 0) (by with_reducible exact c) | exact absurd True.intro (by with_reducible exact c) | exact False.elim (by with_reducible exact c) | (conv => whnf))
      | (refine ⟨by unfold vp_in; decide, ?_⟩ <;> conv => whnf)
      | fail
    all_goals exact H _ _ hX hF
set_option maxRecDepth 100000 in
set_option maxHeartbeats 4000000 in
theorem sm_findYears {d L : Nat} {f : Nat → Nat → Int32} {g : Nat → Nat → Int64}  {R : Option Value → mH → Prop} (hd : 5 ≤ d) (hX : XI f) (H : ∀ f' g', XI f' → kp [10, 22, 23] f f' → R none (shF L, f', g')) : Run mtab d 181 [.ref 181] (shF L, f, g) R := by
  obtain ⟨d, rfl⟩ : ∃ e, d = e + 1 := ⟨d - 1, by omega⟩
  refine go_X11_findYears rfl ?_
  conv => whnf
  obtain ⟨n, hm, hb⟩ := inr_nat (n := 40) rfl (xi_181_0 hX)
  refine sm_findCounting (by omega) hX (fun v => ?_)
  conv => whnf
  have h1 : XI (m_ui f 181 21 v) := XI_ui hX True.intro
  refine sm_findLeast (by omega) h1 (fun v2 f2 g2 hv2 h2 k2 => ?_)
  have k2' : kp [10, 22, 23] f f2 := kp_trans (kp_ui rfl (kp_refl _ _)) (kp_fx k2 rfl)
  conv => whnf
  refine ⟨fun c => ?_, fun c => ?_⟩
  · conv => whnf
    refine ⟨Or.inl rfl, ?_⟩
    conv => whnf
    refine ⟨fun c => absurd rfl c, fun _ => ?_⟩
    conv => whnf
    refine sm_findMost (by omega) (XI_ui h2 True.intro) (fun f3 g3 h3 k3 => ?_)
    conv => whnf
    exact H _ _ h3 (kp_trans (kp_ui rfl k2') (kp_fx k3 rfl))
  · conv => whnf
    refine ⟨Or.inr rfl, ?_⟩
    conv => whnf
    refine ⟨fun _ => ?_, fun c => absurd (show (1 : Int32) = 0 from c) (by decide)⟩
    conv => whnf
    exact sm_fy_lp (f0 := m_ui f2 181 24 1) (by omega) hm ((k2 181 0 (by omega)).trans hb) (fun f' g' a b => H f' g' a (kp_trans (kp_ui rfl k2') (kp_fx b rfl))) n 0 _ _ _ (by omega) rfl (XI_ui h2 True.intro) (fx_refl _ _ _)
set_option maxRecDepth 100000 in
set_option maxHeartbeats 4000000 in
theorem sm_refresh {d L : Nat} {f : Nat → Nat → Int32} {g : Nat → Nat → Int64}  {R : Option Value → mH → Prop} (hd : 6 ≤ d) (hX : XI f) (H : ∀ f' g', XI f' → kp [10, 22, 23] f f' → R none (shF L, f', g')) : Run mtab d 206 [.ref 181] (shF L, f, g) R := by
  obtain ⟨d, rfl⟩ : ∃ e, d = e + 1 := ⟨d - 1, by omega⟩
  refine go_X11_refresh rfl ?_
  conv => whnf
  refine ⟨fun c => ?_, fun c => ?_⟩
  · conv => whnf
    exact H _ _ hX (kp_refl _ _)
  · conv => whnf
    refine ⟨Or.inr rfl, ?_⟩
    conv => whnf
    refine ⟨Or.inl rfl, ?_⟩
    conv => whnf
    refine sm_findYears (by omega) (XI_ui (XI_ui hX True.intro) True.intro) (fun f1 g1 h1 k1 => ?_)
    conv => whnf
    exact H _ _ h1 (kp_trans (kp_ui rfl (kp_ui rfl (kp_refl _ _))) k1)
set_option maxRecDepth 100000 in
set_option maxHeartbeats 4000000 in
theorem sm_made {d L : Nat} {f : Nat → Nat → Int32} {g : Nat → Nat → Int64} {x1 x2 : Int32} {R : Option Value → mH → Prop} (hd : 9 ≤ d) (hX : XI f) (H : ∀ v f' g', XI f' → kp [10, 22, 23] f f' → R (some (.int v)) (shF L, f', g')) : Run mtab d 182 [.ref 181, .int x1, .int x2] (shF L, f, g) R := by
  obtain ⟨d, rfl⟩ : ∃ e, d = e + 1 := ⟨d - 1, by omega⟩
  refine go_X11_made rfl ?_
  conv => whnf
  obtain ⟨n, hm, hb⟩ := inr_nat (n := 40) rfl (xi_181_0 hX)
  repeat' first
    | ((with_reducible refine ⟨vp_in_nI (by omega) (by decide), ?_⟩) <;> conv => whnf)
    | (refine ⟨Or.inl rfl, ?_⟩ <;> conv => whnf)
    | (refine ⟨Or.inr rfl, ?_⟩ <;> conv => whnf)
    | (refine ⟨Or.inl True.intro, ?_⟩ <;> conv => whnf)
    | (refine ⟨Or.inr True.intro, ?_⟩ <;> conv => whnf)
    | (refine ⟨fun c => ?_, fun c => ?_⟩ <;> first | ((have c9 : (1 : Int32) = 0 := by with_reducible exact c); exact absurd c9 (by decide)) | exact absurd (rfl : (0 : Int32) = 0) (by with_reducible exact c) | exact absurd True.intro (by with_reducible exact c) | exact False.elim (by with_reducible exact c) | (conv => whnf))
    | (refine ct_mIsWork (by omega) hb hm (fun j hj e => ?_) (fun q => ?_) <;> (try subst e) <;> conv => whnf)
    | ((with_reducible refine ct_i_0_1 (by omega) (fun p => ?_) (fun p => ?_)) <;> conv => whnf)
    | (refine sm_refresh (by omega) hX (fun f1 g1 h1 k1 => ?_) <;> conv => whnf)
    | (refine ⟨by unfold vp_in; decide, ?_⟩ <;> conv => whnf)
    | fail
  all_goals exact H _ _ _ (by repeat' first | (with_reducible assumption) | (with_reducible refine XI_ui ?_ ?_) | (with_reducible refine XI_fil ?_ (fun _ => ?_)) | (with_reducible refine XI_cpy ?_ (fun _ _ => ?_)) | exact True.intro | ((show inr _ _ _); first | (with_reducible assumption) | (unfold inr; decide)) | fail) (by repeat' first | (with_reducible exact kp_refl _ _) | (with_reducible assumption) | (with_reducible refine kp_ui ?_ ?_) | (with_reducible refine kp_fil ?_ ?_) | (with_reducible refine kp_cpy ?_ ?_) | (refine kp_trans ?_ (kp_wd k1 rfl)) | (refine kp_trans ?_ (kp_fx k1 rfl)) | rfl | fail)
set_option maxRecDepth 100000 in
set_option maxHeartbeats 4000000 in
theorem sm_quarrel {d L : Nat} {f : Nat → Nat → Int32} {g : Nat → Nat → Int64}  {R : Option Value → mH → Prop} (hd : 9 ≤ d) (hX : XI f) (H : ∀ v f' g', XI f' → kp [10, 22, 23] f f' → R (some (.int v)) (shF L, f', g')) : Run mtab d 183 [.ref 181] (shF L, f, g) R := by
  obtain ⟨d, rfl⟩ : ∃ e, d = e + 1 := ⟨d - 1, by omega⟩
  refine go_X11_quarrel rfl ?_
  conv => whnf
  repeat' first
    | ((with_reducible refine ⟨vp_in_nI (by omega) (by decide), ?_⟩) <;> conv => whnf)
    | (refine ⟨Or.inl rfl, ?_⟩ <;> conv => whnf)
    | (refine ⟨Or.inr rfl, ?_⟩ <;> conv => whnf)
    | (refine ⟨Or.inl True.intro, ?_⟩ <;> conv => whnf)
    | (refine ⟨Or.inr True.intro, ?_⟩ <;> conv => whnf)
    | (refine ⟨fun c => ?_, fun c => ?_⟩ <;> first | ((have c9 : (1 : Int32) = 0 := by with_reducible exact c); exact absurd c9 (by decide)) | exact absurd (rfl : (0 : Int32) = 0) (by with_reducible exact c) | exact absurd True.intro (by with_reducible exact c) | exact False.elim (by with_reducible exact c) | (conv => whnf))
    | (refine sm_refresh (by omega) hX (fun f1 g1 h1 k1 => ?_) <;> conv => whnf)
    | (refine ⟨by unfold vp_in; decide, ?_⟩ <;> conv => whnf)
    | fail
  all_goals exact H _ _ _ (by repeat' first | (with_reducible assumption) | (with_reducible refine XI_ui ?_ ?_) | (with_reducible refine XI_fil ?_ (fun _ => ?_)) | (with_reducible refine XI_cpy ?_ (fun _ _ => ?_)) | exact True.intro | ((show inr _ _ _); first | (with_reducible assumption) | (unfold inr; decide)) | fail) (by repeat' first | (with_reducible exact kp_refl _ _) | (with_reducible assumption) | (with_reducible refine kp_ui ?_ ?_) | (with_reducible refine kp_fil ?_ ?_) | (with_reducible refine kp_cpy ?_ ?_) | (refine kp_trans ?_ (kp_wd k1 rfl)) | (refine kp_trans ?_ (kp_fx k1 rfl)) | rfl | fail)
set_option maxRecDepth 100000 in
set_option maxHeartbeats 4000000 in
theorem sm_countsAt {d L : Nat} {f : Nat → Nat → Int32} {g : Nat → Nat → Int64} {w : Int32} {R : Option Value → mH → Prop} (hd : 1 ≤ d) (hX : XI f) (H : ∀ v, (v = 0 ∨ v = 1) → R (some (.int v)) (shF L, f, g)) : Run mtab d 185 [.ref 181, .int w] (shF L, f, g) R := by
  obtain ⟨d, rfl⟩ : ∃ e, d = e + 1 := ⟨d - 1, by omega⟩
  refine go_X11_countsAt rfl ?_
  conv => whnf
  repeat' first
    | ((with_reducible refine ⟨vp_in_nI (by omega) (by decide), ?_⟩) <;> conv => whnf)
    | (refine ⟨Or.inl rfl, ?_⟩ <;> conv => whnf)
    | (refine ⟨Or.inr rfl, ?_⟩ <;> conv => whnf)
    | (refine ⟨Or.inl True.intro, ?_⟩ <;> conv => whnf)
    | (refine ⟨Or.inr True.intro, ?_⟩ <;> conv => whnf)
    | (refine ⟨fun c => ?_, fun c => ?_⟩ <;> first | ((have c9 : (1 : Int32) = 0 := by with_reducible exact c); exact absurd c9 (by decide)) | exact absurd (rfl : (0 : Int32) = 0) (by with_reducible exact c) | exact absurd True.intro (by with_reducible exact c) | exact False.elim (by with_reducible exact c) | (conv => whnf))
    | (refine ⟨by unfold vp_in; decide, ?_⟩ <;> conv => whnf)
    | fail
  all_goals first | exact ⟨Or.inl rfl, H _ (Or.inl rfl)⟩ | exact ⟨Or.inr rfl, H _ (Or.inr rfl)⟩ | exact H _ (Or.inl rfl) | exact H _ (Or.inr rfl)
set_option maxRecDepth 100000 in
set_option maxHeartbeats 4000000 in
theorem sm_isWell {d L : Nat} {f : Nat → Nat → Int32} {g : Nat → Nat → Int64} {w : Int32} {R : Option Value → mH → Prop} (hd : 3 ≤ d) (hX : XI f) (H : ∀ v f' g', (v = 0 ∨ v = 1) → XI f' → fx 200 201 f f' → R (some (.int v)) (shF L, f', g')) : Run mtab d 184 [.ref 181, .int w] (shF L, f, g) R := by
  obtain ⟨d, rfl⟩ : ∃ e, d = e + 1 := ⟨d - 1, by omega⟩
  refine go_X11_isWell rfl ?_
  conv => whnf
  refine sm_findLeast (by omega) hX (fun v f1 g1 hv h1 k1 => ?_)
  conv => whnf
  exact ⟨hv, H _ _ _ hv h1 k1⟩
set_option maxRecDepth 100000 in
set_option maxHeartbeats 4000000 in
theorem sm_a3_lp {d L n : Nat} {f0 : Nat → Nat → Int32} {p q : Nat} {R : Option Value → mH → Prop} (hd : 3 ≤ d) (hm : n ≤ 20) (h0 : f0 181 16 = nI n) (HO2 : ∀ (x' : Int32) (s3 : Option Value) (f' : Nat → Nat → Int32) (g' : Nat → Nat → Int64), x' = nI (q + 1) → XI f' → fx 200 203 f0 f' → WPe pg_X11_findAsides none (Run mtab d) R (m_drop pg_X11_findAsides 89) [some (.ref 181), some (.int (nI p)), some (.int x'), s3] [] (shF L, f', g')) (H : ∀ v f' g', (v = -4 ∨ ∃ s, s ≤ 3 ∧ v = nI s) → XI f' → fx 200 203 f0 f' → R (some (.int v)) (shF L, f', g'))  :
    ∀ (k i : Nat) (x : Int32) (f : Nat → Nat → Int32) (g : Nat → Nat → Int64), i + k = n → x = nI i → XI f → fx 200 203 f0 f → WPe pg_X11_findAsides none (Run mtab d) R (m_drop pg_X11_findAsides 97) [some (.ref 181), some (.int (nI p)), some (.int (nI q)), some (.int x)] [] (shF L, f, g)
  | 0, i, x, f, g, he, hx, hX, hF => by
    have e : i = n := by omega
    subst hx
    have hcb : f 181 16 = nI n := (hF 181 16 (by omega)).trans h0
    subst e
    refine at_X11_findAsides ?_
    conv => whnf
    try simp only [hcb]
    refine ⟨fun c => ?_, fun c => absurd (nI_le (Nat.le_refl _) (by omega)) c⟩
    conv => whnf
    repeat' first
      | exact HO2 _ _ _ _ (nI_1 q) hX hF
      | (simp only [hcb])
      | ((with_reducible refine ⟨vp_in_nI (by omega) (by decide), ?_⟩) <;> conv => whnf)
      | (refine ⟨Or.inl rfl, ?_⟩ <;> conv => whnf)
      | (refine ⟨Or.inr rfl, ?_⟩ <;> conv => whnf)
      | (refine ⟨Or.inl True.intro, ?_⟩ <;> conv => whnf)
      | (refine ⟨Or.inr True.intro, ?_⟩ <;> conv => whnf)
      | (refine ⟨fun c => ?_, fun c => ?_⟩ <;> first | ((have c9 : (1 : Int32) = 0 := by with_reducible exact c); exact absurd c9 (by decide)) | exact absurd (rfl : (0 : Int32) = 0) (by with_reducible exact c) | exact absurd True.intro (by with_reducible exact c) | exact False.elim (by with_reducible exact c) | (conv => whnf))
      | (refine ⟨by unfold vp_in; decide, ?_⟩ <;> conv => whnf)
      | fail
    all_goals exact H _ _ _ (Or.inr ⟨3, by omega, rfl⟩) (by repeat' first | (with_reducible assumption) | (with_reducible refine XI_ui ?_ ?_) | (with_reducible refine XI_fil ?_ (fun _ => ?_)) | (with_reducible refine XI_cpy ?_ (fun _ _ => ?_)) | exact True.intro | ((show inr _ _ _); first | (with_reducible assumption) | (unfold inr; decide)) | fail) (by repeat' first | (with_reducible exact fx_refl _ _ _) | (with_reducible assumption) | (with_reducible refine fx_ui ?_ ?_ ?_) | (with_reducible refine fx_fil ?_ ?_ ?_) | (with_reducible refine fx_cpy ?_ ?_ ?_) | omega | decide | fail)
  | k + 1, i, x, f, g, he, hx, hX, hF => by
    subst hx
    have hcb : f 181 16 = nI n := (hF 181 16 (by omega)).trans h0
    refine at_X11_findAsides ?_
    conv => whnf
    try simp only [hcb]
    refine ⟨fun c => absurd c (nI_ge (b := n) (by omega) (by omega)), fun c => ?_⟩
    conv => whnf
    repeat' first
      | exact sm_a3_lp hd hm h0 HO2 H k (i + 1) _  _ _ (by omega) (nI_1 i) (by repeat' first | (with_reducible assumption) | (with_reducible refine XI_ui ?_ ?_) | (with_reducible refine XI_fil ?_ (fun _ => ?_)) | (with_reducible refine XI_cpy ?_ (fun _ _ => ?_)) | exact True.intro | ((show inr _ _ _); first | (with_reducible assumption) | (unfold inr; decide)) | fail) (by repeat' first | (with_reducible exact fx_refl _ _ _) | (with_reducible assumption) | (with_reducible refine fx_ui ?_ ?_ ?_) | (with_reducible refine fx_fil ?_ ?_ ?_) | (with_reducible refine fx_cpy ?_ ?_ ?_) | omega | decide | fail)
      | (simp only [hcb])
      | ((with_reducible refine ⟨vp_in_nI (by omega) (by decide), ?_⟩) <;> conv => whnf)
      | (refine ⟨Or.inl rfl, ?_⟩ <;> conv => whnf)
      | (refine ⟨Or.inr rfl, ?_⟩ <;> conv => whnf)
      | (refine ⟨Or.inl True.intro, ?_⟩ <;> conv => whnf)
      | (refine ⟨Or.inr True.intro, ?_⟩ <;> conv => whnf)
      | (refine ⟨fun c => ?_, fun c => ?_⟩ <;> first | ((have c9 : (1 : Int32) = 0 := by with_reducible exact c); exact absurd c9 (by decide)) | exact absurd (rfl : (0 : Int32) = 0) (by with_reducible exact c) | exact absurd True.intro (by with_reducible exact c) | exact False.elim (by with_reducible exact c) | (conv => whnf))
      | (refine sm_countsAt (by omega) hX (fun v hv => ?_) <;> conv => whnf)
      | (refine sm_isWell (by omega) hX (fun v f1 g1 hv h1 k1 => ?_) <;> (have k1' : fx 200 203 f0 f1 := fx_trans hF (fx_wide k1 (by omega) (by omega))) <;> conv => whnf)
      | (refine ⟨by unfold vp_in; decide, ?_⟩ <;> conv => whnf)
      | fail
    all_goals exact H _ _ _ (Or.inr ⟨3, by omega, rfl⟩) (by repeat' first | (with_reducible assumption) | (with_reducible refine XI_ui ?_ ?_) | (with_reducible refine XI_fil ?_ (fun _ => ?_)) | (with_reducible refine XI_cpy ?_ (fun _ _ => ?_)) | exact True.intro | ((show inr _ _ _); first | (with_reducible assumption) | (unfold inr; decide)) | fail) (by repeat' first | (with_reducible exact fx_refl _ _ _) | (with_reducible assumption) | (with_reducible refine fx_ui ?_ ?_ ?_) | (with_reducible refine fx_fil ?_ ?_ ?_) | (with_reducible refine fx_cpy ?_ ?_ ?_) | omega | decide | fail)
set_option maxRecDepth 100000 in
set_option maxHeartbeats 4000000 in
theorem sm_a2_lp {d L n : Nat} {f0 : Nat → Nat → Int32} {p : Nat} {R : Option Value → mH → Prop} (hd : 3 ≤ d) (hm : n ≤ 20) (h0 : f0 181 16 = nI n) (HO1 : ∀ (x' : Int32) (s2 s3 : Option Value) (f' : Nat → Nat → Int32) (g' : Nat → Nat → Int64), x' = nI (p + 1) → XI f' → fx 200 203 f0 f' → WPe pg_X11_findAsides none (Run mtab d) R (m_drop pg_X11_findAsides 81) [some (.ref 181), some (.int x'), s2, s3] [] (shF L, f', g')) (H : ∀ v f' g', (v = -4 ∨ ∃ s, s ≤ 3 ∧ v = nI s) → XI f' → fx 200 203 f0 f' → R (some (.int v)) (shF L, f', g'))  :
    ∀ (k i : Nat) (x : Int32) (s3 : Option Value) (f : Nat → Nat → Int32) (g : Nat → Nat → Int64), i + k = n → x = nI i → XI f → fx 200 203 f0 f → WPe pg_X11_findAsides none (Run mtab d) R (m_drop pg_X11_findAsides 89) [some (.ref 181), some (.int (nI p)), some (.int x), s3] [] (shF L, f, g)
  | 0, i, x, s3, f, g, he, hx, hX, hF => by
    have e : i = n := by omega
    subst hx
    have hcb : f 181 16 = nI n := (hF 181 16 (by omega)).trans h0
    subst e
    refine at_X11_findAsides ?_
    conv => whnf
    try simp only [hcb]
    refine ⟨fun c => ?_, fun c => absurd (nI_le (Nat.le_refl _) (by omega)) c⟩
    conv => whnf
    repeat' first
      | exact HO1 _ _ _ _ _ (nI_1 p) hX hF
      | (simp only [hcb])
      | ((with_reducible refine ⟨vp_in_nI (by omega) (by decide), ?_⟩) <;> conv => whnf)
      | (refine ⟨Or.inl rfl, ?_⟩ <;> conv => whnf)
      | (refine ⟨Or.inr rfl, ?_⟩ <;> conv => whnf)
      | (refine ⟨Or.inl True.intro, ?_⟩ <;> conv => whnf)
      | (refine ⟨Or.inr True.intro, ?_⟩ <;> conv => whnf)
      | (refine ⟨fun c => ?_, fun c => ?_⟩ <;> first | ((have c9 : (1 : Int32) = 0 := by with_reducible exact c); exact absurd c9 (by decide)) | exact absurd (rfl : (0 : Int32) = 0) (by with_reducible exact c) | exact absurd True.intro (by with_reducible exact c) | exact False.elim (by with_reducible exact c) | (conv => whnf))
      | (refine ⟨by unfold vp_in; decide, ?_⟩ <;> conv => whnf)
      | fail
    all_goals fail
  | k + 1, i, x, s3, f, g, he, hx, hX, hF => by
    subst hx
    have hcb : f 181 16 = nI n := (hF 181 16 (by omega)).trans h0
    refine at_X11_findAsides ?_
    conv => whnf
    try simp only [hcb]
    refine ⟨fun c => absurd c (nI_ge (b := n) (by omega) (by omega)), fun c => ?_⟩
    conv => whnf
    repeat' first
      | exact sm_a2_lp hd hm h0 HO1 H k (i + 1) _ _ _ _ (by omega) (nI_1 i) (by repeat' first | (with_reducible assumption) | (with_reducible refine XI_ui ?_ ?_) | (with_reducible refine XI_fil ?_ (fun _ => ?_)) | (with_reducible refine XI_cpy ?_ (fun _ _ => ?_)) | exact True.intro | ((show inr _ _ _); first | (with_reducible assumption) | (unfold inr; decide)) | fail) (by repeat' first | (with_reducible exact fx_refl _ _ _) | (with_reducible assumption) | (with_reducible refine fx_ui ?_ ?_ ?_) | (with_reducible refine fx_fil ?_ ?_ ?_) | (with_reducible refine fx_cpy ?_ ?_ ?_) | omega | decide | fail)
      | (rw [nI_1]; exact sm_a3_lp (p := p) (q := i) hd hm h0 (fun x' s3 f' g' hx' hX' hF' => sm_a2_lp hd hm h0 HO1 H k (i + 1) x' s3 f' g' (by omega) hx' hX' hF') H (n - (i + 1)) (i + 1) _ _ _ (by omega) rfl hX hF)
      | (simp only [hcb])
      | ((with_reducible refine ⟨vp_in_nI (by omega) (by decide), ?_⟩) <;> conv => whnf)
      | (refine ⟨Or.inl rfl, ?_⟩ <;> conv => whnf)
      | (refine ⟨Or.inr rfl, ?_⟩ <;> conv => whnf)
      | (refine ⟨Or.inl True.intro, ?_⟩ <;> conv => whnf)
      | (refine ⟨Or.inr True.intro, ?_⟩ <;> conv => whnf)
      | (refine ⟨fun c => ?_, fun c => ?_⟩ <;> first | ((have c9 : (1 : Int32) = 0 := by with_reducible exact c); exact absurd c9 (by decide)) | exact absurd (rfl : (0 : Int32) = 0) (by with_reducible exact c) | exact absurd True.intro (by with_reducible exact c) | exact False.elim (by with_reducible exact c) | (conv => whnf))
      | (refine ⟨by unfold vp_in; decide, ?_⟩ <;> conv => whnf)
      | fail
    all_goals fail
set_option maxRecDepth 100000 in
set_option maxHeartbeats 4000000 in
theorem sm_a1_lp {d L n : Nat} {f0 : Nat → Nat → Int32}  {R : Option Value → mH → Prop} (hd : 3 ≤ d) (hm : n ≤ 20) (h0 : f0 181 16 = nI n) (H : ∀ v f' g', (v = -4 ∨ ∃ s, s ≤ 3 ∧ v = nI s) → XI f' → fx 200 203 f0 f' → R (some (.int v)) (shF L, f', g'))  :
    ∀ (k i : Nat) (x : Int32) (s2 : Option Value) (s3 : Option Value) (f : Nat → Nat → Int32) (g : Nat → Nat → Int64), i + k = n → x = nI i → XI f → fx 200 203 f0 f → WPe pg_X11_findAsides none (Run mtab d) R (m_drop pg_X11_findAsides 81) [some (.ref 181), some (.int x), s2, s3] [] (shF L, f, g)
  | 0, i, x, s2, s3, f, g, he, hx, hX, hF => by
    have e : i = n := by omega
    subst hx
    have hcb : f 181 16 = nI n := (hF 181 16 (by omega)).trans h0
    subst e
    refine at_X11_findAsides ?_
    conv => whnf
    try simp only [hcb]
    refine ⟨fun c => ?_, fun c => absurd (nI_le (Nat.le_refl _) (by omega)) c⟩
    conv => whnf
    repeat' first
      | (simp only [hcb])
      | ((with_reducible refine ⟨vp_in_nI (by omega) (by decide), ?_⟩) <;> conv => whnf)
      | (refine ⟨Or.inl rfl, ?_⟩ <;> conv => whnf)
      | (refine ⟨Or.inr rfl, ?_⟩ <;> conv => whnf)
      | (refine ⟨Or.inl True.intro, ?_⟩ <;> conv => whnf)
      | (refine ⟨Or.inr True.intro, ?_⟩ <;> conv => whnf)
      | (refine ⟨fun c => ?_, fun c => ?_⟩ <;> first | ((have c9 : (1 : Int32) = 0 := by with_reducible exact c); exact absurd c9 (by decide)) | exact absurd (rfl : (0 : Int32) = 0) (by with_reducible exact c) | exact absurd True.intro (by with_reducible exact c) | exact False.elim (by with_reducible exact c) | (conv => whnf))
      | (refine ⟨by unfold vp_in; decide, ?_⟩ <;> conv => whnf)
      | fail
    all_goals exact H _ _ _ (Or.inl rfl) hX hF
  | k + 1, i, x, s2, s3, f, g, he, hx, hX, hF => by
    subst hx
    have hcb : f 181 16 = nI n := (hF 181 16 (by omega)).trans h0
    refine at_X11_findAsides ?_
    conv => whnf
    try simp only [hcb]
    refine ⟨fun c => absurd c (nI_ge (b := n) (by omega) (by omega)), fun c => ?_⟩
    conv => whnf
    repeat' first
      | exact sm_a1_lp hd hm h0 H k (i + 1) _ _ _ _ _ (by omega) (nI_1 i) (by repeat' first | (with_reducible assumption) | (with_reducible refine XI_ui ?_ ?_) | (with_reducible refine XI_fil ?_ (fun _ => ?_)) | (with_reducible refine XI_cpy ?_ (fun _ _ => ?_)) | exact True.intro | ((show inr _ _ _); first | (with_reducible assumption) | (unfold inr; decide)) | fail) (by repeat' first | (with_reducible exact fx_refl _ _ _) | (with_reducible assumption) | (with_reducible refine fx_ui ?_ ?_ ?_) | (with_reducible refine fx_fil ?_ ?_ ?_) | (with_reducible refine fx_cpy ?_ ?_ ?_) | omega | decide | fail)
      | (rw [nI_1]; exact sm_a2_lp (p := i) hd hm h0 (fun x' s2 s3 f' g' hx' hX' hF' => sm_a1_lp hd hm h0 H k (i + 1) x' s2 s3 f' g' (by omega) hx' hX' hF') H (n - (i + 1)) (i + 1) _ _ _ _ (by omega) rfl hX hF)
      | (simp only [hcb])
      | ((with_reducible refine ⟨vp_in_nI (by omega) (by decide), ?_⟩) <;> conv => whnf)
      | (refine ⟨Or.inl rfl, ?_⟩ <;> conv => whnf)
      | (refine ⟨Or.inr rfl, ?_⟩ <;> conv => whnf)
      | (refine ⟨Or.inl True.intro, ?_⟩ <;> conv => whnf)
      | (refine ⟨Or.inr True.intro, ?_⟩ <;> conv => whnf)
      | (refine ⟨fun c => ?_, fun c => ?_⟩ <;> first | ((have c9 : (1 : Int32) = 0 := by with_reducible exact c); exact absurd c9 (by decide)) | exact absurd (rfl : (0 : Int32) = 0) (by with_reducible exact c) | exact absurd True.intro (by with_reducible exact c) | exact False.elim (by with_reducible exact c) | (conv => whnf))
      | (refine ⟨by unfold vp_in; decide, ?_⟩ <;> conv => whnf)
      | fail
    all_goals exact H _ _ _ (Or.inl rfl) hX hF
set_option maxRecDepth 100000 in
set_option maxHeartbeats 4000000 in
theorem sm_b2_lp {d L n : Nat} {f0 : Nat → Nat → Int32} {p : Nat} {R : Option Value → mH → Prop} (hd : 3 ≤ d) (hm : n ≤ 20) (h0 : f0 181 16 = nI n) (HO1 : ∀ (x' : Int32) (s2 s3 : Option Value) (f' : Nat → Nat → Int32) (g' : Nat → Nat → Int64), x' = nI (p + 1) → XI f' → fx 200 203 f0 f' → WPe pg_X11_findAsides none (Run mtab d) R (m_drop pg_X11_findAsides 33) [some (.ref 181), some (.int x'), s2, s3] [] (shF L, f', g')) (H : ∀ v f' g', (v = -4 ∨ ∃ s, s ≤ 3 ∧ v = nI s) → XI f' → fx 200 203 f0 f' → R (some (.int v)) (shF L, f', g'))  :
    ∀ (k i : Nat) (x : Int32) (s3 : Option Value) (f : Nat → Nat → Int32) (g : Nat → Nat → Int64), i + k = n → x = nI i → XI f → fx 200 203 f0 f → WPe pg_X11_findAsides none (Run mtab d) R (m_drop pg_X11_findAsides 41) [some (.ref 181), some (.int (nI p)), some (.int x), s3] [] (shF L, f, g)
  | 0, i, x, s3, f, g, he, hx, hX, hF => by
    have e : i = n := by omega
    subst hx
    have hcb : f 181 16 = nI n := (hF 181 16 (by omega)).trans h0
    subst e
    refine at_X11_findAsides ?_
    conv => whnf
    try simp only [hcb]
    refine ⟨fun c => ?_, fun c => absurd (nI_le (Nat.le_refl _) (by omega)) c⟩
    conv => whnf
    repeat' first
      | exact HO1 _ _ _ _ _ (nI_1 p) hX hF
      | (simp only [hcb])
      | ((with_reducible refine ⟨vp_in_nI (by omega) (by decide), ?_⟩) <;> conv => whnf)
      | (refine ⟨Or.inl rfl, ?_⟩ <;> conv => whnf)
      | (refine ⟨Or.inr rfl, ?_⟩ <;> conv => whnf)
      | (refine ⟨Or.inl True.intro, ?_⟩ <;> conv => whnf)
      | (refine ⟨Or.inr True.intro, ?_⟩ <;> conv => whnf)
      | (refine ⟨fun c => ?_, fun c => ?_⟩ <;> first | ((have c9 : (1 : Int32) = 0 := by with_reducible exact c); exact absurd c9 (by decide)) | exact absurd (rfl : (0 : Int32) = 0) (by with_reducible exact c) | exact absurd True.intro (by with_reducible exact c) | exact False.elim (by with_reducible exact c) | (conv => whnf))
      | (refine ⟨by unfold vp_in; decide, ?_⟩ <;> conv => whnf)
      | fail
    all_goals exact H _ _ _ (Or.inr ⟨2, by omega, rfl⟩) (by repeat' first | (with_reducible assumption) | (with_reducible refine XI_ui ?_ ?_) | (with_reducible refine XI_fil ?_ (fun _ => ?_)) | (with_reducible refine XI_cpy ?_ (fun _ _ => ?_)) | exact True.intro | ((show inr _ _ _); first | (with_reducible assumption) | (unfold inr; decide)) | fail) (by repeat' first | (with_reducible exact fx_refl _ _ _) | (with_reducible assumption) | (with_reducible refine fx_ui ?_ ?_ ?_) | (with_reducible refine fx_fil ?_ ?_ ?_) | (with_reducible refine fx_cpy ?_ ?_ ?_) | omega | decide | fail)
  | k + 1, i, x, s3, f, g, he, hx, hX, hF => by
    subst hx
    have hcb : f 181 16 = nI n := (hF 181 16 (by omega)).trans h0
    refine at_X11_findAsides ?_
    conv => whnf
    try simp only [hcb]
    refine ⟨fun c => absurd c (nI_ge (b := n) (by omega) (by omega)), fun c => ?_⟩
    conv => whnf
    repeat' first
      | exact sm_b2_lp hd hm h0 HO1 H k (i + 1) _ _ _ _ (by omega) (nI_1 i) (by repeat' first | (with_reducible assumption) | (with_reducible refine XI_ui ?_ ?_) | (with_reducible refine XI_fil ?_ (fun _ => ?_)) | (with_reducible refine XI_cpy ?_ (fun _ _ => ?_)) | exact True.intro | ((show inr _ _ _); first | (with_reducible assumption) | (unfold inr; decide)) | fail) (by repeat' first | (with_reducible exact fx_refl _ _ _) | (with_reducible assumption) | (with_reducible refine fx_ui ?_ ?_ ?_) | (with_reducible refine fx_fil ?_ ?_ ?_) | (with_reducible refine fx_cpy ?_ ?_ ?_) | omega | decide | fail)
      | (simp only [hcb])
      | ((with_reducible refine ⟨vp_in_nI (by omega) (by decide), ?_⟩) <;> conv => whnf)
      | (refine ⟨Or.inl rfl, ?_⟩ <;> conv => whnf)
      | (refine ⟨Or.inr rfl, ?_⟩ <;> conv => whnf)
      | (refine ⟨Or.inl True.intro, ?_⟩ <;> conv => whnf)
      | (refine ⟨Or.inr True.intro, ?_⟩ <;> conv => whnf)
      | (refine ⟨fun c => ?_, fun c => ?_⟩ <;> first | ((have c9 : (1 : Int32) = 0 := by with_reducible exact c); exact absurd c9 (by decide)) | exact absurd (rfl : (0 : Int32) = 0) (by with_reducible exact c) | exact absurd True.intro (by with_reducible exact c) | exact False.elim (by with_reducible exact c) | (conv => whnf))
      | (refine sm_countsAt (by omega) hX (fun v hv => ?_) <;> conv => whnf)
      | (refine sm_isWell (by omega) hX (fun v f1 g1 hv h1 k1 => ?_) <;> (have k1' : fx 200 203 f0 f1 := fx_trans hF (fx_wide k1 (by omega) (by omega))) <;> conv => whnf)
      | (refine ⟨by unfold vp_in; decide, ?_⟩ <;> conv => whnf)
      | fail
    all_goals exact H _ _ _ (Or.inr ⟨2, by omega, rfl⟩) (by repeat' first | (with_reducible assumption) | (with_reducible refine XI_ui ?_ ?_) | (with_reducible refine XI_fil ?_ (fun _ => ?_)) | (with_reducible refine XI_cpy ?_ (fun _ _ => ?_)) | exact True.intro | ((show inr _ _ _); first | (with_reducible assumption) | (unfold inr; decide)) | fail) (by repeat' first | (with_reducible exact fx_refl _ _ _) | (with_reducible assumption) | (with_reducible refine fx_ui ?_ ?_ ?_) | (with_reducible refine fx_fil ?_ ?_ ?_) | (with_reducible refine fx_cpy ?_ ?_ ?_) | omega | decide | fail)
set_option maxRecDepth 100000 in
set_option maxHeartbeats 4000000 in
theorem sm_b1_lp {d L n : Nat} {f0 : Nat → Nat → Int32}  {R : Option Value → mH → Prop} (hd : 3 ≤ d) (hm : n ≤ 20) (h0 : f0 181 16 = nI n) (H : ∀ v f' g', (v = -4 ∨ ∃ s, s ≤ 3 ∧ v = nI s) → XI f' → fx 200 203 f0 f' → R (some (.int v)) (shF L, f', g'))  :
    ∀ (k i : Nat) (x : Int32) (s2 : Option Value) (s3 : Option Value) (f : Nat → Nat → Int32) (g : Nat → Nat → Int64), i + k = n → x = nI i → XI f → fx 200 203 f0 f → WPe pg_X11_findAsides none (Run mtab d) R (m_drop pg_X11_findAsides 33) [some (.ref 181), some (.int x), s2, s3] [] (shF L, f, g)
  | 0, i, x, s2, s3, f, g, he, hx, hX, hF => by
    have e : i = n := by omega
    subst hx
    have hcb : f 181 16 = nI n := (hF 181 16 (by omega)).trans h0
    subst e
    refine at_X11_findAsides ?_
    conv => whnf
    try simp only [hcb]
    refine ⟨fun c => ?_, fun c => absurd (nI_le (Nat.le_refl _) (by omega)) c⟩
    conv => whnf
    repeat' first
      | exact sm_a1_lp hd hm h0 H i 0 _ _ _ _ _ (by omega) rfl hX hF
      | (simp only [hcb])
      | ((with_reducible refine ⟨vp_in_nI (by omega) (by decide), ?_⟩) <;> conv => whnf)
      | (refine ⟨Or.inl rfl, ?_⟩ <;> conv => whnf)
      | (refine ⟨Or.inr rfl, ?_⟩ <;> conv => whnf)
      | (refine ⟨Or.inl True.intro, ?_⟩ <;> conv => whnf)
      | (refine ⟨Or.inr True.intro, ?_⟩ <;> conv => whnf)
      | (refine ⟨fun c => ?_, fun c => ?_⟩ <;> first | ((have c9 : (1 : Int32) = 0 := by with_reducible exact c); exact absurd c9 (by decide)) | exact absurd (rfl : (0 : Int32) = 0) (by with_reducible exact c) | exact absurd True.intro (by with_reducible exact c) | exact False.elim (by with_reducible exact c) | (conv => whnf))
      | (refine ⟨by unfold vp_in; decide, ?_⟩ <;> conv => whnf)
      | fail
    all_goals fail
  | k + 1, i, x, s2, s3, f, g, he, hx, hX, hF => by
    subst hx
    have hcb : f 181 16 = nI n := (hF 181 16 (by omega)).trans h0
    refine at_X11_findAsides ?_
    conv => whnf
    try simp only [hcb]
    refine ⟨fun c => absurd c (nI_ge (b := n) (by omega) (by omega)), fun c => ?_⟩
    conv => whnf
    repeat' first
      | exact sm_b1_lp hd hm h0 H k (i + 1) _ _ _ _ _ (by omega) (nI_1 i) (by repeat' first | (with_reducible assumption) | (with_reducible refine XI_ui ?_ ?_) | (with_reducible refine XI_fil ?_ (fun _ => ?_)) | (with_reducible refine XI_cpy ?_ (fun _ _ => ?_)) | exact True.intro | ((show inr _ _ _); first | (with_reducible assumption) | (unfold inr; decide)) | fail) (by repeat' first | (with_reducible exact fx_refl _ _ _) | (with_reducible assumption) | (with_reducible refine fx_ui ?_ ?_ ?_) | (with_reducible refine fx_fil ?_ ?_ ?_) | (with_reducible refine fx_cpy ?_ ?_ ?_) | omega | decide | fail)
      | (rw [nI_1]; exact sm_b2_lp (p := i) hd hm h0 (fun x' s2 s3 f' g' hx' hX' hF' => sm_b1_lp hd hm h0 H k (i + 1) x' s2 s3 f' g' (by omega) hx' hX' hF') H (n - (i + 1)) (i + 1) _ _ _ _ (by omega) rfl hX hF)
      | (simp only [hcb])
      | ((with_reducible refine ⟨vp_in_nI (by omega) (by decide), ?_⟩) <;> conv => whnf)
      | (refine ⟨Or.inl rfl, ?_⟩ <;> conv => whnf)
      | (refine ⟨Or.inr rfl, ?_⟩ <;> conv => whnf)
      | (refine ⟨Or.inl True.intro, ?_⟩ <;> conv => whnf)
      | (refine ⟨Or.inr True.intro, ?_⟩ <;> conv => whnf)
      | (refine ⟨fun c => ?_, fun c => ?_⟩ <;> first | ((have c9 : (1 : Int32) = 0 := by with_reducible exact c); exact absurd c9 (by decide)) | exact absurd (rfl : (0 : Int32) = 0) (by with_reducible exact c) | exact absurd True.intro (by with_reducible exact c) | exact False.elim (by with_reducible exact c) | (conv => whnf))
      | (refine ⟨by unfold vp_in; decide, ?_⟩ <;> conv => whnf)
      | fail
    all_goals fail
set_option maxRecDepth 100000 in
set_option maxHeartbeats 4000000 in
theorem sm_c1_lp {d L n : Nat} {f0 : Nat → Nat → Int32}  {R : Option Value → mH → Prop} (hd : 3 ≤ d) (hm : n ≤ 20) (h0 : f0 181 16 = nI n) (H : ∀ v f' g', (v = -4 ∨ ∃ s, s ≤ 3 ∧ v = nI s) → XI f' → fx 200 203 f0 f' → R (some (.int v)) (shF L, f', g'))  :
    ∀ (k i : Nat) (x : Int32) (s2 : Option Value) (s3 : Option Value) (f : Nat → Nat → Int32) (g : Nat → Nat → Int64), i + k = n → x = nI i → XI f → fx 200 203 f0 f → WPe pg_X11_findAsides none (Run mtab d) R (m_drop pg_X11_findAsides 8) [some (.ref 181), some (.int x), s2, s3] [] (shF L, f, g)
  | 0, i, x, s2, s3, f, g, he, hx, hX, hF => by
    have e : i = n := by omega
    subst hx
    have hcb : f 181 16 = nI n := (hF 181 16 (by omega)).trans h0
    subst e
    refine at_X11_findAsides ?_
    conv => whnf
    try simp only [hcb]
    refine ⟨fun c => ?_, fun c => absurd (nI_le (Nat.le_refl _) (by omega)) c⟩
    conv => whnf
    repeat' first
      | exact sm_b1_lp hd hm h0 H i 0 _ _ _ _ _ (by omega) rfl hX hF
      | (simp only [hcb])
      | ((with_reducible refine ⟨vp_in_nI (by omega) (by decide), ?_⟩) <;> conv => whnf)
      | (refine ⟨Or.inl rfl, ?_⟩ <;> conv => whnf)
      | (refine ⟨Or.inr rfl, ?_⟩ <;> conv => whnf)
      | (refine ⟨Or.inl True.intro, ?_⟩ <;> conv => whnf)
      | (refine ⟨Or.inr True.intro, ?_⟩ <;> conv => whnf)
      | (refine ⟨fun c => ?_, fun c => ?_⟩ <;> first | ((have c9 : (1 : Int32) = 0 := by with_reducible exact c); exact absurd c9 (by decide)) | exact absurd (rfl : (0 : Int32) = 0) (by with_reducible exact c) | exact absurd True.intro (by with_reducible exact c) | exact False.elim (by with_reducible exact c) | (conv => whnf))
      | (refine ⟨by unfold vp_in; decide, ?_⟩ <;> conv => whnf)
      | fail
    all_goals exact H _ _ _ (Or.inr ⟨1, by omega, rfl⟩) (by repeat' first | (with_reducible assumption) | (with_reducible refine XI_ui ?_ ?_) | (with_reducible refine XI_fil ?_ (fun _ => ?_)) | (with_reducible refine XI_cpy ?_ (fun _ _ => ?_)) | exact True.intro | ((show inr _ _ _); first | (with_reducible assumption) | (unfold inr; decide)) | fail) (by repeat' first | (with_reducible exact fx_refl _ _ _) | (with_reducible assumption) | (with_reducible refine fx_ui ?_ ?_ ?_) | (with_reducible refine fx_fil ?_ ?_ ?_) | (with_reducible refine fx_cpy ?_ ?_ ?_) | omega | decide | fail)
  | k + 1, i, x, s2, s3, f, g, he, hx, hX, hF => by
    subst hx
    have hcb : f 181 16 = nI n := (hF 181 16 (by omega)).trans h0
    refine at_X11_findAsides ?_
    conv => whnf
    try simp only [hcb]
    refine ⟨fun c => absurd c (nI_ge (b := n) (by omega) (by omega)), fun c => ?_⟩
    conv => whnf
    repeat' first
      | exact sm_c1_lp hd hm h0 H k (i + 1) _ _ _ _ _ (by omega) (nI_1 i) (by repeat' first | (with_reducible assumption) | (with_reducible refine XI_ui ?_ ?_) | (with_reducible refine XI_fil ?_ (fun _ => ?_)) | (with_reducible refine XI_cpy ?_ (fun _ _ => ?_)) | exact True.intro | ((show inr _ _ _); first | (with_reducible assumption) | (unfold inr; decide)) | fail) (by repeat' first | (with_reducible exact fx_refl _ _ _) | (with_reducible assumption) | (with_reducible refine fx_ui ?_ ?_ ?_) | (with_reducible refine fx_fil ?_ ?_ ?_) | (with_reducible refine fx_cpy ?_ ?_ ?_) | omega | decide | fail)
      | (simp only [hcb])
      | ((with_reducible refine ⟨vp_in_nI (by omega) (by decide), ?_⟩) <;> conv => whnf)
      | (refine ⟨Or.inl rfl, ?_⟩ <;> conv => whnf)
      | (refine ⟨Or.inr rfl, ?_⟩ <;> conv => whnf)
      | (refine ⟨Or.inl True.intro, ?_⟩ <;> conv => whnf)
      | (refine ⟨Or.inr True.intro, ?_⟩ <;> conv => whnf)
      | (refine ⟨fun c => ?_, fun c => ?_⟩ <;> first | ((have c9 : (1 : Int32) = 0 := by with_reducible exact c); exact absurd c9 (by decide)) | exact absurd (rfl : (0 : Int32) = 0) (by with_reducible exact c) | exact absurd True.intro (by with_reducible exact c) | exact False.elim (by with_reducible exact c) | (conv => whnf))
      | (refine sm_countsAt (by omega) hX (fun v hv => ?_) <;> conv => whnf)
      | (refine sm_isWell (by omega) hX (fun v f1 g1 hv h1 k1 => ?_) <;> (have k1' : fx 200 203 f0 f1 := fx_trans hF (fx_wide k1 (by omega) (by omega))) <;> conv => whnf)
      | (refine ⟨by unfold vp_in; decide, ?_⟩ <;> conv => whnf)
      | fail
    all_goals exact H _ _ _ (Or.inr ⟨1, by omega, rfl⟩) (by repeat' first | (with_reducible assumption) | (with_reducible refine XI_ui ?_ ?_) | (with_reducible refine XI_fil ?_ (fun _ => ?_)) | (with_reducible refine XI_cpy ?_ (fun _ _ => ?_)) | exact True.intro | ((show inr _ _ _); first | (with_reducible assumption) | (unfold inr; decide)) | fail) (by repeat' first | (with_reducible exact fx_refl _ _ _) | (with_reducible assumption) | (with_reducible refine fx_ui ?_ ?_ ?_) | (with_reducible refine fx_fil ?_ ?_ ?_) | (with_reducible refine fx_cpy ?_ ?_ ?_) | omega | decide | fail)
set_option maxRecDepth 100000 in
set_option maxHeartbeats 4000000 in
theorem sm_findAsides {d L : Nat} {f : Nat → Nat → Int32} {g : Nat → Nat → Int64}  {R : Option Value → mH → Prop} (hd : 4 ≤ d) (hX : XI f) (H : ∀ v f' g', (v = -4 ∨ ∃ s, s ≤ 3 ∧ v = nI s) → XI f' → fx 200 203 f f' → R (some (.int v)) (shF L, f', g')) : Run mtab d 186 [.ref 181] (shF L, f, g) R := by
  obtain ⟨d, rfl⟩ : ∃ e, d = e + 1 := ⟨d - 1, by omega⟩
  refine go_X11_findAsides rfl ?_
  conv => whnf
  obtain ⟨n, hm, hb⟩ := inr_nat (n := 20) rfl (xi_181_16 hX)
  refine sm_isWell (by omega) hX (fun v f1 g1 hv h1 k1 => ?_)
  have k1' : fx 200 203 f f1 := fx_wide k1 (by omega) (by omega)
  conv => whnf
  refine ⟨fun c => ?_, fun c => ?_⟩
  · conv => whnf
    exact sm_c1_lp (by omega) hm hb H n 0 _ _ _ _ _ (by omega) rfl h1 k1'
  · conv => whnf
    exact H _ _ _ (Or.inr ⟨0, by omega, rfl⟩) h1 k1'
set_option maxRecDepth 100000 in
set_option maxHeartbeats 4000000 in
theorem sm_lookAside {d L : Nat} {f : Nat → Nat → Int32} {g : Nat → Nat → Int64}  {R : Option Value → mH → Prop} (hd : 7 ≤ d) (hX : XI f) (H : ∀ v f' g', (v = -4 ∨ ∃ s, s ≤ 3 ∧ v = nI s) → XI f' → kp [10, 22, 23] f f' → R (some (.int v)) (shF L, f', g')) : Run mtab d 187 [.ref 181] (shF L, f, g) R := by
  obtain ⟨d, rfl⟩ : ∃ e, d = e + 1 := ⟨d - 1, by omega⟩
  refine go_X11_lookAside rfl ?_
  conv => whnf
  refine sm_refresh (by omega) hX (fun f1 g1 h1 k1 => ?_)
  conv => whnf
  refine sm_findAsides (by omega) h1 (fun v f2 g2 hv h2 k2 => ?_)
  conv => whnf
  refine sm_findYears (by omega) h2 (fun f3 g3 h3 k3 => ?_)
  conv => whnf
  exact H _ _ _ hv h3 (kp_trans k1 (kp_trans (kp_fx k2 rfl) k3))
set_option maxRecDepth 100000 in
set_option maxHeartbeats 4000000 in
theorem sm_asides {d L : Nat} {f : Nat → Nat → Int32} {g : Nat → Nat → Int64}  {R : Option Value → mH → Prop} (hd : 8 ≤ d) (hX : XI f) (H : ∀ v f' g', XI f' → kp [10, 22, 23] f f' → R (some (.int v)) (shF L, f', g')) : Run mtab d 188 [.ref 181] (shF L, f, g) R := by
  obtain ⟨d, rfl⟩ : ∃ e, d = e + 1 := ⟨d - 1, by omega⟩
  refine go_X11_asides rfl ?_
  conv => whnf
  refine sm_lookAside (by omega) hX (fun v f1 g1 hv h1 k1 => ?_)
  conv => whnf
  exact H _ _ _ h1 k1
set_option maxRecDepth 100000 in
set_option maxHeartbeats 4000000 in
theorem sm_aside {d L : Nat} {f : Nat → Nat → Int32} {g : Nat → Nat → Int64} {x1 : Int32} {R : Option Value → mH → Prop} (hd : 8 ≤ d) (hX : XI f) (H : ∀ v f' g', XI f' → kp [10, 22, 23] f f' → R (some (.int v)) (shF L, f', g')) : Run mtab d 189 [.ref 181, .int x1] (shF L, f, g) R := by
  obtain ⟨d, rfl⟩ : ∃ e, d = e + 1 := ⟨d - 1, by omega⟩
  refine go_X11_aside rfl ?_
  conv => whnf
  refine ⟨fun c0 => ?_, fun c => ?_⟩
  · conv => whnf
    refine sm_lookAside (by omega) hX (fun v f1 g1 hv h1 k1 => ?_)
    conv => whnf
    refine ⟨fun c => ?_, fun c => ?_⟩
    · conv => whnf
      refine ⟨fun c2 => ?_, fun c2 => ?_⟩
      · conv => whnf
        exact H _ _ _ h1 k1
      · rcases hv with rfl | ⟨s, hs, rfl⟩
        · exact absurd c (by decide)
        · obtain ⟨a, ha, rfl⟩ := nI_of (i32_nlt.mpr c0)
          rw [nI_leI (by omega) ha] at c2
          conv => whnf
          refine ⟨vp_in_nI (by omega) (by decide), ?_⟩
          conv => whnf
          exact H _ _ _ h1 k1
    · conv => whnf
      exact H _ _ _ h1 k1
  · conv => whnf
    exact H _ _ _ hX (kp_refl _ _)
theorem sh_l : ∀ l, l < 9 → (1 : Int32) <<< (nI l &&& 31) = nI (2 ^ l) := by decide +kernel
theorem or_in : ∀ s, s < 256 → ∀ i, i < 8 → ¬ ((nI s ||| (1 : Int32) <<< (nI i &&& 31)) < 0 ∨ 256 ≤ (nI s ||| (1 : Int32) <<< (nI i &&& 31)).toNatClampNeg) := by decide +kernel
theorem p2_le {l : Nat} (h : l ≤ 8) : 2 ^ l ≤ 256 := Nat.pow_le_pow_right (n := 2) (by decide) h
set_option maxRecDepth 100000 in
set_option maxHeartbeats 4000000 in
theorem sm_aw3_lp {d L n : Nat} {f0 : Nat → Nat → Int32} {p : Nat} {R : Option Value → mH → Prop} (hd : 1 ≤ d) (hm : n ≤ 256) (H : ∀ f' g', XI f' → fx 209 211 f0 f' → R none (shF L, f', g'))  :
    ∀ (k i : Nat) (x : Int32) (s4 : Option Value) (s5 : Option Value) (s6 : Option Value) (f : Nat → Nat → Int32) (g : Nat → Nat → Int64), i + k = n → x = nI i → XI f → fx 209 211 f0 f → WPe pg_X11_addWork none (Run mtab d) R (m_drop pg_X11_addWork 80) [some (.ref 181), some (.int (nI p)), some (.int (nI n)), some (.int x), s4, s5, s6] [] (shF L, f, g)
  | 0, i, x, s4, s5, s6, f, g, he, hx, hX, hF => by
    have e : i = n := by omega
    subst hx
    subst e
    refine at_X11_addWork ?_
    conv => whnf
    refine ⟨fun c => ?_, fun c => absurd (nI_le (Nat.le_refl _) (by omega)) c⟩
    conv => whnf
    repeat' first
      | ((with_reducible refine ⟨vp_in_nI (by omega) (by decide), ?_⟩) <;> conv => whnf)
      | (refine ⟨Or.inl rfl, ?_⟩ <;> conv => whnf)
      | (refine ⟨Or.inr rfl, ?_⟩ <;> conv => whnf)
      | (refine ⟨Or.inl True.intro, ?_⟩ <;> conv => whnf)
      | (refine ⟨Or.inr True.intro, ?_⟩ <;> conv => whnf)
      | (refine ⟨fun c => ?_, fun c => ?_⟩ <;> first | ((have c9 : (1 : Int32) = 0 := by with_reducible exact c); exact absurd c9 (by decide)) | exact absurd (rfl : (0 : Int32) = 0) (by with_reducible exact c) | exact absurd True.intro (by with_reducible exact c) | exact False.elim (by with_reducible exact c) | (conv => whnf))
      | (refine ⟨by unfold vp_in; decide, ?_⟩ <;> conv => whnf)
      | fail
    all_goals exact H _ _ hX hF
  | k + 1, i, x, s4, s5, s6, f, g, he, hx, hX, hF => by
    subst hx
    refine at_X11_addWork ?_
    conv => whnf
    refine ⟨fun c => absurd c (nI_ge (b := n) (by omega) (by omega)), fun c => ?_⟩
    conv => whnf
    repeat' first
      | exact sm_aw3_lp hd hm H k (i + 1) _ _ _ _ _ _ (by omega) (nI_1 i) (by repeat' first | (with_reducible assumption) | (with_reducible refine XI_ui ?_ ?_) | (with_reducible refine XI_fil ?_ (fun _ => ?_)) | (with_reducible refine XI_cpy ?_ (fun _ _ => ?_)) | exact True.intro | ((show inr _ _ _); first | (with_reducible assumption) | (unfold inr; decide)) | fail) (by repeat' first | (with_reducible exact fx_refl _ _ _) | (with_reducible assumption) | (with_reducible refine fx_ui ?_ ?_ ?_) | (with_reducible refine fx_fil ?_ ?_ ?_) | (with_reducible refine fx_cpy ?_ ?_ ?_) | omega | decide | fail)
      | ((with_reducible refine ⟨vp_in_nI (by omega) (by decide), ?_⟩) <;> conv => whnf)
      | (refine ⟨Or.inl rfl, ?_⟩ <;> conv => whnf)
      | (refine ⟨Or.inr rfl, ?_⟩ <;> conv => whnf)
      | (refine ⟨Or.inl True.intro, ?_⟩ <;> conv => whnf)
      | (refine ⟨Or.inr True.intro, ?_⟩ <;> conv => whnf)
      | (refine ⟨fun c => ?_, fun c => ?_⟩ <;> first | ((have c9 : (1 : Int32) = 0 := by with_reducible exact c); exact absurd c9 (by decide)) | exact absurd (rfl : (0 : Int32) = 0) (by with_reducible exact c) | exact absurd True.intro (by with_reducible exact c) | exact False.elim (by with_reducible exact c) | (conv => whnf))
      | (refine ⟨by unfold vp_in; decide, ?_⟩ <;> conv => whnf)
      | fail
    all_goals exact H _ _ hX hF
set_option maxRecDepth 100000 in
set_option maxHeartbeats 4000000 in
theorem sm_aw2I_lp {d L n : Nat} {f0 : Nat → Nat → Int32} {p N q : Nat} {R : Option Value → mH → Prop} (hd : 1 ≤ d) (hm : n ≤ 8) (h0 : f0 181 34 = nI n) (hp : p < 40) (hq : q < 256) (HO : ∀ (x' : Int32) (s4 s5 s6 : Option Value) (f' : Nat → Nat → Int32) (g' : Nat → Nat → Int64), x' = nI (q + 1) → XI f' → fx 209 211 f0 f' → WPe pg_X11_addWork none (Run mtab d) R (m_drop pg_X11_addWork 17) [some (.ref 181), some (.int (nI p)), some (.int (nI N)), some (.int x'), s4, s5, s6] [] (shF L, f', g')) (H : ∀ f' g', XI f' → fx 209 211 f0 f' → R none (shF L, f', g'))  :
    ∀ (k i : Nat) (x : Int32) (s5 : Option Value) (s6 : Option Value) (f : Nat → Nat → Int32) (g : Nat → Nat → Int64), i + k = n → x = nI i → XI f → fx 209 211 f0 f → WPe pg_X11_addWork none (Run mtab d) R (m_drop pg_X11_addWork 22) [some (.ref 181), some (.int (nI p)), some (.int (nI N)), some (.int (nI q)), some (.int x), s5, s6] [] (shF L, f, g)
  | 0, i, x, s5, s6, f, g, he, hx, hX, hF => by
    have e : i = n := by omega
    subst hx
    have hcb : f 181 34 = nI n := (hF 181 34 (by omega)).trans h0
    subst e
    refine at_X11_addWork ?_
    conv => whnf
    try simp only [hcb, nI_40m, nI_add]
    refine ⟨fun c => ?_, fun c => absurd (nI_le (Nat.le_refl _) (by omega)) c⟩
    conv => whnf
    repeat' first
      | exact HO _ _ _ _ _ _ (nI_1 q) hX hF
      | (simp only [hcb, nI_40m, nI_add])
      | ((with_reducible refine ⟨vp_in_nI (by omega) (by decide), ?_⟩) <;> conv => whnf)
      | (refine ⟨Or.inl rfl, ?_⟩ <;> conv => whnf)
      | (refine ⟨Or.inr rfl, ?_⟩ <;> conv => whnf)
      | (refine ⟨Or.inl True.intro, ?_⟩ <;> conv => whnf)
      | (refine ⟨Or.inr True.intro, ?_⟩ <;> conv => whnf)
      | (refine ⟨fun c => ?_, fun c => ?_⟩ <;> first | ((have c9 : (1 : Int32) = 0 := by with_reducible exact c); exact absurd c9 (by decide)) | exact absurd (rfl : (0 : Int32) = 0) (by with_reducible exact c) | exact absurd True.intro (by with_reducible exact c) | exact False.elim (by with_reducible exact c) | (conv => whnf))
      | (refine ⟨by unfold vp_in; decide, ?_⟩ <;> conv => whnf)
      | fail
    all_goals fail
  | k + 1, i, x, s5, s6, f, g, he, hx, hX, hF => by
    subst hx
    have hcb : f 181 34 = nI n := (hF 181 34 (by omega)).trans h0
    refine at_X11_addWork ?_
    conv => whnf
    try simp only [hcb, nI_40m, nI_add]
    refine ⟨fun c => absurd c (nI_ge (b := n) (by omega) (by omega)), fun c => ?_⟩
    conv => whnf
    repeat' first
      | exact sm_aw2I_lp hd hm h0 hp hq HO H k (i + 1) _ _ _ _ _ (by omega) (nI_1 i) (by repeat' first | (with_reducible assumption) | (with_reducible refine XI_ui ?_ ?_) | (with_reducible refine XI_fil ?_ (fun _ => ?_)) | (with_reducible refine XI_cpy ?_ (fun _ _ => ?_)) | exact True.intro | ((show inr _ _ _); first | (with_reducible assumption) | (unfold inr; decide)) | fail) (by repeat' first | (with_reducible exact fx_refl _ _ _) | (with_reducible assumption) | (with_reducible refine fx_ui ?_ ?_ ?_) | (with_reducible refine fx_fil ?_ ?_ ?_) | (with_reducible refine fx_cpy ?_ ?_ ?_) | omega | decide | fail)
      | exact HO _ _ _ _ _ _ (nI_1 q) hX hF
      | ((with_reducible refine ⟨or_in q hq i (by omega), ?_⟩) <;> conv => whnf)
      | (refine ⟨or_in q hq i (by omega), ?_⟩ <;> conv => whnf)
      | (simp only [hcb, nI_40m, nI_add])
      | ((with_reducible refine ⟨vp_in_nI (by omega) (by decide), ?_⟩) <;> conv => whnf)
      | (refine ⟨Or.inl rfl, ?_⟩ <;> conv => whnf)
      | (refine ⟨Or.inr rfl, ?_⟩ <;> conv => whnf)
      | (refine ⟨Or.inl True.intro, ?_⟩ <;> conv => whnf)
      | (refine ⟨Or.inr True.intro, ?_⟩ <;> conv => whnf)
      | (refine ⟨fun c => ?_, fun c => ?_⟩ <;> first | ((have c9 : (1 : Int32) = 0 := by with_reducible exact c); exact absurd c9 (by decide)) | exact absurd (rfl : (0 : Int32) = 0) (by with_reducible exact c) | exact absurd True.intro (by with_reducible exact c) | exact False.elim (by with_reducible exact c) | (conv => whnf))
      | (refine ⟨by unfold vp_in; decide, ?_⟩ <;> conv => whnf)
      | fail
    all_goals fail
set_option maxRecDepth 100000 in
set_option maxHeartbeats 4000000 in
theorem sm_aw2_lp {d L n : Nat} {f0 : Nat → Nat → Int32} {p l : Nat} {R : Option Value → mH → Prop} (hd : 1 ≤ d) (hm : n ≤ 256) (h0 : f0 181 34 = nI l) (hl : l ≤ 8) (hp : p < 40) (H : ∀ f' g', XI f' → fx 209 211 f0 f' → R none (shF L, f', g'))  :
    ∀ (k i : Nat) (x : Int32) (s4 : Option Value) (s5 : Option Value) (s6 : Option Value) (f : Nat → Nat → Int32) (g : Nat → Nat → Int64), i + k = n → x = nI i → XI f → fx 209 211 f0 f → WPe pg_X11_addWork none (Run mtab d) R (m_drop pg_X11_addWork 17) [some (.ref 181), some (.int (nI p)), some (.int (nI n)), some (.int x), s4, s5, s6] [] (shF L, f, g)
  | 0, i, x, s4, s5, s6, f, g, he, hx, hX, hF => by
    have e : i = n := by omega
    subst hx
    subst e
    refine at_X11_addWork ?_
    conv => whnf
    refine ⟨fun c => ?_, fun c => absurd (nI_le (Nat.le_refl _) (by omega)) c⟩
    conv => whnf
    repeat' first
      | exact sm_aw3_lp (by omega) hm H i 0 _ _ _ _ _ _ (by omega) rfl hX hF
      | ((with_reducible refine ⟨vp_in_nI (by omega) (by decide), ?_⟩) <;> conv => whnf)
      | (refine ⟨Or.inl rfl, ?_⟩ <;> conv => whnf)
      | (refine ⟨Or.inr rfl, ?_⟩ <;> conv => whnf)
      | (refine ⟨Or.inl True.intro, ?_⟩ <;> conv => whnf)
      | (refine ⟨Or.inr True.intro, ?_⟩ <;> conv => whnf)
      | (refine ⟨fun c => ?_, fun c => ?_⟩ <;> first | ((have c9 : (1 : Int32) = 0 := by with_reducible exact c); exact absurd c9 (by decide)) | exact absurd (rfl : (0 : Int32) = 0) (by with_reducible exact c) | exact absurd True.intro (by with_reducible exact c) | exact False.elim (by with_reducible exact c) | (conv => whnf))
      | (refine ⟨by unfold vp_in; decide, ?_⟩ <;> conv => whnf)
      | fail
    all_goals fail
  | k + 1, i, x, s4, s5, s6, f, g, he, hx, hX, hF => by
    subst hx
    refine at_X11_addWork ?_
    conv => whnf
    refine ⟨fun c => absurd c (nI_ge (b := n) (by omega) (by omega)), fun c => ?_⟩
    conv => whnf
    repeat' first
      | exact sm_aw2_lp hd hm h0 hl hp H k (i + 1) _ _ _ _ _ _ (by omega) (nI_1 i) (by repeat' first | (with_reducible assumption) | (with_reducible refine XI_ui ?_ ?_) | (with_reducible refine XI_fil ?_ (fun _ => ?_)) | (with_reducible refine XI_cpy ?_ (fun _ _ => ?_)) | exact True.intro | ((show inr _ _ _); first | (with_reducible assumption) | (unfold inr; decide)) | fail) (by repeat' first | (with_reducible exact fx_refl _ _ _) | (with_reducible assumption) | (with_reducible refine fx_ui ?_ ?_ ?_) | (with_reducible refine fx_fil ?_ ?_ ?_) | (with_reducible refine fx_cpy ?_ ?_ ?_) | omega | decide | fail)
      | exact sm_aw2I_lp (p := p) (N := n) (q := i) hd hl h0 hp (by omega) (fun x' s4 s5 s6 f' g' hx' hX' hF' => sm_aw2_lp hd hm h0 hl hp H k (i + 1) x' s4 s5 s6 f' g' (by omega) hx' hX' hF') H l 0 _ _ _ _ _ (by omega) rfl hX hF
      | ((with_reducible refine ⟨vp_in_nI (by omega) (by decide), ?_⟩) <;> conv => whnf)
      | (refine ⟨Or.inl rfl, ?_⟩ <;> conv => whnf)
      | (refine ⟨Or.inr rfl, ?_⟩ <;> conv => whnf)
      | (refine ⟨Or.inl True.intro, ?_⟩ <;> conv => whnf)
      | (refine ⟨Or.inr True.intro, ?_⟩ <;> conv => whnf)
      | (refine ⟨fun c => ?_, fun c => ?_⟩ <;> first | ((have c9 : (1 : Int32) = 0 := by with_reducible exact c); exact absurd c9 (by decide)) | exact absurd (rfl : (0 : Int32) = 0) (by with_reducible exact c) | exact absurd True.intro (by with_reducible exact c) | exact False.elim (by with_reducible exact c) | (conv => whnf))
      | (refine ⟨by unfold vp_in; decide, ?_⟩ <;> conv => whnf)
      | fail
    all_goals fail
set_option maxRecDepth 100000 in
set_option maxHeartbeats 4000000 in
theorem sm_aw1_lp {d L n : Nat} {f0 : Nat → Nat → Int32} {p l : Nat} {R : Option Value → mH → Prop} (hd : 1 ≤ d) (hm : n ≤ 256) (h0 : f0 181 34 = nI l) (hl : l ≤ 8) (hp : p < 40) (H : ∀ f' g', XI f' → fx 209 211 f0 f' → R none (shF L, f', g'))  :
    ∀ (k i : Nat) (x : Int32) (s4 : Option Value) (s5 : Option Value) (s6 : Option Value) (f : Nat → Nat → Int32) (g : Nat → Nat → Int64), i + k = n → x = nI i → XI f → fx 209 211 f0 f → WPe pg_X11_addWork none (Run mtab d) R (m_drop pg_X11_addWork 2) [some (.ref 181), some (.int (nI p)), some (.int (nI n)), some (.int x), s4, s5, s6] [] (shF L, f, g)
  | 0, i, x, s4, s5, s6, f, g, he, hx, hX, hF => by
    have e : i = n := by omega
    subst hx
    subst e
    refine at_X11_addWork ?_
    conv => whnf
    refine ⟨fun c => ?_, fun c => absurd (nI_le (Nat.le_refl _) (by omega)) c⟩
    conv => whnf
    repeat' first
      | exact sm_aw2_lp (by omega) hm h0 hl hp H i 0 _ _ _ _ _ _ (by omega) rfl hX hF
      | ((with_reducible refine ⟨vp_in_nI (by omega) (by decide), ?_⟩) <;> conv => whnf)
      | (refine ⟨Or.inl rfl, ?_⟩ <;> conv => whnf)
      | (refine ⟨Or.inr rfl, ?_⟩ <;> conv => whnf)
      | (refine ⟨Or.inl True.intro, ?_⟩ <;> conv => whnf)
      | (refine ⟨Or.inr True.intro, ?_⟩ <;> conv => whnf)
      | (refine ⟨fun c => ?_, fun c => ?_⟩ <;> first | ((have c9 : (1 : Int32) = 0 := by with_reducible exact c); exact absurd c9 (by decide)) | exact absurd (rfl : (0 : Int32) = 0) (by with_reducible exact c) | exact absurd True.intro (by with_reducible exact c) | exact False.elim (by with_reducible exact c) | (conv => whnf))
      | (refine ⟨by unfold vp_in; decide, ?_⟩ <;> conv => whnf)
      | fail
    all_goals fail
  | k + 1, i, x, s4, s5, s6, f, g, he, hx, hX, hF => by
    subst hx
    refine at_X11_addWork ?_
    conv => whnf
    refine ⟨fun c => absurd c (nI_ge (b := n) (by omega) (by omega)), fun c => ?_⟩
    conv => whnf
    repeat' first
      | exact sm_aw1_lp hd hm h0 hl hp H k (i + 1) _ _ _ _ _ _ (by omega) (nI_1 i) (by repeat' first | (with_reducible assumption) | (with_reducible refine XI_ui ?_ ?_) | (with_reducible refine XI_fil ?_ (fun _ => ?_)) | (with_reducible refine XI_cpy ?_ (fun _ _ => ?_)) | exact True.intro | ((show inr _ _ _); first | (with_reducible assumption) | (unfold inr; decide)) | fail) (by repeat' first | (with_reducible exact fx_refl _ _ _) | (with_reducible assumption) | (with_reducible refine fx_ui ?_ ?_ ?_) | (with_reducible refine fx_fil ?_ ?_ ?_) | (with_reducible refine fx_cpy ?_ ?_ ?_) | omega | decide | fail)
      | ((with_reducible refine ⟨vp_in_nI (by omega) (by decide), ?_⟩) <;> conv => whnf)
      | (refine ⟨Or.inl rfl, ?_⟩ <;> conv => whnf)
      | (refine ⟨Or.inr rfl, ?_⟩ <;> conv => whnf)
      | (refine ⟨Or.inl True.intro, ?_⟩ <;> conv => whnf)
      | (refine ⟨Or.inr True.intro, ?_⟩ <;> conv => whnf)
      | (refine ⟨fun c => ?_, fun c => ?_⟩ <;> first | ((have c9 : (1 : Int32) = 0 := by with_reducible exact c); exact absurd c9 (by decide)) | exact absurd (rfl : (0 : Int32) = 0) (by with_reducible exact c) | exact absurd True.intro (by with_reducible exact c) | exact False.elim (by with_reducible exact c) | (conv => whnf))
      | (refine ⟨by unfold vp_in; decide, ?_⟩ <;> conv => whnf)
      | fail
    all_goals fail
set_option maxRecDepth 100000 in
set_option maxHeartbeats 4000000 in
theorem sm_addWork {d L : Nat} {f : Nat → Nat → Int32} {g : Nat → Nat → Int64} {p n : Nat} {R : Option Value → mH → Prop} (hd : 2 ≤ d) (hX : XI f) (hp : p < 40) (hm : n ≤ 256) (H : ∀ f' g', XI f' → fx 209 211 f f' → R none (shF L, f', g')) : Run mtab d 201 [.ref 181, .int (nI p), .int (nI n)] (shF L, f, g) R := by
  obtain ⟨d, rfl⟩ : ∃ e, d = e + 1 := ⟨d - 1, by omega⟩
  refine go_X11_addWork rfl ?_
  conv => whnf
  obtain ⟨l, hl, hb⟩ := inr_nat (n := 8) rfl (xi_181_34 hX)
  exact sm_aw1_lp (by omega) hm hb hl hp H n 0 _ _ _ _ _ _ (by omega) rfl hX (fx_refl _ _ _)
set_option maxRecDepth 100000 in
set_option maxHeartbeats 4000000 in
theorem sm_gr3_lp {d L n : Nat} {f0 : Nat → Nat → Int32}  {R : Option Value → mH → Prop} (hd : 1 ≤ d) (hm : n ≤ 256) (H : ∀ v f' g', XI f' → fx 209 211 f0 f' → R (some (.int v)) (shF L, f', g'))  :
    ∀ (k i : Nat) (x : Int32) (a : Int32) (s4 : Option Value) (f : Nat → Nat → Int32) (g : Nat → Nat → Int64), i + k = n → x = nI i → XI f → fx 209 211 f0 f → WPe pg_X11_greatest none (Run mtab d) R (m_drop pg_X11_greatest 64) [some (.ref 181), some (.int (nI n)), some (.int a), some (.int x), s4] [] (shF L, f, g)
  | 0, i, x, a, s4, f, g, he, hx, hX, hF => by
    have e : i = n := by omega
    subst hx
    subst e
    refine at_X11_greatest ?_
    conv => whnf
    refine ⟨fun c => ?_, fun c => absurd (nI_le (Nat.le_refl _) (by omega)) c⟩
    conv => whnf
    repeat' first
      | ((with_reducible refine ⟨vp_in_nI (by omega) (by decide), ?_⟩) <;> conv => whnf)
      | (refine ⟨Or.inl rfl, ?_⟩ <;> conv => whnf)
      | (refine ⟨Or.inr rfl, ?_⟩ <;> conv => whnf)
      | (refine ⟨Or.inl True.intro, ?_⟩ <;> conv => whnf)
      | (refine ⟨Or.inr True.intro, ?_⟩ <;> conv => whnf)
      | (refine ⟨fun c => ?_, fun c => ?_⟩ <;> first | ((have c9 : (1 : Int32) = 0 := by with_reducible exact c); exact absurd c9 (by decide)) | exact absurd (rfl : (0 : Int32) = 0) (by with_reducible exact c) | exact absurd True.intro (by with_reducible exact c) | exact False.elim (by with_reducible exact c) | (conv => whnf))
      | (refine ⟨by unfold vp_in; decide, ?_⟩ <;> conv => whnf)
      | fail
    all_goals exact H _ _ _ hX hF
  | k + 1, i, x, a, s4, f, g, he, hx, hX, hF => by
    subst hx
    refine at_X11_greatest ?_
    conv => whnf
    refine ⟨fun c => absurd c (nI_ge (b := n) (by omega) (by omega)), fun c => ?_⟩
    conv => whnf
    repeat' first
      | exact sm_gr3_lp hd hm H k (i + 1) _ _ _ _ _ (by omega) (nI_1 i) (by repeat' first | (with_reducible assumption) | (with_reducible refine XI_ui ?_ ?_) | (with_reducible refine XI_fil ?_ (fun _ => ?_)) | (with_reducible refine XI_cpy ?_ (fun _ _ => ?_)) | exact True.intro | ((show inr _ _ _); first | (with_reducible assumption) | (unfold inr; decide)) | fail) (by repeat' first | (with_reducible exact fx_refl _ _ _) | (with_reducible assumption) | (with_reducible refine fx_ui ?_ ?_ ?_) | (with_reducible refine fx_fil ?_ ?_ ?_) | (with_reducible refine fx_cpy ?_ ?_ ?_) | omega | decide | fail)
      | ((with_reducible refine ⟨vp_in_nI (by omega) (by decide), ?_⟩) <;> conv => whnf)
      | (refine ⟨Or.inl rfl, ?_⟩ <;> conv => whnf)
      | (refine ⟨Or.inr rfl, ?_⟩ <;> conv => whnf)
      | (refine ⟨Or.inl True.intro, ?_⟩ <;> conv => whnf)
      | (refine ⟨Or.inr True.intro, ?_⟩ <;> conv => whnf)
      | (refine ⟨fun c => ?_, fun c => ?_⟩ <;> first | ((have c9 : (1 : Int32) = 0 := by with_reducible exact c); exact absurd c9 (by decide)) | exact absurd (rfl : (0 : Int32) = 0) (by with_reducible exact c) | exact absurd True.intro (by with_reducible exact c) | exact False.elim (by with_reducible exact c) | (conv => whnf))
      | (refine ⟨by unfold vp_in; decide, ?_⟩ <;> conv => whnf)
      | fail
    all_goals exact H _ _ _ hX hF
set_option maxRecDepth 100000 in
set_option maxHeartbeats 4000000 in
theorem sm_gr2I_lp {d L n : Nat} {f0 : Nat → Nat → Int32} {N q : Nat} {R : Option Value → mH → Prop} (hd : 2 ≤ d) (hm : n ≤ 8) (h0 : f0 181 34 = nI n) (hq : q < 40) (hN : N ≤ 256) (HO : ∀ (x' : Int32) (s3 s4 : Option Value) (f' : Nat → Nat → Int32) (g' : Nat → Nat → Int64), x' = nI (q + 1) → XI f' → fx 209 211 f0 f' → WPe pg_X11_greatest none (Run mtab d) R (m_drop pg_X11_greatest 23) [some (.ref 181), some (.int (nI N)), some (.int x'), s3, s4] [] (shF L, f', g')) (H : ∀ v f' g', XI f' → fx 209 211 f0 f' → R (some (.int v)) (shF L, f', g'))  :
    ∀ (k i : Nat) (x : Int32) (a : Int32) (f : Nat → Nat → Int32) (g : Nat → Nat → Int64), i + k = n → x = nI i → XI f → fx 209 211 f0 f → WPe pg_X11_greatest none (Run mtab d) R (m_drop pg_X11_greatest 31) [some (.ref 181), some (.int (nI N)), some (.int (nI q)), some (.int a), some (.int x)] [] (shF L, f, g)
  | 0, i, x, a, f, g, he, hx, hX, hF => by
    have e : i = n := by omega
    subst hx
    have hcb : f 181 34 = nI n := (hF 181 34 (by omega)).trans h0
    subst e
    refine at_X11_greatest ?_
    conv => whnf
    try simp only [hcb, nI_40m, nI_add]
    refine ⟨fun c => ?_, fun c => absurd (nI_le (Nat.le_refl _) (by omega)) c⟩
    conv => whnf
    repeat' first
      | exact HO _ _ _ _ _ (nI_1 q) hX hF
      | exact HO _ _ _ _ _ (nI_1 q) h1 k1'
      | (simp only [hcb, nI_40m, nI_add])
      | ((with_reducible refine ⟨vp_in_nI (by omega) (by decide), ?_⟩) <;> conv => whnf)
      | (refine ⟨Or.inl rfl, ?_⟩ <;> conv => whnf)
      | (refine ⟨Or.inr rfl, ?_⟩ <;> conv => whnf)
      | (refine ⟨Or.inl True.intro, ?_⟩ <;> conv => whnf)
      | (refine ⟨Or.inr True.intro, ?_⟩ <;> conv => whnf)
      | (refine ⟨fun c => ?_, fun c => ?_⟩ <;> first | ((have c9 : (1 : Int32) = 0 := by with_reducible exact c); exact absurd c9 (by decide)) | exact absurd (rfl : (0 : Int32) = 0) (by with_reducible exact c) | exact absurd True.intro (by with_reducible exact c) | exact False.elim (by with_reducible exact c) | (conv => whnf))
      | (refine sm_addWork (by omega) hX hq hN (fun f1 g1 h1 k1 => ?_) <;> (have k1' := fx_trans hF k1) <;> conv => whnf)
      | (refine ⟨by unfold vp_in; decide, ?_⟩ <;> conv => whnf)
      | fail
    all_goals fail
  | k + 1, i, x, a, f, g, he, hx, hX, hF => by
    subst hx
    have hcb : f 181 34 = nI n := (hF 181 34 (by omega)).trans h0
    refine at_X11_greatest ?_
    conv => whnf
    try simp only [hcb, nI_40m, nI_add]
    refine ⟨fun c => absurd c (nI_ge (b := n) (by omega) (by omega)), fun c => ?_⟩
    conv => whnf
    repeat' first
      | exact sm_gr2I_lp hd hm h0 hq hN HO H k (i + 1) _ _ _ _ (by omega) (nI_1 i) (by repeat' first | (with_reducible assumption) | (with_reducible refine XI_ui ?_ ?_) | (with_reducible refine XI_fil ?_ (fun _ => ?_)) | (with_reducible refine XI_cpy ?_ (fun _ _ => ?_)) | exact True.intro | ((show inr _ _ _); first | (with_reducible assumption) | (unfold inr; decide)) | fail) (by repeat' first | (with_reducible exact fx_refl _ _ _) | (with_reducible assumption) | (with_reducible refine fx_ui ?_ ?_ ?_) | (with_reducible refine fx_fil ?_ ?_ ?_) | (with_reducible refine fx_cpy ?_ ?_ ?_) | omega | decide | fail)
      | (simp only [hcb, nI_40m, nI_add])
      | ((with_reducible refine ⟨vp_in_nI (by omega) (by decide), ?_⟩) <;> conv => whnf)
      | (refine ⟨Or.inl rfl, ?_⟩ <;> conv => whnf)
      | (refine ⟨Or.inr rfl, ?_⟩ <;> conv => whnf)
      | (refine ⟨Or.inl True.intro, ?_⟩ <;> conv => whnf)
      | (refine ⟨Or.inr True.intro, ?_⟩ <;> conv => whnf)
      | (refine ⟨fun c => ?_, fun c => ?_⟩ <;> first | ((have c9 : (1 : Int32) = 0 := by with_reducible exact c); exact absurd c9 (by decide)) | exact absurd (rfl : (0 : Int32) = 0) (by with_reducible exact c) | exact absurd True.intro (by with_reducible exact c) | exact False.elim (by with_reducible exact c) | (conv => whnf))
      | (refine ⟨by unfold vp_in; decide, ?_⟩ <;> conv => whnf)
      | fail
    all_goals fail
set_option maxRecDepth 100000 in
set_option maxHeartbeats 4000000 in
theorem sm_gr2_lp {d L n : Nat} {f0 : Nat → Nat → Int32} {N l : Nat} {R : Option Value → mH → Prop} (hd : 2 ≤ d) (hm : n ≤ 40) (h0 : f0 181 34 = nI l) (hl : l ≤ 8) (hn : f0 181 0 = nI n) (hN : N ≤ 256) (H : ∀ v f' g', XI f' → fx 209 211 f0 f' → R (some (.int v)) (shF L, f', g'))  :
    ∀ (k i : Nat) (x : Int32) (s3 : Option Value) (s4 : Option Value) (f : Nat → Nat → Int32) (g : Nat → Nat → Int64), i + k = n → x = nI i → XI f → fx 209 211 f0 f → WPe pg_X11_greatest none (Run mtab d) R (m_drop pg_X11_greatest 23) [some (.ref 181), some (.int (nI N)), some (.int x), s3, s4] [] (shF L, f, g)
  | 0, i, x, s3, s4, f, g, he, hx, hX, hF => by
    have e : i = n := by omega
    subst hx
    have hcb : f 181 0 = nI n := (hF 181 0 (by omega)).trans hn
    subst e
    refine at_X11_greatest ?_
    conv => whnf
    try simp only [hcb]
    refine ⟨fun c => ?_, fun c => absurd (nI_le (Nat.le_refl _) (by omega)) c⟩
    conv => whnf
    repeat' first
      | exact sm_gr3_lp (by omega) hN H N 0 _ _ _ _ _ (by omega) rfl hX hF
      | (simp only [hcb])
      | ((with_reducible refine ⟨vp_in_nI (by omega) (by decide), ?_⟩) <;> conv => whnf)
      | (refine ⟨Or.inl rfl, ?_⟩ <;> conv => whnf)
      | (refine ⟨Or.inr rfl, ?_⟩ <;> conv => whnf)
      | (refine ⟨Or.inl True.intro, ?_⟩ <;> conv => whnf)
      | (refine ⟨Or.inr True.intro, ?_⟩ <;> conv => whnf)
      | (refine ⟨fun c => ?_, fun c => ?_⟩ <;> first | ((have c9 : (1 : Int32) = 0 := by with_reducible exact c); exact absurd c9 (by decide)) | exact absurd (rfl : (0 : Int32) = 0) (by with_reducible exact c) | exact absurd True.intro (by with_reducible exact c) | exact False.elim (by with_reducible exact c) | (conv => whnf))
      | (refine ⟨by unfold vp_in; decide, ?_⟩ <;> conv => whnf)
      | fail
    all_goals fail
  | k + 1, i, x, s3, s4, f, g, he, hx, hX, hF => by
    subst hx
    have hcb : f 181 0 = nI n := (hF 181 0 (by omega)).trans hn
    refine at_X11_greatest ?_
    conv => whnf
    try simp only [hcb]
    refine ⟨fun c => absurd c (nI_ge (b := n) (by omega) (by omega)), fun c => ?_⟩
    conv => whnf
    repeat' first
      | exact sm_gr2_lp hd hm h0 hl hn hN H k (i + 1) _ _ _ _ _ (by omega) (nI_1 i) (by repeat' first | (with_reducible assumption) | (with_reducible refine XI_ui ?_ ?_) | (with_reducible refine XI_fil ?_ (fun _ => ?_)) | (with_reducible refine XI_cpy ?_ (fun _ _ => ?_)) | exact True.intro | ((show inr _ _ _); first | (with_reducible assumption) | (unfold inr; decide)) | fail) (by repeat' first | (with_reducible exact fx_refl _ _ _) | (with_reducible assumption) | (with_reducible refine fx_ui ?_ ?_ ?_) | (with_reducible refine fx_fil ?_ ?_ ?_) | (with_reducible refine fx_cpy ?_ ?_ ?_) | omega | decide | fail)
      | exact sm_gr2I_lp (N := N) (q := i) hd hl h0 (by omega) hN (fun x' s3 s4 f' g' hx' hX' hF' => sm_gr2_lp hd hm h0 hl hn hN H k (i + 1) x' s3 s4 f' g' (by omega) hx' hX' hF') H l 0 _ _ _ _ (by omega) rfl hX hF
      | (simp only [hcb])
      | ((with_reducible refine ⟨vp_in_nI (by omega) (by decide), ?_⟩) <;> conv => whnf)
      | (refine ⟨Or.inl rfl, ?_⟩ <;> conv => whnf)
      | (refine ⟨Or.inr rfl, ?_⟩ <;> conv => whnf)
      | (refine ⟨Or.inl True.intro, ?_⟩ <;> conv => whnf)
      | (refine ⟨Or.inr True.intro, ?_⟩ <;> conv => whnf)
      | (refine ⟨fun c => ?_, fun c => ?_⟩ <;> first | ((have c9 : (1 : Int32) = 0 := by with_reducible exact c); exact absurd c9 (by decide)) | exact absurd (rfl : (0 : Int32) = 0) (by with_reducible exact c) | exact absurd True.intro (by with_reducible exact c) | exact False.elim (by with_reducible exact c) | (conv => whnf))
      | (refine ⟨by unfold vp_in; decide, ?_⟩ <;> conv => whnf)
      | fail
    all_goals fail
set_option maxRecDepth 100000 in
set_option maxHeartbeats 4000000 in
theorem sm_gr1_lp {d L n : Nat} {f0 : Nat → Nat → Int32} {w l : Nat} {R : Option Value → mH → Prop} (hd : 2 ≤ d) (hm : n ≤ 256) (h0 : f0 181 34 = nI l) (hl : l ≤ 8) (hn : f0 181 0 = nI w) (hw : w ≤ 40) (H : ∀ v f' g', XI f' → fx 209 211 f0 f' → R (some (.int v)) (shF L, f', g'))  :
    ∀ (k i : Nat) (x : Int32) (s3 : Option Value) (s4 : Option Value) (f : Nat → Nat → Int32) (g : Nat → Nat → Int64), i + k = n → x = nI i → XI f → fx 209 211 f0 f → WPe pg_X11_greatest none (Run mtab d) R (m_drop pg_X11_greatest 7) [some (.ref 181), some (.int (nI n)), some (.int x), s3, s4] [] (shF L, f, g)
  | 0, i, x, s3, s4, f, g, he, hx, hX, hF => by
    have e : i = n := by omega
    subst hx
    subst e
    refine at_X11_greatest ?_
    conv => whnf
    refine ⟨fun c => ?_, fun c => absurd (nI_le (Nat.le_refl _) (by omega)) c⟩
    conv => whnf
    repeat' first
      | exact sm_gr2_lp (by omega) hw h0 hl hn hm H w 0 _ _ _ _ _ (by omega) rfl hX hF
      | ((with_reducible refine ⟨vp_in_nI (by omega) (by decide), ?_⟩) <;> conv => whnf)
      | (refine ⟨Or.inl rfl, ?_⟩ <;> conv => whnf)
      | (refine ⟨Or.inr rfl, ?_⟩ <;> conv => whnf)
      | (refine ⟨Or.inl True.intro, ?_⟩ <;> conv => whnf)
      | (refine ⟨Or.inr True.intro, ?_⟩ <;> conv => whnf)
      | (refine ⟨fun c => ?_, fun c => ?_⟩ <;> first | ((have c9 : (1 : Int32) = 0 := by with_reducible exact c); exact absurd c9 (by decide)) | exact absurd (rfl : (0 : Int32) = 0) (by with_reducible exact c) | exact absurd True.intro (by with_reducible exact c) | exact False.elim (by with_reducible exact c) | (conv => whnf))
      | (refine ⟨by unfold vp_in; decide, ?_⟩ <;> conv => whnf)
      | fail
    all_goals fail
  | k + 1, i, x, s3, s4, f, g, he, hx, hX, hF => by
    subst hx
    refine at_X11_greatest ?_
    conv => whnf
    refine ⟨fun c => absurd c (nI_ge (b := n) (by omega) (by omega)), fun c => ?_⟩
    conv => whnf
    repeat' first
      | exact sm_gr1_lp hd hm h0 hl hn hw H k (i + 1) _ _ _ _ _ (by omega) (nI_1 i) (by repeat' first | (with_reducible assumption) | (with_reducible refine XI_ui ?_ ?_) | (with_reducible refine XI_fil ?_ (fun _ => ?_)) | (with_reducible refine XI_cpy ?_ (fun _ _ => ?_)) | exact True.intro | ((show inr _ _ _); first | (with_reducible assumption) | (unfold inr; decide)) | fail) (by repeat' first | (with_reducible exact fx_refl _ _ _) | (with_reducible assumption) | (with_reducible refine fx_ui ?_ ?_ ?_) | (with_reducible refine fx_fil ?_ ?_ ?_) | (with_reducible refine fx_cpy ?_ ?_ ?_) | omega | decide | fail)
      | ((with_reducible refine ⟨vp_in_nI (by omega) (by decide), ?_⟩) <;> conv => whnf)
      | (refine ⟨Or.inl rfl, ?_⟩ <;> conv => whnf)
      | (refine ⟨Or.inr rfl, ?_⟩ <;> conv => whnf)
      | (refine ⟨Or.inl True.intro, ?_⟩ <;> conv => whnf)
      | (refine ⟨Or.inr True.intro, ?_⟩ <;> conv => whnf)
      | (refine ⟨fun c => ?_, fun c => ?_⟩ <;> first | ((have c9 : (1 : Int32) = 0 := by with_reducible exact c); exact absurd c9 (by decide)) | exact absurd (rfl : (0 : Int32) = 0) (by with_reducible exact c) | exact absurd True.intro (by with_reducible exact c) | exact False.elim (by with_reducible exact c) | (conv => whnf))
      | (refine ⟨by unfold vp_in; decide, ?_⟩ <;> conv => whnf)
      | fail
    all_goals fail
set_option maxRecDepth 100000 in
set_option maxHeartbeats 4000000 in
theorem sm_greatest {d L : Nat} {f : Nat → Nat → Int32} {g : Nat → Nat → Int64}  {R : Option Value → mH → Prop} (hd : 4 ≤ d) (hX : XI f) (H : ∀ v f' g', XI f' → fx 209 211 f f' → R (some (.int v)) (shF L, f', g')) : Run mtab d 200 [.ref 181] (shF L, f, g) R := by
  obtain ⟨d, rfl⟩ : ∃ e, d = e + 1 := ⟨d - 1, by omega⟩
  refine go_X11_greatest rfl ?_
  conv => whnf
  obtain ⟨l, hl, hb⟩ := inr_nat (n := 8) rfl (xi_181_34 hX)
  obtain ⟨w, hw, hn⟩ := inr_nat (n := 40) rfl (xi_181_0 hX)
  simp only [hb]
  have e := sh_l l (by omega)
  have := sm_gr1_lp (d := d) (L := L) (by omega) (p2_le hl) hb hl hn hw H (2 ^ l) 0 _ none none f g (by omega) rfl hX (fx_refl _ _ _)
  rw [← e] at this
  exact this
set_option maxRecDepth 100000 in
set_option maxHeartbeats 4000000 in
theorem sm_ft2_lp {d L n : Nat} {f0 : Nat → Nat → Int32} {q : Nat} {R : Option Value → mH → Prop} (hd : 5 ≤ d) (hm : n ≤ 40) (h0 : f0 181 0 = nI n) (hI : MI f0) (hq : q < 8) (HO : ∀ (x' : Int32) (s2 : Option Value) (f' : Nat → Nat → Int32) (g' : Nat → Nat → Int64), x' = nI (q + 1) → XI f' → fx 208 209 f0 f' → WPe pg_X11_fillTable none (Run mtab d) R (m_drop pg_X11_fillTable 2) [some (.ref 181), some (.int x'), s2] [] (shF L, f', g')) (H : ∀ f' g', XI f' → fx 208 209 f0 f' → R none (shF L, f', g'))  :
    ∀ (k i : Nat) (x : Int32) (f : Nat → Nat → Int32) (g : Nat → Nat → Int64), i + k = n → x = nI i → XI f → fx 208 209 f0 f → WPe pg_X11_fillTable none (Run mtab d) R (m_drop pg_X11_fillTable 8) [some (.ref 181), some (.int (nI q)), some (.int x)] [] (shF L, f, g)
  | 0, i, x, f, g, he, hx, hX, hF => by
    have e : i = n := by omega
    subst hx
    have hcb : f 181 0 = nI n := (hF 181 0 (by omega)).trans h0
    subst e
    refine at_X11_fillTable ?_
    conv => whnf
    try simp only [hcb, nI_40m, nI_add]
    refine ⟨fun c => ?_, fun c => absurd (nI_le (Nat.le_refl _) (by omega)) c⟩
    conv => whnf
    repeat' first
      | exact HO _ _ _ _ (nI_1 q) hX hF
      | (simp only [hcb, nI_40m, nI_add])
      | ((with_reducible refine ⟨vp_in_nI (by omega) (by decide), ?_⟩) <;> conv => whnf)
      | (refine ⟨Or.inl rfl, ?_⟩ <;> conv => whnf)
      | (refine ⟨Or.inr rfl, ?_⟩ <;> conv => whnf)
      | (refine ⟨Or.inl True.intro, ?_⟩ <;> conv => whnf)
      | (refine ⟨Or.inr True.intro, ?_⟩ <;> conv => whnf)
      | (refine ⟨fun c => ?_, fun c => ?_⟩ <;> first | ((have c9 : (1 : Int32) = 0 := by with_reducible exact c); exact absurd c9 (by decide)) | exact absurd (rfl : (0 : Int32) = 0) (by with_reducible exact c) | exact absurd True.intro (by with_reducible exact c) | exact False.elim (by with_reducible exact c) | (conv => whnf))
      | (refine ⟨by unfold vp_in; decide, ?_⟩ <;> conv => whnf)
      | fail
    all_goals fail
  | k + 1, i, x, f, g, he, hx, hX, hF => by
    subst hx
    have hcb : f 181 0 = nI n := (hF 181 0 (by omega)).trans h0
    refine at_X11_fillTable ?_
    conv => whnf
    try simp only [hcb, nI_40m, nI_add]
    refine ⟨fun c => absurd c (nI_ge (b := n) (by omega) (by omega)), fun c => ?_⟩
    conv => whnf
    repeat' first
      | exact sm_ft2_lp hd hm h0 hI hq HO H k (i + 1) _  _ _ (by omega) (nI_1 i) (by repeat' first | (with_reducible assumption) | (with_reducible refine XI_ui ?_ ?_) | (with_reducible refine XI_fil ?_ (fun _ => ?_)) | (with_reducible refine XI_cpy ?_ (fun _ _ => ?_)) | exact True.intro | ((show inr _ _ _); first | (with_reducible assumption) | (unfold inr; decide)) | fail) (by repeat' first | (with_reducible exact fx_refl _ _ _) | (with_reducible assumption) | (with_reducible refine fx_ui ?_ ?_ ?_) | (with_reducible refine fx_fil ?_ ?_ ?_) | (with_reducible refine fx_cpy ?_ ?_ ?_) | omega | decide | fail)
      | (simp only [hcb, nI_40m, nI_add])
      | ((with_reducible refine ⟨vp_in_nI (by omega) (by decide), ?_⟩) <;> conv => whnf)
      | (refine ⟨Or.inl rfl, ?_⟩ <;> conv => whnf)
      | (refine ⟨Or.inr rfl, ?_⟩ <;> conv => whnf)
      | (refine ⟨Or.inl True.intro, ?_⟩ <;> conv => whnf)
      | (refine ⟨Or.inr True.intro, ?_⟩ <;> conv => whnf)
      | (refine ⟨fun c => ?_, fun c => ?_⟩ <;> first | ((have c9 : (1 : Int32) = 0 := by with_reducible exact c); exact absurd c9 (by decide)) | exact absurd (rfl : (0 : Int32) = 0) (by with_reducible exact c) | exact absurd True.intro (by with_reducible exact c) | exact False.elim (by with_reducible exact c) | (conv => whnf))
      | ((obtain ⟨lm, hlm, elm⟩ := inr_nat (n := 49) rfl (xi_207 hX (nI q).toNatClampNeg)); (simp only [elm]); (obtain ⟨⟨t, ht1, ht4, ht⟩, _⟩ := MI_fx hI hF (by omega) n hm hcb i (by omega)); refine sm_scoreOf (by omega) hX (by omega) (by omega) ht ht1 ht4 (fun v => ?_) <;> conv => whnf)
      | (refine ⟨by unfold vp_in; decide, ?_⟩ <;> conv => whnf)
      | fail
    all_goals fail
set_option maxRecDepth 100000 in
set_option maxHeartbeats 4000000 in
theorem sm_ft1_lp {d L n : Nat} {f0 : Nat → Nat → Int32} {w : Nat} {R : Option Value → mH → Prop} (hd : 5 ≤ d) (hm : n ≤ 8) (h0 : f0 181 34 = nI n) (hI : MI f0) (hn : f0 181 0 = nI w) (hw : w ≤ 40) (H : ∀ f' g', XI f' → fx 208 209 f0 f' → R none (shF L, f', g'))  :
    ∀ (k i : Nat) (x : Int32) (s2 : Option Value) (f : Nat → Nat → Int32) (g : Nat → Nat → Int64), i + k = n → x = nI i → XI f → fx 208 209 f0 f → WPe pg_X11_fillTable none (Run mtab d) R (m_drop pg_X11_fillTable 2) [some (.ref 181), some (.int x), s2] [] (shF L, f, g)
  | 0, i, x, s2, f, g, he, hx, hX, hF => by
    have e : i = n := by omega
    subst hx
    have hcb : f 181 34 = nI n := (hF 181 34 (by omega)).trans h0
    subst e
    refine at_X11_fillTable ?_
    conv => whnf
    try simp only [hcb]
    refine ⟨fun c => ?_, fun c => absurd (nI_le (Nat.le_refl _) (by omega)) c⟩
    conv => whnf
    repeat' first
      | (simp only [hcb])
      | ((with_reducible refine ⟨vp_in_nI (by omega) (by decide), ?_⟩) <;> conv => whnf)
      | (refine ⟨Or.inl rfl, ?_⟩ <;> conv => whnf)
      | (refine ⟨Or.inr rfl, ?_⟩ <;> conv => whnf)
      | (refine ⟨Or.inl True.intro, ?_⟩ <;> conv => whnf)
      | (refine ⟨Or.inr True.intro, ?_⟩ <;> conv => whnf)
      | (refine ⟨fun c => ?_, fun c => ?_⟩ <;> first | ((have c9 : (1 : Int32) = 0 := by with_reducible exact c); exact absurd c9 (by decide)) | exact absurd (rfl : (0 : Int32) = 0) (by with_reducible exact c) | exact absurd True.intro (by with_reducible exact c) | exact False.elim (by with_reducible exact c) | (conv => whnf))
      | (refine ⟨by unfold vp_in; decide, ?_⟩ <;> conv => whnf)
      | fail
    all_goals exact H _ _ hX hF
  | k + 1, i, x, s2, f, g, he, hx, hX, hF => by
    subst hx
    have hcb : f 181 34 = nI n := (hF 181 34 (by omega)).trans h0
    refine at_X11_fillTable ?_
    conv => whnf
    try simp only [hcb]
    refine ⟨fun c => absurd c (nI_ge (b := n) (by omega) (by omega)), fun c => ?_⟩
    conv => whnf
    repeat' first
      | exact sm_ft1_lp hd hm h0 hI hn hw H k (i + 1) _ _ _ _ (by omega) (nI_1 i) (by repeat' first | (with_reducible assumption) | (with_reducible refine XI_ui ?_ ?_) | (with_reducible refine XI_fil ?_ (fun _ => ?_)) | (with_reducible refine XI_cpy ?_ (fun _ _ => ?_)) | exact True.intro | ((show inr _ _ _); first | (with_reducible assumption) | (unfold inr; decide)) | fail) (by repeat' first | (with_reducible exact fx_refl _ _ _) | (with_reducible assumption) | (with_reducible refine fx_ui ?_ ?_ ?_) | (with_reducible refine fx_fil ?_ ?_ ?_) | (with_reducible refine fx_cpy ?_ ?_ ?_) | omega | decide | fail)
      | exact sm_ft2_lp (q := i) hd hw hn hI (by omega) (fun x' s2 f' g' hx' hX' hF' => sm_ft1_lp hd hm h0 hI hn hw H k (i + 1) x' s2 f' g' (by omega) hx' hX' hF') H w 0 _ _ _ (by omega) rfl hX hF
      | (simp only [hcb])
      | ((with_reducible refine ⟨vp_in_nI (by omega) (by decide), ?_⟩) <;> conv => whnf)
      | (refine ⟨Or.inl rfl, ?_⟩ <;> conv => whnf)
      | (refine ⟨Or.inr rfl, ?_⟩ <;> conv => whnf)
      | (refine ⟨Or.inl True.intro, ?_⟩ <;> conv => whnf)
      | (refine ⟨Or.inr True.intro, ?_⟩ <;> conv => whnf)
      | (refine ⟨fun c => ?_, fun c => ?_⟩ <;> first | ((have c9 : (1 : Int32) = 0 := by with_reducible exact c); exact absurd c9 (by decide)) | exact absurd (rfl : (0 : Int32) = 0) (by with_reducible exact c) | exact absurd True.intro (by with_reducible exact c) | exact False.elim (by with_reducible exact c) | (conv => whnf))
      | (refine ⟨by unfold vp_in; decide, ?_⟩ <;> conv => whnf)
      | fail
    all_goals exact H _ _ hX hF
set_option maxRecDepth 100000 in
set_option maxHeartbeats 4000000 in
theorem sm_fillTable {d L : Nat} {f : Nat → Nat → Int32} {g : Nat → Nat → Int64}  {R : Option Value → mH → Prop} (hd : 6 ≤ d) (hX : XI f) (hI : MI f) (H : ∀ f' g', XI f' → fx 208 209 f f' → R none (shF L, f', g')) : Run mtab d 202 [.ref 181] (shF L, f, g) R := by
  obtain ⟨d, rfl⟩ : ∃ e, d = e + 1 := ⟨d - 1, by omega⟩
  refine go_X11_fillTable rfl ?_
  conv => whnf
  obtain ⟨l, hl, hb⟩ := inr_nat (n := 8) rfl (xi_181_34 hX)
  obtain ⟨w, hw, hn⟩ := inr_nat (n := 40) rfl (xi_181_0 hX)
  exact sm_ft1_lp (by omega) hl hb hI hn hw H l 0 _ _ _ _ (by omega) rfl hX (fx_refl _ _ _)
theorem inr_m4 {x : Int32} (h : inr (-4) 39 x) (h0 : ¬ x < 0) : ∃ j, j < 40 ∧ x = nI j := by
  obtain ⟨j, hj, e⟩ := nI_of2 (n := 39) rfl h0 h.2
  exact ⟨j, by omega, e⟩
set_option maxRecDepth 100000 in
set_option maxHeartbeats 4000000 in
theorem sm_to2_lp {d L n : Nat} {f0 : Nat → Nat → Int32} {y w : Int32} {R : Option Value → mH → Prop} (hd : 1 ≤ d) (hm : n ≤ 8) (h0 : f0 181 34 = nI n) (hw : inr (-4) 39 w) (H : ∀ f' g', XI f' → fx 208 209 f0 f' → R none (shF L, f', g'))  :
    ∀ (k i : Nat) (x : Int32) (f : Nat → Nat → Int32) (g : Nat → Nat → Int64), i + k = n → x = nI i → XI f → fx 208 209 f0 f → WPe pg_X11_takeOut none (Run mtab d) R (m_drop pg_X11_takeOut 19) [some (.ref 181), some (.int y), some (.int w), some (.int x)] [] (shF L, f, g)
  | 0, i, x, f, g, he, hx, hX, hF => by
    have e : i = n := by omega
    subst hx
    have hcb : f 181 34 = nI n := (hF 181 34 (by omega)).trans h0
    subst e
    refine at_X11_takeOut ?_
    conv => whnf
    try simp only [hcb, nI_40m, nI_add]
    refine ⟨fun c => ?_, fun c => absurd (nI_le (Nat.le_refl _) (by omega)) c⟩
    conv => whnf
    repeat' first
      | ((have hx9 := inr_m4 hw (by with_reducible assumption)); (obtain ⟨j, hj, e⟩ := hx9); (refine ⟨(by simp only [e, nI_40m, nI_add]; exact vp_in_nI (by omega) (by decide)), ?_⟩) <;> conv => whnf)
      | (simp only [hcb, nI_40m, nI_add])
      | ((with_reducible refine ⟨vp_in_nI (by omega) (by decide), ?_⟩) <;> conv => whnf)
      | (refine ⟨Or.inl rfl, ?_⟩ <;> conv => whnf)
      | (refine ⟨Or.inr rfl, ?_⟩ <;> conv => whnf)
      | (refine ⟨Or.inl True.intro, ?_⟩ <;> conv => whnf)
      | (refine ⟨Or.inr True.intro, ?_⟩ <;> conv => whnf)
      | (refine ⟨fun c => ?_, fun c => ?_⟩ <;> first | ((have c9 : (1 : Int32) = 0 := by with_reducible exact c); exact absurd c9 (by decide)) | exact absurd (rfl : (0 : Int32) = 0) (by with_reducible exact c) | exact absurd True.intro (by with_reducible exact c) | exact False.elim (by with_reducible exact c) | (conv => whnf))
      | (refine ⟨by unfold vp_in; decide, ?_⟩ <;> conv => whnf)
      | fail
    all_goals exact H _ _ hX hF
  | k + 1, i, x, f, g, he, hx, hX, hF => by
    subst hx
    have hcb : f 181 34 = nI n := (hF 181 34 (by omega)).trans h0
    refine at_X11_takeOut ?_
    conv => whnf
    try simp only [hcb, nI_40m, nI_add]
    refine ⟨fun c => absurd c (nI_ge (b := n) (by omega) (by omega)), fun c => ?_⟩
    conv => whnf
    repeat' first
      | exact sm_to2_lp hd hm h0 hw H k (i + 1) _  _ _ (by omega) (nI_1 i) (by repeat' first | (with_reducible assumption) | (with_reducible refine XI_ui ?_ ?_) | (with_reducible refine XI_fil ?_ (fun _ => ?_)) | (with_reducible refine XI_cpy ?_ (fun _ _ => ?_)) | exact True.intro | ((show inr _ _ _); first | (with_reducible assumption) | (unfold inr; decide)) | fail) (by repeat' first | (with_reducible exact fx_refl _ _ _) | (with_reducible assumption) | (with_reducible refine fx_ui ?_ ?_ ?_) | (with_reducible refine fx_fil ?_ ?_ ?_) | (with_reducible refine fx_cpy ?_ ?_ ?_) | omega | decide | fail)
      | ((have hx9 := inr_m4 hw (by with_reducible assumption)); (obtain ⟨j, hj, e⟩ := hx9); (refine ⟨(by simp only [e, nI_40m, nI_add]; exact vp_in_nI (by omega) (by decide)), ?_⟩) <;> conv => whnf)
      | (simp only [hcb, nI_40m, nI_add])
      | ((with_reducible refine ⟨vp_in_nI (by omega) (by decide), ?_⟩) <;> conv => whnf)
      | (refine ⟨Or.inl rfl, ?_⟩ <;> conv => whnf)
      | (refine ⟨Or.inr rfl, ?_⟩ <;> conv => whnf)
      | (refine ⟨Or.inl True.intro, ?_⟩ <;> conv => whnf)
      | (refine ⟨Or.inr True.intro, ?_⟩ <;> conv => whnf)
      | (refine ⟨fun c => ?_, fun c => ?_⟩ <;> first | ((have c9 : (1 : Int32) = 0 := by with_reducible exact c); exact absurd c9 (by decide)) | exact absurd (rfl : (0 : Int32) = 0) (by with_reducible exact c) | exact absurd True.intro (by with_reducible exact c) | exact False.elim (by with_reducible exact c) | (conv => whnf))
      | (refine ⟨by unfold vp_in; decide, ?_⟩ <;> conv => whnf)
      | fail
    all_goals exact H _ _ hX hF
set_option maxRecDepth 100000 in
set_option maxHeartbeats 4000000 in
theorem sm_to1_lp {d L n : Nat} {f0 : Nat → Nat → Int32} {p l : Nat} {w : Int32} {R : Option Value → mH → Prop} (hd : 1 ≤ d) (hm : n ≤ 40) (h0 : f0 181 0 = nI n) (hp : p < 8) (hw : inr (-4) 39 w) (hl : f0 181 34 = nI l) (hl8 : l ≤ 8) (H : ∀ f' g', XI f' → fx 208 209 f0 f' → R none (shF L, f', g'))  :
    ∀ (k i : Nat) (x : Int32) (f : Nat → Nat → Int32) (g : Nat → Nat → Int64), i + k = n → x = nI i → XI f → fx 208 209 f0 f → WPe pg_X11_takeOut none (Run mtab d) R (m_drop pg_X11_takeOut 2) [some (.ref 181), some (.int (nI p)), some (.int w), some (.int x)] [] (shF L, f, g)
  | 0, i, x, f, g, he, hx, hX, hF => by
    have e : i = n := by omega
    subst hx
    have hcb : f 181 0 = nI n := (hF 181 0 (by omega)).trans h0
    subst e
    refine at_X11_takeOut ?_
    conv => whnf
    try simp only [hcb, nI_40m, nI_add]
    refine ⟨fun c => ?_, fun c => absurd (nI_le (Nat.le_refl _) (by omega)) c⟩
    conv => whnf
    repeat' first
      | exact sm_to2_lp (by omega) hl8 hl hw H l 0 _ _ _ (by omega) rfl hX hF
      | (simp only [hcb, nI_40m, nI_add])
      | ((with_reducible refine ⟨vp_in_nI (by omega) (by decide), ?_⟩) <;> conv => whnf)
      | (refine ⟨Or.inl rfl, ?_⟩ <;> conv => whnf)
      | (refine ⟨Or.inr rfl, ?_⟩ <;> conv => whnf)
      | (refine ⟨Or.inl True.intro, ?_⟩ <;> conv => whnf)
      | (refine ⟨Or.inr True.intro, ?_⟩ <;> conv => whnf)
      | (refine ⟨fun c => ?_, fun c => ?_⟩ <;> first | ((have c9 : (1 : Int32) = 0 := by with_reducible exact c); exact absurd c9 (by decide)) | exact absurd (rfl : (0 : Int32) = 0) (by with_reducible exact c) | exact absurd True.intro (by with_reducible exact c) | exact False.elim (by with_reducible exact c) | (conv => whnf))
      | (refine ⟨by unfold vp_in; decide, ?_⟩ <;> conv => whnf)
      | fail
    all_goals fail
  | k + 1, i, x, f, g, he, hx, hX, hF => by
    subst hx
    have hcb : f 181 0 = nI n := (hF 181 0 (by omega)).trans h0
    refine at_X11_takeOut ?_
    conv => whnf
    try simp only [hcb, nI_40m, nI_add]
    refine ⟨fun c => absurd c (nI_ge (b := n) (by omega) (by omega)), fun c => ?_⟩
    conv => whnf
    repeat' first
      | exact sm_to1_lp hd hm h0 hp hw hl hl8 H k (i + 1) _  _ _ (by omega) (nI_1 i) (by repeat' first | (with_reducible assumption) | (with_reducible refine XI_ui ?_ ?_) | (with_reducible refine XI_fil ?_ (fun _ => ?_)) | (with_reducible refine XI_cpy ?_ (fun _ _ => ?_)) | exact True.intro | ((show inr _ _ _); first | (with_reducible assumption) | (unfold inr; decide)) | fail) (by repeat' first | (with_reducible exact fx_refl _ _ _) | (with_reducible assumption) | (with_reducible refine fx_ui ?_ ?_ ?_) | (with_reducible refine fx_fil ?_ ?_ ?_) | (with_reducible refine fx_cpy ?_ ?_ ?_) | omega | decide | fail)
      | (simp only [hcb, nI_40m, nI_add])
      | ((with_reducible refine ⟨vp_in_nI (by omega) (by decide), ?_⟩) <;> conv => whnf)
      | (refine ⟨Or.inl rfl, ?_⟩ <;> conv => whnf)
      | (refine ⟨Or.inr rfl, ?_⟩ <;> conv => whnf)
      | (refine ⟨Or.inl True.intro, ?_⟩ <;> conv => whnf)
      | (refine ⟨Or.inr True.intro, ?_⟩ <;> conv => whnf)
      | (refine ⟨fun c => ?_, fun c => ?_⟩ <;> first | ((have c9 : (1 : Int32) = 0 := by with_reducible exact c); exact absurd c9 (by decide)) | exact absurd (rfl : (0 : Int32) = 0) (by with_reducible exact c) | exact absurd True.intro (by with_reducible exact c) | exact False.elim (by with_reducible exact c) | (conv => whnf))
      | (refine ⟨by unfold vp_in; decide, ?_⟩ <;> conv => whnf)
      | fail
    all_goals fail
set_option maxRecDepth 100000 in
set_option maxHeartbeats 4000000 in
theorem sm_takeOut {d L : Nat} {f : Nat → Nat → Int32} {g : Nat → Nat → Int64} {p : Nat} {w : Int32} {R : Option Value → mH → Prop} (hd : 2 ≤ d) (hX : XI f) (hp : p < 8) (hw : inr (-4) 39 w) (H : ∀ f' g', XI f' → fx 208 209 f f' → R none (shF L, f', g')) : Run mtab d 203 [.ref 181, .int (nI p), .int w] (shF L, f, g) R := by
  obtain ⟨d, rfl⟩ : ∃ e, d = e + 1 := ⟨d - 1, by omega⟩
  refine go_X11_takeOut rfl ?_
  conv => whnf
  obtain ⟨l, hl, hb⟩ := inr_nat (n := 8) rfl (xi_181_34 hX)
  obtain ⟨n, hn, hnb⟩ := inr_nat (n := 40) rfl (xi_181_0 hX)
  exact sm_to1_lp (by omega) hn hnb hp hw hb hl H n 0 _ _ _ (by omega) rfl hX (fx_refl _ _ _)
set_option maxRecDepth 100000 in
set_option maxHeartbeats 4000000 in
theorem sm_cj2_lp {d L : Nat} {f0 : Nat → Nat → Int32} {p q : Nat} {w y b : Int32} {R : Option Value → mH → Prop} (hd : 1 ≤ d) (hb : b = 0 ∨ b = 1) (H : ∀ v f' g', (v = 0 ∨ v = 1) → XI f' → fx 208 212 f0 f' → R (some (.int v)) (shF L, f', g'))  :
    ∀ (k i : Nat) (x : Int32) (f : Nat → Nat → Int32) (g : Nat → Nat → Int64), i + k = 320 → x = nI i → XI f → fx 208 212 f0 f → WPe pg_X11_canJoin none (Run mtab d) R (m_drop pg_X11_canJoin 40) [some (.ref 181), some (.int (nI p)), some (.int (nI q)), some (.int w), some (.int y), some (.int b), some (.int x)] [] (shF L, f, g)
  | 0, i, x, f, g, he, hx, hX, hF => by
    have e : i = 320 := by omega
    subst hx
    subst e
    refine at_X11_canJoin ?_
    conv => whnf
    refine ⟨fun c => ?_, fun c => absurd (by decide) c⟩
    conv => whnf
    repeat' first
      | ((with_reducible refine ⟨vp_in_nI (by omega) (by decide), ?_⟩) <;> conv => whnf)
      | (refine ⟨Or.inl rfl, ?_⟩ <;> conv => whnf)
      | (refine ⟨Or.inr rfl, ?_⟩ <;> conv => whnf)
      | (refine ⟨Or.inl True.intro, ?_⟩ <;> conv => whnf)
      | (refine ⟨Or.inr True.intro, ?_⟩ <;> conv => whnf)
      | (refine ⟨fun c => ?_, fun c => ?_⟩ <;> first | ((have c9 : (1 : Int32) = 0 := by with_reducible exact c); exact absurd c9 (by decide)) | exact absurd (rfl : (0 : Int32) = 0) (by with_reducible exact c) | exact absurd True.intro (by with_reducible exact c) | exact False.elim (by with_reducible exact c) | (conv => whnf))
      | (refine ⟨by unfold vp_in; decide, ?_⟩ <;> conv => whnf)
      | fail
    all_goals exact ⟨hb, H _ _ _ hb hX hF⟩
  | k + 1, i, x, f, g, he, hx, hX, hF => by
    subst hx
    refine at_X11_canJoin ?_
    conv => whnf
    refine ⟨fun c => absurd c (nI_ge (b := 320) (by omega) (by omega)), fun c => ?_⟩
    conv => whnf
    repeat' first
      | exact sm_cj2_lp hd hb H k (i + 1) _  _ _ (by omega) (nI_1 i) (by repeat' first | (with_reducible assumption) | (with_reducible refine XI_ui ?_ ?_) | (with_reducible refine XI_fil ?_ (fun _ => ?_)) | (with_reducible refine XI_cpy ?_ (fun _ _ => ?_)) | exact True.intro | ((show inr _ _ _); first | (with_reducible assumption) | (unfold inr; decide)) | fail) (by repeat' first | (with_reducible exact fx_refl _ _ _) | (with_reducible assumption) | (with_reducible refine fx_ui ?_ ?_ ?_) | (with_reducible refine fx_fil ?_ ?_ ?_) | (with_reducible refine fx_cpy ?_ ?_ ?_) | omega | decide | fail)
      | ((with_reducible refine ⟨vp_in_nI (by omega) (by decide), ?_⟩) <;> conv => whnf)
      | (refine ⟨Or.inl rfl, ?_⟩ <;> conv => whnf)
      | (refine ⟨Or.inr rfl, ?_⟩ <;> conv => whnf)
      | (refine ⟨Or.inl True.intro, ?_⟩ <;> conv => whnf)
      | (refine ⟨Or.inr True.intro, ?_⟩ <;> conv => whnf)
      | (refine ⟨fun c => ?_, fun c => ?_⟩ <;> first | ((have c9 : (1 : Int32) = 0 := by with_reducible exact c); exact absurd c9 (by decide)) | exact absurd (rfl : (0 : Int32) = 0) (by with_reducible exact c) | exact absurd True.intro (by with_reducible exact c) | exact False.elim (by with_reducible exact c) | (conv => whnf))
      | (refine ⟨by unfold vp_in; decide, ?_⟩ <;> conv => whnf)
      | fail
    all_goals exact ⟨hb, H _ _ _ hb hX hF⟩
theorem inr_j {j : Nat} (h : j < 40) : inr (-4) 39 (nI j) := by
  have a := inr_n (n := j) (m := 39) (hi := 39) (by omega) rfl (by decide)
  refine ⟨?_, a.2⟩
  have b := Int32.le_iff_toInt_le.mp a.1
  rw [Int32.le_iff_toInt_le]
  have e0 : (0 : Int32).toInt = 0 := rfl
  have e4 : (-4 : Int32).toInt = -4 := rfl
  omega
set_option maxRecDepth 100000 in
set_option maxHeartbeats 4000000 in
theorem sm_cj1_lp {d L : Nat} {f0 : Nat → Nat → Int32} {p q : Nat} {w : Int32} {R : Option Value → mH → Prop} (hd : 4 ≤ d) (hp : p < 8) (hq : q < 40) (H : ∀ v f' g', (v = 0 ∨ v = 1) → XI f' → fx 208 212 f0 f' → R (some (.int v)) (shF L, f', g'))  :
    ∀ (k i : Nat) (x : Int32) (s5 : Option Value) (s6 : Option Value) (f : Nat → Nat → Int32) (g : Nat → Nat → Int64), i + k = 320 → x = nI i → XI f → fx 208 212 f0 f → WPe pg_X11_canJoin none (Run mtab d) R (m_drop pg_X11_canJoin 2) [some (.ref 181), some (.int (nI p)), some (.int (nI q)), some (.int w), some (.int x), s5, s6] [] (shF L, f, g)
  | 0, i, x, s5, s6, f, g, he, hx, hX, hF => by
    have e : i = 320 := by omega
    subst hx
    subst e
    refine at_X11_canJoin ?_
    conv => whnf
    refine ⟨fun c => ?_, fun c => absurd (by decide) c⟩
    conv => whnf
    repeat' first
      | exact sm_cj2_lp (by omega) (Or.inl rfl) H 320 0 _ _ _ (by omega) rfl h2 k2'
      | exact sm_cj2_lp (by omega) (Or.inr rfl) H 320 0 _ _ _ (by omega) rfl h2 k2'
      | ((with_reducible refine ⟨vp_in_nI (by omega) (by decide), ?_⟩) <;> conv => whnf)
      | (refine ⟨Or.inl rfl, ?_⟩ <;> conv => whnf)
      | (refine ⟨Or.inr rfl, ?_⟩ <;> conv => whnf)
      | (refine ⟨Or.inl True.intro, ?_⟩ <;> conv => whnf)
      | (refine ⟨Or.inr True.intro, ?_⟩ <;> conv => whnf)
      | (refine ⟨fun c => ?_, fun c => ?_⟩ <;> first | ((have c9 : (1 : Int32) = 0 := by with_reducible exact c); exact absurd c9 (by decide)) | exact absurd (rfl : (0 : Int32) = 0) (by with_reducible exact c) | exact absurd True.intro (by with_reducible exact c) | exact False.elim (by with_reducible exact c) | (conv => whnf))
      | ((simp only [nI_40m, nI_add]))
      | (refine sm_takeOut (by omega) hX hp (inr_j hq) (fun f1 g1 h1 k1 => ?_) <;> (have k1' : fx 208 212 f0 f1 := fx_trans hF (fx_wide k1 (by omega) (by omega))) <;> conv => whnf)
      | (refine sm_greatest (by omega) h1 (fun v f2 g2 h2 k2 => ?_) <;> (have k2' : fx 208 212 f0 f2 := fx_trans k1' (fx_wide k2 (by omega) (by omega))) <;> conv => whnf)
      | (refine ⟨by unfold vp_in; decide, ?_⟩ <;> conv => whnf)
      | fail
    all_goals fail
  | k + 1, i, x, s5, s6, f, g, he, hx, hX, hF => by
    subst hx
    refine at_X11_canJoin ?_
    conv => whnf
    refine ⟨fun c => absurd c (nI_ge (b := 320) (by omega) (by omega)), fun c => ?_⟩
    conv => whnf
    repeat' first
      | exact sm_cj1_lp hd hp hq H k (i + 1) _ _ _ _ _ (by omega) (nI_1 i) (by repeat' first | (with_reducible assumption) | (with_reducible refine XI_ui ?_ ?_) | (with_reducible refine XI_fil ?_ (fun _ => ?_)) | (with_reducible refine XI_cpy ?_ (fun _ _ => ?_)) | exact True.intro | ((show inr _ _ _); first | (with_reducible assumption) | (unfold inr; decide)) | fail) (by repeat' first | (with_reducible exact fx_refl _ _ _) | (with_reducible assumption) | (with_reducible refine fx_ui ?_ ?_ ?_) | (with_reducible refine fx_fil ?_ ?_ ?_) | (with_reducible refine fx_cpy ?_ ?_ ?_) | omega | decide | fail)
      | ((with_reducible refine ⟨vp_in_nI (by omega) (by decide), ?_⟩) <;> conv => whnf)
      | (refine ⟨Or.inl rfl, ?_⟩ <;> conv => whnf)
      | (refine ⟨Or.inr rfl, ?_⟩ <;> conv => whnf)
      | (refine ⟨Or.inl True.intro, ?_⟩ <;> conv => whnf)
      | (refine ⟨Or.inr True.intro, ?_⟩ <;> conv => whnf)
      | (refine ⟨fun c => ?_, fun c => ?_⟩ <;> first | ((have c9 : (1 : Int32) = 0 := by with_reducible exact c); exact absurd c9 (by decide)) | exact absurd (rfl : (0 : Int32) = 0) (by with_reducible exact c) | exact absurd True.intro (by with_reducible exact c) | exact False.elim (by with_reducible exact c) | (conv => whnf))
      | (refine ⟨by unfold vp_in; decide, ?_⟩ <;> conv => whnf)
      | fail
    all_goals fail
set_option maxRecDepth 100000 in
set_option maxHeartbeats 4000000 in
theorem sm_canJoin {d L : Nat} {f : Nat → Nat → Int32} {g : Nat → Nat → Int64} {p q : Nat} {w : Int32} {R : Option Value → mH → Prop} (hd : 5 ≤ d) (hX : XI f) (hp : p < 8) (hq : q < 40) (H : ∀ v f' g', (v = 0 ∨ v = 1) → XI f' → fx 208 212 f f' → R (some (.int v)) (shF L, f', g')) : Run mtab d 205 [.ref 181, .int (nI p), .int (nI q), .int w] (shF L, f, g) R := by
  obtain ⟨d, rfl⟩ : ∃ e, d = e + 1 := ⟨d - 1, by omega⟩
  refine go_X11_canJoin rfl ?_
  conv => whnf
  exact sm_cj1_lp (by omega) hp hq H 320 0 _ _ _ _ _ (by omega) rfl hX (fx_refl _ _ _)
set_option maxRecDepth 100000 in
set_option maxHeartbeats 4000000 in
theorem sm_je3_lp {d L n : Nat} {f0 : Nat → Nat → Int32} {e : Nat} {y z : Int32} {R : Option Value → mH → Prop} (hd : 6 ≤ d) (hm : n ≤ 8) (h0 : f0 181 34 = nI n) (hI0 : MI f0) (H : ∀ f' g', XI f' → fx 204 212 f0 f' → R none (shF L, f', g'))  :
    ∀ (k i : Nat) (x : Int32) (s5 : Option Value) (s6 : Option Value) (f : Nat → Nat → Int32) (g : Nat → Nat → Int64), i + k = n → x = nI i → XI f → fx 204 212 f0 f → WPe pg_X11_joinEvent none (Run mtab d) R (m_drop pg_X11_joinEvent 117) [some (.ref 181), some (.int (nI e)), some (.int y), some (.int z), some (.int x), s5, s6] [] (shF L, f, g)
  | 0, i, x, s5, s6, f, g, he, hx, hX, hF => by
    have e : i = n := by omega
    subst hx
    have hcb : f 181 34 = nI n := (hF 181 34 (by omega)).trans h0
    have hI : MI f := MI_fx hI0 hF (by omega)
    subst e
    refine at_X11_joinEvent ?_
    conv => whnf
    try simp only [hcb]
    refine ⟨fun c => ?_, fun c => absurd (nI_le (Nat.le_refl _) (by omega)) c⟩
    conv => whnf
    repeat' first
      | ((with_reducible refine ⟨vx_207 hX _, ?_⟩) <;> conv => whnf)
      | (refine ⟨(show vp_in (f1 207 (nI i).toNatClampNeg) 50 from vx_207 h1 _), ?_⟩ <;> conv => whnf)
      | ((with_reducible refine ⟨vx_207 h1 _, ?_⟩) <;> conv => whnf)
      | ((with_reducible refine ⟨vx_207 h2 _, ?_⟩) <;> conv => whnf)
      | ((have hx9 := inr_m4 (xi_204 hX (f 207 (nI i).toNatClampNeg).toNatClampNeg) (by with_reducible assumption)); (obtain ⟨j, hj, ej⟩ := hx9); (refine ⟨(by simp only [ej, nI_40m, nI_add]; exact vp_in_nI (by omega) (by decide)), ?_⟩) <;> conv => whnf)
      | (simp only [hcb])
      | ((with_reducible refine ⟨vp_in_nI (by omega) (by decide), ?_⟩) <;> conv => whnf)
      | (refine ⟨Or.inl rfl, ?_⟩ <;> conv => whnf)
      | (refine ⟨Or.inr rfl, ?_⟩ <;> conv => whnf)
      | (refine ⟨Or.inl True.intro, ?_⟩ <;> conv => whnf)
      | (refine ⟨Or.inr True.intro, ?_⟩ <;> conv => whnf)
      | (refine ⟨fun c => ?_, fun c => ?_⟩ <;> first | ((have c9 : (1 : Int32) = 0 := by with_reducible exact c); exact absurd c9 (by decide)) | exact absurd (rfl : (0 : Int32) = 0) (by with_reducible exact c) | exact absurd True.intro (by with_reducible exact c) | exact False.elim (by with_reducible exact c) | (conv => whnf))
      | (refine ⟨by unfold vp_in; decide, ?_⟩ <;> conv => whnf)
      | fail
    all_goals exact H _ _ hX hF
  | k + 1, i, x, s5, s6, f, g, he, hx, hX, hF => by
    subst hx
    have hcb : f 181 34 = nI n := (hF 181 34 (by omega)).trans h0
    have hI : MI f := MI_fx hI0 hF (by omega)
    refine at_X11_joinEvent ?_
    conv => whnf
    try simp only [hcb]
    refine ⟨fun c => absurd c (nI_ge (b := n) (by omega) (by omega)), fun c => ?_⟩
    conv => whnf
    repeat' first
      | exact sm_je3_lp hd hm h0 hI0 H k (i + 1) _ _ _ _ _ (by omega) (nI_1 i) (by repeat' first | (with_reducible assumption) | (with_reducible refine XI_ui ?_ ?_) | (with_reducible refine XI_fil ?_ (fun _ => ?_)) | (with_reducible refine XI_cpy ?_ (fun _ _ => ?_)) | exact True.intro | ((show inr _ _ _); first | (with_reducible assumption) | (unfold inr; decide)) | fail) (by repeat' first | (with_reducible exact fx_refl _ _ _) | (with_reducible assumption) | (with_reducible refine fx_ui ?_ ?_ ?_) | (with_reducible refine fx_fil ?_ ?_ ?_) | (with_reducible refine fx_cpy ?_ ?_ ?_) | omega | decide | fail)
      | ((with_reducible refine ⟨vx_207 hX _, ?_⟩) <;> conv => whnf)
      | (refine ⟨(show vp_in (f1 207 (nI i).toNatClampNeg) 50 from vx_207 h1 _), ?_⟩ <;> conv => whnf)
      | ((with_reducible refine ⟨vx_207 h1 _, ?_⟩) <;> conv => whnf)
      | ((with_reducible refine ⟨vx_207 h2 _, ?_⟩) <;> conv => whnf)
      | ((have hx9 := inr_m4 (xi_204 hX (f 207 (nI i).toNatClampNeg).toNatClampNeg) (by with_reducible assumption)); (obtain ⟨j, hj, ej⟩ := hx9); (refine ⟨(by simp only [ej, nI_40m, nI_add]; exact vp_in_nI (by omega) (by decide)), ?_⟩) <;> conv => whnf)
      | (simp only [hcb])
      | ((with_reducible refine ⟨vp_in_nI (by omega) (by decide), ?_⟩) <;> conv => whnf)
      | (refine ⟨Or.inl rfl, ?_⟩ <;> conv => whnf)
      | (refine ⟨Or.inr rfl, ?_⟩ <;> conv => whnf)
      | (refine ⟨Or.inl True.intro, ?_⟩ <;> conv => whnf)
      | (refine ⟨Or.inr True.intro, ?_⟩ <;> conv => whnf)
      | (refine ⟨fun c => ?_, fun c => ?_⟩ <;> first | ((have c9 : (1 : Int32) = 0 := by with_reducible exact c); exact absurd c9 (by decide)) | exact absurd (rfl : (0 : Int32) = 0) (by with_reducible exact c) | exact absurd True.intro (by with_reducible exact c) | exact False.elim (by with_reducible exact c) | (conv => whnf))
      | (refine sm_fillTable (by omega) hX hI (fun f1 g1 h1 k1 => ?_) <;> (have k1' : fx 204 212 f0 f1 := fx_trans hF (fx_wide k1 (by omega) (by omega))) <;> conv => whnf)
      | (refine sm_greatest (by omega) (XI_ui h1 True.intro) (fun v f2 g2 h2 k2 => ?_) <;> (have k2' : fx 204 212 f0 f2 := fx_trans (fx_ui (by decide) (by decide) k1') (fx_wide k2 (by omega) (by omega))) <;> conv => whnf)
      | (refine ⟨by unfold vp_in; decide, ?_⟩ <;> conv => whnf)
      | fail
    all_goals exact H _ _ hX hF
set_option maxRecDepth 100000 in
set_option maxHeartbeats 4000000 in
theorem sm_je2I_lp {d L n : Nat} {f0 : Nat → Nat → Int32} {e p : Nat} {y z : Int32} {R : Option Value → mH → Prop} (hd : 5 ≤ d) (hm : n ≤ 40) (h0 : f0 181 0 = nI n) (hp : p < 8) (HO : ∀ (x' z' : Int32) (s5 s6 : Option Value) (f' : Nat → Nat → Int32) (g' : Nat → Nat → Int64), x' = nI (p + 1) → XI f' → fx 204 212 f0 f' → WPe pg_X11_joinEvent none (Run mtab d) R (m_drop pg_X11_joinEvent 51) [some (.ref 181), some (.int (nI e)), some (.int y), some (.int z'), some (.int x'), s5, s6] [] (shF L, f', g')) (H : ∀ f' g', XI f' → fx 204 212 f0 f' → R none (shF L, f', g'))  :
    ∀ (k i : Nat) (x : Int32) (fd : Int32) (f : Nat → Nat → Int32) (g : Nat → Nat → Int64), i + k = n → x = nI i → XI f → fx 204 212 f0 f → inr (-4) 39 fd → WPe pg_X11_joinEvent none (Run mtab d) R (m_drop pg_X11_joinEvent 59) [some (.ref 181), some (.int (nI e)), some (.int y), some (.int z), some (.int (nI p)), some (.int fd), some (.int x)] [] (shF L, f, g)
  | 0, i, x, fd, f, g, he, hx, hX, hF, hfd => by
    have e : i = n := by omega
    subst hx
    have hcb : f 181 0 = nI n := (hF 181 0 (by omega)).trans h0
    subst e
    refine at_X11_joinEvent ?_
    conv => whnf
    try simp only [hcb, nI_40m, nI_add]
    refine ⟨fun c => ?_, fun c => absurd (nI_le (Nat.le_refl _) (by omega)) c⟩
    conv => whnf
    repeat' first
      | exact HO _ _ _ _ _ _ (nI_1 p) (XI_ui h1 (show inr (-4) 39 _ from hfd)) (fx_ui (by decide) (by decide) k1')
      | (refine ⟨(show vp_in (f1 207 (nI p).toNatClampNeg) 50 from vx_207 h1 _), ?_⟩ <;> conv => whnf)
      | ((have hx9 := inr_m4 hfd (by with_reducible assumption)); (obtain ⟨j, hj, ej⟩ := hx9); (refine ⟨(by simp only [ej, nI_40m, nI_add]; exact vp_in_nI (by omega) (by decide)), ?_⟩) <;> conv => whnf)
      | ((have hx9 := inr_m4 hfd (i32_nlt.mpr (by with_reducible assumption))); (obtain ⟨j, hj, ej⟩ := hx9); (refine ⟨(by simp only [ej, nI_40m, nI_add]; exact vp_in_nI (by omega) (by decide)), ?_⟩) <;> conv => whnf)
      | (simp only [hcb, nI_40m, nI_add])
      | ((with_reducible refine ⟨vp_in_nI (by omega) (by decide), ?_⟩) <;> conv => whnf)
      | (refine ⟨Or.inl rfl, ?_⟩ <;> conv => whnf)
      | (refine ⟨Or.inr rfl, ?_⟩ <;> conv => whnf)
      | (refine ⟨Or.inl True.intro, ?_⟩ <;> conv => whnf)
      | (refine ⟨Or.inr True.intro, ?_⟩ <;> conv => whnf)
      | (refine ⟨fun c => ?_, fun c => ?_⟩ <;> first | ((have c9 : (1 : Int32) = 0 := by with_reducible exact c); exact absurd c9 (by decide)) | exact absurd (rfl : (0 : Int32) = 0) (by with_reducible exact c) | exact absurd True.intro (by with_reducible exact c) | exact False.elim (by with_reducible exact c) | (conv => whnf))
      | (refine sm_takeOut (by omega) hX hp hfd (fun f1 g1 h1 k1 => ?_) <;> (have k1' : fx 204 212 f0 f1 := fx_trans hF (fx_wide k1 (by omega) (by omega))) <;> conv => whnf)
      | (refine ⟨by unfold vp_in; decide, ?_⟩ <;> conv => whnf)
      | fail
    all_goals fail
  | k + 1, i, x, fd, f, g, he, hx, hX, hF, hfd => by
    subst hx
    have hcb : f 181 0 = nI n := (hF 181 0 (by omega)).trans h0
    refine at_X11_joinEvent ?_
    conv => whnf
    try simp only [hcb, nI_40m, nI_add]
    refine ⟨fun c => absurd c (nI_ge (b := n) (by omega) (by omega)), fun c => ?_⟩
    conv => whnf
    repeat' first
      | exact sm_je2I_lp hd hm h0 hp HO H k (i + 1) _ _ _ _ (by omega) (nI_1 i) (by repeat' first | (with_reducible assumption) | (with_reducible refine XI_ui ?_ ?_) | (with_reducible refine XI_fil ?_ (fun _ => ?_)) | (with_reducible refine XI_cpy ?_ (fun _ _ => ?_)) | exact True.intro | ((show inr _ _ _); first | (with_reducible assumption) | (unfold inr; decide)) | fail) (by repeat' first | (with_reducible exact fx_refl _ _ _) | (with_reducible assumption) | (with_reducible refine fx_ui ?_ ?_ ?_) | (with_reducible refine fx_fil ?_ ?_ ?_) | (with_reducible refine fx_cpy ?_ ?_ ?_) | omega | decide | fail) (by first | (with_reducible assumption) | exact inr_j (by omega))
      | exact HO _ _ _ _ _ _ (nI_1 p) (XI_ui h1 (show inr (-4) 39 _ from hfd)) (fx_ui (by decide) (by decide) k1')
      | (refine ⟨(show vp_in (f1 207 (nI p).toNatClampNeg) 50 from vx_207 h1 _), ?_⟩ <;> conv => whnf)
      | ((have hx9 := inr_m4 hfd (by with_reducible assumption)); (obtain ⟨j, hj, ej⟩ := hx9); (refine ⟨(by simp only [ej, nI_40m, nI_add]; exact vp_in_nI (by omega) (by decide)), ?_⟩) <;> conv => whnf)
      | ((have hx9 := inr_m4 hfd (i32_nlt.mpr (by with_reducible assumption))); (obtain ⟨j, hj, ej⟩ := hx9); (refine ⟨(by simp only [ej, nI_40m, nI_add]; exact vp_in_nI (by omega) (by decide)), ?_⟩) <;> conv => whnf)
      | (simp only [hcb, nI_40m, nI_add])
      | ((with_reducible refine ⟨vp_in_nI (by omega) (by decide), ?_⟩) <;> conv => whnf)
      | (refine ⟨Or.inl rfl, ?_⟩ <;> conv => whnf)
      | (refine ⟨Or.inr rfl, ?_⟩ <;> conv => whnf)
      | (refine ⟨Or.inl True.intro, ?_⟩ <;> conv => whnf)
      | (refine ⟨Or.inr True.intro, ?_⟩ <;> conv => whnf)
      | (refine ⟨fun c => ?_, fun c => ?_⟩ <;> first | ((have c9 : (1 : Int32) = 0 := by with_reducible exact c); exact absurd c9 (by decide)) | exact absurd (rfl : (0 : Int32) = 0) (by with_reducible exact c) | exact absurd True.intro (by with_reducible exact c) | exact False.elim (by with_reducible exact c) | (conv => whnf))
      | (refine sm_takeOut (by omega) hX hp hfd (fun f1 g1 h1 k1 => ?_) <;> (have k1' : fx 204 212 f0 f1 := fx_trans hF (fx_wide k1 (by omega) (by omega))) <;> conv => whnf)
      | (refine sm_canJoin (by omega) hX hp (by omega) (fun v f1 g1 hv h1 k1 => ?_) <;> (have k1' : fx 204 212 f0 f1 := fx_trans hF (fx_wide k1 (by omega) (by omega))) <;> conv => whnf)
      | (refine ⟨by unfold vp_in; decide, ?_⟩ <;> conv => whnf)
      | fail
    all_goals fail
set_option maxRecDepth 100000 in
set_option maxHeartbeats 4000000 in
theorem sm_je2_lp {d L n : Nat} {f0 : Nat → Nat → Int32} {e w : Nat} {y : Int32} {R : Option Value → mH → Prop} (hd : 6 ≤ d) (hm : n ≤ 8) (h0 : f0 181 34 = nI n) (hI0 : MI f0) (hn : f0 181 0 = nI w) (hw : w ≤ 40) (H : ∀ f' g', XI f' → fx 204 212 f0 f' → R none (shF L, f', g'))  :
    ∀ (k i : Nat) (x : Int32) (z : Int32) (s5 : Option Value) (s6 : Option Value) (f : Nat → Nat → Int32) (g : Nat → Nat → Int64), i + k = n → x = nI i → XI f → fx 204 212 f0 f → WPe pg_X11_joinEvent none (Run mtab d) R (m_drop pg_X11_joinEvent 51) [some (.ref 181), some (.int (nI e)), some (.int y), some (.int z), some (.int x), s5, s6] [] (shF L, f, g)
  | 0, i, x, z, s5, s6, f, g, he, hx, hX, hF => by
    have e : i = n := by omega
    subst hx
    have hcb : f 181 34 = nI n := (hF 181 34 (by omega)).trans h0
    subst e
    refine at_X11_joinEvent ?_
    conv => whnf
    try simp only [hcb]
    refine ⟨fun c => ?_, fun c => absurd (nI_le (Nat.le_refl _) (by omega)) c⟩
    conv => whnf
    repeat' first
      | exact sm_je3_lp (by omega) hm h0 hI0 H i 0 _ _ _ _ _ (by omega) rfl hX hF
      | (simp only [hcb])
      | ((with_reducible refine ⟨vp_in_nI (by omega) (by decide), ?_⟩) <;> conv => whnf)
      | (refine ⟨Or.inl rfl, ?_⟩ <;> conv => whnf)
      | (refine ⟨Or.inr rfl, ?_⟩ <;> conv => whnf)
      | (refine ⟨Or.inl True.intro, ?_⟩ <;> conv => whnf)
      | (refine ⟨Or.inr True.intro, ?_⟩ <;> conv => whnf)
      | (refine ⟨fun c => ?_, fun c => ?_⟩ <;> first | ((have c9 : (1 : Int32) = 0 := by with_reducible exact c); exact absurd c9 (by decide)) | exact absurd (rfl : (0 : Int32) = 0) (by with_reducible exact c) | exact absurd True.intro (by with_reducible exact c) | exact False.elim (by with_reducible exact c) | (conv => whnf))
      | (refine ⟨by unfold vp_in; decide, ?_⟩ <;> conv => whnf)
      | fail
    all_goals fail
  | k + 1, i, x, z, s5, s6, f, g, he, hx, hX, hF => by
    subst hx
    have hcb : f 181 34 = nI n := (hF 181 34 (by omega)).trans h0
    refine at_X11_joinEvent ?_
    conv => whnf
    try simp only [hcb]
    refine ⟨fun c => absurd c (nI_ge (b := n) (by omega) (by omega)), fun c => ?_⟩
    conv => whnf
    repeat' first
      | exact sm_je2_lp hd hm h0 hI0 hn hw H k (i + 1) _ _ _ _ _ _ (by omega) (nI_1 i) (by repeat' first | (with_reducible assumption) | (with_reducible refine XI_ui ?_ ?_) | (with_reducible refine XI_fil ?_ (fun _ => ?_)) | (with_reducible refine XI_cpy ?_ (fun _ _ => ?_)) | exact True.intro | ((show inr _ _ _); first | (with_reducible assumption) | (unfold inr; decide)) | fail) (by repeat' first | (with_reducible exact fx_refl _ _ _) | (with_reducible assumption) | (with_reducible refine fx_ui ?_ ?_ ?_) | (with_reducible refine fx_fil ?_ ?_ ?_) | (with_reducible refine fx_cpy ?_ ?_ ?_) | omega | decide | fail)
      | exact sm_je2I_lp (e := e) (p := i) (by omega) hw hn (by omega) (fun x' z' s5 s6 f' g' hx' hX' hF' => sm_je2_lp hd hm h0 hI0 hn hw H k (i + 1) x' z' s5 s6 f' g' (by omega) hx' hX' hF') H w 0 _ _ _ _ (by omega) rfl hX hF (show inr (-4) 39 (-4) by unfold inr; decide)
      | (simp only [hcb])
      | ((with_reducible refine ⟨vp_in_nI (by omega) (by decide), ?_⟩) <;> conv => whnf)
      | (refine ⟨Or.inl rfl, ?_⟩ <;> conv => whnf)
      | (refine ⟨Or.inr rfl, ?_⟩ <;> conv => whnf)
      | (refine ⟨Or.inl True.intro, ?_⟩ <;> conv => whnf)
      | (refine ⟨Or.inr True.intro, ?_⟩ <;> conv => whnf)
      | (refine ⟨fun c => ?_, fun c => ?_⟩ <;> first | ((have c9 : (1 : Int32) = 0 := by with_reducible exact c); exact absurd c9 (by decide)) | exact absurd (rfl : (0 : Int32) = 0) (by with_reducible exact c) | exact absurd True.intro (by with_reducible exact c) | exact False.elim (by with_reducible exact c) | (conv => whnf))
      | (refine ⟨by unfold vp_in; decide, ?_⟩ <;> conv => whnf)
      | fail
    all_goals fail
set_option maxRecDepth 100000 in
set_option maxHeartbeats 4000000 in
theorem je1_lp {d L e n : Nat} {f0 : Nat → Nat → Int32} {R : Option Value → mH → Prop} (hd : 7 ≤ d) (he : e < 16) (hI0 : MI f0) (hm : n ≤ 50) (h0 : f0 181 27 = nI n) (H : ∀ f' g', XI f' → kp [10, 23] f0 f' → R none (shF L, f', g')) :
    ∀ (k i : Nat) (x : Int32) (s3 s4 s5 s6 : Option Value) (f : Nat → Nat → Int32) (g : Nat → Nat → Int64), i + k = n → x = nI i → XI f → kp [10, 23] f0 f → WPe pg_X11_joinEvent none (Run mtab d) R (m_drop pg_X11_joinEvent 5) [some (.ref 181), some (.int (nI e)), some (.int x), s3, s4, s5, s6] [] (shF L, f, g)
  | 0, i, x, s3, s4, s5, s6, f, g, hi, hx, hX, hF => by
    have e9 : i = n := by omega
    subst hx
    subst e9
    have hcb : f 181 27 = nI i := (hF 181 27 rfl).trans h0
    refine at_X11_joinEvent ?_
    conv => whnf
    simp only [hcb]
    refine ⟨fun c => ?_, fun c => absurd (nI_le (Nat.le_refl _) (by omega)) c⟩
    conv => whnf
    have hI : MI f := MI_kp hI0 hF rfl
    refine sm_fillTable (by omega) hX hI (fun f1 g1 h1 k1 => ?_)
    conv => whnf
    refine sm_greatest (by omega) h1 (fun v f2 g2 h2 k2 => ?_)
    conv => whnf
    refine ⟨vp_in_nI (by omega) (by decide), ?_⟩
    conv => whnf
    have h3 : XI (m_ui f2 206 (nI e).toNatClampNeg v) := XI_ui h2 True.intro
    have k3 : kp [10, 23] f0 (m_ui f2 206 (nI e).toNatClampNeg v) := kp_ui rfl (kp_trans hF (kp_trans (kp_fx k1 rfl) (kp_fx k2 rfl)))
    obtain ⟨l, hl, hlb⟩ := inr_nat (n := 8) rfl (xi_181_34 h3)
    obtain ⟨w, hw, hwb⟩ := inr_nat (n := 40) rfl (xi_181_0 h3)
    exact sm_je2_lp (by omega) hl hlb (MI_kp hI0 k3 rfl) hwb hw (fun f' g' a b => H f' g' a (kp_trans k3 (kp_fx b rfl))) l 0 _ _ _ _ _ _ (by omega) rfl h3 (fx_refl _ _ _)
  | k + 1, i, x, s3, s4, s5, s6, f, g, hi, hx, hX, hF => by
    subst hx
    have hcb : f 181 27 = nI n := (hF 181 27 rfl).trans h0
    obtain ⟨q, hq8, hqb⟩ := inr_nat (n := 8) rfl (xi_181_34 hX)
    refine at_X11_joinEvent ?_
    conv => whnf
    simp only [hcb]
    refine ⟨fun c => absurd c (nI_ge (by omega) (by omega)), fun c => ?_⟩
    conv => whnf
    simp only [hqb]
    refine ⟨fun c => ?_, fun c8 => ?_⟩
    · conv => whnf
      have hI : MI f := MI_kp hI0 hF rfl
      refine sm_fillTable (by omega) hX hI (fun f1 g1 h1 k1 => ?_)
      conv => whnf
      refine sm_greatest (by omega) h1 (fun v f2 g2 h2 k2 => ?_)
      conv => whnf
      refine ⟨vp_in_nI (by omega) (by decide), ?_⟩
      conv => whnf
      have h3 : XI (m_ui f2 206 (nI e).toNatClampNeg v) := XI_ui h2 True.intro
      have k3 : kp [10, 23] f0 (m_ui f2 206 (nI e).toNatClampNeg v) := kp_ui rfl (kp_trans hF (kp_trans (kp_fx k1 rfl) (kp_fx k2 rfl)))
      obtain ⟨l, hl, hlb⟩ := inr_nat (n := 8) rfl (xi_181_34 h3)
      obtain ⟨w, hw, hwb⟩ := inr_nat (n := 40) rfl (xi_181_0 h3)
      exact sm_je2_lp (by omega) hl hlb (MI_kp hI0 k3 rfl) hwb hw (fun f' g' a b => H f' g' a (kp_trans k3 (kp_fx b rfl))) l 0 _ _ _ _ _ _ (by omega) rfl h3 (fx_refl _ _ _)
    · have hq : q < 8 := by
        have c9 : ¬ nI 8 ≤ nI q := c8
        rw [nI_leI (by omega) (by omega)] at c9
        omega
      conv => whnf
      simp only [nI_9m, nI_1]
      refine ⟨vp_in_nI (by omega) (by decide), ?_⟩
      conv => whnf
      refine ⟨fun c => ?_, fun c => ?_⟩
      · conv => whnf
        exact je1_lp hd he hI0 hm h0 H k (i + 1) _ _ _ _ _ _ _ (by omega) (nI_1 i) hX hF
      · conv => whnf
        simp only [hqb]
        refine ⟨vp_in_nI (by omega) (by decide), ?_⟩
        conv => whnf
        simp only [m_ui_ap, m_fil_ap, m_cpy_ap, Nat.reduceEqDiff, Nat.reduceLT, Nat.reduceLeDiff, eq_self, ↓reduceIte, false_and, and_false, true_and, and_true, and_self, hqb]
        exact je1_lp hd he hI0 hm h0 H k (i + 1) _ _ _ _ _ _ _ (by omega) (nI_1 i) (XI_ui (XI_ui hX (show inr 0 49 (nI i) from inr_n (m := 49) (by omega) rfl (by decide))) (show inr 0 8 (nI q + 1) from inr_n1 (m := 8) (by omega) rfl (by decide))) (kp_ui rfl (kp_ui rfl hF))
set_option maxRecDepth 100000 in
set_option maxHeartbeats 4000000 in
theorem sm_joinEvent {d L : Nat} {f : Nat → Nat → Int32} {g : Nat → Nat → Int64} {e : Nat} {R : Option Value → mH → Prop} (hd : 8 ≤ d) (hX : XI f) (hI : MI f) (he : e < 16) (H : ∀ f' g', XI f' → kp [10, 23] f f' → R none (shF L, f', g')) : Run mtab d 204 [.ref 181, .int (nI e)] (shF L, f, g) R := by
  obtain ⟨d, rfl⟩ : ∃ e, d = e + 1 := ⟨d - 1, by omega⟩
  refine go_X11_joinEvent rfl ?_
  conv => whnf
  obtain ⟨n, hm, hb⟩ := inr_nat (n := 50) rfl (xi_181_27 hX)
  exact je1_lp (by omega) he hI hm hb H n 0 _ _ _ _ _ _ _ (by omega) rfl (XI_ui hX (show inr 0 8 _ by unfold inr; decide)) (kp_ui rfl (kp_refl _ _))
set_option maxRecDepth 100000 in
set_option maxHeartbeats 4000000 in
theorem sm_ja2_lp {d L : Nat} {f0 : Nat → Nat → Int32}  {R : Option Value → mH → Prop} (hd : 8 ≤ d) (hI0 : MI f0) (H : ∀ f' g', XI f' → kp [10, 23] f0 f' → R none (shF L, f', g'))  :
    ∀ (k i : Nat) (x : Int32) (f : Nat → Nat → Int32) (g : Nat → Nat → Int64), i + k = 16 → x = nI i → XI f → kp [10, 23] f0 f → WPe pg_X11_joinAll none (Run mtab d) R (m_drop pg_X11_joinAll 28) [some (.ref 181), some (.int x)] [] (shF L, f, g)
  | 0, i, x, f, g, he, hx, hX, hF => by
    have e : i = 16 := by omega
    subst hx
    subst e
    refine at_X11_joinAll ?_
    conv => whnf
    refine ⟨fun c => ?_, fun c => absurd (by decide) c⟩
    conv => whnf
    repeat' first
      | ((with_reducible refine ⟨vp_in_nI (by omega) (by decide), ?_⟩) <;> conv => whnf)
      | (refine ⟨Or.inl rfl, ?_⟩ <;> conv => whnf)
      | (refine ⟨Or.inr rfl, ?_⟩ <;> conv => whnf)
      | (refine ⟨Or.inl True.intro, ?_⟩ <;> conv => whnf)
      | (refine ⟨Or.inr True.intro, ?_⟩ <;> conv => whnf)
      | (refine ⟨fun c => ?_, fun c => ?_⟩ <;> first | ((have c9 : (1 : Int32) = 0 := by with_reducible exact c); exact absurd c9 (by decide)) | exact absurd (rfl : (0 : Int32) = 0) (by with_reducible exact c) | exact absurd True.intro (by with_reducible exact c) | exact False.elim (by with_reducible exact c) | (conv => whnf))
      | (refine ⟨by unfold vp_in; decide, ?_⟩ <;> conv => whnf)
      | fail
    all_goals exact H _ _ hX hF
  | k + 1, i, x, f, g, he, hx, hX, hF => by
    subst hx
    refine at_X11_joinAll ?_
    conv => whnf
    refine ⟨fun c => absurd c (nI_ge (b := 16) (by omega) (by omega)), fun c => ?_⟩
    conv => whnf
    repeat' first
      | exact sm_ja2_lp hd hI0 H k (i + 1) _  _ _ (by omega) (nI_1 i) (by repeat' first | (with_reducible assumption) | (with_reducible refine XI_ui ?_ ?_) | (with_reducible refine XI_fil ?_ (fun _ => ?_)) | (with_reducible refine XI_cpy ?_ (fun _ _ => ?_)) | exact True.intro | ((show inr _ _ _); first | (with_reducible assumption) | (unfold inr; decide)) | fail) (by repeat' first | (with_reducible exact kp_refl _ _) | (with_reducible assumption) | (with_reducible refine kp_ui ?_ ?_) | (with_reducible refine kp_fil ?_ ?_) | (with_reducible refine kp_cpy ?_ ?_) | rfl | fail)
      | ((with_reducible refine ⟨vp_in_nI (by omega) (by decide), ?_⟩) <;> conv => whnf)
      | (refine ⟨Or.inl rfl, ?_⟩ <;> conv => whnf)
      | (refine ⟨Or.inr rfl, ?_⟩ <;> conv => whnf)
      | (refine ⟨Or.inl True.intro, ?_⟩ <;> conv => whnf)
      | (refine ⟨Or.inr True.intro, ?_⟩ <;> conv => whnf)
      | (refine ⟨fun c => ?_, fun c => ?_⟩ <;> first | ((have c9 : (1 : Int32) = 0 := by with_reducible exact c); exact absurd c9 (by decide)) | exact absurd (rfl : (0 : Int32) = 0) (by with_reducible exact c) | exact absurd True.intro (by with_reducible exact c) | exact False.elim (by with_reducible exact c) | (conv => whnf))
      | ((have hI : MI f := MI_kp hI0 hF rfl); refine sm_joinEvent (by omega) hX hI (by omega) (fun f1 g1 h1 k1 => ?_) <;> (have k1' := kp_trans hF k1) <;> conv => whnf)
      | (refine ⟨by unfold vp_in; decide, ?_⟩ <;> conv => whnf)
      | fail
    all_goals exact H _ _ hX hF
set_option maxRecDepth 100000 in
set_option maxHeartbeats 4000000 in
theorem sm_ja1_lp {d L : Nat} {f0 : Nat → Nat → Int32}  {R : Option Value → mH → Prop} (hd : 8 ≤ d) (hI0 : MI f0) (H : ∀ f' g', XI f' → kp [10, 23] f0 f' → R none (shF L, f', g'))  :
    ∀ (k i : Nat) (x : Int32) (f : Nat → Nat → Int32) (g : Nat → Nat → Int64), i + k = 50 → x = nI i → XI f → kp [10, 23] f0 f → WPe pg_X11_joinAll none (Run mtab d) R (m_drop pg_X11_joinAll 11) [some (.ref 181), some (.int x)] [] (shF L, f, g)
  | 0, i, x, f, g, he, hx, hX, hF => by
    have e : i = 50 := by omega
    subst hx
    subst e
    refine at_X11_joinAll ?_
    conv => whnf
    refine ⟨fun c => ?_, fun c => absurd (by decide) c⟩
    conv => whnf
    repeat' first
      | exact sm_ja2_lp (by omega) hI0 H 16 0 _ _ _ (by omega) rfl hX hF
      | ((with_reducible refine ⟨vp_in_nI (by omega) (by decide), ?_⟩) <;> conv => whnf)
      | (refine ⟨Or.inl rfl, ?_⟩ <;> conv => whnf)
      | (refine ⟨Or.inr rfl, ?_⟩ <;> conv => whnf)
      | (refine ⟨Or.inl True.intro, ?_⟩ <;> conv => whnf)
      | (refine ⟨Or.inr True.intro, ?_⟩ <;> conv => whnf)
      | (refine ⟨fun c => ?_, fun c => ?_⟩ <;> first | ((have c9 : (1 : Int32) = 0 := by with_reducible exact c); exact absurd c9 (by decide)) | exact absurd (rfl : (0 : Int32) = 0) (by with_reducible exact c) | exact absurd True.intro (by with_reducible exact c) | exact False.elim (by with_reducible exact c) | (conv => whnf))
      | (refine ⟨by unfold vp_in; decide, ?_⟩ <;> conv => whnf)
      | fail
    all_goals fail
  | k + 1, i, x, f, g, he, hx, hX, hF => by
    subst hx
    refine at_X11_joinAll ?_
    conv => whnf
    refine ⟨fun c => absurd c (nI_ge (b := 50) (by omega) (by omega)), fun c => ?_⟩
    conv => whnf
    repeat' first
      | exact sm_ja1_lp hd hI0 H k (i + 1) _  _ _ (by omega) (nI_1 i) (by repeat' first | (with_reducible assumption) | (with_reducible refine XI_ui ?_ ?_) | (with_reducible refine XI_fil ?_ (fun _ => ?_)) | (with_reducible refine XI_cpy ?_ (fun _ _ => ?_)) | exact True.intro | ((show inr _ _ _); first | (with_reducible assumption) | (unfold inr; decide)) | fail) (by repeat' first | (with_reducible exact kp_refl _ _) | (with_reducible assumption) | (with_reducible refine kp_ui ?_ ?_) | (with_reducible refine kp_fil ?_ ?_) | (with_reducible refine kp_cpy ?_ ?_) | rfl | fail)
      | ((with_reducible refine ⟨vp_in_nI (by omega) (by decide), ?_⟩) <;> conv => whnf)
      | (refine ⟨Or.inl rfl, ?_⟩ <;> conv => whnf)
      | (refine ⟨Or.inr rfl, ?_⟩ <;> conv => whnf)
      | (refine ⟨Or.inl True.intro, ?_⟩ <;> conv => whnf)
      | (refine ⟨Or.inr True.intro, ?_⟩ <;> conv => whnf)
      | (refine ⟨fun c => ?_, fun c => ?_⟩ <;> first | ((have c9 : (1 : Int32) = 0 := by with_reducible exact c); exact absurd c9 (by decide)) | exact absurd (rfl : (0 : Int32) = 0) (by with_reducible exact c) | exact absurd True.intro (by with_reducible exact c) | exact False.elim (by with_reducible exact c) | (conv => whnf))
      | (refine ⟨by unfold vp_in; decide, ?_⟩ <;> conv => whnf)
      | fail
    all_goals fail
set_option maxRecDepth 100000 in
set_option maxHeartbeats 4000000 in
theorem sm_joinAll {d L : Nat} {f : Nat → Nat → Int32} {g : Nat → Nat → Int64}  {R : Option Value → mH → Prop} (hd : 9 ≤ d) (hX : XI f) (hI : MI f) (H : ∀ f' g', XI f' → kp [10, 22, 23] f f' → R none (shF L, f', g')) : Run mtab d 207 [.ref 181] (shF L, f, g) R := by
  obtain ⟨d, rfl⟩ : ∃ e, d = e + 1 := ⟨d - 1, by omega⟩
  refine go_X11_joinAll rfl ?_
  conv => whnf
  refine sm_refresh (by omega) hX (fun f1 g1 h1 k1 => ?_)
  conv => whnf
  refine ⟨fun c => ?_, fun c => ?_⟩
  · conv => whnf
    refine ⟨Or.inr rfl, ?_⟩
    conv => whnf
    exact sm_ja1_lp (f0 := f1) (by omega) (MI_kp hI k1 rfl) (fun f2 g2 h2 k2 => H f2 g2 h2 (kp_trans k1 (kp_wd k2 rfl))) 50 0 _ _ _ (by omega) rfl (XI_ui h1 True.intro) (kp_ui rfl (kp_refl _ _))
  · conv => whnf
    exact H _ _ h1 k1
set_option maxRecDepth 100000 in
set_option maxHeartbeats 4000000 in
theorem sm_isMention {d L : Nat} {f : Nat → Nat → Int32} {g : Nat → Nat → Int64} {n : Nat} {w : Int32} {R : Option Value → mH → Prop} (hd : 2 ≤ d) (hb : f 181 27 = nI n) (hm : n ≤ 50) (H1 : ∀ j, j < n → w = nI j → R (some (.int 1)) (shF L, f, g)) (H0 : (∀ j, j < n → ¬ w = nI j) → R (some (.int 0)) (shF L, f, g)) : Run mtab d 196 [.ref 181, .int w] (shF L, f, g) R := by
  obtain ⟨d, rfl⟩ : ∃ e, d = e + 1 := ⟨d - 1, by omega⟩
  refine go_X11_isMention rfl ?_
  conv => whnf
  repeat' first
    | (simp only [hb])
    | ((with_reducible refine ⟨vp_in_nI (by omega) (by decide), ?_⟩) <;> conv => whnf)
    | (refine ⟨Or.inl rfl, ?_⟩ <;> conv => whnf)
    | (refine ⟨Or.inr rfl, ?_⟩ <;> conv => whnf)
    | (refine ⟨Or.inl True.intro, ?_⟩ <;> conv => whnf)
    | (refine ⟨Or.inr True.intro, ?_⟩ <;> conv => whnf)
    | (refine ⟨fun c => ?_, fun c => ?_⟩ <;> first | ((have c9 : (1 : Int32) = 0 := by with_reducible exact c); exact absurd c9 (by decide)) | exact absurd (rfl : (0 : Int32) = 0) (by with_reducible exact c) | exact absurd True.intro (by with_reducible exact c) | exact False.elim (by with_reducible exact c) | (conv => whnf))
    | ((with_reducible refine ct_i_0_v (by omega) (fun p => ?_) (fun p => ?_)) <;> conv => whnf)
    | (refine ⟨by unfold vp_in; decide, ?_⟩ <;> conv => whnf)
    | fail
  all_goals first | (obtain ⟨j, hj, e⟩ := inr_cnt (by omega) p; exact H1 j hj e) | exact H0 (fun j hj e => p (by rw [e]; exact inr_cntI (by omega) hj))
set_option maxRecDepth 100000 in
set_option maxHeartbeats 4000000 in
theorem sm_score {d L : Nat} {f : Nat → Nat → Int32} {g : Nat → Nat → Int64} {x1 x2 : Int32} {R : Option Value → mH → Prop} (hd : 10 ≤ d) (hX : XI f) (hI : MI f) (H : ∀ v f' g', XI f' → kp [10, 22, 23] f f' → R (some (.int v)) (shF L, f', g')) : Run mtab d 197 [.ref 181, .int x1, .int x2] (shF L, f, g) R := by
  obtain ⟨d, rfl⟩ : ∃ e, d = e + 1 := ⟨d - 1, by omega⟩
  refine go_X11_score rfl ?_
  conv => whnf
  obtain ⟨mn, hmm, hmb⟩ := inr_nat (n := 50) rfl (xi_181_27 hX)
  obtain ⟨n, hm, hb⟩ := inr_nat (n := 40) rfl (xi_181_0 hX)
  repeat' first
    | ((with_reducible refine ⟨vp_in_nI (by omega) (by decide), ?_⟩) <;> conv => whnf)
    | (refine ⟨Or.inl rfl, ?_⟩ <;> conv => whnf)
    | (refine ⟨Or.inr rfl, ?_⟩ <;> conv => whnf)
    | (refine ⟨Or.inl True.intro, ?_⟩ <;> conv => whnf)
    | (refine ⟨Or.inr True.intro, ?_⟩ <;> conv => whnf)
    | (refine ⟨fun c => ?_, fun c => ?_⟩ <;> first | ((have c9 : (1 : Int32) = 0 := by with_reducible exact c); exact absurd c9 (by decide)) | exact absurd (rfl : (0 : Int32) = 0) (by with_reducible exact c) | exact absurd True.intro (by with_reducible exact c) | exact False.elim (by with_reducible exact c) | (conv => whnf))
    | (refine sm_isMention (by omega) hmb hmm (fun mj hmj e => ?_) (fun q => ?_) <;> (try subst e) <;> conv => whnf)
    | (refine ct_mIsWork (by omega) hb hm (fun j hj e => ?_) (fun q => ?_) <;> (try subst e) <;> conv => whnf)
    | (refine sm_refresh (by omega) hX (fun f1 g1 h1 k1 => ?_) <;> conv => whnf)
    | ((obtain ⟨⟨t, ht1, ht4, ht⟩, _⟩ := MI_kp hI k1 rfl n hm ((k1 181 0 rfl).trans hb) j hj); refine sm_scoreOf (by omega) h1 (by omega) (by omega) ht ht1 ht4 (fun v => ?_) <;> conv => whnf)
    | (refine ⟨by unfold vp_in; decide, ?_⟩ <;> conv => whnf)
    | fail
  all_goals exact H _ _ _ (by repeat' first | (with_reducible assumption) | (with_reducible refine XI_ui ?_ ?_) | (with_reducible refine XI_fil ?_ (fun _ => ?_)) | (with_reducible refine XI_cpy ?_ (fun _ _ => ?_)) | exact True.intro | ((show inr _ _ _); first | (with_reducible assumption) | (unfold inr; decide)) | fail) (by repeat' first | (with_reducible exact kp_refl _ _) | (with_reducible assumption) | (with_reducible refine kp_ui ?_ ?_) | (with_reducible refine kp_fil ?_ ?_) | (with_reducible refine kp_cpy ?_ ?_) | (refine kp_trans ?_ (kp_wd k1 rfl)) | (refine kp_trans ?_ (kp_fx k1 rfl)) | rfl | fail)
set_option maxRecDepth 100000 in
set_option maxHeartbeats 4000000 in
theorem sm_rivals {d L : Nat} {f : Nat → Nat → Int32} {g : Nat → Nat → Int64} {x1 : Int32} {R : Option Value → mH → Prop} (hd : 10 ≤ d) (hX : XI f) (hI : MI f) (H : ∀ v f' g', XI f' → kp [10, 22, 23] f f' → R (some (.int v)) (shF L, f', g')) : Run mtab d 199 [.ref 181, .int x1] (shF L, f, g) R := by
  obtain ⟨d, rfl⟩ : ∃ e, d = e + 1 := ⟨d - 1, by omega⟩
  refine go_X11_rivals rfl ?_
  conv => whnf
  obtain ⟨mn, hmm, hmb⟩ := inr_nat (n := 50) rfl (xi_181_27 hX)
  repeat' first
    | ((with_reducible refine ⟨vp_in_nI (by omega) (by decide), ?_⟩) <;> conv => whnf)
    | (refine ⟨Or.inl rfl, ?_⟩ <;> conv => whnf)
    | (refine ⟨Or.inr rfl, ?_⟩ <;> conv => whnf)
    | (refine ⟨Or.inl True.intro, ?_⟩ <;> conv => whnf)
    | (refine ⟨Or.inr True.intro, ?_⟩ <;> conv => whnf)
    | (refine ⟨fun c => ?_, fun c => ?_⟩ <;> first | ((have c9 : (1 : Int32) = 0 := by with_reducible exact c); exact absurd c9 (by decide)) | exact absurd (rfl : (0 : Int32) = 0) (by with_reducible exact c) | exact absurd True.intro (by with_reducible exact c) | exact False.elim (by with_reducible exact c) | (conv => whnf))
    | (refine sm_isMention (by omega) hmb hmm (fun mj hmj e => ?_) (fun q => ?_) <;> (try subst e) <;> conv => whnf)
    | (refine sm_refresh (by omega) hX (fun f1 g1 h1 k1 => ?_) <;> conv => whnf)
    | (refine sm_rivalsOf (by omega) h1 (MI_kp hI k1 rfl) (by omega) (fun v => ?_) <;> conv => whnf)
    | (refine ⟨by unfold vp_in; decide, ?_⟩ <;> conv => whnf)
    | fail
  all_goals exact H _ _ _ (by repeat' first | (with_reducible assumption) | (with_reducible refine XI_ui ?_ ?_) | (with_reducible refine XI_fil ?_ (fun _ => ?_)) | (with_reducible refine XI_cpy ?_ (fun _ _ => ?_)) | exact True.intro | ((show inr _ _ _); first | (with_reducible assumption) | (unfold inr; decide)) | fail) (by repeat' first | (with_reducible exact kp_refl _ _) | (with_reducible assumption) | (with_reducible refine kp_ui ?_ ?_) | (with_reducible refine kp_fil ?_ ?_) | (with_reducible refine kp_cpy ?_ ?_) | (refine kp_trans ?_ (kp_wd k1 rfl)) | (refine kp_trans ?_ (kp_fx k1 rfl)) | rfl | fail)
set_option maxRecDepth 100000 in
set_option maxHeartbeats 4000000 in
theorem sm_joined {d L : Nat} {f : Nat → Nat → Int32} {g : Nat → Nat → Int64} {x1 : Int32} {R : Option Value → mH → Prop} (hd : 10 ≤ d) (hX : XI f) (hI : MI f) (H : ∀ v f' g', XI f' → kp [10, 22, 23] f f' → R (some (.int v)) (shF L, f', g')) : Run mtab d 208 [.ref 181, .int x1] (shF L, f, g) R := by
  obtain ⟨d, rfl⟩ : ∃ e, d = e + 1 := ⟨d - 1, by omega⟩
  refine go_X11_joined rfl ?_
  conv => whnf
  obtain ⟨mn, hmm, hmb⟩ := inr_nat (n := 50) rfl (xi_181_27 hX)
  repeat' first
    | ((with_reducible refine ⟨vp_in_nI (by omega) (by decide), ?_⟩) <;> conv => whnf)
    | (refine ⟨Or.inl rfl, ?_⟩ <;> conv => whnf)
    | (refine ⟨Or.inr rfl, ?_⟩ <;> conv => whnf)
    | (refine ⟨Or.inl True.intro, ?_⟩ <;> conv => whnf)
    | (refine ⟨Or.inr True.intro, ?_⟩ <;> conv => whnf)
    | (refine ⟨fun c => ?_, fun c => ?_⟩ <;> first | ((have c9 : (1 : Int32) = 0 := by with_reducible exact c); exact absurd c9 (by decide)) | exact absurd (rfl : (0 : Int32) = 0) (by with_reducible exact c) | exact absurd True.intro (by with_reducible exact c) | exact False.elim (by with_reducible exact c) | (conv => whnf))
    | (refine sm_isMention (by omega) hmb hmm (fun mj hmj e => ?_) (fun q => ?_) <;> (try subst e) <;> conv => whnf)
    | (refine sm_joinAll (by omega) hX hI (fun f1 g1 h1 k1 => ?_) <;> conv => whnf)
    | (refine ⟨by unfold vp_in; decide, ?_⟩ <;> conv => whnf)
    | fail
  all_goals exact H _ _ _ (by repeat' first | (with_reducible assumption) | (with_reducible refine XI_ui ?_ ?_) | (with_reducible refine XI_fil ?_ (fun _ => ?_)) | (with_reducible refine XI_cpy ?_ (fun _ _ => ?_)) | exact True.intro | ((show inr _ _ _); first | (with_reducible assumption) | (unfold inr; decide)) | fail) (by repeat' first | (with_reducible exact kp_refl _ _) | (with_reducible assumption) | (with_reducible refine kp_ui ?_ ?_) | (with_reducible refine kp_fil ?_ ?_) | (with_reducible refine kp_cpy ?_ ?_) | (refine kp_trans ?_ (kp_wd k1 rfl)) | (refine kp_trans ?_ (kp_fx k1 rfl)) | rfl | fail)
set_option maxRecDepth 100000 in
set_option maxHeartbeats 4000000 in
theorem sm_sure {d L : Nat} {f : Nat → Nat → Int32} {g : Nat → Nat → Int64} {x1 : Int32} {R : Option Value → mH → Prop} (hd : 10 ≤ d) (hX : XI f) (hI : MI f) (H : ∀ v f' g', XI f' → kp [10, 22, 23] f f' → R (some (.int v)) (shF L, f', g')) : Run mtab d 209 [.ref 181, .int x1] (shF L, f, g) R := by
  obtain ⟨d, rfl⟩ : ∃ e, d = e + 1 := ⟨d - 1, by omega⟩
  refine go_X11_sure rfl ?_
  conv => whnf
  obtain ⟨mn, hmm, hmb⟩ := inr_nat (n := 50) rfl (xi_181_27 hX)
  repeat' first
    | ((with_reducible refine ⟨vp_in_nI (by omega) (by decide), ?_⟩) <;> conv => whnf)
    | (refine ⟨Or.inl rfl, ?_⟩ <;> conv => whnf)
    | (refine ⟨Or.inr rfl, ?_⟩ <;> conv => whnf)
    | (refine ⟨Or.inl True.intro, ?_⟩ <;> conv => whnf)
    | (refine ⟨Or.inr True.intro, ?_⟩ <;> conv => whnf)
    | (refine ⟨fun c => ?_, fun c => ?_⟩ <;> first | ((have c9 : (1 : Int32) = 0 := by with_reducible exact c); exact absurd c9 (by decide)) | exact absurd (rfl : (0 : Int32) = 0) (by with_reducible exact c) | exact absurd True.intro (by with_reducible exact c) | exact False.elim (by with_reducible exact c) | (conv => whnf))
    | (refine sm_isMention (by omega) hmb hmm (fun mj hmj e => ?_) (fun q => ?_) <;> (try subst e) <;> conv => whnf)
    | (refine sm_joinAll (by omega) hX hI (fun f1 g1 h1 k1 => ?_) <;> conv => whnf)
    | (refine ⟨by unfold vp_in; decide, ?_⟩ <;> conv => whnf)
    | fail
  all_goals exact H _ _ _ (by repeat' first | (with_reducible assumption) | (with_reducible refine XI_ui ?_ ?_) | (with_reducible refine XI_fil ?_ (fun _ => ?_)) | (with_reducible refine XI_cpy ?_ (fun _ _ => ?_)) | exact True.intro | ((show inr _ _ _); first | (with_reducible assumption) | (unfold inr; decide)) | fail) (by repeat' first | (with_reducible exact kp_refl _ _) | (with_reducible assumption) | (with_reducible refine kp_ui ?_ ?_) | (with_reducible refine kp_fil ?_ ?_) | (with_reducible refine kp_cpy ?_ ?_) | (refine kp_trans ?_ (kp_wd k1 rfl)) | (refine kp_trans ?_ (kp_fx k1 rfl)) | rfl | fail)
set_option maxRecDepth 100000 in
set_option maxHeartbeats 4000000 in
theorem sm_sum {d L : Nat} {f : Nat → Nat → Int32} {g : Nat → Nat → Int64} {x1 : Int32} {R : Option Value → mH → Prop} (hd : 10 ≤ d) (hX : XI f) (hI : MI f) (H : ∀ v f' g', XI f' → kp [10, 22, 23] f f' → R (some (.int v)) (shF L, f', g')) : Run mtab d 210 [.ref 181, .int x1] (shF L, f, g) R := by
  obtain ⟨d, rfl⟩ : ∃ e, d = e + 1 := ⟨d - 1, by omega⟩
  refine go_X11_sum rfl ?_
  conv => whnf
  repeat' first
    | ((with_reducible refine ⟨vpi ‹inr 0 15 _› (by decide), ?_⟩) <;> conv => whnf)
    | ((with_reducible refine ⟨vp_in_nI (by omega) (by decide), ?_⟩) <;> conv => whnf)
    | (refine ⟨Or.inl rfl, ?_⟩ <;> conv => whnf)
    | (refine ⟨Or.inr rfl, ?_⟩ <;> conv => whnf)
    | (refine ⟨Or.inl True.intro, ?_⟩ <;> conv => whnf)
    | (refine ⟨Or.inr True.intro, ?_⟩ <;> conv => whnf)
    | (refine ⟨fun c => ?_, fun c => ?_⟩ <;> first | ((have c9 : (1 : Int32) = 0 := by with_reducible exact c); exact absurd c9 (by decide)) | exact absurd (rfl : (0 : Int32) = 0) (by with_reducible exact c) | exact absurd True.intro (by with_reducible exact c) | exact False.elim (by with_reducible exact c) | (conv => whnf))
    | ((with_reducible refine ct_i_0_15 (by omega) (fun p => ?_) (fun p => ?_)) <;> conv => whnf)
    | (refine sm_joinAll (by omega) hX hI (fun f1 g1 h1 k1 => ?_) <;> conv => whnf)
    | (refine ⟨by unfold vp_in; decide, ?_⟩ <;> conv => whnf)
    | fail
  all_goals exact H _ _ _ (by repeat' first | (with_reducible assumption) | (with_reducible refine XI_ui ?_ ?_) | (with_reducible refine XI_fil ?_ (fun _ => ?_)) | (with_reducible refine XI_cpy ?_ (fun _ _ => ?_)) | exact True.intro | ((show inr _ _ _); first | (with_reducible assumption) | (unfold inr; decide)) | fail) (by repeat' first | (with_reducible exact kp_refl _ _) | (with_reducible assumption) | (with_reducible refine kp_ui ?_ ?_) | (with_reducible refine kp_fil ?_ ?_) | (with_reducible refine kp_cpy ?_ ?_) | (refine kp_trans ?_ (kp_wd k1 rfl)) | (refine kp_trans ?_ (kp_fx k1 rfl)) | rfl | fail)
set_option maxRecDepth 100000 in
set_option maxHeartbeats 4000000 in
theorem sm_mns_lp {d L n : Nat} {f : Nat → Nat → Int32} {g : Nat → Nat → Int64} {w : Int32} {R : Option Value → mH → Prop} (hd : 7 ≤ d) (hX : XI f) (hb : f 181 27 = nI n) (hm : n ≤ 50) (hI : MI f) (H : ∀ v, R (some (.int v)) (shF L, f, g)) :
    ∀ (k i : Nat) (x : Int32) (a : Int32), i + k = n → x = nI i → WPe pg_X11_mentions none (Run mtab d) R (m_drop pg_X11_mentions 14) [some (.ref 181), some (.int w), some (.int a), some (.int x)] [] (shF L, f, g)
  | 0, i, x, a, hi, hx => by
    have e : i = n := by omega
    subst hx
    subst e
    refine at_X11_mentions ?_
    conv => whnf
    simp only [hb]
    refine ⟨fun c => ?_, fun c => absurd (nI_le (Nat.le_refl _) (by omega)) c⟩
    conv => whnf
    repeat' first
      | (simp only [hb])
      | ((with_reducible refine ⟨vp_in_nI (by omega) (by decide), ?_⟩) <;> conv => whnf)
      | (refine ⟨Or.inl rfl, ?_⟩ <;> conv => whnf)
      | (refine ⟨Or.inr rfl, ?_⟩ <;> conv => whnf)
      | (refine ⟨Or.inl True.intro, ?_⟩ <;> conv => whnf)
      | (refine ⟨Or.inr True.intro, ?_⟩ <;> conv => whnf)
      | (refine ⟨fun c => ?_, fun c => ?_⟩ <;> first | ((have c9 : (1 : Int32) = 0 := by with_reducible exact c); exact absurd c9 (by decide)) | exact absurd (rfl : (0 : Int32) = 0) (by with_reducible exact c) | exact absurd True.intro (by with_reducible exact c) | exact False.elim (by with_reducible exact c) | (conv => whnf))
      | (refine sm_rivalsOf (by omega) hX hI (by omega) (fun v => ?_) <;> conv => whnf)
      | (refine ⟨by unfold vp_in; decide, ?_⟩ <;> conv => whnf)
      | fail
    all_goals exact H _
  | k + 1, i, x, a, hi, hx => by
    subst hx
    refine at_X11_mentions ?_
    conv => whnf
    simp only [hb]
    refine ⟨fun c => absurd c (nI_ge (b := n) (by omega) (by omega)), fun c => ?_⟩
    conv => whnf
    repeat' first
      | exact sm_mns_lp hd hX hb hm hI H k (i + 1) _ _ (by omega) (nI_1 i)
      | (simp only [hb])
      | ((with_reducible refine ⟨vp_in_nI (by omega) (by decide), ?_⟩) <;> conv => whnf)
      | (refine ⟨Or.inl rfl, ?_⟩ <;> conv => whnf)
      | (refine ⟨Or.inr rfl, ?_⟩ <;> conv => whnf)
      | (refine ⟨Or.inl True.intro, ?_⟩ <;> conv => whnf)
      | (refine ⟨Or.inr True.intro, ?_⟩ <;> conv => whnf)
      | (refine ⟨fun c => ?_, fun c => ?_⟩ <;> first | ((have c9 : (1 : Int32) = 0 := by with_reducible exact c); exact absurd c9 (by decide)) | exact absurd (rfl : (0 : Int32) = 0) (by with_reducible exact c) | exact absurd True.intro (by with_reducible exact c) | exact False.elim (by with_reducible exact c) | (conv => whnf))
      | (refine sm_rivalsOf (by omega) hX hI (by omega) (fun v => ?_) <;> conv => whnf)
      | (refine ⟨by unfold vp_in; decide, ?_⟩ <;> conv => whnf)
      | fail
    all_goals exact H _
set_option maxRecDepth 100000 in
set_option maxHeartbeats 4000000 in
theorem sm_mentions {d L : Nat} {f : Nat → Nat → Int32} {g : Nat → Nat → Int64} {x1 : Int32} {R : Option Value → mH → Prop} (hd : 10 ≤ d) (hX : XI f) (hI : MI f) (H : ∀ v f' g', XI f' → kp [10, 22, 23] f f' → R (some (.int v)) (shF L, f', g')) : Run mtab d 211 [.ref 181, .int x1] (shF L, f, g) R := by
  obtain ⟨d, rfl⟩ : ∃ e, d = e + 1 := ⟨d - 1, by omega⟩
  refine go_X11_mentions rfl ?_
  conv => whnf
  obtain ⟨mn, hmm, hmb⟩ := inr_nat (n := 50) rfl (xi_181_27 hX)
  repeat' first
    | exact sm_mns_lp (by omega) h1 ((k1 181 27 rfl).trans hmb) hmm (MI_kp hI k1 rfl) (fun v => H v _ _ h1 k1) mn 0 _ _ (by omega) rfl
    | ((with_reducible refine ⟨vp_in_nI (by omega) (by decide), ?_⟩) <;> conv => whnf)
    | (refine ⟨Or.inl rfl, ?_⟩ <;> conv => whnf)
    | (refine ⟨Or.inr rfl, ?_⟩ <;> conv => whnf)
    | (refine ⟨Or.inl True.intro, ?_⟩ <;> conv => whnf)
    | (refine ⟨Or.inr True.intro, ?_⟩ <;> conv => whnf)
    | (refine ⟨fun c => ?_, fun c => ?_⟩ <;> first | ((have c9 : (1 : Int32) = 0 := by with_reducible exact c); exact absurd c9 (by decide)) | exact absurd (rfl : (0 : Int32) = 0) (by with_reducible exact c) | exact absurd True.intro (by with_reducible exact c) | exact False.elim (by with_reducible exact c) | (conv => whnf))
    | ((with_reducible refine ct_i_0_2 (by omega) (fun p => ?_) (fun p => ?_)) <;> conv => whnf)
    | (refine sm_joinAll (by omega) hX hI (fun f1 g1 h1 k1 => ?_) <;> conv => whnf)
    | (refine ⟨by unfold vp_in; decide, ?_⟩ <;> conv => whnf)
    | fail
  all_goals exact H _ _ _ (by repeat' first | (with_reducible assumption) | (with_reducible refine XI_ui ?_ ?_) | (with_reducible refine XI_fil ?_ (fun _ => ?_)) | (with_reducible refine XI_cpy ?_ (fun _ _ => ?_)) | exact True.intro | ((show inr _ _ _); first | (with_reducible assumption) | (unfold inr; decide)) | fail) (by repeat' first | (with_reducible exact kp_refl _ _) | (with_reducible assumption) | (with_reducible refine kp_ui ?_ ?_) | (with_reducible refine kp_fil ?_ ?_) | (with_reducible refine kp_cpy ?_ ?_) | (refine kp_trans ?_ (kp_wd k1 rfl)) | (refine kp_trans ?_ (kp_fx k1 rfl)) | rfl | fail)
set_option maxRecDepth 100000 in
set_option maxHeartbeats 4000000 in
theorem sm_hs_lp {d L n : Nat} {f : Nat → Nat → Int32} {g : Nat → Nat → Int64} {w y : Int32} {R : Option Value → mH → Prop} (hd : 1 ≤ d) (hX : XI f) (hb : f 181 27 = nI n) (hm : n ≤ 50) (H : ∀ v, (v = 0 ∨ v = 1) → R (some (.int v)) (shF L, f, g)) :
    ∀ (k i : Nat) (x : Int32) (a : Int32), i + k = n → x = nI i → (a = 0 ∨ a = 1) → WPe pg_X11_hasSure none (Run mtab d) R (m_drop pg_X11_hasSure 4) [some (.ref 181), some (.int w), some (.int y), some (.int a), some (.int x)] [] (shF L, f, g)
  | 0, i, x, a, hi, hx, ha => by
    have e : i = n := by omega
    subst hx
    subst e
    refine at_X11_hasSure ?_
    conv => whnf
    simp only [hb]
    refine ⟨fun c => ?_, fun c => absurd (nI_le (Nat.le_refl _) (by omega)) c⟩
    conv => whnf
    repeat' first
      | (simp only [hb, nI_9m])
      | ((with_reducible refine ⟨vp_in_nI (by omega) (by decide), ?_⟩) <;> conv => whnf)
      | (refine ⟨Or.inl rfl, ?_⟩ <;> conv => whnf)
      | (refine ⟨Or.inr rfl, ?_⟩ <;> conv => whnf)
      | (refine ⟨Or.inl True.intro, ?_⟩ <;> conv => whnf)
      | (refine ⟨Or.inr True.intro, ?_⟩ <;> conv => whnf)
      | (refine ⟨fun c => ?_, fun c => ?_⟩ <;> first | ((have c9 : (1 : Int32) = 0 := by with_reducible exact c); exact absurd c9 (by decide)) | exact absurd (rfl : (0 : Int32) = 0) (by with_reducible exact c) | exact absurd True.intro (by with_reducible exact c) | exact False.elim (by with_reducible exact c) | (conv => whnf))
      | (refine ⟨by unfold vp_in; decide, ?_⟩ <;> conv => whnf)
      | fail
    all_goals exact ⟨ha, H _ ha⟩
  | k + 1, i, x, a, hi, hx, ha => by
    subst hx
    refine at_X11_hasSure ?_
    conv => whnf
    simp only [hb]
    refine ⟨fun c => absurd c (nI_ge (b := n) (by omega) (by omega)), fun c => ?_⟩
    conv => whnf
    repeat' first
      | exact sm_hs_lp hd hX hb hm H k (i + 1) _ _ (by omega) (nI_1 i) (by first | exact ha | exact Or.inl rfl | exact Or.inr rfl)
      | (simp only [hb, nI_9m])
      | ((with_reducible refine ⟨vp_in_nI (by omega) (by decide), ?_⟩) <;> conv => whnf)
      | (refine ⟨Or.inl rfl, ?_⟩ <;> conv => whnf)
      | (refine ⟨Or.inr rfl, ?_⟩ <;> conv => whnf)
      | (refine ⟨Or.inl True.intro, ?_⟩ <;> conv => whnf)
      | (refine ⟨Or.inr True.intro, ?_⟩ <;> conv => whnf)
      | (refine ⟨fun c => ?_, fun c => ?_⟩ <;> first | ((have c9 : (1 : Int32) = 0 := by with_reducible exact c); exact absurd c9 (by decide)) | exact absurd (rfl : (0 : Int32) = 0) (by with_reducible exact c) | exact absurd True.intro (by with_reducible exact c) | exact False.elim (by with_reducible exact c) | (conv => whnf))
      | (refine ⟨by unfold vp_in; decide, ?_⟩ <;> conv => whnf)
      | fail
    all_goals exact ⟨ha, H _ ha⟩
set_option maxRecDepth 100000 in
set_option maxHeartbeats 4000000 in
theorem sm_hasSure {d L : Nat} {f : Nat → Nat → Int32} {g : Nat → Nat → Int64} {w y : Int32} {R : Option Value → mH → Prop} (hd : 2 ≤ d) (hX : XI f) (H : ∀ v, (v = 0 ∨ v = 1) → R (some (.int v)) (shF L, f, g)) : Run mtab d 212 [.ref 181, .int w, .int y] (shF L, f, g) R := by
  obtain ⟨d, rfl⟩ : ∃ e, d = e + 1 := ⟨d - 1, by omega⟩
  refine go_X11_hasSure rfl ?_
  conv => whnf
  obtain ⟨mn, hmm, hmb⟩ := inr_nat (n := 50) rfl (xi_181_27 hX)
  exact sm_hs_lp (by omega) hX hmb hmm H mn 0 _ _ (by omega) rfl (Or.inl rfl)
set_option maxRecDepth 100000 in
set_option maxHeartbeats 4000000 in
theorem sm_ctd_lp {d L n : Nat} {f : Nat → Nat → Int32} {g : Nat → Nat → Int64} {x1 x2 x3 : Int32} {R : Option Value → mH → Prop} (hd : 3 ≤ d) (hX : XI f) (hb : f 181 0 = nI n) (hm : n ≤ 40) (H : ∀ v, R (some (.int v)) (shF L, f, g)) :
    ∀ (k i : Nat) (x : Int32) (a : Int32) (b : Int32) (z : Int32) (s8 : Option Value) (s9 : Option Value), i + k = n → x = nI i → WPe pg_X11_counted none (Run mtab d) R (m_drop pg_X11_counted 33) [some (.ref 181), some (.int x1), some (.int x2), some (.int x3), some (.int a), some (.int b), some (.int z), some (.int x), s8, s9] [] (shF L, f, g)
  | 0, i, x, a, b, z, s8, s9, hi, hx => by
    have e : i = n := by omega
    subst hx
    subst e
    refine at_X11_counted ?_
    conv => whnf
    simp only [hb]
    refine ⟨fun c => ?_, fun c => absurd (nI_le (Nat.le_refl _) (by omega)) c⟩
    conv => whnf
    repeat' first
      | ((with_reducible refine ⟨by assumption, ?_⟩) <;> conv => whnf)
      | (simp only [hb])
      | ((with_reducible refine ⟨vp_in_nI (by omega) (by decide), ?_⟩) <;> conv => whnf)
      | (refine ⟨Or.inl rfl, ?_⟩ <;> conv => whnf)
      | (refine ⟨Or.inr rfl, ?_⟩ <;> conv => whnf)
      | (refine ⟨Or.inl True.intro, ?_⟩ <;> conv => whnf)
      | (refine ⟨Or.inr True.intro, ?_⟩ <;> conv => whnf)
      | (refine ⟨fun c => ?_, fun c => ?_⟩ <;> first | ((have c9 : (1 : Int32) = 0 := by with_reducible exact c); exact absurd c9 (by decide)) | exact absurd (rfl : (0 : Int32) = 0) (by with_reducible exact c) | exact absurd True.intro (by with_reducible exact c) | exact False.elim (by with_reducible exact c) | (conv => whnf))
      | (refine ⟨by unfold vp_in; decide, ?_⟩ <;> conv => whnf)
      | fail
    all_goals exact H _
  | k + 1, i, x, a, b, z, s8, s9, hi, hx => by
    subst hx
    refine at_X11_counted ?_
    conv => whnf
    simp only [hb]
    refine ⟨fun c => absurd c (nI_ge (b := n) (by omega) (by omega)), fun c => ?_⟩
    conv => whnf
    repeat' first
      | exact sm_ctd_lp hd hX hb hm H k (i + 1) _ _ _ _ _ _ (by omega) (nI_1 i)
      | ((with_reducible refine ⟨by assumption, ?_⟩) <;> conv => whnf)
      | (simp only [hb])
      | ((with_reducible refine ⟨vp_in_nI (by omega) (by decide), ?_⟩) <;> conv => whnf)
      | (refine ⟨Or.inl rfl, ?_⟩ <;> conv => whnf)
      | (refine ⟨Or.inr rfl, ?_⟩ <;> conv => whnf)
      | (refine ⟨Or.inl True.intro, ?_⟩ <;> conv => whnf)
      | (refine ⟨Or.inr True.intro, ?_⟩ <;> conv => whnf)
      | (refine ⟨fun c => ?_, fun c => ?_⟩ <;> first | ((have c9 : (1 : Int32) = 0 := by with_reducible exact c); exact absurd c9 (by decide)) | exact absurd (rfl : (0 : Int32) = 0) (by with_reducible exact c) | exact absurd True.intro (by with_reducible exact c) | exact False.elim (by with_reducible exact c) | (conv => whnf))
      | (refine sm_hasSure (by omega) hX (fun v hv => ?_) <;> conv => whnf)
      | (refine ⟨by unfold vp_in; decide, ?_⟩ <;> conv => whnf)
      | fail
    all_goals exact H _
set_option maxRecDepth 100000 in
set_option maxHeartbeats 4000000 in
theorem sm_counted {d L : Nat} {f : Nat → Nat → Int32} {g : Nat → Nat → Int64} {x1 x2 x3 : Int32} {R : Option Value → mH → Prop} (hd : 10 ≤ d) (hX : XI f) (hI : MI f) (H : ∀ v f' g', XI f' → kp [10, 22, 23] f f' → R (some (.int v)) (shF L, f', g')) : Run mtab d 213 [.ref 181, .int x1, .int x2, .int x3] (shF L, f, g) R := by
  obtain ⟨d, rfl⟩ : ∃ e, d = e + 1 := ⟨d - 1, by omega⟩
  refine go_X11_counted rfl ?_
  conv => whnf
  obtain ⟨n, hm, hb⟩ := inr_nat (n := 40) rfl (xi_181_0 hX)
  repeat' first
    | exact sm_ctd_lp (by omega) h1 ((k1 181 0 rfl).trans hb) hm (fun v => H v _ _ h1 k1) n 0 _ _ _ _ _ _ (by omega) rfl
    | ((with_reducible refine ⟨vp_in_nI (by omega) (by decide), ?_⟩) <;> conv => whnf)
    | (refine ⟨Or.inl rfl, ?_⟩ <;> conv => whnf)
    | (refine ⟨Or.inr rfl, ?_⟩ <;> conv => whnf)
    | (refine ⟨Or.inl True.intro, ?_⟩ <;> conv => whnf)
    | (refine ⟨Or.inr True.intro, ?_⟩ <;> conv => whnf)
    | (refine ⟨fun c => ?_, fun c => ?_⟩ <;> first | ((have c9 : (1 : Int32) = 0 := by with_reducible exact c); exact absurd c9 (by decide)) | exact absurd (rfl : (0 : Int32) = 0) (by with_reducible exact c) | exact absurd True.intro (by with_reducible exact c) | exact False.elim (by with_reducible exact c) | (conv => whnf))
    | ((with_reducible refine ct_i_0_2 (by omega) (fun p => ?_) (fun p => ?_)) <;> conv => whnf)
    | ((with_reducible refine ct_i_0_4 (by omega) (fun p => ?_) (fun p => ?_)) <;> conv => whnf)
    | (refine sm_joinAll (by omega) hX hI (fun f1 g1 h1 k1 => ?_) <;> conv => whnf)
    | (refine ⟨by unfold vp_in; decide, ?_⟩ <;> conv => whnf)
    | fail
  all_goals exact H _ _ _ (by repeat' first | (with_reducible assumption) | (with_reducible refine XI_ui ?_ ?_) | (with_reducible refine XI_fil ?_ (fun _ => ?_)) | (with_reducible refine XI_cpy ?_ (fun _ _ => ?_)) | exact True.intro | ((show inr _ _ _); first | (with_reducible assumption) | (unfold inr; decide)) | fail) (by repeat' first | (with_reducible exact kp_refl _ _) | (with_reducible assumption) | (with_reducible refine kp_ui ?_ ?_) | (with_reducible refine kp_fil ?_ ?_) | (with_reducible refine kp_cpy ?_ ?_) | (refine kp_trans ?_ (kp_wd k1 rfl)) | (refine kp_trans ?_ (kp_fx k1 rfl)) | rfl | fail)
