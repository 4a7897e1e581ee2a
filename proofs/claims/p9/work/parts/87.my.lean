set_option maxRecDepth 100000 in
set_option maxHeartbeats 4000000 in
theorem sm_fc_lp {d L n : Nat} {f : Nat → Nat → Int32} {g : Nat → Nat → Int64} {vn : Nat} {R : Option Value → mH → Prop} (hd : 3 ≤ d) (hX : XI f) (hb : f 181 16 = nI n) (hm : n ≤ 20) (hvb : f 181 48 = nI vn) (hk : vn ≤ 60) (H : ∀ v, R (some (.int v)) (shF L, f, g)) :
    ∀ (k i : Nat) (x : Int32) (a : Int32) (s3 : Option Value), i + k = n → x = nI i → WPe pg_X11_findCounting none (Run mtab d) R (m_drop pg_X11_findCounting 4) [some (.ref 181), some (.int a), some (.int x), s3] [] (shF L, f, g)
  | 0, i, x, a, s3, hi, hx => by
    have e : i = n := by omega
    subst hx
    subst e
    refine at_X11_findCounting ?_
    conv => whnf
    simp only [hb]
    refine ⟨fun c => ?_, fun c => absurd (nI_le (Nat.le_refl _) (by omega)) c⟩
    conv => whnf
    repeat' first
      | (simp only [hb, hvb])
      | ((with_reducible refine ⟨vp_in_nI (by omega) (by decide), ?_⟩) <;> conv => whnf)
      | (refine ⟨Or.inl rfl, ?_⟩ <;> conv => whnf)
      | (refine ⟨Or.inr rfl, ?_⟩ <;> conv => whnf)
      | (refine ⟨Or.inl True.intro, ?_⟩ <;> conv => whnf)
      | (refine ⟨Or.inr True.intro, ?_⟩ <;> conv => whnf)
      | (refine ⟨fun c => ?_, fun c => ?_⟩ <;> first | ((have c9 : (1 : Int32) = 0 := by with_reducible exact c); exact absurd c9 (by decide)) | exact absurd (rfl : (0 : Int32) = 0) (by with_reducible exact c) | exact absurd True.intro (by with_reducible exact c) | exact False.elim (by with_reducible exact c) | (conv => whnf))
      | (refine sm_stateOf (by omega) hX hk (fun v => ?_) <;> conv => whnf)
      | (refine ⟨by unfold vp_in; decide, ?_⟩ <;> conv => whnf)
      | fail
    all_goals exact H _
  | k + 1, i, x, a, s3, hi, hx => by
    subst hx
    refine at_X11_findCounting ?_
    conv => whnf
    simp only [hb]
    refine ⟨fun c => absurd c (nI_ge (b := n) (by omega) (by omega)), fun c => ?_⟩
    conv => whnf
    repeat' first
      | exact sm_fc_lp hd hX hb hm hvb hk H k (i + 1) _ _ _ (by omega) (nI_1 i)
      | (simp only [hb, hvb])
      | ((with_reducible refine ⟨vp_in_nI (by omega) (by decide), ?_⟩) <;> conv => whnf)
      | (refine ⟨Or.inl rfl, ?_⟩ <;> conv => whnf)
      | (refine ⟨Or.inr rfl, ?_⟩ <;> conv => whnf)
      | (refine ⟨Or.inl True.intro, ?_⟩ <;> conv => whnf)
      | (refine ⟨Or.inr True.intro, ?_⟩ <;> conv => whnf)
      | (refine ⟨fun c => ?_, fun c => ?_⟩ <;> first | ((have c9 : (1 : Int32) = 0 := by with_reducible exact c); exact absurd c9 (by decide)) | exact absurd (rfl : (0 : Int32) = 0) (by with_reducible exact c) | exact absurd True.intro (by with_reducible exact c) | exact False.elim (by with_reducible exact c) | (conv => whnf))
      | (refine sm_stateOf (by omega) hX hk (fun v => ?_) <;> conv => whnf)
      | (refine ⟨by unfold vp_in; decide, ?_⟩ <;> conv => whnf)
      | fail
    all_goals exact H _
set_option maxRecDepth 100000 in
set_option maxHeartbeats 4000000 in
theorem sm_findCounting {d L : Nat} {f : Nat → Nat → Int32} {g : Nat → Nat → Int64}  {R : Option Value → mH → Prop} (hd : 4 ≤ d) (hX : XI f) (H : ∀ v, R (some (.int v)) (shF L, f, g)) : Run mtab d 178 [.ref 181] (shF L, f, g) R := by
  obtain ⟨d, rfl⟩ : ∃ e, d = e + 1 := ⟨d - 1, by omega⟩
  refine go_X11_findCounting rfl ?_
  conv => whnf
  obtain ⟨n, hm, hb⟩ := inr_nat (n := 20) rfl (xi_181_16 hX)
  obtain ⟨vn, hvn, hvb⟩ := inr_nat (n := 60) rfl (xi_181_48 hX)
  exact sm_fc_lp (by omega) hX hb hm hvb hvn H n 0 _ _ _ (by omega) rfl
def msum (h : Nat → Nat) : Nat → Nat
  | 0 => 0
  | k + 1 => msum h k + h k
theorem msum_eq {h h' : Nat → Nat} : ∀ n, (∀ k, k < n → h' k = h k) → msum h' n = msum h n
  | 0, _ => rfl
  | n + 1, he => by
    show msum h' n + h' n = msum h n + h n
    rw [msum_eq n (fun k hk => he k (by omega)), he n (by omega)]
theorem msum_lt {h h' : Nat → Nat} {b : Nat} (he : ∀ k, ¬ k = b → h' k = h k) (hb : h' b < h b) : ∀ n, b < n → msum h' n < msum h n
  | 0, hn => absurd hn (by omega)
  | n + 1, hn => by
    show msum h' n + h' n < msum h n + h n
    by_cases e : b = n
    · subst e
      rw [msum_eq b (fun k hk => he k (by omega))]
      omega
    · have := msum_lt he hb n (by omega)
      rw [he n (fun q => e q.symm)]
      omega
def mu (f : Nat → Nat → Int32) : Nat := msum (fun k => (2147483647 - (f 200 k).toInt).toNat) 40
def md (f : Nat → Nat → Int32) : Nat := msum (fun k => ((f 201 k).toInt + 2147483648).toNat) 40
theorem mu_up {f : Nat → Nat → Int32} {b : Nat} {y : Int32} (hb : b < 40) (h : ¬ y ≤ f 200 b) : mu (m_ui f 200 b y) < mu f := by
  refine msum_lt (b := b) (fun k hk => ?_) ?_ 40 hb
  · show (2147483647 - (m_ui f 200 b y 200 k).toInt).toNat = _
    rw [m_ui_ap, if_pos rfl, if_neg hk]
  · show (2147483647 - (m_ui f 200 b y 200 b).toInt).toNat < _
    rw [m_ui_ap, if_pos rfl, if_pos rfl]
    rw [Int32.le_iff_toInt_le] at h
    have := Int32.toInt_lt y
    omega
theorem md_up {f : Nat → Nat → Int32} {b : Nat} {y : Int32} (hb : b < 40) (h : ¬ f 201 b ≤ y) : md (m_ui f 201 b y) < md f := by
  refine msum_lt (b := b) (fun k hk => ?_) ?_ 40 hb
  · show ((m_ui f 201 b y 201 k).toInt + 2147483648).toNat = _
    rw [m_ui_ap, if_pos rfl, if_neg hk]
  · show ((m_ui f 201 b y 201 b).toInt + 2147483648).toNat < _
    rw [m_ui_ap, if_pos rfl, if_pos rfl]
    rw [Int32.le_iff_toInt_le] at h
    have := Int32.le_toInt y
    omega

set_option maxRecDepth 100000 in
set_option maxHeartbeats 4000000 in
theorem flI_lp {d L n : Nat} {f0 : Nat → Nat → Int32} {M : Nat} {w : Int32} {R : Option Value → mH → Prop} (hd : 1 ≤ d) (hm : n ≤ 20) (h0 : f0 181 16 = nI n) (HO : ∀ (mo' : Int32) (s3 s4 : Option Value) (f' : Nat → Nat → Int32) (g' : Nat → Nat → Int64), XI f' → fx 200 201 f0 f' → (mo' = 0 ∨ mu f' < M) → WPe pg_X11_findLeast none (Run mtab d) R (m_drop pg_X11_findLeast 18) [some (.ref 181), some (.int w), some (.int mo'), s3, s4] [] (shF L, f', g')) (H : ∀ v f' g', (v = 0 ∨ v = 1) → XI f' → fx 200 201 f0 f' → R (some (.int v)) (shF L, f', g'))  :
    ∀ (k i : Nat) (x : Int32) (mo : Int32) (s4 : Option Value) (f : Nat → Nat → Int32) (g : Nat → Nat → Int64), i + k = n → x = nI i → XI f → fx 200 201 f0 f → (mu f ≤ M ∧ (mo = 0 ∨ mu f < M)) → WPe pg_X11_findLeast none (Run mtab d) R (m_drop pg_X11_findLeast 24) [some (.ref 181), some (.int w), some (.int mo), some (.int x), s4] [] (shF L, f, g)
  | 0, i, x, mo, s4, f, g, he, hx, hX, hF, hmu => by
    have e : i = n := by omega
    subst hx
    have hcb : f 181 16 = nI n := (hF 181 16 (by omega)).trans h0
    subst e
    refine at_X11_findLeast ?_
    conv => whnf
    try simp only [hcb, m_ui_ap, m_fil_ap, m_cpy_ap, Nat.reduceEqDiff, Nat.reduceLT, Nat.reduceLeDiff, eq_self, ↓reduceIte, false_and, and_false, true_and, and_true, and_self]
    refine ⟨fun c => ?_, fun c => absurd (nI_le (Nat.le_refl _) (by omega)) c⟩
    conv => whnf
    repeat' first
      | exact HO _ _ _ _ _ hX hF hmu.2
      | (simp only [hcb, m_ui_ap, m_fil_ap, m_cpy_ap, Nat.reduceEqDiff, Nat.reduceLT, Nat.reduceLeDiff, eq_self, ↓reduceIte, false_and, and_false, true_and, and_true, and_self])
      | ((with_reducible refine ⟨vp_in_nI (by omega) (by decide), ?_⟩) <;> conv => whnf)
      | (refine ⟨Or.inl rfl, ?_⟩ <;> conv => whnf)
      | (refine ⟨Or.inr rfl, ?_⟩ <;> conv => whnf)
      | (refine ⟨Or.inl True.intro, ?_⟩ <;> conv => whnf)
      | (refine ⟨Or.inr True.intro, ?_⟩ <;> conv => whnf)
      | (refine ⟨fun c => ?_, fun c => ?_⟩ <;> first | ((have c9 : (1 : Int32) = 0 := by with_reducible exact c); exact absurd c9 (by decide)) | exact absurd (rfl : (0 : Int32) = 0) (by with_reducible exact c) | exact absurd True.intro (by with_reducible exact c) | exact False.elim (by with_reducible exact c) | (conv => whnf))
      | (refine ⟨by unfold vp_in; decide, ?_⟩ <;> conv => whnf)
      | fail
    all_goals first | exact ⟨Or.inl rfl, H _ _ _ (Or.inl rfl) (by repeat' first | (with_reducible assumption) | (with_reducible refine XI_ui ?_ ?_) | (with_reducible refine XI_fil ?_ (fun _ => ?_)) | (with_reducible refine XI_cpy ?_ (fun _ _ => ?_)) | exact True.intro | ((show inr _ _ _); first | (with_reducible assumption) | (unfold inr; decide)) | fail) (by repeat' first | (with_reducible exact fx_refl _ _ _) | (with_reducible assumption) | (with_reducible refine fx_ui ?_ ?_ ?_) | (with_reducible refine fx_fil ?_ ?_ ?_) | (with_reducible refine fx_cpy ?_ ?_ ?_) | omega | decide | fail)⟩ | exact H _ _ _ (Or.inl rfl) (by repeat' first | (with_reducible assumption) | (with_reducible refine XI_ui ?_ ?_) | (with_reducible refine XI_fil ?_ (fun _ => ?_)) | (with_reducible refine XI_cpy ?_ (fun _ _ => ?_)) | exact True.intro | ((show inr _ _ _); first | (with_reducible assumption) | (unfold inr; decide)) | fail) (by repeat' first | (with_reducible exact fx_refl _ _ _) | (with_reducible assumption) | (with_reducible refine fx_ui ?_ ?_ ?_) | (with_reducible refine fx_fil ?_ ?_ ?_) | (with_reducible refine fx_cpy ?_ ?_ ?_) | omega | decide | fail)
  | k + 1, i, x, mo, s4, f, g, he, hx, hX, hF, hmu => by
    subst hx
    have hcb : f 181 16 = nI n := (hF 181 16 (by omega)).trans h0
    refine at_X11_findLeast ?_
    conv => whnf
    try simp only [hcb, m_ui_ap, m_fil_ap, m_cpy_ap, Nat.reduceEqDiff, Nat.reduceLT, Nat.reduceLeDiff, eq_self, ↓reduceIte, false_and, and_false, true_and, and_true, and_self]
    refine ⟨fun c => absurd c (nI_ge (b := n) (by omega) (by omega)), fun c => ?_⟩
    conv => whnf
    repeat' first
      | exact flI_lp hd hm h0 HO H k (i + 1) _ _ _ _ _ (by omega) (nI_1 i) (by repeat' first | (with_reducible assumption) | (with_reducible refine XI_ui ?_ ?_) | (with_reducible refine XI_fil ?_ (fun _ => ?_)) | (with_reducible refine XI_cpy ?_ (fun _ _ => ?_)) | exact True.intro | ((show inr _ _ _); first | (with_reducible assumption) | (unfold inr; decide)) | fail) (by repeat' first | (with_reducible exact fx_refl _ _ _) | (with_reducible assumption) | (with_reducible refine fx_ui ?_ ?_ ?_) | (with_reducible refine fx_fil ?_ ?_ ?_) | (with_reducible refine fx_cpy ?_ ?_ ?_) | omega | decide | fail) (by first | exact hmu | (have hup := mu_up (f := f) (vp_lt (vx_197 hX _)) (by with_reducible assumption); exact ⟨by omega, Or.inr (by omega)⟩))
      | ((with_reducible refine ⟨vx_196 hX _, ?_⟩) <;> conv => whnf)
      | ((with_reducible refine ⟨vx_197 hX _, ?_⟩) <;> conv => whnf)
      | (simp only [hcb, m_ui_ap, m_fil_ap, m_cpy_ap, Nat.reduceEqDiff, Nat.reduceLT, Nat.reduceLeDiff, eq_self, ↓reduceIte, false_and, and_false, true_and, and_true, and_self])
      | ((with_reducible refine ⟨vp_in_nI (by omega) (by decide), ?_⟩) <;> conv => whnf)
      | (refine ⟨Or.inl rfl, ?_⟩ <;> conv => whnf)
      | (refine ⟨Or.inr rfl, ?_⟩ <;> conv => whnf)
      | (refine ⟨Or.inl True.intro, ?_⟩ <;> conv => whnf)
      | (refine ⟨Or.inr True.intro, ?_⟩ <;> conv => whnf)
      | (refine ⟨fun c => ?_, fun c => ?_⟩ <;> first | ((have c9 : (1 : Int32) = 0 := by with_reducible exact c); exact absurd c9 (by decide)) | exact absurd (rfl : (0 : Int32) = 0) (by with_reducible exact c) | exact absurd True.intro (by with_reducible exact c) | exact False.elim (by with_reducible exact c) | (conv => whnf))
      | (refine ⟨by unfold vp_in; decide, ?_⟩ <;> conv => whnf)
      | fail
    all_goals first | exact ⟨Or.inl rfl, H _ _ _ (Or.inl rfl) (by repeat' first | (with_reducible assumption) | (with_reducible refine XI_ui ?_ ?_) | (with_reducible refine XI_fil ?_ (fun _ => ?_)) | (with_reducible refine XI_cpy ?_ (fun _ _ => ?_)) | exact True.intro | ((show inr _ _ _); first | (with_reducible assumption) | (unfold inr; decide)) | fail) (by repeat' first | (with_reducible exact fx_refl _ _ _) | (with_reducible assumption) | (with_reducible refine fx_ui ?_ ?_ ?_) | (with_reducible refine fx_fil ?_ ?_ ?_) | (with_reducible refine fx_cpy ?_ ?_ ?_) | omega | decide | fail)⟩ | exact H _ _ _ (Or.inl rfl) (by repeat' first | (with_reducible assumption) | (with_reducible refine XI_ui ?_ ?_) | (with_reducible refine XI_fil ?_ (fun _ => ?_)) | (with_reducible refine XI_cpy ?_ (fun _ _ => ?_)) | exact True.intro | ((show inr _ _ _); first | (with_reducible assumption) | (unfold inr; decide)) | fail) (by repeat' first | (with_reducible exact fx_refl _ _ _) | (with_reducible assumption) | (with_reducible refine fx_ui ?_ ?_ ?_) | (with_reducible refine fx_fil ?_ ?_ ?_) | (with_reducible refine fx_cpy ?_ ?_ ?_) | omega | decide | fail)
set_option maxRecDepth 100000 in
theorem flO_lp {d L n : Nat} {f0 : Nat → Nat → Int32} {w : Int32} {R : Option Value → mH → Prop} (hd : 1 ≤ d) (hm : n ≤ 20) (h0 : f0 181 16 = nI n) (H : ∀ v f' g', (v = 0 ∨ v = 1) → XI f' → fx 200 201 f0 f' → R (some (.int v)) (shF L, f', g')) :
    ∀ (N : Nat) (mo : Int32) (s3 s4 : Option Value) (f : Nat → Nat → Int32) (g : Nat → Nat → Int64), XI f → fx 200 201 f0 f → (mo = 0 ∨ mu f < N) → WPe pg_X11_findLeast none (Run mtab d) R (m_drop pg_X11_findLeast 18) [some (.ref 181), some (.int w), some (.int mo), s3, s4] [] (shF L, f, g) := by
  intro N
  induction N with
  | zero =>
    intro mo s3 s4 f g hX hF hmo
    have e : mo = 0 := hmo.resolve_right (by omega)
    subst e
    refine at_X11_findLeast ?_
    conv => whnf
    refine ⟨fun _ => ?_, fun c => absurd rfl c⟩
    conv => whnf
    exact ⟨Or.inr rfl, H _ _ _ (Or.inr rfl) hX hF⟩
  | succ N ih =>
    intro mo s3 s4 f g hX hF hmo
    refine at_X11_findLeast ?_
    conv => whnf
    refine ⟨fun _ => ?_, fun c => ?_⟩
    · conv => whnf
      exact ⟨Or.inr rfl, H _ _ _ (Or.inr rfl) hX hF⟩
    · conv => whnf
      have hlt := hmo.resolve_left c
      exact flI_lp (M := mu f) hd hm h0 (fun mo' s3 s4 f' g' hX' hF' hmo' => ih mo' s3 s4 f' g' hX' hF' (hmo'.imp id (fun q => by omega))) H n 0 _ _ _ _ _ (by omega) rfl hX hF ⟨Nat.le_refl _, Or.inl rfl⟩
set_option maxRecDepth 100000 in
set_option maxHeartbeats 4000000 in
theorem flA_lp {d L n : Nat} {f0 : Nat → Nat → Int32} {w : Int32} {q : Nat} {R : Option Value → mH → Prop} (hd : 1 ≤ d) (hm : n ≤ 40) (h0 : f0 181 0 = nI n) (hq : f0 181 16 = nI q) (hq20 : q ≤ 20) (H : ∀ v f' g', (v = 0 ∨ v = 1) → XI f' → fx 200 201 f0 f' → R (some (.int v)) (shF L, f', g'))  :
    ∀ (k i : Nat) (x : Int32) (s3 : Option Value) (s4 : Option Value) (f : Nat → Nat → Int32) (g : Nat → Nat → Int64), i + k = n → x = nI i → XI f → fx 200 201 f0 f → WPe pg_X11_findLeast none (Run mtab d) R (m_drop pg_X11_findLeast 2) [some (.ref 181), some (.int w), some (.int x), s3, s4] [] (shF L, f, g)
  | 0, i, x, s3, s4, f, g, he, hx, hX, hF => by
    have e : i = n := by omega
    subst hx
    have hcb : f 181 0 = nI n := (hF 181 0 (by omega)).trans h0
    subst e
    refine at_X11_findLeast ?_
    conv => whnf
    try simp only [hcb]
    refine ⟨fun c => ?_, fun c => absurd (nI_le (Nat.le_refl _) (by omega)) c⟩
    conv => whnf
    repeat' first
      | exact flO_lp (by omega) hq20 hq H (mu f + 1) _ _ _ _ _ hX hF (Or.inr (Nat.lt_succ_self _))
      | (simp only [hcb])
      | ((with_reducible refine ⟨vp_in_nI (by omega) (by decide), ?_⟩) <;> conv => whnf)
      | (refine ⟨Or.inl rfl, ?_⟩ <;> conv => whnf)
      | (refine ⟨Or.inr rfl, ?_⟩ <;> conv => whnf)
      | (refine ⟨Or.inl True.intro, ?_⟩ <;> conv => whnf)
      | (refine ⟨Or.inr True.intro, ?_⟩ <;> conv => whnf)
      | (refine ⟨fun c => ?_, fun c => ?_⟩ <;> first | ((have c9 : (1 : Int32) = 0 := by with_reducible exact c); exact absurd c9 (by decide)) | exact absurd (rfl : (0 : Int32) = 0) (by with_reducible exact c) | exact absurd True.intro (by with_reducible exact c) | exact False.elim (by with_reducible exact c) | (conv => whnf))
      | (refine ⟨by unfold vp_in; decide, ?_⟩ <;> conv => whnf)
      | fail
    all_goals fail
  | k + 1, i, x, s3, s4, f, g, he, hx, hX, hF => by
    subst hx
    have hcb : f 181 0 = nI n := (hF 181 0 (by omega)).trans h0
    refine at_X11_findLeast ?_
    conv => whnf
    try simp only [hcb]
    refine ⟨fun c => absurd c (nI_ge (b := n) (by omega) (by omega)), fun c => ?_⟩
    conv => whnf
    repeat' first
      | exact flA_lp hd hm h0 hq hq20 H k (i + 1) _ _ _ _ _ (by omega) (nI_1 i) (by repeat' first | (with_reducible assumption) | (with_reducible refine XI_ui ?_ ?_) | (with_reducible refine XI_fil ?_ (fun _ => ?_)) | (with_reducible refine XI_cpy ?_ (fun _ _ => ?_)) | exact True.intro | ((show inr _ _ _); first | (with_reducible assumption) | (unfold inr; decide)) | fail) (by repeat' first | (with_reducible exact fx_refl _ _ _) | (with_reducible assumption) | (with_reducible refine fx_ui ?_ ?_ ?_) | (with_reducible refine fx_fil ?_ ?_ ?_) | (with_reducible refine fx_cpy ?_ ?_ ?_) | omega | decide | fail)
      | (simp only [hcb])
      | ((with_reducible refine ⟨vp_in_nI (by omega) (by decide), ?_⟩) <;> conv => whnf)
      | (refine ⟨Or.inl rfl, ?_⟩ <;> conv => whnf)
      | (refine ⟨Or.inr rfl, ?_⟩ <;> conv => whnf)
      | (refine ⟨Or.inl True.intro, ?_⟩ <;> conv => whnf)
      | (refine ⟨Or.inr True.intro, ?_⟩ <;> conv => whnf)
      | (refine ⟨fun c => ?_, fun c => ?_⟩ <;> first | ((have c9 : (1 : Int32) = 0 := by with_reducible exact c); exact absurd c9 (by decide)) | exact absurd (rfl : (0 : Int32) = 0) (by with_reducible exact c) | exact absurd True.intro (by with_reducible exact c) | exact False.elim (by with_reducible exact c) | (conv => whnf))
      | (refine ⟨by unfold vp_in; decide, ?_⟩ <;> conv => whnf)
      | fail
    all_goals fail
set_option maxRecDepth 100000 in
set_option maxHeartbeats 4000000 in
theorem sm_findLeast {d L : Nat} {f : Nat → Nat → Int32} {g : Nat → Nat → Int64} {w : Int32} {R : Option Value → mH → Prop} (hd : 2 ≤ d) (hX : XI f) (H : ∀ v f' g', (v = 0 ∨ v = 1) → XI f' → fx 200 201 f f' → R (some (.int v)) (shF L, f', g')) : Run mtab d 179 [.ref 181, .int w] (shF L, f, g) R := by
  obtain ⟨d, rfl⟩ : ∃ e, d = e + 1 := ⟨d - 1, by omega⟩
  refine go_X11_findLeast rfl ?_
  conv => whnf
  obtain ⟨n, hm, hb⟩ := inr_nat (n := 40) rfl (xi_181_0 hX)
  obtain ⟨q, hq20, hq⟩ := inr_nat (n := 20) rfl (xi_181_16 hX)
  exact flA_lp (by omega) hm hb hq hq20 H n 0 _ _ _ _ _ (by omega) rfl hX (fx_refl _ _ _)
set_option maxRecDepth 100000 in
set_option maxHeartbeats 4000000 in
theorem fmI_lp {d L n : Nat} {f0 : Nat → Nat → Int32} {M : Nat} {w : Int32} {R : Option Value → mH → Prop} (hd : 1 ≤ d) (hm : n ≤ 20) (h0 : f0 181 16 = nI n) (HO : ∀ (mo' : Int32) (s3 s4 : Option Value) (f' : Nat → Nat → Int32) (g' : Nat → Nat → Int64), XI f' → fx 201 202 f0 f' → (mo' = 0 ∨ md f' < M) → WPe pg_X11_findMost none (Run mtab d) R (m_drop pg_X11_findMost 18) [some (.ref 181), some (.int w), some (.int mo'), s3, s4] [] (shF L, f', g')) (H : ∀ f' g', XI f' → fx 201 202 f0 f' → R none (shF L, f', g'))  :
    ∀ (k i : Nat) (x : Int32) (mo : Int32) (s4 : Option Value) (f : Nat → Nat → Int32) (g : Nat → Nat → Int64), i + k = n → x = nI i → XI f → fx 201 202 f0 f → (md f ≤ M ∧ (mo = 0 ∨ md f < M)) → WPe pg_X11_findMost none (Run mtab d) R (m_drop pg_X11_findMost 24) [some (.ref 181), some (.int w), some (.int mo), some (.int x), s4] [] (shF L, f, g)
  | 0, i, x, mo, s4, f, g, he, hx, hX, hF, hmu => by
    have e : i = n := by omega
    subst hx
    have hcb : f 181 16 = nI n := (hF 181 16 (by omega)).trans h0
    subst e
    refine at_X11_findMost ?_
    conv => whnf
    try simp only [hcb, m_ui_ap, m_fil_ap, m_cpy_ap, Nat.reduceEqDiff, Nat.reduceLT, Nat.reduceLeDiff, eq_self, ↓reduceIte, false_and, and_false, true_and, and_true, and_self]
    refine ⟨fun c => ?_, fun c => absurd (nI_le (Nat.le_refl _) (by omega)) c⟩
    conv => whnf
    repeat' first
      | exact HO _ _ _ _ _ hX hF hmu.2
      | (simp only [hcb, m_ui_ap, m_fil_ap, m_cpy_ap, Nat.reduceEqDiff, Nat.reduceLT, Nat.reduceLeDiff, eq_self, ↓reduceIte, false_and, and_false, true_and, and_true, and_self])
      | ((with_reducible refine ⟨vp_in_nI (by omega) (by decide), ?_⟩) <;> conv => whnf)
      | (refine ⟨Or.inl rfl, ?_⟩ <;> conv => whnf)
      | (refine ⟨Or.inr rfl, ?_⟩ <;> conv => whnf)
      | (refine ⟨Or.inl True.intro, ?_⟩ <;> conv => whnf)
      | (refine ⟨Or.inr True.intro, ?_⟩ <;> conv => whnf)
      | (refine ⟨fun c => ?_, fun c => ?_⟩ <;> first | ((have c9 : (1 : Int32) = 0 := by with_reducible exact c); exact absurd c9 (by decide)) | exact absurd (rfl : (0 : Int32) = 0) (by with_reducible exact c) | exact absurd True.intro (by with_reducible exact c) | exact False.elim (by with_reducible exact c) | (conv => whnf))
      | (refine ⟨by unfold vp_in; decide, ?_⟩ <;> conv => whnf)
      | fail
    all_goals fail
  | k + 1, i, x, mo, s4, f, g, he, hx, hX, hF, hmu => by
    subst hx
    have hcb : f 181 16 = nI n := (hF 181 16 (by omega)).trans h0
    refine at_X11_findMost ?_
    conv => whnf
    try simp only [hcb, m_ui_ap, m_fil_ap, m_cpy_ap, Nat.reduceEqDiff, Nat.reduceLT, Nat.reduceLeDiff, eq_self, ↓reduceIte, false_and, and_false, true_and, and_true, and_self]
    refine ⟨fun c => absurd c (nI_ge (b := n) (by omega) (by omega)), fun c => ?_⟩
    conv => whnf
    repeat' first
      | exact fmI_lp hd hm h0 HO H k (i + 1) _ _ _ _ _ (by omega) (nI_1 i) (by repeat' first | (with_reducible assumption) | (with_reducible refine XI_ui ?_ ?_) | (with_reducible refine XI_fil ?_ (fun _ => ?_)) | (with_reducible refine XI_cpy ?_ (fun _ _ => ?_)) | exact True.intro | ((show inr _ _ _); first | (with_reducible assumption) | (unfold inr; decide)) | fail) (by repeat' first | (with_reducible exact fx_refl _ _ _) | (with_reducible assumption) | (with_reducible refine fx_ui ?_ ?_ ?_) | (with_reducible refine fx_fil ?_ ?_ ?_) | (with_reducible refine fx_cpy ?_ ?_ ?_) | omega | decide | fail) (by first | exact hmu | (have hup := md_up (f := f) (vp_lt (vx_196 hX _)) (by with_reducible assumption); exact ⟨by omega, Or.inr (by omega)⟩))
      | ((with_reducible refine ⟨vx_196 hX _, ?_⟩) <;> conv => whnf)
      | ((with_reducible refine ⟨vx_197 hX _, ?_⟩) <;> conv => whnf)
      | (simp only [hcb, m_ui_ap, m_fil_ap, m_cpy_ap, Nat.reduceEqDiff, Nat.reduceLT, Nat.reduceLeDiff, eq_self, ↓reduceIte, false_and, and_false, true_and, and_true, and_self])
      | ((with_reducible refine ⟨vp_in_nI (by omega) (by decide), ?_⟩) <;> conv => whnf)
      | (refine ⟨Or.inl rfl, ?_⟩ <;> conv => whnf)
      | (refine ⟨Or.inr rfl, ?_⟩ <;> conv => whnf)
      | (refine ⟨Or.inl True.intro, ?_⟩ <;> conv => whnf)
      | (refine ⟨Or.inr True.intro, ?_⟩ <;> conv => whnf)
      | (refine ⟨fun c => ?_, fun c => ?_⟩ <;> first | ((have c9 : (1 : Int32) = 0 := by with_reducible exact c); exact absurd c9 (by decide)) | exact absurd (rfl : (0 : Int32) = 0) (by with_reducible exact c) | exact absurd True.intro (by with_reducible exact c) | exact False.elim (by with_reducible exact c) | (conv => whnf))
      | (refine ⟨by unfold vp_in; decide, ?_⟩ <;> conv => whnf)
      | fail
    all_goals fail
set_option maxRecDepth 100000 in
theorem fmO_lp {d L n : Nat} {f0 : Nat → Nat → Int32} {w : Int32} {R : Option Value → mH → Prop} (hd : 1 ≤ d) (hm : n ≤ 20) (h0 : f0 181 16 = nI n) (H : ∀ f' g', XI f' → fx 201 202 f0 f' → R none (shF L, f', g')) :
    ∀ (N : Nat) (mo : Int32) (s3 s4 : Option Value) (f : Nat → Nat → Int32) (g : Nat → Nat → Int64), XI f → fx 201 202 f0 f → (mo = 0 ∨ md f < N) → WPe pg_X11_findMost none (Run mtab d) R (m_drop pg_X11_findMost 18) [some (.ref 181), some (.int w), some (.int mo), s3, s4] [] (shF L, f, g) := by
  intro N
  induction N with
  | zero =>
    intro mo s3 s4 f g hX hF hmo
    have e : mo = 0 := hmo.resolve_right (by omega)
    subst e
    refine at_X11_findMost ?_
    conv => whnf
    refine ⟨fun _ => ?_, fun c => absurd rfl c⟩
    conv => whnf
    exact H _ _ hX hF
  | succ N ih =>
    intro mo s3 s4 f g hX hF hmo
    refine at_X11_findMost ?_
    conv => whnf
    refine ⟨fun _ => ?_, fun c => ?_⟩
    · conv => whnf
      exact H _ _ hX hF
    · conv => whnf
      have hlt := hmo.resolve_left c
      exact fmI_lp (M := md f) hd hm h0 (fun mo' s3 s4 f' g' hX' hF' hmo' => ih mo' s3 s4 f' g' hX' hF' (hmo'.imp id (fun q => by omega))) H n 0 _ _ _ _ _ (by omega) rfl hX hF ⟨Nat.le_refl _, Or.inl rfl⟩
set_option maxRecDepth 100000 in
set_option maxHeartbeats 4000000 in
theorem fmA_lp {d L n : Nat} {f0 : Nat → Nat → Int32} {w : Int32} {q : Nat} {R : Option Value → mH → Prop} (hd : 1 ≤ d) (hm : n ≤ 40) (h0 : f0 181 0 = nI n) (hq : f0 181 16 = nI q) (hq20 : q ≤ 20) (H : ∀ f' g', XI f' → fx 201 202 f0 f' → R none (shF L, f', g'))  :
    ∀ (k i : Nat) (x : Int32) (s3 : Option Value) (s4 : Option Value) (f : Nat → Nat → Int32) (g : Nat → Nat → Int64), i + k = n → x = nI i → XI f → fx 201 202 f0 f → WPe pg_X11_findMost none (Run mtab d) R (m_drop pg_X11_findMost 2) [some (.ref 181), some (.int w), some (.int x), s3, s4] [] (shF L, f, g)
  | 0, i, x, s3, s4, f, g, he, hx, hX, hF => by
    have e : i = n := by omega
    subst hx
    have hcb : f 181 0 = nI n := (hF 181 0 (by omega)).trans h0
    subst e
    refine at_X11_findMost ?_
    conv => whnf
    try simp only [hcb]
    refine ⟨fun c => ?_, fun c => absurd (nI_le (Nat.le_refl _) (by omega)) c⟩
    conv => whnf
    repeat' first
      | exact fmO_lp (by omega) hq20 hq H (md f + 1) _ _ _ _ _ hX hF (Or.inr (Nat.lt_succ_self _))
      | (simp only [hcb])
      | ((with_reducible refine ⟨vp_in_nI (by omega) (by decide), ?_⟩) <;> conv => whnf)
      | (refine ⟨Or.inl rfl, ?_⟩ <;> conv => whnf)
      | (refine ⟨Or.inr rfl, ?_⟩ <;> conv => whnf)
      | (refine ⟨Or.inl True.intro, ?_⟩ <;> conv => whnf)
      | (refine ⟨Or.inr True.intro, ?_⟩ <;> conv => whnf)
      | (refine ⟨fun c => ?_, fun c => ?_⟩ <;> first | ((have c9 : (1 : Int32) = 0 := by with_reducible exact c); exact absurd c9 (by decide)) | exact absurd (rfl : (0 : Int32) = 0) (by with_reducible exact c) | exact absurd True.intro (by with_reducible exact c) | exact False.elim (by with_reducible exact c) | (conv => whnf))
      | (refine ⟨by unfold vp_in; decide, ?_⟩ <;> conv => whnf)
      | fail
    all_goals fail
  | k + 1, i, x, s3, s4, f, g, he, hx, hX, hF => by
    subst hx
    have hcb : f 181 0 = nI n := (hF 181 0 (by omega)).trans h0
    refine at_X11_findMost ?_
    conv => whnf
    try simp only [hcb]
    refine ⟨fun c => absurd c (nI_ge (b := n) (by omega) (by omega)), fun c => ?_⟩
    conv => whnf
    repeat' first
      | exact fmA_lp hd hm h0 hq hq20 H k (i + 1) _ _ _ _ _ (by omega) (nI_1 i) (by repeat' first | (with_reducible assumption) | (with_reducible refine XI_ui ?_ ?_) | (with_reducible refine XI_fil ?_ (fun _ => ?_)) | (with_reducible refine XI_cpy ?_ (fun _ _ => ?_)) | exact True.intro | ((show inr _ _ _); first | (with_reducible assumption) | (unfold inr; decide)) | fail) (by repeat' first | (with_reducible exact fx_refl _ _ _) | (with_reducible assumption) | (with_reducible refine fx_ui ?_ ?_ ?_) | (with_reducible refine fx_fil ?_ ?_ ?_) | (with_reducible refine fx_cpy ?_ ?_ ?_) | omega | decide | fail)
      | (simp only [hcb])
      | ((with_reducible refine ⟨vp_in_nI (by omega) (by decide), ?_⟩) <;> conv => whnf)
      | (refine ⟨Or.inl rfl, ?_⟩ <;> conv => whnf)
      | (refine ⟨Or.inr rfl, ?_⟩ <;> conv => whnf)
      | (refine ⟨Or.inl True.intro, ?_⟩ <;> conv => whnf)
      | (refine ⟨Or.inr True.intro, ?_⟩ <;> conv => whnf)
      | (refine ⟨fun c => ?_, fun c => ?_⟩ <;> first | ((have c9 : (1 : Int32) = 0 := by with_reducible exact c); exact absurd c9 (by decide)) | exact absurd (rfl : (0 : Int32) = 0) (by with_reducible exact c) | exact absurd True.intro (by with_reducible exact c) | exact False.elim (by with_reducible exact c) | (conv => whnf))
      | (refine ⟨by unfold vp_in; decide, ?_⟩ <;> conv => whnf)
      | fail
    all_goals fail
set_option maxRecDepth 100000 in
set_option maxHeartbeats 4000000 in
theorem sm_findMost {d L : Nat} {f : Nat → Nat → Int32} {g : Nat → Nat → Int64} {w : Int32} {R : Option Value → mH → Prop} (hd : 2 ≤ d) (hX : XI f) (H : ∀ f' g', XI f' → fx 201 202 f f' → R none (shF L, f', g')) : Run mtab d 180 [.ref 181, .int w] (shF L, f, g) R := by
  obtain ⟨d, rfl⟩ : ∃ e, d = e + 1 := ⟨d - 1, by omega⟩
  refine go_X11_findMost rfl ?_
  conv => whnf
  obtain ⟨n, hm, hb⟩ := inr_nat (n := 40) rfl (xi_181_0 hX)
  obtain ⟨q, hq20, hq⟩ := inr_nat (n := 20) rfl (xi_181_16 hX)
  exact fmA_lp (by omega) hm hb hq hq20 H n 0 _ _ _ _ _ (by omega) rfl hX (fx_refl _ _ _)
set_option maxRecDepth 100000 in
set_option maxHeartbeats 4000000 in
theorem sm_fy_lp {d L n : Nat} {f0 : Nat → Nat → Int32}  {R : Option Value → mH → Prop} (hd : 1 ≤ d) (hm : n ≤ 40) (h0 : f0 181 0 = nI n) (H : ∀ f' g', XI f' → fx 200 202 f0 f' → R none (shF L, f', g'))  :
    ∀ (k i : Nat) (x : Int32) (f : Nat → Nat → Int32) (g : Nat → Nat → Int64), i + k = n → x = nI i → XI f → fx 200 202 f0 f → WPe pg_X11_findYears none (Run mtab d) R (m_drop pg_X11_findYears 24) [some (.ref 181), some (.int x)] [] (shF L, f, g)
  | 0, i, x, f, g, he, hx, hX, hF => by
    have e : i = n := by omega
    subst hx
    have hcb : f 181 0 = nI n := (hF 181 0 (by omega)).trans h0
    subst e
    refine at_X11_findYears ?_
    conv => whnf
    try simp only [hcb]
    refine ⟨fun c => ?_, fun c => absurd (nI_le (Nat.le_refl _) (by omega)) c⟩
    conv => whnf
    repeat' first
      | (simp only [hcb])
      | ((with_reducible refine ⟨vp_in_nI (by omega) (by decide), ?_⟩) <;> conv => whnf)
      | (refine ⟨Or.inl rfl, ?_⟩ <;> conv => whnf)
      | (refine ⟨Or.inr rfl, ?_⟩ <;> conv => whnf)
      | (refine ⟨Or.inl True.intro, ?_⟩ <;> conv => whnf)
      | (refine ⟨Or.inr True.intro, ?_⟩ <;> conv => whnf)
      | (refine ⟨fun c => ?_, fun c => ?_⟩ <;> first | ((have c9 : (1 : Int32) = 0 := by with_reducible exact c); exact absurd c9 (by decide)) | exact absurd (rfl : (0 : Int32) = 0) (by with_reducible exact c) | exact absurd True.intro (by with_reducible exact c) | exact False.elim (by with_reducible exact c) | (conv => whnf))
      | (refine ⟨by unfold vp_in; decide, ?_⟩ <;> conv => whnf)
      | fail
    all_goals exact H _ _ hX hF
  | k + 1, i, x, f, g, he, hx, hX, hF => by
    subst hx
    have hcb : f 181 0 = nI n := (hF 181 0 (by omega)).trans h0
    refine at_X11_findYears ?_
    conv => whnf
    try simp only [hcb]
    refine ⟨fun c => absurd c (nI_ge (b := n) (by omega) (by omega)), fun c => ?_⟩
    conv => whnf
    repeat' first
      | exact sm_fy_lp hd hm h0 H k (i + 1) _  _ _ (by omega) (nI_1 i) (by repeat' first | (with_reducible assumption) | (with_reducible refine XI_ui ?_ ?_) | (with_reducible refine XI_fil ?_ (fun _ => ?_)) | (with_reducible refine XI_cpy ?_ (fun _ _ => ?_)) | exact True.intro | ((show inr _ _ _); first | (with_reducible assumption) | (unfold inr; decide)) | fail) (by repeat' first | (with_reducible exact fx_refl _ _ _) | (with_reducible assumption) | (with_reducible refine fx_ui ?_ ?_ ?_) | (with_reducible refine fx_fil ?_ ?_ ?_) | (with_reducible refine fx_cpy ?_ ?_ ?_) | omega | decide | fail)
      | (simp only [hcb])
      | ((with_reducible refine ⟨vp_in_nI (by omega) (by decide), ?_⟩) <;> conv => whnf)
      | (refine ⟨Or.inl rfl, ?_⟩ <;> conv => whnf)
      | (refine ⟨Or.inr rfl, ?_⟩ <;> conv => whnf)
      | (refine ⟨Or.inl True.intro, ?_⟩ <;> conv => whnf)
      | (refine ⟨Or.inr True.intro, ?_⟩ <;> conv => whnf)
      | (refine ⟨fun c => ?_, fun c => ?_⟩ <;> first | ((have c9 : (1 : Int32) = 0 := by with_reducible exact c); exact absurd c9 (by decide)) | exact absurd (rfl : (0 : Int32) = 0) (by with_reducible exact c) | exact absurd True.intro (by with_reducible exact c) | exact False.elim (by with_reducible exact c) | (conv => whnf))
      | (refine ⟨by unfold vp_in; decide, ?_⟩ <;> conv => whnf)
      | fail
    all_goals exact H _ _ hX hF
set_option maxRecDepth 100000 in
set_option maxHeartbeats 4000000 in
theorem sm_findYears {d L : Nat} {f : Nat → Nat → Int32} {g : Nat → Nat → Int64}  {R : Option Value → mH → Prop} (hd : 5 ≤ d) (hX : XI f) (H : ∀ f' g', XI f' → kp [10] f f' → R none (shF L, f', g')) : Run mtab d 181 [.ref 181] (shF L, f, g) R := by
  obtain ⟨d, rfl⟩ : ∃ e, d = e + 1 := ⟨d - 1, by omega⟩
  refine go_X11_findYears rfl ?_
  conv => whnf
  obtain ⟨n, hm, hb⟩ := inr_nat (n := 40) rfl (xi_181_0 hX)
  refine sm_findCounting (by omega) hX (fun v => ?_)
  conv => whnf
  have h1 : XI (m_ui f 181 21 v) := XI_ui hX True.intro
  refine sm_findLeast (by omega) h1 (fun v2 f2 g2 hv2 h2 k2 => ?_)
  have k2' : kp [10] f f2 := kp_trans (kp_ui rfl (kp_refl _ _)) (kp_fx k2 rfl)
  conv => whnf
  refine ⟨fun c => ?_, fun c => ?_⟩
  · conv => whnf
    refine ⟨Or.inl rfl, ?_⟩
    conv => whnf
    refine ⟨fun c => absurd rfl c, fun _ => ?_⟩
    conv => whnf
    refine sm_findMost (by omega) (XI_ui h2 True.intro) (fun f3 g3 h3 k3 => ?_)
    conv => whnf
    exact H _ _ h3 (kp_trans (kp_ui rfl k2') (kp_fx k3 rfl))
  · conv => whnf
    refine ⟨Or.inr rfl, ?_⟩
    conv => whnf
    refine ⟨fun _ => ?_, fun c => absurd (show (1 : Int32) = 0 from c) (by decide)⟩
    conv => whnf
    exact sm_fy_lp (f0 := m_ui f2 181 24 1) (by omega) hm ((k2 181 0 (by omega)).trans hb) (fun f' g' a b => H f' g' a (kp_trans (kp_ui rfl k2') (kp_fx b rfl))) n 0 _ _ _ (by omega) rfl (XI_ui h2 True.intro) (fx_refl _ _ _)
set_option maxRecDepth 100000 in
set_option maxHeartbeats 4000000 in
theorem sm_refresh {d L : Nat} {f : Nat → Nat → Int32} {g : Nat → Nat → Int64}  {R : Option Value → mH → Prop} (hd : 6 ≤ d) (hX : XI f) (H : ∀ f' g', XI f' → kp [10] f f' → R none (shF L, f', g')) : Run mtab d 206 [.ref 181] (shF L, f, g) R := by
  obtain ⟨d, rfl⟩ : ∃ e, d = e + 1 := ⟨d - 1, by omega⟩
  refine go_X11_refresh rfl ?_
  conv => whnf
  refine ⟨fun c => ?_, fun c => ?_⟩
  · conv => whnf
    exact H _ _ hX (kp_refl _ _)
  · conv => whnf
    refine ⟨Or.inr rfl, ?_⟩
    conv => whnf
    refine ⟨Or.inl rfl, ?_⟩
    conv => whnf
    refine sm_findYears (by omega) (XI_ui (XI_ui hX True.intro) True.intro) (fun f1 g1 h1 k1 => ?_)
    conv => whnf
    exact H _ _ h1 (kp_trans (kp_ui rfl (kp_ui rfl (kp_refl _ _))) k1)
set_option maxRecDepth 100000 in
set_option maxHeartbeats 4000000 in
theorem sm_made {d L : Nat} {f : Nat → Nat → Int32} {g : Nat → Nat → Int64} {x1 x2 : Int32} {R : Option Value → mH → Prop} (hd : 9 ≤ d) (hX : XI f) (H : ∀ v f' g', XI f' → kp [10] f f' → R (some (.int v)) (shF L, f', g')) : Run mtab d 182 [.ref 181, .int x1, .int x2] (shF L, f, g) R := by
  obtain ⟨d, rfl⟩ : ∃ e, d = e + 1 := ⟨d - 1, by omega⟩
  refine go_X11_made rfl ?_
  conv => whnf
  obtain ⟨n, hm, hb⟩ := inr_nat (n := 40) rfl (xi_181_0 hX)
  repeat' first
    | ((with_reducible refine ⟨vp_in_nI (by omega) (by decide), ?_⟩) <;> conv => whnf)
    | (refine ⟨Or.inl rfl, ?_⟩ <;> conv => whnf)
    | (refine ⟨Or.inr rfl, ?_⟩ <;> conv => whnf)
    | (refine ⟨Or.inl True.intro, ?_⟩ <;> conv => whnf)
    | (refine ⟨Or.inr True.intro, ?_⟩ <;> conv => whnf)
    | (refine ⟨fun c => ?_, fun c => ?_⟩ <;> first | ((have c9 : (1 : Int32) = 0 := by with_reducible exact c); exact absurd c9 (by decide)) | exact absurd (rfl : (0 : Int32) = 0) (by with_reducible exact c) | exact absurd True.intro (by with_reducible exact c) | exact False.elim (by with_reducible exact c) | (conv => whnf))
    | (refine ct_mIsWork (by omega) hb hm (fun j hj e => ?_) (fun q => ?_) <;> (try subst e) <;> conv => whnf)
    | ((with_reducible refine ct_i_0_1 (by omega) (fun p => ?_) (fun p => ?_)) <;> conv => whnf)
    | (refine sm_refresh (by omega) hX (fun f1 g1 h1 k1 => ?_) <;> conv => whnf)
    | (refine ⟨by unfold vp_in; decide, ?_⟩ <;> conv => whnf)
    | fail
  all_goals exact H _ _ _ (by repeat' first | (with_reducible assumption) | (with_reducible refine XI_ui ?_ ?_) | (with_reducible refine XI_fil ?_ (fun _ => ?_)) | (with_reducible refine XI_cpy ?_ (fun _ _ => ?_)) | exact True.intro | ((show inr _ _ _); first | (with_reducible assumption) | (unfold inr; decide)) | fail) (by repeat' first | (with_reducible exact kp_refl _ _) | (with_reducible assumption) | (with_reducible refine kp_ui ?_ ?_) | (with_reducible refine kp_fil ?_ ?_) | (with_reducible refine kp_cpy ?_ ?_) | (refine kp_trans ?_ (kp_wd k1 rfl)) | (refine kp_trans ?_ (kp_fx k1 rfl)) | rfl | fail)
set_option maxRecDepth 100000 in
set_option maxHeartbeats 4000000 in
theorem sm_quarrel {d L : Nat} {f : Nat → Nat → Int32} {g : Nat → Nat → Int64}  {R : Option Value → mH → Prop} (hd : 9 ≤ d) (hX : XI f) (H : ∀ v f' g', XI f' → kp [10] f f' → R (some (.int v)) (shF L, f', g')) : Run mtab d 183 [.ref 181] (shF L, f, g) R := by
  obtain ⟨d, rfl⟩ : ∃ e, d = e + 1 := ⟨d - 1, by omega⟩
  refine go_X11_quarrel rfl ?_
  conv => whnf
  repeat' first
    | ((with_reducible refine ⟨vp_in_nI (by omega) (by decide), ?_⟩) <;> conv => whnf)
    | (refine ⟨Or.inl rfl, ?_⟩ <;> conv => whnf)
    | (refine ⟨Or.inr rfl, ?_⟩ <;> conv => whnf)
    | (refine ⟨Or.inl True.intro, ?_⟩ <;> conv => whnf)
    | (refine ⟨Or.inr True.intro, ?_⟩ <;> conv => whnf)
    | (refine ⟨fun c => ?_, fun c => ?_⟩ <;> first | ((have c9 : (1 : Int32) = 0 := by with_reducible exact c); exact absurd c9 (by decide)) | exact absurd (rfl : (0 : Int32) = 0) (by with_reducible exact c) | exact absurd True.intro (by with_reducible exact c) | exact False.elim (by with_reducible exact c) | (conv => whnf))
    | (refine sm_refresh (by omega) hX (fun f1 g1 h1 k1 => ?_) <;> conv => whnf)
    | (refine ⟨by unfold vp_in; decide, ?_⟩ <;> conv => whnf)
    | fail
  all_goals exact H _ _ _ (by repeat' first | (with_reducible assumption) | (with_reducible refine XI_ui ?_ ?_) | (with_reducible refine XI_fil ?_ (fun _ => ?_)) | (with_reducible refine XI_cpy ?_ (fun _ _ => ?_)) | exact True.intro | ((show inr _ _ _); first | (with_reducible assumption) | (unfold inr; decide)) | fail) (by repeat' first | (with_reducible exact kp_refl _ _) | (with_reducible assumption) | (with_reducible refine kp_ui ?_ ?_) | (with_reducible refine kp_fil ?_ ?_) | (with_reducible refine kp_cpy ?_ ?_) | (refine kp_trans ?_ (kp_wd k1 rfl)) | (refine kp_trans ?_ (kp_fx k1 rfl)) | rfl | fail)
set_option maxRecDepth 100000 in
set_option maxHeartbeats 4000000 in
theorem sm_countsAt {d L : Nat} {f : Nat → Nat → Int32} {g : Nat → Nat → Int64} {w : Int32} {R : Option Value → mH → Prop} (hd : 1 ≤ d) (hX : XI f) (H : ∀ v, (v = 0 ∨ v = 1) → R (some (.int v)) (shF L, f, g)) : Run mtab d 185 [.ref 181, .int w] (shF L, f, g) R := by
  obtain ⟨d, rfl⟩ : ∃ e, d = e + 1 := ⟨d - 1, by omega⟩
  refine go_X11_countsAt rfl ?_
  conv => whnf
  repeat' first
    | ((with_reducible refine ⟨vp_in_nI (by omega) (by decide), ?_⟩) <;> conv => whnf)
    | (refine ⟨Or.inl rfl, ?_⟩ <;> conv => whnf)
    | (refine ⟨Or.inr rfl, ?_⟩ <;> conv => whnf)
    | (refine ⟨Or.inl True.intro, ?_⟩ <;> conv => whnf)
    | (refine ⟨Or.inr True.intro, ?_⟩ <;> conv => whnf)
    | (refine ⟨fun c => ?_, fun c => ?_⟩ <;> first | ((have c9 : (1 : Int32) = 0 := by with_reducible exact c); exact absurd c9 (by decide)) | exact absurd (rfl : (0 : Int32) = 0) (by with_reducible exact c) | exact absurd True.intro (by with_reducible exact c) | exact False.elim (by with_reducible exact c) | (conv => whnf))
    | (refine ⟨by unfold vp_in; decide, ?_⟩ <;> conv => whnf)
    | fail
  all_goals first | exact ⟨Or.inl rfl, H _ (Or.inl rfl)⟩ | exact ⟨Or.inr rfl, H _ (Or.inr rfl)⟩ | exact H _ (Or.inl rfl) | exact H _ (Or.inr rfl)
set_option maxRecDepth 100000 in
set_option maxHeartbeats 4000000 in
theorem sm_isWell {d L : Nat} {f : Nat → Nat → Int32} {g : Nat → Nat → Int64} {w : Int32} {R : Option Value → mH → Prop} (hd : 3 ≤ d) (hX : XI f) (H : ∀ v f' g', (v = 0 ∨ v = 1) → XI f' → fx 200 201 f f' → R (some (.int v)) (shF L, f', g')) : Run mtab d 184 [.ref 181, .int w] (shF L, f, g) R := by
  obtain ⟨d, rfl⟩ : ∃ e, d = e + 1 := ⟨d - 1, by omega⟩
  refine go_X11_isWell rfl ?_
  conv => whnf
  refine sm_findLeast (by omega) hX (fun v f1 g1 hv h1 k1 => ?_)
  conv => whnf
  exact ⟨hv, H _ _ _ hv h1 k1⟩
set_option maxRecDepth 100000 in
set_option maxHeartbeats 4000000 in
theorem sm_a3_lp {d L n : Nat} {f0 : Nat → Nat → Int32} {p q : Nat} {R : Option Value → mH → Prop} (hd : 3 ≤ d) (hm : n ≤ 20) (h0 : f0 181 16 = nI n) (HO2 : ∀ (x' : Int32) (s3 : Option Value) (f' : Nat → Nat → Int32) (g' : Nat → Nat → Int64), x' = nI (q + 1) → XI f' → fx 200 203 f0 f' → WPe pg_X11_findAsides none (Run mtab d) R (m_drop pg_X11_findAsides 89) [some (.ref 181), some (.int (nI p)), some (.int x'), s3] [] (shF L, f', g')) (H : ∀ v f' g', (v = -4 ∨ ∃ s, s ≤ 3 ∧ v = nI s) → XI f' → fx 200 203 f0 f' → R (some (.int v)) (shF L, f', g'))  :
    ∀ (k i : Nat) (x : Int32) (f : Nat → Nat → Int32) (g : Nat → Nat → Int64), i + k = n → x = nI i → XI f → fx 200 203 f0 f → WPe pg_X11_findAsides none (Run mtab d) R (m_drop pg_X11_findAsides 97) [some (.ref 181), some (.int (nI p)), some (.int (nI q)), some (.int x)] [] (shF L, f, g)
  | 0, i, x, f, g, he, hx, hX, hF => by
    have e : i = n := by omega
    subst hx
    have hcb : f 181 16 = nI n := (hF 181 16 (by omega)).trans h0
    subst e
    refine at_X11_findAsides ?_
    conv => whnf
    try simp only [hcb]
    refine ⟨fun c => ?_, fun c => absurd (nI_le (Nat.le_refl _) (by omega)) c⟩
    conv => whnf
    repeat' first
      | exact HO2 _ _ _ _ (nI_1 q) hX hF
      | (simp only [hcb])
      | ((with_reducible refine ⟨vp_in_nI (by omega) (by decide), ?_⟩) <;> conv => whnf)
      | (refine ⟨Or.inl rfl, ?_⟩ <;> conv => whnf)
      | (refine ⟨Or.inr rfl, ?_⟩ <;> conv => whnf)
      | (refine ⟨Or.inl True.intro, ?_⟩ <;> conv => whnf)
      | (refine ⟨Or.inr True.intro, ?_⟩ <;> conv => whnf)
      | (refine ⟨fun c => ?_, fun c => ?_⟩ <;> first | ((have c9 : (1 : Int32) = 0 := by with_reducible exact c); exact absurd c9 (by decide)) | exact absurd (rfl : (0 : Int32) = 0) (by with_reducible exact c) | exact absurd True.intro (by with_reducible exact c) | exact False.elim (by with_reducible exact c) | (conv => whnf))
      | (refine ⟨by unfold vp_in; decide, ?_⟩ <;> conv => whnf)
      | fail
    all_goals exact H _ _ _ (Or.inr ⟨3, by omega, rfl⟩) (by repeat' first | (with_reducible assumption) | (with_reducible refine XI_ui ?_ ?_) | (with_reducible refine XI_fil ?_ (fun _ => ?_)) | (with_reducible refine XI_cpy ?_ (fun _ _ => ?_)) | exact True.intro | ((show inr _ _ _); first | (with_reducible assumption) | (unfold inr; decide)) | fail) (by repeat' first | (with_reducible exact fx_refl _ _ _) | (with_reducible assumption) | (with_reducible refine fx_ui ?_ ?_ ?_) | (with_reducible refine fx_fil ?_ ?_ ?_) | (with_reducible refine fx_cpy ?_ ?_ ?_) | omega | decide | fail)
  | k + 1, i, x, f, g, he, hx, hX, hF => by
    subst hx
    have hcb : f 181 16 = nI n := (hF 181 16 (by omega)).trans h0
    refine at_X11_findAsides ?_
    conv => whnf
    try simp only [hcb]
    refine ⟨fun c => absurd c (nI_ge (b := n) (by omega) (by omega)), fun c => ?_⟩
    conv => whnf
    repeat' first
      | exact sm_a3_lp hd hm h0 HO2 H k (i + 1) _  _ _ (by omega) (nI_1 i) (by repeat' first | (with_reducible assumption) | (with_reducible refine XI_ui ?_ ?_) | (with_reducible refine XI_fil ?_ (fun _ => ?_)) | (with_reducible refine XI_cpy ?_ (fun _ _ => ?_)) | exact True.intro | ((show inr _ _ _); first | (with_reducible assumption) | (unfold inr; decide)) | fail) (by repeat' first | (with_reducible exact fx_refl _ _ _) | (with_reducible assumption) | (with_reducible refine fx_ui ?_ ?_ ?_) | (with_reducible refine fx_fil ?_ ?_ ?_) | (with_reducible refine fx_cpy ?_ ?_ ?_) | omega | decide | fail)
      | (simp only [hcb])
      | ((with_reducible refine ⟨vp_in_nI (by omega) (by decide), ?_⟩) <;> conv => whnf)
      | (refine ⟨Or.inl rfl, ?_⟩ <;> conv => whnf)
      | (refine ⟨Or.inr rfl, ?_⟩ <;> conv => whnf)
      | (refine ⟨Or.inl True.intro, ?_⟩ <;> conv => whnf)
      | (refine ⟨Or.inr True.intro, ?_⟩ <;> conv => whnf)
      | (refine ⟨fun c => ?_, fun c => ?_⟩ <;> first | ((have c9 : (1 : Int32) = 0 := by with_reducible exact c); exact absurd c9 (by decide)) | exact absurd (rfl : (0 : Int32) = 0) (by with_reducible exact c) | exact absurd True.intro (by with_reducible exact c) | exact False.elim (by with_reducible exact c) | (conv => whnf))
      | (refine sm_countsAt (by omega) hX (fun v hv => ?_) <;> conv => whnf)
      | (refine sm_isWell (by omega) hX (fun v f1 g1 hv h1 k1 => ?_) <;> (have k1' : fx 200 203 f0 f1 := fx_trans hF (fx_wide k1 (by omega) (by omega))) <;> conv => whnf)
      | (refine ⟨by unfold vp_in; decide, ?_⟩ <;> conv => whnf)
      | fail
    all_goals exact H _ _ _ (Or.inr ⟨3, by omega, rfl⟩) (by repeat' first | (with_reducible assumption) | (with_reducible refine XI_ui ?_ ?_) | (with_reducible refine XI_fil ?_ (fun _ => ?_)) | (with_reducible refine XI_cpy ?_ (fun _ _ => ?_)) | exact True.intro | ((show inr _ _ _); first | (with_reducible assumption) | (unfold inr; decide)) | fail) (by repeat' first | (with_reducible exact fx_refl _ _ _) | (with_reducible assumption) | (with_reducible refine fx_ui ?_ ?_ ?_) | (with_reducible refine fx_fil ?_ ?_ ?_) | (with_reducible refine fx_cpy ?_ ?_ ?_) | omega | decide | fail)
set_option maxRecDepth 100000 in
set_option maxHeartbeats 4000000 in
theorem sm_a2_lp {d L n : Nat} {f0 : Nat → Nat → Int32} {p : Nat} {R : Option Value → mH → Prop} (hd : 3 ≤ d) (hm : n ≤ 20) (h0 : f0 181 16 = nI n) (HO1 : ∀ (x' : Int32) (s2 s3 : Option Value) (f' : Nat → Nat → Int32) (g' : Nat → Nat → Int64), x' = nI (p + 1) → XI f' → fx 200 203 f0 f' → WPe pg_X11_findAsides none (Run mtab d) R (m_drop pg_X11_findAsides 81) [some (.ref 181), some (.int x'), s2, s3] [] (shF L, f', g')) (H : ∀ v f' g', (v = -4 ∨ ∃ s, s ≤ 3 ∧ v = nI s) → XI f' → fx 200 203 f0 f' → R (some (.int v)) (shF L, f', g'))  :
    ∀ (k i : Nat) (x : Int32) (s3 : Option Value) (f : Nat → Nat → Int32) (g : Nat → Nat → Int64), i + k = n → x = nI i → XI f → fx 200 203 f0 f → WPe pg_X11_findAsides none (Run mtab d) R (m_drop pg_X11_findAsides 89) [some (.ref 181), some (.int (nI p)), some (.int x), s3] [] (shF L, f, g)
  | 0, i, x, s3, f, g, he, hx, hX, hF => by
    have e : i = n := by omega
    subst hx
    have hcb : f 181 16 = nI n := (hF 181 16 (by omega)).trans h0
    subst e
    refine at_X11_findAsides ?_
    conv => whnf
    try simp only [hcb]
    refine ⟨fun c => ?_, fun c => absurd (nI_le (Nat.le_refl _) (by omega)) c⟩
    conv => whnf
    repeat' first
      | exact HO1 _ _ _ _ _ (nI_1 p) hX hF
      | (simp only [hcb])
      | ((with_reducible refine ⟨vp_in_nI (by omega) (by decide), ?_⟩) <;> conv => whnf)
      | (refine ⟨Or.inl rfl, ?_⟩ <;> conv => whnf)
      | (refine ⟨Or.inr rfl, ?_⟩ <;> conv => whnf)
      | (refine ⟨Or.inl True.intro, ?_⟩ <;> conv => whnf)
      | (refine ⟨Or.inr True.intro, ?_⟩ <;> conv => whnf)
      | (refine ⟨fun c => ?_, fun c => ?_⟩ <;> first | ((have c9 : (1 : Int32) = 0 := by with_reducible exact c); exact absurd c9 (by decide)) | exact absurd (rfl : (0 : Int32) = 0) (by with_reducible exact c) | exact absurd True.intro (by with_reducible exact c) | exact False.elim (by with_reducible exact c) | (conv => whnf))
      | (refine ⟨by unfold vp_in; decide, ?_⟩ <;> conv => whnf)
      | fail
    all_goals fail
  | k + 1, i, x, s3, f, g, he, hx, hX, hF => by
    subst hx
    have hcb : f 181 16 = nI n := (hF 181 16 (by omega)).trans h0
    refine at_X11_findAsides ?_
    conv => whnf
    try simp only [hcb]
    refine ⟨fun c => absurd c (nI_ge (b := n) (by omega) (by omega)), fun c => ?_⟩
    conv => whnf
    repeat' first
      | exact sm_a2_lp hd hm h0 HO1 H k (i + 1) _ _ _ _ (by omega) (nI_1 i) (by repeat' first | (with_reducible assumption) | (with_reducible refine XI_ui ?_ ?_) | (with_reducible refine XI_fil ?_ (fun _ => ?_)) | (with_reducible refine XI_cpy ?_ (fun _ _ => ?_)) | exact True.intro | ((show inr _ _ _); first | (with_reducible assumption) | (unfold inr; decide)) | fail) (by repeat' first | (with_reducible exact fx_refl _ _ _) | (with_reducible assumption) | (with_reducible refine fx_ui ?_ ?_ ?_) | (with_reducible refine fx_fil ?_ ?_ ?_) | (with_reducible refine fx_cpy ?_ ?_ ?_) | omega | decide | fail)
      | (rw [nI_1]; exact sm_a3_lp (p := p) (q := i) hd hm h0 (fun x' s3 f' g' hx' hX' hF' => sm_a2_lp hd hm h0 HO1 H k (i + 1) x' s3 f' g' (by omega) hx' hX' hF') H (n - (i + 1)) (i + 1) _ _ _ (by omega) rfl hX hF)
      | (simp only [hcb])
      | ((with_reducible refine ⟨vp_in_nI (by omega) (by decide), ?_⟩) <;> conv => whnf)
      | (refine ⟨Or.inl rfl, ?_⟩ <;> conv => whnf)
      | (refine ⟨Or.inr rfl, ?_⟩ <;> conv => whnf)
      | (refine ⟨Or.inl True.intro, ?_⟩ <;> conv => whnf)
      | (refine ⟨Or.inr True.intro, ?_⟩ <;> conv => whnf)
      | (refine ⟨fun c => ?_, fun c => ?_⟩ <;> first | ((have c9 : (1 : Int32) = 0 := by with_reducible exact c); exact absurd c9 (by decide)) | exact absurd (rfl : (0 : Int32) = 0) (by with_reducible exact c) | exact absurd True.intro (by with_reducible exact c) | exact False.elim (by with_reducible exact c) | (conv => whnf))
      | (refine ⟨by unfold vp_in; decide, ?_⟩ <;> conv => whnf)
      | fail
    all_goals fail
set_option maxRecDepth 100000 in
set_option maxHeartbeats 4000000 in
theorem sm_a1_lp {d L n : Nat} {f0 : Nat → Nat → Int32}  {R : Option Value → mH → Prop} (hd : 3 ≤ d) (hm : n ≤ 20) (h0 : f0 181 16 = nI n) (H : ∀ v f' g', (v = -4 ∨ ∃ s, s ≤ 3 ∧ v = nI s) → XI f' → fx 200 203 f0 f' → R (some (.int v)) (shF L, f', g'))  :
    ∀ (k i : Nat) (x : Int32) (s2 : Option Value) (s3 : Option Value) (f : Nat → Nat → Int32) (g : Nat → Nat → Int64), i + k = n → x = nI i → XI f → fx 200 203 f0 f → WPe pg_X11_findAsides none (Run mtab d) R (m_drop pg_X11_findAsides 81) [some (.ref 181), some (.int x), s2, s3] [] (shF L, f, g)
  | 0, i, x, s2, s3, f, g, he, hx, hX, hF => by
    have e : i = n := by omega
    subst hx
    have hcb : f 181 16 = nI n := (hF 181 16 (by omega)).trans h0
    subst e
    refine at_X11_findAsides ?_
    conv => whnf
    try simp only [hcb]
    refine ⟨fun c => ?_, fun c => absurd (nI_le (Nat.le_refl _) (by omega)) c⟩
    conv => whnf
    repeat' first
      | (simp only [hcb])
      | ((with_reducible refine ⟨vp_in_nI (by omega) (by decide), ?_⟩) <;> conv => whnf)
      | (refine ⟨Or.inl rfl, ?_⟩ <;> conv => whnf)
      | (refine ⟨Or.inr rfl, ?_⟩ <;> conv => whnf)
      | (refine ⟨Or.inl True.intro, ?_⟩ <;> conv => whnf)
      | (refine ⟨Or.inr True.intro, ?_⟩ <;> conv => whnf)
      | (refine ⟨fun c => ?_, fun c => ?_⟩ <;> first | ((have c9 : (1 : Int32) = 0 := by with_reducible exact c); exact absurd c9 (by decide)) | exact absurd (rfl : (0 : Int32) = 0) (by with_reducible exact c) | exact absurd True.intro (by with_reducible exact c) | exact False.elim (by with_reducible exact c) | (conv => whnf))
      | (refine ⟨by unfold vp_in; decide, ?_⟩ <;> conv => whnf)
      | fail
    all_goals exact H _ _ _ (Or.inl rfl) hX hF
  | k + 1, i, x, s2, s3, f, g, he, hx, hX, hF => by
    subst hx
    have hcb : f 181 16 = nI n := (hF 181 16 (by omega)).trans h0
    refine at_X11_findAsides ?_
    conv => whnf
    try simp only [hcb]
    refine ⟨fun c => absurd c (nI_ge (b := n) (by omega) (by omega)), fun c => ?_⟩
    conv => whnf
    repeat' first
      | exact sm_a1_lp hd hm h0 H k (i + 1) _ _ _ _ _ (by omega) (nI_1 i) (by repeat' first | (with_reducible assumption) | (with_reducible refine XI_ui ?_ ?_) | (with_reducible refine XI_fil ?_ (fun _ => ?_)) | (with_reducible refine XI_cpy ?_ (fun _ _ => ?_)) | exact True.intro | ((show inr _ _ _); first | (with_reducible assumption) | (unfold inr; decide)) | fail) (by repeat' first | (with_reducible exact fx_refl _ _ _) | (with_reducible assumption) | (with_reducible refine fx_ui ?_ ?_ ?_) | (with_reducible refine fx_fil ?_ ?_ ?_) | (with_reducible refine fx_cpy ?_ ?_ ?_) | omega | decide | fail)
      | (rw [nI_1]; exact sm_a2_lp (p := i) hd hm h0 (fun x' s2 s3 f' g' hx' hX' hF' => sm_a1_lp hd hm h0 H k (i + 1) x' s2 s3 f' g' (by omega) hx' hX' hF') H (n - (i + 1)) (i + 1) _ _ _ _ (by omega) rfl hX hF)
      | (simp only [hcb])
      | ((with_reducible refine ⟨vp_in_nI (by omega) (by decide), ?_⟩) <;> conv => whnf)
      | (refine ⟨Or.inl rfl, ?_⟩ <;> conv => whnf)
      | (refine ⟨Or.inr rfl, ?_⟩ <;> conv => whnf)
      | (refine ⟨Or.inl True.intro, ?_⟩ <;> conv => whnf)
      | (refine ⟨Or.inr True.intro, ?_⟩ <;> conv => whnf)
      | (refine ⟨fun c => ?_, fun c => ?_⟩ <;> first | ((have c9 : (1 : Int32) = 0 := by with_reducible exact c); exact absurd c9 (by decide)) | exact absurd (rfl : (0 : Int32) = 0) (by with_reducible exact c) | exact absurd True.intro (by with_reducible exact c) | exact False.elim (by with_reducible exact c) | (conv => whnf))
      | (refine ⟨by unfold vp_in; decide, ?_⟩ <;> conv => whnf)
      | fail
    all_goals exact H _ _ _ (Or.inl rfl) hX hF
set_option maxRecDepth 100000 in
set_option maxHeartbeats 4000000 in
theorem sm_b2_lp {d L n : Nat} {f0 : Nat → Nat → Int32} {p : Nat} {R : Option Value → mH → Prop} (hd : 3 ≤ d) (hm : n ≤ 20) (h0 : f0 181 16 = nI n) (HO1 : ∀ (x' : Int32) (s2 s3 : Option Value) (f' : Nat → Nat → Int32) (g' : Nat → Nat → Int64), x' = nI (p + 1) → XI f' → fx 200 203 f0 f' → WPe pg_X11_findAsides none (Run mtab d) R (m_drop pg_X11_findAsides 33) [some (.ref 181), some (.int x'), s2, s3] [] (shF L, f', g')) (H : ∀ v f' g', (v = -4 ∨ ∃ s, s ≤ 3 ∧ v = nI s) → XI f' → fx 200 203 f0 f' → R (some (.int v)) (shF L, f', g'))  :
    ∀ (k i : Nat) (x : Int32) (s3 : Option Value) (f : Nat → Nat → Int32) (g : Nat → Nat → Int64), i + k = n → x = nI i → XI f → fx 200 203 f0 f → WPe pg_X11_findAsides none (Run mtab d) R (m_drop pg_X11_findAsides 41) [some (.ref 181), some (.int (nI p)), some (.int x), s3] [] (shF L, f, g)
  | 0, i, x, s3, f, g, he, hx, hX, hF => by
    have e : i = n := by omega
    subst hx
    have hcb : f 181 16 = nI n := (hF 181 16 (by omega)).trans h0
    subst e
    refine at_X11_findAsides ?_
    conv => whnf
    try simp only [hcb]
    refine ⟨fun c => ?_, fun c => absurd (nI_le (Nat.le_refl _) (by omega)) c⟩
    conv => whnf
    repeat' first
      | exact HO1 _ _ _ _ _ (nI_1 p) hX hF
      | (simp only [hcb])
      | ((with_reducible refine ⟨vp_in_nI (by omega) (by decide), ?_⟩) <;> conv => whnf)
      | (refine ⟨Or.inl rfl, ?_⟩ <;> conv => whnf)
      | (refine ⟨Or.inr rfl, ?_⟩ <;> conv => whnf)
      | (refine ⟨Or.inl True.intro, ?_⟩ <;> conv => whnf)
      | (refine ⟨Or.inr True.intro, ?_⟩ <;> conv => whnf)
      | (refine ⟨fun c => ?_, fun c => ?_⟩ <;> first | ((have c9 : (1 : Int32) = 0 := by with_reducible exact c); exact absurd c9 (by decide)) | exact absurd (rfl : (0 : Int32) = 0) (by with_reducible exact c) | exact absurd True.intro (by with_reducible exact c) | exact False.elim (by with_reducible exact c) | (conv => whnf))
      | (refine ⟨by unfold vp_in; decide, ?_⟩ <;> conv => whnf)
      | fail
    all_goals exact H _ _ _ (Or.inr ⟨2, by omega, rfl⟩) (by repeat' first | (with_reducible assumption) | (with_reducible refine XI_ui ?_ ?_) | (with_reducible refine XI_fil ?_ (fun _ => ?_)) | (with_reducible refine XI_cpy ?_ (fun _ _ => ?_)) | exact True.intro | ((show inr _ _ _); first | (with_reducible assumption) | (unfold inr; decide)) | fail) (by repeat' first | (with_reducible exact fx_refl _ _ _) | (with_reducible assumption) | (with_reducible refine fx_ui ?_ ?_ ?_) | (with_reducible refine fx_fil ?_ ?_ ?_) | (with_reducible refine fx_cpy ?_ ?_ ?_) | omega | decide | fail)
  | k + 1, i, x, s3, f, g, he, hx, hX, hF => by
    subst hx
    have hcb : f 181 16 = nI n := (hF 181 16 (by omega)).trans h0
    refine at_X11_findAsides ?_
    conv => whnf
    try simp only [hcb]
    refine ⟨fun c => absurd c (nI_ge (b := n) (by omega) (by omega)), fun c => ?_⟩
    conv => whnf
    repeat' first
      | exact sm_b2_lp hd hm h0 HO1 H k (i + 1) _ _ _ _ (by omega) (nI_1 i) (by repeat' first | (with_reducible assumption) | (with_reducible refine XI_ui ?_ ?_) | (with_reducible refine XI_fil ?_ (fun _ => ?_)) | (with_reducible refine XI_cpy ?_ (fun _ _ => ?_)) | exact True.intro | ((show inr _ _ _); first | (with_reducible assumption) | (unfold inr; decide)) | fail) (by repeat' first | (with_reducible exact fx_refl _ _ _) | (with_reducible assumption) | (with_reducible refine fx_ui ?_ ?_ ?_) | (with_reducible refine fx_fil ?_ ?_ ?_) | (with_reducible refine fx_cpy ?_ ?_ ?_) | omega | decide | fail)
      | (simp only [hcb])
      | ((with_reducible refine ⟨vp_in_nI (by omega) (by decide), ?_⟩) <;> conv => whnf)
      | (refine ⟨Or.inl rfl, ?_⟩ <;> conv => whnf)
      | (refine ⟨Or.inr rfl, ?_⟩ <;> conv => whnf)
      | (refine ⟨Or.inl True.intro, ?_⟩ <;> conv => whnf)
      | (refine ⟨Or.inr True.intro, ?_⟩ <;> conv => whnf)
      | (refine ⟨fun c => ?_, fun c => ?_⟩ <;> first | ((have c9 : (1 : Int32) = 0 := by with_reducible exact c); exact absurd c9 (by decide)) | exact absurd (rfl : (0 : Int32) = 0) (by with_reducible exact c) | exact absurd True.intro (by with_reducible exact c) | exact False.elim (by with_reducible exact c) | (conv => whnf))
      | (refine sm_countsAt (by omega) hX (fun v hv => ?_) <;> conv => whnf)
      | (refine sm_isWell (by omega) hX (fun v f1 g1 hv h1 k1 => ?_) <;> (have k1' : fx 200 203 f0 f1 := fx_trans hF (fx_wide k1 (by omega) (by omega))) <;> conv => whnf)
      | (refine ⟨by unfold vp_in; decide, ?_⟩ <;> conv => whnf)
      | fail
    all_goals exact H _ _ _ (Or.inr ⟨2, by omega, rfl⟩) (by repeat' first | (with_reducible assumption) | (with_reducible refine XI_ui ?_ ?_) | (with_reducible refine XI_fil ?_ (fun _ => ?_)) | (with_reducible refine XI_cpy ?_ (fun _ _ => ?_)) | exact True.intro | ((show inr _ _ _); first | (with_reducible assumption) | (unfold inr; decide)) | fail) (by repeat' first | (with_reducible exact fx_refl _ _ _) | (with_reducible assumption) | (with_reducible refine fx_ui ?_ ?_ ?_) | (with_reducible refine fx_fil ?_ ?_ ?_) | (with_reducible refine fx_cpy ?_ ?_ ?_) | omega | decide | fail)
set_option maxRecDepth 100000 in
set_option maxHeartbeats 4000000 in
theorem sm_b1_lp {d L n : Nat} {f0 : Nat → Nat → Int32}  {R : Option Value → mH → Prop} (hd : 3 ≤ d) (hm : n ≤ 20) (h0 : f0 181 16 = nI n) (H : ∀ v f' g', (v = -4 ∨ ∃ s, s ≤ 3 ∧ v = nI s) → XI f' → fx 200 203 f0 f' → R (some (.int v)) (shF L, f', g'))  :
    ∀ (k i : Nat) (x : Int32) (s2 : Option Value) (s3 : Option Value) (f : Nat → Nat → Int32) (g : Nat → Nat → Int64), i + k = n → x = nI i → XI f → fx 200 203 f0 f → WPe pg_X11_findAsides none (Run mtab d) R (m_drop pg_X11_findAsides 33) [some (.ref 181), some (.int x), s2, s3] [] (shF L, f, g)
  | 0, i, x, s2, s3, f, g, he, hx, hX, hF => by
    have e : i = n := by omega
    subst hx
    have hcb : f 181 16 = nI n := (hF 181 16 (by omega)).trans h0
    subst e
    refine at_X11_findAsides ?_
    conv => whnf
    try simp only [hcb]
    refine ⟨fun c => ?_, fun c => absurd (nI_le (Nat.le_refl _) (by omega)) c⟩
    conv => whnf
    repeat' first
      | exact sm_a1_lp hd hm h0 H i 0 _ _ _ _ _ (by omega) rfl hX hF
      | (simp only [hcb])
      | ((with_reducible refine ⟨vp_in_nI (by omega) (by decide), ?_⟩) <;> conv => whnf)
      | (refine ⟨Or.inl rfl, ?_⟩ <;> conv => whnf)
      | (refine ⟨Or.inr rfl, ?_⟩ <;> conv => whnf)
      | (refine ⟨Or.inl True.intro, ?_⟩ <;> conv => whnf)
      | (refine ⟨Or.inr True.intro, ?_⟩ <;> conv => whnf)
      | (refine ⟨fun c => ?_, fun c => ?_⟩ <;> first | ((have c9 : (1 : Int32) = 0 := by with_reducible exact c); exact absurd c9 (by decide)) | exact absurd (rfl : (0 : Int32) = 0) (by with_reducible exact c) | exact absurd True.intro (by with_reducible exact c) | exact False.elim (by with_reducible exact c) | (conv => whnf))
      | (refine ⟨by unfold vp_in; decide, ?_⟩ <;> conv => whnf)
      | fail
    all_goals fail
  | k + 1, i, x, s2, s3, f, g, he, hx, hX, hF => by
    subst hx
    have hcb : f 181 16 = nI n := (hF 181 16 (by omega)).trans h0
    refine at_X11_findAsides ?_
    conv => whnf
    try simp only [hcb]
    refine ⟨fun c => absurd c (nI_ge (b := n) (by omega) (by omega)), fun c => ?_⟩
    conv => whnf
    repeat' first
      | exact sm_b1_lp hd hm h0 H k (i + 1) _ _ _ _ _ (by omega) (nI_1 i) (by repeat' first | (with_reducible assumption) | (with_reducible refine XI_ui ?_ ?_) | (with_reducible refine XI_fil ?_ (fun _ => ?_)) | (with_reducible refine XI_cpy ?_ (fun _ _ => ?_)) | exact True.intro | ((show inr _ _ _); first | (with_reducible assumption) | (unfold inr; decide)) | fail) (by repeat' first | (with_reducible exact fx_refl _ _ _) | (with_reducible assumption) | (with_reducible refine fx_ui ?_ ?_ ?_) | (with_reducible refine fx_fil ?_ ?_ ?_) | (with_reducible refine fx_cpy ?_ ?_ ?_) | omega | decide | fail)
      | (rw [nI_1]; exact sm_b2_lp (p := i) hd hm h0 (fun x' s2 s3 f' g' hx' hX' hF' => sm_b1_lp hd hm h0 H k (i + 1) x' s2 s3 f' g' (by omega) hx' hX' hF') H (n - (i + 1)) (i + 1) _ _ _ _ (by omega) rfl hX hF)
      | (simp only [hcb])
      | ((with_reducible refine ⟨vp_in_nI (by omega) (by decide), ?_⟩) <;> conv => whnf)
      | (refine ⟨Or.inl rfl, ?_⟩ <;> conv => whnf)
      | (refine ⟨Or.inr rfl, ?_⟩ <;> conv => whnf)
      | (refine ⟨Or.inl True.intro, ?_⟩ <;> conv => whnf)
      | (refine ⟨Or.inr True.intro, ?_⟩ <;> conv => whnf)
      | (refine ⟨fun c => ?_, fun c => ?_⟩ <;> first | ((have c9 : (1 : Int32) = 0 := by with_reducible exact c); exact absurd c9 (by decide)) | exact absurd (rfl : (0 : Int32) = 0) (by with_reducible exact c) | exact absurd True.intro (by with_reducible exact c) | exact False.elim (by with_reducible exact c) | (conv => whnf))
      | (refine ⟨by unfold vp_in; decide, ?_⟩ <;> conv => whnf)
      | fail
    all_goals fail
set_option maxRecDepth 100000 in
set_option maxHeartbeats 4000000 in
theorem sm_c1_lp {d L n : Nat} {f0 : Nat → Nat → Int32}  {R : Option Value → mH → Prop} (hd : 3 ≤ d) (hm : n ≤ 20) (h0 : f0 181 16 = nI n) (H : ∀ v f' g', (v = -4 ∨ ∃ s, s ≤ 3 ∧ v = nI s) → XI f' → fx 200 203 f0 f' → R (some (.int v)) (shF L, f', g'))  :
    ∀ (k i : Nat) (x : Int32) (s2 : Option Value) (s3 : Option Value) (f : Nat → Nat → Int32) (g : Nat → Nat → Int64), i + k = n → x = nI i → XI f → fx 200 203 f0 f → WPe pg_X11_findAsides none (Run mtab d) R (m_drop pg_X11_findAsides 8) [some (.ref 181), some (.int x), s2, s3] [] (shF L, f, g)
  | 0, i, x, s2, s3, f, g, he, hx, hX, hF => by
    have e : i = n := by omega
    subst hx
    have hcb : f 181 16 = nI n := (hF 181 16 (by omega)).trans h0
    subst e
    refine at_X11_findAsides ?_
    conv => whnf
    try simp only [hcb]
    refine ⟨fun c => ?_, fun c => absurd (nI_le (Nat.le_refl _) (by omega)) c⟩
    conv => whnf
    repeat' first
      | exact sm_b1_lp hd hm h0 H i 0 _ _ _ _ _ (by omega) rfl hX hF
      | (simp only [hcb])
      | ((with_reducible refine ⟨vp_in_nI (by omega) (by decide), ?_⟩) <;> conv => whnf)
      | (refine ⟨Or.inl rfl, ?_⟩ <;> conv => whnf)
      | (refine ⟨Or.inr rfl, ?_⟩ <;> conv => whnf)
      | (refine ⟨Or.inl True.intro, ?_⟩ <;> conv => whnf)
      | (refine ⟨Or.inr True.intro, ?_⟩ <;> conv => whnf)
      | (refine ⟨fun c => ?_, fun c => ?_⟩ <;> first | ((have c9 : (1 : Int32) = 0 := by with_reducible exact c); exact absurd c9 (by decide)) | exact absurd (rfl : (0 : Int32) = 0) (by with_reducible exact c) | exact absurd True.intro (by with_reducible exact c) | exact False.elim (by with_reducible exact c) | (conv => whnf))
      | (refine ⟨by unfold vp_in; decide, ?_⟩ <;> conv => whnf)
      | fail
    all_goals exact H _ _ _ (Or.inr ⟨1, by omega, rfl⟩) (by repeat' first | (with_reducible assumption) | (with_reducible refine XI_ui ?_ ?_) | (with_reducible refine XI_fil ?_ (fun _ => ?_)) | (with_reducible refine XI_cpy ?_ (fun _ _ => ?_)) | exact True.intro | ((show inr _ _ _); first | (with_reducible assumption) | (unfold inr; decide)) | fail) (by repeat' first | (with_reducible exact fx_refl _ _ _) | (with_reducible assumption) | (with_reducible refine fx_ui ?_ ?_ ?_) | (with_reducible refine fx_fil ?_ ?_ ?_) | (with_reducible refine fx_cpy ?_ ?_ ?_) | omega | decide | fail)
  | k + 1, i, x, s2, s3, f, g, he, hx, hX, hF => by
    subst hx
    have hcb : f 181 16 = nI n := (hF 181 16 (by omega)).trans h0
    refine at_X11_findAsides ?_
    conv => whnf
    try simp only [hcb]
    refine ⟨fun c => absurd c (nI_ge (b := n) (by omega) (by omega)), fun c => ?_⟩
    conv => whnf
    repeat' first
      | exact sm_c1_lp hd hm h0 H k (i + 1) _ _ _ _ _ (by omega) (nI_1 i) (by repeat' first | (with_reducible assumption) | (with_reducible refine XI_ui ?_ ?_) | (with_reducible refine XI_fil ?_ (fun _ => ?_)) | (with_reducible refine XI_cpy ?_ (fun _ _ => ?_)) | exact True.intro | ((show inr _ _ _); first | (with_reducible assumption) | (unfold inr; decide)) | fail) (by repeat' first | (with_reducible exact fx_refl _ _ _) | (with_reducible assumption) | (with_reducible refine fx_ui ?_ ?_ ?_) | (with_reducible refine fx_fil ?_ ?_ ?_) | (with_reducible refine fx_cpy ?_ ?_ ?_) | omega | decide | fail)
      | (simp only [hcb])
      | ((with_reducible refine ⟨vp_in_nI (by omega) (by decide), ?_⟩) <;> conv => whnf)
      | (refine ⟨Or.inl rfl, ?_⟩ <;> conv => whnf)
      | (refine ⟨Or.inr rfl, ?_⟩ <;> conv => whnf)
      | (refine ⟨Or.inl True.intro, ?_⟩ <;> conv => whnf)
      | (refine ⟨Or.inr True.intro, ?_⟩ <;> conv => whnf)
      | (refine ⟨fun c => ?_, fun c => ?_⟩ <;> first | ((have c9 : (1 : Int32) = 0 := by with_reducible exact c); exact absurd c9 (by decide)) | exact absurd (rfl : (0 : Int32) = 0) (by with_reducible exact c) | exact absurd True.intro (by with_reducible exact c) | exact False.elim (by with_reducible exact c) | (conv => whnf))
      | (refine sm_countsAt (by omega) hX (fun v hv => ?_) <;> conv => whnf)
      | (refine sm_isWell (by omega) hX (fun v f1 g1 hv h1 k1 => ?_) <;> (have k1' : fx 200 203 f0 f1 := fx_trans hF (fx_wide k1 (by omega) (by omega))) <;> conv => whnf)
      | (refine ⟨by unfold vp_in; decide, ?_⟩ <;> conv => whnf)
      | fail
    all_goals exact H _ _ _ (Or.inr ⟨1, by omega, rfl⟩) (by repeat' first | (with_reducible assumption) | (with_reducible refine XI_ui ?_ ?_) | (with_reducible refine XI_fil ?_ (fun _ => ?_)) | (with_reducible refine XI_cpy ?_ (fun _ _ => ?_)) | exact True.intro | ((show inr _ _ _); first | (with_reducible assumption) | (unfold inr; decide)) | fail) (by repeat' first | (with_reducible exact fx_refl _ _ _) | (with_reducible assumption) | (with_reducible refine fx_ui ?_ ?_ ?_) | (with_reducible refine fx_fil ?_ ?_ ?_) | (with_reducible refine fx_cpy ?_ ?_ ?_) | omega | decide | fail)
set_option maxRecDepth 100000 in
set_option maxHeartbeats 4000000 in
theorem sm_findAsides {d L : Nat} {f : Nat → Nat → Int32} {g : Nat → Nat → Int64}  {R : Option Value → mH → Prop} (hd : 4 ≤ d) (hX : XI f) (H : ∀ v f' g', (v = -4 ∨ ∃ s, s ≤ 3 ∧ v = nI s) → XI f' → fx 200 203 f f' → R (some (.int v)) (shF L, f', g')) : Run mtab d 186 [.ref 181] (shF L, f, g) R := by
  obtain ⟨d, rfl⟩ : ∃ e, d = e + 1 := ⟨d - 1, by omega⟩
  refine go_X11_findAsides rfl ?_
  conv => whnf
  obtain ⟨n, hm, hb⟩ := inr_nat (n := 20) rfl (xi_181_16 hX)
  refine sm_isWell (by omega) hX (fun v f1 g1 hv h1 k1 => ?_)
  have k1' : fx 200 203 f f1 := fx_wide k1 (by omega) (by omega)
  conv => whnf
  refine ⟨fun c => ?_, fun c => ?_⟩
  · conv => whnf
    exact sm_c1_lp (by omega) hm hb H n 0 _ _ _ _ _ (by omega) rfl h1 k1'
  · conv => whnf
    exact H _ _ _ (Or.inr ⟨0, by omega, rfl⟩) h1 k1'
set_option maxRecDepth 100000 in
set_option maxHeartbeats 4000000 in
theorem sm_lookAside {d L : Nat} {f : Nat → Nat → Int32} {g : Nat → Nat → Int64}  {R : Option Value → mH → Prop} (hd : 7 ≤ d) (hX : XI f) (H : ∀ v f' g', (v = -4 ∨ ∃ s, s ≤ 3 ∧ v = nI s) → XI f' → kp [10] f f' → R (some (.int v)) (shF L, f', g')) : Run mtab d 187 [.ref 181] (shF L, f, g) R := by
  obtain ⟨d, rfl⟩ : ∃ e, d = e + 1 := ⟨d - 1, by omega⟩
  refine go_X11_lookAside rfl ?_
  conv => whnf
  refine sm_refresh (by omega) hX (fun f1 g1 h1 k1 => ?_)
  conv => whnf
  refine sm_findAsides (by omega) h1 (fun v f2 g2 hv h2 k2 => ?_)
  conv => whnf
  refine sm_findYears (by omega) h2 (fun f3 g3 h3 k3 => ?_)
  conv => whnf
  exact H _ _ _ hv h3 (kp_trans k1 (kp_trans (kp_fx k2 rfl) k3))
set_option maxRecDepth 100000 in
set_option maxHeartbeats 4000000 in
theorem sm_asides {d L : Nat} {f : Nat → Nat → Int32} {g : Nat → Nat → Int64}  {R : Option Value → mH → Prop} (hd : 8 ≤ d) (hX : XI f) (H : ∀ v f' g', XI f' → kp [10] f f' → R (some (.int v)) (shF L, f', g')) : Run mtab d 188 [.ref 181] (shF L, f, g) R := by
  obtain ⟨d, rfl⟩ : ∃ e, d = e + 1 := ⟨d - 1, by omega⟩
  refine go_X11_asides rfl ?_
  conv => whnf
  refine sm_lookAside (by omega) hX (fun v f1 g1 hv h1 k1 => ?_)
  conv => whnf
  exact H _ _ _ h1 k1
set_option maxRecDepth 100000 in
set_option maxHeartbeats 4000000 in
theorem sm_aside {d L : Nat} {f : Nat → Nat → Int32} {g : Nat → Nat → Int64} {x1 : Int32} {R : Option Value → mH → Prop} (hd : 8 ≤ d) (hX : XI f) (H : ∀ v f' g', XI f' → kp [10] f f' → R (some (.int v)) (shF L, f', g')) : Run mtab d 189 [.ref 181, .int x1] (shF L, f, g) R := by
  obtain ⟨d, rfl⟩ : ∃ e, d = e + 1 := ⟨d - 1, by omega⟩
  refine go_X11_aside rfl ?_
  conv => whnf
  refine ⟨fun c0 => ?_, fun c => ?_⟩
  · conv => whnf
    refine sm_lookAside (by omega) hX (fun v f1 g1 hv h1 k1 => ?_)
    conv => whnf
    refine ⟨fun c => ?_, fun c => ?_⟩
    · conv => whnf
      refine ⟨fun c2 => ?_, fun c2 => ?_⟩
      · conv => whnf
        exact H _ _ _ h1 k1
      · rcases hv with rfl | ⟨s, hs, rfl⟩
        · exact absurd c (by decide)
        · obtain ⟨a, ha, rfl⟩ := nI_of (i32_nlt.mpr c0)
          rw [nI_leI (by omega) ha] at c2
          conv => whnf
          refine ⟨vp_in_nI (by omega) (by decide), ?_⟩
          conv => whnf
          exact H _ _ _ h1 k1
    · conv => whnf
      exact H _ _ _ h1 k1
  · conv => whnf
    exact H _ _ _ hX (kp_refl _ _)
