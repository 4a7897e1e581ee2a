/-- the model's test of a side -/
def STN (U s H : Int32) : Prop := (U = 0 ∧ inr (10 * H - 50) (10 * H + 50) (10 * s)) ∨ (U = 1 ∧ inr (254 * H - 127) (254 * H + 127) (10 * s))
theorem STN_1 {U s H : Int32} {f : Nat} (hU : U = 0 ∨ U = 1) (rs : inr 10 5000 s) (rH : inr 1 6000 H) (hf : f ≤ 200) : STN U (s + 2 * nI f) H ↔ ONE U s H (f : Int) := by
  rcases hU with rfl | rfl
  · rw [← stn_i (Or.inl ⟨rfl, rfl, rfl⟩) rs rH hf]
    exact ⟨fun z => z.elim (fun y => y.2) (fun y => absurd y.1 (by decide)), fun z => Or.inl ⟨rfl, z⟩⟩
  · rw [← stn_i (Or.inr ⟨rfl, rfl, rfl⟩) rs rH hf]
    exact ⟨fun z => z.elim (fun y => absurd y.1 (by decide)) (fun y => y.2), fun z => Or.inr ⟨rfl, z⟩⟩
set_option maxRecDepth 100000 in
set_option maxHeartbeats 4000000 in
theorem smf_standsFor {d L : Nat} {f : Nat → Nat → Int32} {g : Nat → Nat → Int64} {U s H : Int32} {R : Option Value → mH → Prop} (hd : 2 ≤ d) (hU : U = 0 ∨ U = 1) (H1 : STN U s H → R (some (.int 1)) (shF L, f, g)) (H0 : ¬ STN U s H → R (some (.int 0)) (shF L, f, g)) : Run mtab d 191 [.int s, .int H, .int U] (shF L, f, g) R := by
  obtain ⟨d, rfl⟩ : ∃ e, d = e + 1 := ⟨d - 1, by omega⟩
  refine go_X11_standsFor rfl ?_
  conv => whnf
  rcases hU with rfl | rfl
  · (refine ⟨fun z9 => ?_, fun z9 => ?_⟩ <;> first | ((have c9 : (1 : Int32) = 0 := by with_reducible exact z9); exact absurd c9 (by decide)) | exact absurd (rfl : (0 : Int32) = 0) (by with_reducible exact z9) | exact absurd True.intro (by with_reducible exact z9) | exact False.elim (by with_reducible exact z9) | (conv => whnf))
    (refine ⟨fun z9 => ?_, fun z9 => ?_⟩ <;> first | ((have c9 : (1 : Int32) = 0 := by with_reducible exact z9); exact absurd c9 (by decide)) | exact absurd (rfl : (0 : Int32) = 0) (by with_reducible exact z9) | exact absurd True.intro (by with_reducible exact z9) | exact False.elim (by with_reducible exact z9) | (conv => whnf))
    refine ct_i_v_v (by omega) (fun p => ?_) (fun p => ?_)
    · conv => whnf
      have G := H1 (Or.inl ⟨rfl, p⟩)
      first | exact ⟨Or.inr rfl, G⟩ | exact G
    · conv => whnf
      have G := H0 (fun z => z.elim (fun y => p y.2) (fun y => absurd y.1 (by decide)))
      first | exact ⟨Or.inl rfl, G⟩ | exact G
  · (refine ⟨fun z9 => ?_, fun z9 => ?_⟩ <;> first | ((have c9 : (1 : Int32) = 0 := by with_reducible exact z9); exact absurd c9 (by decide)) | exact absurd (rfl : (0 : Int32) = 0) (by with_reducible exact z9) | exact absurd True.intro (by with_reducible exact z9) | exact False.elim (by with_reducible exact z9) | (conv => whnf))
    (refine ⟨fun z9 => ?_, fun z9 => ?_⟩ <;> first | ((have c9 : (1 : Int32) = 0 := by with_reducible exact z9); exact absurd c9 (by decide)) | exact absurd (rfl : (0 : Int32) = 0) (by with_reducible exact z9) | exact absurd True.intro (by with_reducible exact z9) | exact False.elim (by with_reducible exact z9) | (conv => whnf))
    refine ct_i_v_v (by omega) (fun p => ?_) (fun p => ?_)
    · conv => whnf
      have G := H1 (Or.inr ⟨rfl, p⟩)
      first | exact ⟨Or.inr rfl, G⟩ | exact G
    · conv => whnf
      have G := H0 (fun z => z.elim (fun y => absurd y.1 (by decide)) (fun y => p y.2))
      first | exact ⟨Or.inl rfl, G⟩ | exact G
theorem nofit0 {U h w H W : Int32} (hN : ∀ f' : Nat, 0 ≤ f' → f' < 1 → ¬ (ONE U h H (f' : Int) ∧ ONE U w W (f' : Int))) : ¬ FIT U 0 h w H W := by
  rintro ⟨f', hf, p, q⟩
  have e : 0 ≤ f' ∧ f' ≤ 0 := by
    rcases hf with z | z
    · first | exact absurd z.1 (by decide) | omega
    · first | exact absurd rfl z.1 | omega
  have c : ((f'.toNat : Nat) : Int) = f' := Int.toNat_of_nonneg (by omega)
  exact hN f'.toNat (by omega) (by omega) (by rw [c]; exact ⟨p, q⟩)
set_option maxRecDepth 100000 in
set_option maxHeartbeats 4000000 in
theorem fsf0_lp {d L : Nat} {f : Nat → Nat → Int32} {g : Nat → Nat → Int64} {U h w H W : Int32} {R : Option Value → mH → Prop} (hd : 2 ≤ d) (hU : U = 0 ∨ U = 1) (rh : inr 10 5000 h) (rw_ : inr 10 5000 w) (rH : inr 1 6000 H) (rW : inr 1 6000 W) (H1 : FIT U 0 h w H W → R (some (.int 1)) (shF L, f, g)) (H0 : ¬ FIT U 0 h w H W → R (some (.int 0)) (shF L, f, g)) :
    ∀ (k i : Nat) (x b : Int32), i + k = 1 → 0 ≤ i ∧ x = nI i → ((b = 0 ∧ ∀ f' : Nat, 0 ≤ f' → f' < i → ¬ (ONE U h H (f' : Int) ∧ ONE U w W (f' : Int))) ∨ (b = 1 ∧ FIT U 0 h w H W)) → WPe pg_X11_fitsSides none (Run mtab d) R (m_drop pg_X11_fitsSides 8) [some (.int h), some (.int w), some (.int H), some (.int W), some (.int U), some (.int 0), some (.int b), some (.int x)] [] (shF L, f, g)
  | 0, i, x, b, hk, ⟨hlo, hx⟩, hB => by
    have e : i = 1 := by omega
    subst e
    subst hx
    refine at_X11_fitsSides ?_
    conv => whnf
    (refine ⟨fun z9 => ?_, fun z9 => ?_⟩ <;> first | ((have c9 : (1 : Int32) = 0 := by with_reducible exact z9); exact absurd c9 (by decide)) | exact absurd (rfl : (0 : Int32) = 0) (by with_reducible exact z9) | exact absurd True.intro (by with_reducible exact z9) | exact False.elim (by with_reducible exact z9) | (conv => whnf))
    refine ⟨fun q9 => ?_, fun q9 => absurd (by decide) q9⟩
    rcases hB with ⟨rfl, hN⟩ | ⟨rfl, hY⟩
    · conv => whnf
      have G := H0 (nofit0 hN)
      first | exact ⟨Or.inl rfl, G⟩ | exact G
    · conv => whnf
      have G := H1 hY
      first | exact ⟨Or.inr rfl, G⟩ | exact G
  | k + 1, i, x, b, hk, ⟨hlo, hx⟩, hB => by
    subst hx
    refine at_X11_fitsSides ?_
    conv => whnf
    (refine ⟨fun z9 => ?_, fun z9 => ?_⟩ <;> first | ((have c9 : (1 : Int32) = 0 := by with_reducible exact z9); exact absurd c9 (by decide)) | exact absurd (rfl : (0 : Int32) = 0) (by with_reducible exact z9) | exact absurd True.intro (by with_reducible exact z9) | exact False.elim (by with_reducible exact z9) | (conv => whnf))
    refine ⟨fun q9 => absurd q9 (nI_nlt (a := 0) (b := i) (by omega) (by omega)), fun q9 => ?_⟩
    conv => whnf
    rcases hB with ⟨rfl, hN⟩ | ⟨rfl, hY⟩
    · (refine ⟨fun z9 => ?_, fun z9 => ?_⟩ <;> first | ((have c9 : (1 : Int32) = 0 := by with_reducible exact z9); exact absurd c9 (by decide)) | exact absurd (rfl : (0 : Int32) = 0) (by with_reducible exact z9) | exact absurd True.intro (by with_reducible exact z9) | exact False.elim (by with_reducible exact z9) | (conv => whnf))
      refine smf_standsFor (by omega) hU (fun y1 => ?_) (fun y1 => ?_)
      · conv => whnf
        (refine ⟨fun z9 => ?_, fun z9 => ?_⟩ <;> first | ((have c9 : (1 : Int32) = 0 := by with_reducible exact z9); exact absurd c9 (by decide)) | exact absurd (rfl : (0 : Int32) = 0) (by with_reducible exact z9) | exact absurd True.intro (by with_reducible exact z9) | exact False.elim (by with_reducible exact z9) | (conv => whnf))
        refine smf_standsFor (by omega) hU (fun y2 => ?_) (fun y2 => ?_)
        · conv => whnf
          (refine ⟨fun z9 => ?_, fun z9 => ?_⟩ <;> first | ((have c9 : (1 : Int32) = 0 := by with_reducible exact z9); exact absurd c9 (by decide)) | exact absurd (rfl : (0 : Int32) = 0) (by with_reducible exact z9) | exact absurd True.intro (by with_reducible exact z9) | exact False.elim (by with_reducible exact z9) | (conv => whnf))
          exact fsf0_lp hd hU rh rw_ rH rW H1 H0 k (i + 1) _ _ (by omega) ⟨by omega, nI_1 i⟩ (Or.inr ⟨rfl, ⟨(i : Int), Or.inl ⟨rfl, by omega⟩, (STN_1 hU rh rH (by omega)).mp y1, (STN_1 hU rw_ rW (by omega)).mp y2⟩⟩)
        · conv => whnf
          (refine ⟨fun z9 => ?_, fun z9 => ?_⟩ <;> first | ((have c9 : (1 : Int32) = 0 := by with_reducible exact z9); exact absurd c9 (by decide)) | exact absurd (rfl : (0 : Int32) = 0) (by with_reducible exact z9) | exact absurd True.intro (by with_reducible exact z9) | exact False.elim (by with_reducible exact z9) | (conv => whnf))
          exact fsf0_lp hd hU rh rw_ rH rW H1 H0 k (i + 1) _ _ (by omega) ⟨by omega, nI_1 i⟩ (Or.inl ⟨rfl, fun f' h1 h2 => (Nat.lt_or_ge f' i).elim (fun l => hN f' h1 l) (fun l => by have e : f' = i := (by omega); subst e; exact fun z => y2 ((STN_1 hU rw_ rW (by omega)).mpr z.2))⟩)
      · conv => whnf
        (refine ⟨fun z9 => ?_, fun z9 => ?_⟩ <;> first | ((have c9 : (1 : Int32) = 0 := by with_reducible exact z9); exact absurd c9 (by decide)) | exact absurd (rfl : (0 : Int32) = 0) (by with_reducible exact z9) | exact absurd True.intro (by with_reducible exact z9) | exact False.elim (by with_reducible exact z9) | (conv => whnf))
        exact fsf0_lp hd hU rh rw_ rH rW H1 H0 k (i + 1) _ _ (by omega) ⟨by omega, nI_1 i⟩ (Or.inl ⟨rfl, fun f' h1 h2 => (Nat.lt_or_ge f' i).elim (fun l => hN f' h1 l) (fun l => by have e : f' = i := (by omega); subst e; exact fun z => y1 ((STN_1 hU rh rH (by omega)).mpr z.1))⟩)
    · (refine ⟨fun z9 => ?_, fun z9 => ?_⟩ <;> first | ((have c9 : (1 : Int32) = 0 := by with_reducible exact z9); exact absurd c9 (by decide)) | exact absurd (rfl : (0 : Int32) = 0) (by with_reducible exact z9) | exact absurd True.intro (by with_reducible exact z9) | exact False.elim (by with_reducible exact z9) | (conv => whnf))
      have G := H1 hY
      first | exact ⟨Or.inr rfl, G⟩ | exact G
theorem nofit1 {U h w H W : Int32} (hN : ∀ f' : Nat, 20 ≤ f' → f' < 121 → ¬ (ONE U h H (f' : Int) ∧ ONE U w W (f' : Int))) : ¬ FIT U 1 h w H W := by
  rintro ⟨f', hf, p, q⟩
  have e : 20 ≤ f' ∧ f' ≤ 120 := by
    rcases hf with z | z
    · first | exact absurd z.1 (by decide) | omega
    · first | exact absurd rfl z.1 | omega
  have c : ((f'.toNat : Nat) : Int) = f' := Int.toNat_of_nonneg (by omega)
  exact hN f'.toNat (by omega) (by omega) (by rw [c]; exact ⟨p, q⟩)
set_option maxRecDepth 100000 in
set_option maxHeartbeats 4000000 in
theorem fsf1_lp {d L : Nat} {f : Nat → Nat → Int32} {g : Nat → Nat → Int64} {U h w H W : Int32} {R : Option Value → mH → Prop} (hd : 2 ≤ d) (hU : U = 0 ∨ U = 1) (rh : inr 10 5000 h) (rw_ : inr 10 5000 w) (rH : inr 1 6000 H) (rW : inr 1 6000 W) (H1 : FIT U 1 h w H W → R (some (.int 1)) (shF L, f, g)) (H0 : ¬ FIT U 1 h w H W → R (some (.int 0)) (shF L, f, g)) :
    ∀ (k i : Nat) (x b : Int32), i + k = 121 → 20 ≤ i ∧ x = nI i → ((b = 0 ∧ ∀ f' : Nat, 20 ≤ f' → f' < i → ¬ (ONE U h H (f' : Int) ∧ ONE U w W (f' : Int))) ∨ (b = 1 ∧ FIT U 1 h w H W)) → WPe pg_X11_fitsSides none (Run mtab d) R (m_drop pg_X11_fitsSides 8) [some (.int h), some (.int w), some (.int H), some (.int W), some (.int U), some (.int 1), some (.int b), some (.int x)] [] (shF L, f, g)
  | 0, i, x, b, hk, ⟨hlo, hx⟩, hB => by
    have e : i = 121 := by omega
    subst e
    subst hx
    refine at_X11_fitsSides ?_
    conv => whnf
    (refine ⟨fun z9 => ?_, fun z9 => ?_⟩ <;> first | ((have c9 : (1 : Int32) = 0 := by with_reducible exact z9); exact absurd c9 (by decide)) | exact absurd (rfl : (0 : Int32) = 0) (by with_reducible exact z9) | exact absurd True.intro (by with_reducible exact z9) | exact False.elim (by with_reducible exact z9) | (conv => whnf))
    refine ⟨fun q9 => ?_, fun q9 => absurd (by decide) q9⟩
    rcases hB with ⟨rfl, hN⟩ | ⟨rfl, hY⟩
    · conv => whnf
      have G := H0 (nofit1 hN)
      first | exact ⟨Or.inl rfl, G⟩ | exact G
    · conv => whnf
      have G := H1 hY
      first | exact ⟨Or.inr rfl, G⟩ | exact G
  | k + 1, i, x, b, hk, ⟨hlo, hx⟩, hB => by
    subst hx
    refine at_X11_fitsSides ?_
    conv => whnf
    (refine ⟨fun z9 => ?_, fun z9 => ?_⟩ <;> first | ((have c9 : (1 : Int32) = 0 := by with_reducible exact z9); exact absurd c9 (by decide)) | exact absurd (rfl : (0 : Int32) = 0) (by with_reducible exact z9) | exact absurd True.intro (by with_reducible exact z9) | exact False.elim (by with_reducible exact z9) | (conv => whnf))
    refine ⟨fun q9 => absurd q9 (nI_nlt (a := 120) (b := i) (by omega) (by omega)), fun q9 => ?_⟩
    conv => whnf
    rcases hB with ⟨rfl, hN⟩ | ⟨rfl, hY⟩
    · (refine ⟨fun z9 => ?_, fun z9 => ?_⟩ <;> first | ((have c9 : (1 : Int32) = 0 := by with_reducible exact z9); exact absurd c9 (by decide)) | exact absurd (rfl : (0 : Int32) = 0) (by with_reducible exact z9) | exact absurd True.intro (by with_reducible exact z9) | exact False.elim (by with_reducible exact z9) | (conv => whnf))
      refine smf_standsFor (by omega) hU (fun y1 => ?_) (fun y1 => ?_)
      · conv => whnf
        (refine ⟨fun z9 => ?_, fun z9 => ?_⟩ <;> first | ((have c9 : (1 : Int32) = 0 := by with_reducible exact z9); exact absurd c9 (by decide)) | exact absurd (rfl : (0 : Int32) = 0) (by with_reducible exact z9) | exact absurd True.intro (by with_reducible exact z9) | exact False.elim (by with_reducible exact z9) | (conv => whnf))
        refine smf_standsFor (by omega) hU (fun y2 => ?_) (fun y2 => ?_)
        · conv => whnf
          (refine ⟨fun z9 => ?_, fun z9 => ?_⟩ <;> first | ((have c9 : (1 : Int32) = 0 := by with_reducible exact z9); exact absurd c9 (by decide)) | exact absurd (rfl : (0 : Int32) = 0) (by with_reducible exact z9) | exact absurd True.intro (by with_reducible exact z9) | exact False.elim (by with_reducible exact z9) | (conv => whnf))
          exact fsf1_lp hd hU rh rw_ rH rW H1 H0 k (i + 1) _ _ (by omega) ⟨by omega, nI_1 i⟩ (Or.inr ⟨rfl, ⟨(i : Int), Or.inr ⟨by decide, by omega, by omega⟩, (STN_1 hU rh rH (by omega)).mp y1, (STN_1 hU rw_ rW (by omega)).mp y2⟩⟩)
        · conv => whnf
          (refine ⟨fun z9 => ?_, fun z9 => ?_⟩ <;> first | ((have c9 : (1 : Int32) = 0 := by with_reducible exact z9); exact absurd c9 (by decide)) | exact absurd (rfl : (0 : Int32) = 0) (by with_reducible exact z9) | exact absurd True.intro (by with_reducible exact z9) | exact False.elim (by with_reducible exact z9) | (conv => whnf))
          exact fsf1_lp hd hU rh rw_ rH rW H1 H0 k (i + 1) _ _ (by omega) ⟨by omega, nI_1 i⟩ (Or.inl ⟨rfl, fun f' h1 h2 => (Nat.lt_or_ge f' i).elim (fun l => hN f' h1 l) (fun l => by have e : f' = i := (by omega); subst e; exact fun z => y2 ((STN_1 hU rw_ rW (by omega)).mpr z.2))⟩)
      · conv => whnf
        (refine ⟨fun z9 => ?_, fun z9 => ?_⟩ <;> first | ((have c9 : (1 : Int32) = 0 := by with_reducible exact z9); exact absurd c9 (by decide)) | exact absurd (rfl : (0 : Int32) = 0) (by with_reducible exact z9) | exact absurd True.intro (by with_reducible exact z9) | exact False.elim (by with_reducible exact z9) | (conv => whnf))
        exact fsf1_lp hd hU rh rw_ rH rW H1 H0 k (i + 1) _ _ (by omega) ⟨by omega, nI_1 i⟩ (Or.inl ⟨rfl, fun f' h1 h2 => (Nat.lt_or_ge f' i).elim (fun l => hN f' h1 l) (fun l => by have e : f' = i := (by omega); subst e; exact fun z => y1 ((STN_1 hU rh rH (by omega)).mpr z.1))⟩)
    · (refine ⟨fun z9 => ?_, fun z9 => ?_⟩ <;> first | ((have c9 : (1 : Int32) = 0 := by with_reducible exact z9); exact absurd c9 (by decide)) | exact absurd (rfl : (0 : Int32) = 0) (by with_reducible exact z9) | exact absurd True.intro (by with_reducible exact z9) | exact False.elim (by with_reducible exact z9) | (conv => whnf))
      have G := H1 hY
      first | exact ⟨Or.inr rfl, G⟩ | exact G
set_option maxRecDepth 100000 in
set_option maxHeartbeats 4000000 in
theorem smf_fitsSides {d L : Nat} {f : Nat → Nat → Int32} {g : Nat → Nat → Int64} {U F h w H W : Int32} {R : Option Value → mH → Prop} (hd : 3 ≤ d) (hU : U = 0 ∨ U = 1) (hF : F = 0 ∨ F = 1) (rh : inr 10 5000 h) (rw_ : inr 10 5000 w) (rH : inr 1 6000 H) (rW : inr 1 6000 W) (H1 : FIT U F h w H W → R (some (.int 1)) (shF L, f, g)) (H0 : ¬ FIT U F h w H W → R (some (.int 0)) (shF L, f, g)) : Run mtab d 192 [.int h, .int w, .int H, .int W, .int U, .int F] (shF L, f, g) R := by
  obtain ⟨d, rfl⟩ : ∃ e, d = e + 1 := ⟨d - 1, by omega⟩
  refine go_X11_fitsSides rfl ?_
  conv => whnf
  rcases hF with rfl | rfl
  · (refine ⟨fun z9 => ?_, fun z9 => ?_⟩ <;> first | ((have c9 : (1 : Int32) = 0 := by with_reducible exact z9); exact absurd c9 (by decide)) | exact absurd (rfl : (0 : Int32) = 0) (by with_reducible exact z9) | exact absurd True.intro (by with_reducible exact z9) | exact False.elim (by with_reducible exact z9) | (conv => whnf))
    exact fsf0_lp (by omega) hU rh rw_ rH rW H1 H0 1 0 _ _ (by omega) ⟨by omega, rfl⟩ (Or.inl ⟨rfl, fun f' h1 h2 => absurd h2 (by omega)⟩)
  · (refine ⟨fun z9 => ?_, fun z9 => ?_⟩ <;> first | ((have c9 : (1 : Int32) = 0 := by with_reducible exact z9); exact absurd c9 (by decide)) | exact absurd (rfl : (0 : Int32) = 0) (by with_reducible exact z9) | exact absurd True.intro (by with_reducible exact z9) | exact False.elim (by with_reducible exact z9) | (conv => whnf))
    exact fsf1_lp (by omega) hU rh rw_ rH rW H1 H0 101 20 _ _ (by omega) ⟨by omega, rfl⟩ (Or.inl ⟨rfl, fun f' h1 h2 => absurd h2 (by omega)⟩)
def hM (f : Nat → Nat → Int32) (w : Nat) (y : Int32) : Int32 := if 0 < f 192 w ∧ f 192 w ≤ y then f 193 w else f 185 w
def wM (f : Nat → Nat → Int32) (w : Nat) (y : Int32) : Int32 := if 0 < f 192 w ∧ f 192 w ≤ y then f 194 w else f 186 w
def SFM (f : Nat → Nat → Int32) (m w : Nat) : Prop := FIT (f 203 (9 * m + 5)) (f 203 (9 * m + 6)) (hM f w (f 203 (9 * m + 2))) (wM f w (f 203 (9 * m + 2))) (f 203 (9 * m + 3)) (f 203 (9 * m + 4)) ∨ (f 203 (9 * m) = 2 ∧ FIT (f 203 (9 * m + 5)) (f 203 (9 * m + 6)) (wM f w (f 203 (9 * m + 2))) (hM f w (f 203 (9 * m + 2))) (f 203 (9 * m + 3)) (f 203 (9 * m + 4)))
noncomputable def scw (bad sized : Prop) (B ow hd : Int32) : Int32 := ci bad 0 (ci (¬ ow < 0 ∧ ¬ ow = hd) 0 (sc4 (4 * B + ci sized 3 0 + ci (¬ ow < 0) 5 0)))
noncomputable def scM (f : Nat → Nat → Int32) (v h m w : Nat) : Int32 := scw ((0 < f 203 (9 * m + 3) ∧ ¬ SFM f m w) ∨ f 203 (9 * m + 2) < f 200 w ∨ (smp f 9999 (nI w) v).1 = 2) (0 < f 203 (9 * m + 3)) (onE (f 203 (9 * m + 7) &&& titM f w (f 191 w).toNatClampNeg (f 203 (9 * m + 2)))) (ci (f 203 (9 * m + 8) < 0) (-4) (ownl (fun a => ¬ a < 0) (PM f 3 4 (nI w) (f 203 (9 * m + 2))) (fun i => f 195 (6 * i + 1)) h 0 (-4))) (f 203 (9 * m + 8))
set_option maxRecDepth 100000 in
set_option maxHeartbeats 4000000 in
theorem smf_fitsSizes {d L : Nat} {f : Nat → Nat → Int32} {g : Nat → Nat → Int64} {m w : Nat} {R : Option Value → mH → Prop} (hd : 4 ≤ d) (hm : m < 50) (hw : w < 40) (hU : f 203 (9 * m + 5) = 0 ∨ f 203 (9 * m + 5) = 1) (hF : f 203 (9 * m + 6) = 0 ∨ f 203 (9 * m + 6) = 1) (rH : inr 1 6000 (f 203 (9 * m + 3))) (rW : inr 1 6000 (f 203 (9 * m + 4))) (rh : inr 10 5000 (hM f w (f 203 (9 * m + 2)))) (rw_ : inr 10 5000 (wM f w (f 203 (9 * m + 2)))) (H1 : SFM f m w → R (some (.int 1)) (shF L, f, g)) (H0 : ¬ SFM f m w → R (some (.int 0)) (shF L, f, g)) : Run mtab d 193 [.ref 181, .int (nI (9 * m)), .int (nI w)] (shF L, f, g) R := by
  obtain ⟨d, rfl⟩ : ∃ e, d = e + 1 := ⟨d - 1, by omega⟩
  refine go_X11_fitsSizes rfl ?_
  conv => whnf
  have hc0 : (nI (9 * m)).toNatClampNeg = 9 * m := nI_clamp (by omega)
  have hc1 : (nI (9 * m + 1)).toNatClampNeg = 9 * m + 1 := nI_clamp (by omega)
  have hc2 : (nI (9 * m + 2)).toNatClampNeg = 9 * m + 2 := nI_clamp (by omega)
  have hc3 : (nI (9 * m + 3)).toNatClampNeg = 9 * m + 3 := nI_clamp (by omega)
  have hc4 : (nI (9 * m + 4)).toNatClampNeg = 9 * m + 4 := nI_clamp (by omega)
  have hc5 : (nI (9 * m + 5)).toNatClampNeg = 9 * m + 5 := nI_clamp (by omega)
  have hc6 : (nI (9 * m + 6)).toNatClampNeg = 9 * m + 6 := nI_clamp (by omega)
  have hc7 : (nI (9 * m + 7)).toNatClampNeg = 9 * m + 7 := nI_clamp (by omega)
  have hc8 : (nI (9 * m + 8)).toNatClampNeg = 9 * m + 8 := nI_clamp (by omega)
  (try simp only [nI_9m, nI_1, nI_k _ 2 2 rfl, nI_k _ 3 3 rfl, nI_k _ 4 4 rfl, nI_k _ 5 5 rfl, nI_k _ 6 6 rfl, nI_k _ 7 7 rfl, nI_k _ 8 8 rfl])
  refine ⟨vp_in_nI (by omega) (by decide), ?_⟩
  conv => whnf
  (try simp only [nI_9m, nI_1, nI_k _ 2 2 rfl, nI_k _ 3 3 rfl, nI_k _ 4 4 rfl, nI_k _ 5 5 rfl, nI_k _ 6 6 rfl, nI_k _ 7 7 rfl, nI_k _ 8 8 rfl])
  (try simp only [hc0, hc1, hc2, hc3, hc4, hc5, hc6, hc7, hc8])
  refine sm_heightOf (by omega) hw ?_
  conv => whnf
  (try simp only [nI_9m, nI_1, nI_k _ 2 2 rfl, nI_k _ 3 3 rfl, nI_k _ 4 4 rfl, nI_k _ 5 5 rfl, nI_k _ 6 6 rfl, nI_k _ 7 7 rfl, nI_k _ 8 8 rfl])
  refine ⟨vp_in_nI (by omega) (by decide), ?_⟩
  conv => whnf
  (try simp only [nI_9m, nI_1, nI_k _ 2 2 rfl, nI_k _ 3 3 rfl, nI_k _ 4 4 rfl, nI_k _ 5 5 rfl, nI_k _ 6 6 rfl, nI_k _ 7 7 rfl, nI_k _ 8 8 rfl])
  (try simp only [hc0, hc1, hc2, hc3, hc4, hc5, hc6, hc7, hc8])
  refine sm_widthOf (by omega) hw ?_
  conv => whnf
  (try simp only [nI_9m, nI_1, nI_k _ 2 2 rfl, nI_k _ 3 3 rfl, nI_k _ 4 4 rfl, nI_k _ 5 5 rfl, nI_k _ 6 6 rfl, nI_k _ 7 7 rfl, nI_k _ 8 8 rfl])
  refine ⟨vp_in_nI (by omega) (by decide), ?_⟩
  conv => whnf
  (try simp only [nI_9m, nI_1, nI_k _ 2 2 rfl, nI_k _ 3 3 rfl, nI_k _ 4 4 rfl, nI_k _ 5 5 rfl, nI_k _ 6 6 rfl, nI_k _ 7 7 rfl, nI_k _ 8 8 rfl])
  (try simp only [hc0, hc1, hc2, hc3, hc4, hc5, hc6, hc7, hc8])
  rcases hF with eF | eF
  · simp only [eF]
    refine ⟨fun _ => ?_, fun z9 => absurd z9 (by decide)⟩
    conv => whnf
    (try simp only [nI_9m, nI_1, nI_k _ 2 2 rfl, nI_k _ 3 3 rfl, nI_k _ 4 4 rfl, nI_k _ 5 5 rfl, nI_k _ 6 6 rfl, nI_k _ 7 7 rfl, nI_k _ 8 8 rfl])
    refine ⟨vp_in_nI (by omega) (by decide), ?_⟩
    conv => whnf
    (try simp only [nI_9m, nI_1, nI_k _ 2 2 rfl, nI_k _ 3 3 rfl, nI_k _ 4 4 rfl, nI_k _ 5 5 rfl, nI_k _ 6 6 rfl, nI_k _ 7 7 rfl, nI_k _ 8 8 rfl])
    (try simp only [hc0, hc1, hc2, hc3, hc4, hc5, hc6, hc7, hc8])
    (try simp only [nI_9m, nI_1, nI_k _ 2 2 rfl, nI_k _ 3 3 rfl, nI_k _ 4 4 rfl, nI_k _ 5 5 rfl, nI_k _ 6 6 rfl, nI_k _ 7 7 rfl, nI_k _ 8 8 rfl])
    refine ⟨vp_in_nI (by omega) (by decide), ?_⟩
    conv => whnf
    (try simp only [nI_9m, nI_1, nI_k _ 2 2 rfl, nI_k _ 3 3 rfl, nI_k _ 4 4 rfl, nI_k _ 5 5 rfl, nI_k _ 6 6 rfl, nI_k _ 7 7 rfl, nI_k _ 8 8 rfl])
    (try simp only [hc0, hc1, hc2, hc3, hc4, hc5, hc6, hc7, hc8])
    (try simp only [nI_9m, nI_1, nI_k _ 2 2 rfl, nI_k _ 3 3 rfl, nI_k _ 4 4 rfl, nI_k _ 5 5 rfl, nI_k _ 6 6 rfl, nI_k _ 7 7 rfl, nI_k _ 8 8 rfl])
    refine ⟨vp_in_nI (by omega) (by decide), ?_⟩
    conv => whnf
    (try simp only [nI_9m, nI_1, nI_k _ 2 2 rfl, nI_k _ 3 3 rfl, nI_k _ 4 4 rfl, nI_k _ 5 5 rfl, nI_k _ 6 6 rfl, nI_k _ 7 7 rfl, nI_k _ 8 8 rfl])
    (try simp only [hc0, hc1, hc2, hc3, hc4, hc5, hc6, hc7, hc8])
    refine smf_fitsSides (by omega) hU (Or.inl rfl) rh rw_ rH rW (fun y => ?_) (fun n1 => ?_)
    · conv => whnf
      (refine ⟨fun z9 => ?_, fun z9 => ?_⟩ <;> first | ((have c9 : (1 : Int32) = 0 := by with_reducible exact z9); exact absurd c9 (by decide)) | exact absurd (rfl : (0 : Int32) = 0) (by with_reducible exact z9) | exact absurd True.intro (by with_reducible exact z9) | exact False.elim (by with_reducible exact z9) | (conv => whnf))
      conv => whnf
      have G := H1 (by unfold SFM; rw [eF]; exact Or.inl y)
      first | exact ⟨Or.inr rfl, G⟩ | exact G
    · conv => whnf
      (refine ⟨fun z9 => ?_, fun z9 => ?_⟩ <;> first | ((have c9 : (1 : Int32) = 0 := by with_reducible exact z9); exact absurd c9 (by decide)) | exact absurd (rfl : (0 : Int32) = 0) (by with_reducible exact z9) | exact absurd True.intro (by with_reducible exact z9) | exact False.elim (by with_reducible exact z9) | (conv => whnf))
      (try simp only [nI_9m, nI_1, nI_k _ 2 2 rfl, nI_k _ 3 3 rfl, nI_k _ 4 4 rfl, nI_k _ 5 5 rfl, nI_k _ 6 6 rfl, nI_k _ 7 7 rfl, nI_k _ 8 8 rfl])
      refine ⟨vp_in_nI (by omega) (by decide), ?_⟩
      conv => whnf
      (try simp only [nI_9m, nI_1, nI_k _ 2 2 rfl, nI_k _ 3 3 rfl, nI_k _ 4 4 rfl, nI_k _ 5 5 rfl, nI_k _ 6 6 rfl, nI_k _ 7 7 rfl, nI_k _ 8 8 rfl])
      (try simp only [hc0, hc1, hc2, hc3, hc4, hc5, hc6, hc7, hc8])
      refine ⟨fun c2 => ?_, fun c2 => ?_⟩
      · conv => whnf
        have G := H0 (fun z => by unfold SFM at z; rw [eF] at z; exact z.elim n1 (fun z3 => c2 z3.1))
        first | exact ⟨Or.inl rfl, G⟩ | exact G
      · conv => whnf
        (try simp only [nI_9m, nI_1, nI_k _ 2 2 rfl, nI_k _ 3 3 rfl, nI_k _ 4 4 rfl, nI_k _ 5 5 rfl, nI_k _ 6 6 rfl, nI_k _ 7 7 rfl, nI_k _ 8 8 rfl])
        refine ⟨vp_in_nI (by omega) (by decide), ?_⟩
        conv => whnf
        (try simp only [nI_9m, nI_1, nI_k _ 2 2 rfl, nI_k _ 3 3 rfl, nI_k _ 4 4 rfl, nI_k _ 5 5 rfl, nI_k _ 6 6 rfl, nI_k _ 7 7 rfl, nI_k _ 8 8 rfl])
        (try simp only [hc0, hc1, hc2, hc3, hc4, hc5, hc6, hc7, hc8])
        (try simp only [nI_9m, nI_1, nI_k _ 2 2 rfl, nI_k _ 3 3 rfl, nI_k _ 4 4 rfl, nI_k _ 5 5 rfl, nI_k _ 6 6 rfl, nI_k _ 7 7 rfl, nI_k _ 8 8 rfl])
        refine ⟨vp_in_nI (by omega) (by decide), ?_⟩
        conv => whnf
        (try simp only [nI_9m, nI_1, nI_k _ 2 2 rfl, nI_k _ 3 3 rfl, nI_k _ 4 4 rfl, nI_k _ 5 5 rfl, nI_k _ 6 6 rfl, nI_k _ 7 7 rfl, nI_k _ 8 8 rfl])
        (try simp only [hc0, hc1, hc2, hc3, hc4, hc5, hc6, hc7, hc8])
        (try simp only [nI_9m, nI_1, nI_k _ 2 2 rfl, nI_k _ 3 3 rfl, nI_k _ 4 4 rfl, nI_k _ 5 5 rfl, nI_k _ 6 6 rfl, nI_k _ 7 7 rfl, nI_k _ 8 8 rfl])
        refine ⟨vp_in_nI (by omega) (by decide), ?_⟩
        conv => whnf
        (try simp only [nI_9m, nI_1, nI_k _ 2 2 rfl, nI_k _ 3 3 rfl, nI_k _ 4 4 rfl, nI_k _ 5 5 rfl, nI_k _ 6 6 rfl, nI_k _ 7 7 rfl, nI_k _ 8 8 rfl])
        (try simp only [hc0, hc1, hc2, hc3, hc4, hc5, hc6, hc7, hc8])
        refine smf_fitsSides (by omega) hU (Or.inl rfl) rw_ rh rH rW (fun y => ?_) (fun n2 => ?_)
        · conv => whnf
          (refine ⟨fun z9 => ?_, fun z9 => ?_⟩ <;> first | ((have c9 : (1 : Int32) = 0 := by with_reducible exact z9); exact absurd c9 (by decide)) | exact absurd (rfl : (0 : Int32) = 0) (by with_reducible exact z9) | exact absurd True.intro (by with_reducible exact z9) | exact False.elim (by with_reducible exact z9) | (conv => whnf))
          conv => whnf
          have G := H1 (by unfold SFM; rw [eF]; exact Or.inr ⟨c2, y⟩)
          first | exact ⟨Or.inr rfl, G⟩ | exact G
        · conv => whnf
          (refine ⟨fun z9 => ?_, fun z9 => ?_⟩ <;> first | ((have c9 : (1 : Int32) = 0 := by with_reducible exact z9); exact absurd c9 (by decide)) | exact absurd (rfl : (0 : Int32) = 0) (by with_reducible exact z9) | exact absurd True.intro (by with_reducible exact z9) | exact False.elim (by with_reducible exact z9) | (conv => whnf))
          conv => whnf
          have G := H0 (fun z => by unfold SFM at z; rw [eF] at z; exact z.elim n1 (fun z3 => n2 z3.2))
          first | exact ⟨Or.inl rfl, G⟩ | exact G
  · simp only [eF]
    (refine ⟨fun z9 => ?_, fun z9 => ?_⟩ <;> first | ((have c9 : (1 : Int32) = 0 := by with_reducible exact z9); exact absurd c9 (by decide)) | exact absurd (rfl : (0 : Int32) = 0) (by with_reducible exact z9) | exact absurd True.intro (by with_reducible exact z9) | exact False.elim (by with_reducible exact z9) | (conv => whnf))
    (try simp only [nI_9m, nI_1, nI_k _ 2 2 rfl, nI_k _ 3 3 rfl, nI_k _ 4 4 rfl, nI_k _ 5 5 rfl, nI_k _ 6 6 rfl, nI_k _ 7 7 rfl, nI_k _ 8 8 rfl])
    refine ⟨vp_in_nI (by omega) (by decide), ?_⟩
    conv => whnf
    (try simp only [nI_9m, nI_1, nI_k _ 2 2 rfl, nI_k _ 3 3 rfl, nI_k _ 4 4 rfl, nI_k _ 5 5 rfl, nI_k _ 6 6 rfl, nI_k _ 7 7 rfl, nI_k _ 8 8 rfl])
    (try simp only [hc0, hc1, hc2, hc3, hc4, hc5, hc6, hc7, hc8])
    (try simp only [nI_9m, nI_1, nI_k _ 2 2 rfl, nI_k _ 3 3 rfl, nI_k _ 4 4 rfl, nI_k _ 5 5 rfl, nI_k _ 6 6 rfl, nI_k _ 7 7 rfl, nI_k _ 8 8 rfl])
    refine ⟨vp_in_nI (by omega) (by decide), ?_⟩
    conv => whnf
    (try simp only [nI_9m, nI_1, nI_k _ 2 2 rfl, nI_k _ 3 3 rfl, nI_k _ 4 4 rfl, nI_k _ 5 5 rfl, nI_k _ 6 6 rfl, nI_k _ 7 7 rfl, nI_k _ 8 8 rfl])
    (try simp only [hc0, hc1, hc2, hc3, hc4, hc5, hc6, hc7, hc8])
    (try simp only [nI_9m, nI_1, nI_k _ 2 2 rfl, nI_k _ 3 3 rfl, nI_k _ 4 4 rfl, nI_k _ 5 5 rfl, nI_k _ 6 6 rfl, nI_k _ 7 7 rfl, nI_k _ 8 8 rfl])
    refine ⟨vp_in_nI (by omega) (by decide), ?_⟩
    conv => whnf
    (try simp only [nI_9m, nI_1, nI_k _ 2 2 rfl, nI_k _ 3 3 rfl, nI_k _ 4 4 rfl, nI_k _ 5 5 rfl, nI_k _ 6 6 rfl, nI_k _ 7 7 rfl, nI_k _ 8 8 rfl])
    (try simp only [hc0, hc1, hc2, hc3, hc4, hc5, hc6, hc7, hc8])
    refine smf_fitsSides (by omega) hU (Or.inr rfl) rh rw_ rH rW (fun y => ?_) (fun n1 => ?_)
    · conv => whnf
      (refine ⟨fun z9 => ?_, fun z9 => ?_⟩ <;> first | ((have c9 : (1 : Int32) = 0 := by with_reducible exact z9); exact absurd c9 (by decide)) | exact absurd (rfl : (0 : Int32) = 0) (by with_reducible exact z9) | exact absurd True.intro (by with_reducible exact z9) | exact False.elim (by with_reducible exact z9) | (conv => whnf))
      conv => whnf
      have G := H1 (by unfold SFM; rw [eF]; exact Or.inl y)
      first | exact ⟨Or.inr rfl, G⟩ | exact G
    · conv => whnf
      (refine ⟨fun z9 => ?_, fun z9 => ?_⟩ <;> first | ((have c9 : (1 : Int32) = 0 := by with_reducible exact z9); exact absurd c9 (by decide)) | exact absurd (rfl : (0 : Int32) = 0) (by with_reducible exact z9) | exact absurd True.intro (by with_reducible exact z9) | exact False.elim (by with_reducible exact z9) | (conv => whnf))
      (try simp only [nI_9m, nI_1, nI_k _ 2 2 rfl, nI_k _ 3 3 rfl, nI_k _ 4 4 rfl, nI_k _ 5 5 rfl, nI_k _ 6 6 rfl, nI_k _ 7 7 rfl, nI_k _ 8 8 rfl])
      refine ⟨vp_in_nI (by omega) (by decide), ?_⟩
      conv => whnf
      (try simp only [nI_9m, nI_1, nI_k _ 2 2 rfl, nI_k _ 3 3 rfl, nI_k _ 4 4 rfl, nI_k _ 5 5 rfl, nI_k _ 6 6 rfl, nI_k _ 7 7 rfl, nI_k _ 8 8 rfl])
      (try simp only [hc0, hc1, hc2, hc3, hc4, hc5, hc6, hc7, hc8])
      refine ⟨fun c2 => ?_, fun c2 => ?_⟩
      · conv => whnf
        have G := H0 (fun z => by unfold SFM at z; rw [eF] at z; exact z.elim n1 (fun z3 => c2 z3.1))
        first | exact ⟨Or.inl rfl, G⟩ | exact G
      · conv => whnf
        (try simp only [nI_9m, nI_1, nI_k _ 2 2 rfl, nI_k _ 3 3 rfl, nI_k _ 4 4 rfl, nI_k _ 5 5 rfl, nI_k _ 6 6 rfl, nI_k _ 7 7 rfl, nI_k _ 8 8 rfl])
        refine ⟨vp_in_nI (by omega) (by decide), ?_⟩
        conv => whnf
        (try simp only [nI_9m, nI_1, nI_k _ 2 2 rfl, nI_k _ 3 3 rfl, nI_k _ 4 4 rfl, nI_k _ 5 5 rfl, nI_k _ 6 6 rfl, nI_k _ 7 7 rfl, nI_k _ 8 8 rfl])
        (try simp only [hc0, hc1, hc2, hc3, hc4, hc5, hc6, hc7, hc8])
        (try simp only [nI_9m, nI_1, nI_k _ 2 2 rfl, nI_k _ 3 3 rfl, nI_k _ 4 4 rfl, nI_k _ 5 5 rfl, nI_k _ 6 6 rfl, nI_k _ 7 7 rfl, nI_k _ 8 8 rfl])
        refine ⟨vp_in_nI (by omega) (by decide), ?_⟩
        conv => whnf
        (try simp only [nI_9m, nI_1, nI_k _ 2 2 rfl, nI_k _ 3 3 rfl, nI_k _ 4 4 rfl, nI_k _ 5 5 rfl, nI_k _ 6 6 rfl, nI_k _ 7 7 rfl, nI_k _ 8 8 rfl])
        (try simp only [hc0, hc1, hc2, hc3, hc4, hc5, hc6, hc7, hc8])
        (try simp only [nI_9m, nI_1, nI_k _ 2 2 rfl, nI_k _ 3 3 rfl, nI_k _ 4 4 rfl, nI_k _ 5 5 rfl, nI_k _ 6 6 rfl, nI_k _ 7 7 rfl, nI_k _ 8 8 rfl])
        refine ⟨vp_in_nI (by omega) (by decide), ?_⟩
        conv => whnf
        (try simp only [nI_9m, nI_1, nI_k _ 2 2 rfl, nI_k _ 3 3 rfl, nI_k _ 4 4 rfl, nI_k _ 5 5 rfl, nI_k _ 6 6 rfl, nI_k _ 7 7 rfl, nI_k _ 8 8 rfl])
        (try simp only [hc0, hc1, hc2, hc3, hc4, hc5, hc6, hc7, hc8])
        refine smf_fitsSides (by omega) hU (Or.inr rfl) rw_ rh rH rW (fun y => ?_) (fun n2 => ?_)
        · conv => whnf
          (refine ⟨fun z9 => ?_, fun z9 => ?_⟩ <;> first | ((have c9 : (1 : Int32) = 0 := by with_reducible exact z9); exact absurd c9 (by decide)) | exact absurd (rfl : (0 : Int32) = 0) (by with_reducible exact z9) | exact absurd True.intro (by with_reducible exact z9) | exact False.elim (by with_reducible exact z9) | (conv => whnf))
          conv => whnf
          have G := H1 (by unfold SFM; rw [eF]; exact Or.inr ⟨c2, y⟩)
          first | exact ⟨Or.inr rfl, G⟩ | exact G
        · conv => whnf
          (refine ⟨fun z9 => ?_, fun z9 => ?_⟩ <;> first | ((have c9 : (1 : Int32) = 0 := by with_reducible exact z9); exact absurd c9 (by decide)) | exact absurd (rfl : (0 : Int32) = 0) (by with_reducible exact z9) | exact absurd True.intro (by with_reducible exact z9) | exact False.elim (by with_reducible exact z9) | (conv => whnf))
          conv => whnf
          have G := H0 (fun z => by unfold SFM at z; rw [eF] at z; exact z.elim n1 (fun z3 => n2 z3.2))
          first | exact ⟨Or.inl rfl, G⟩ | exact G
set_option maxRecDepth 100000 in
set_option maxHeartbeats 4000000 in
theorem smf_scoreOf {d L : Nat} {f : Nat → Nat → Int32} {g : Nat → Nat → Int64} {m w q v h : Nat} {R : Option Value → mH → Prop} (hd : 5 ≤ d) (hm : m < 50) (hw : w < 40) (hU : f 203 (9 * m + 5) = 0 ∨ f 203 (9 * m + 5) = 1) (hF : f 203 (9 * m + 6) = 0 ∨ f 203 (9 * m + 6) = 1) (hHW : (f 203 (9 * m + 3) = 0 ∧ f 203 (9 * m + 4) = 0) ∨ (inr 1 6000 (f 203 (9 * m + 3)) ∧ inr 1 6000 (f 203 (9 * m + 4)))) (rh : inr 10 5000 (hM f w (f 203 (9 * m + 2)))) (rw_ : inr 10 5000 (wM f w (f 203 (9 * m + 2)))) (hq : f 191 w = nI q) (hq1 : 1 ≤ q) (hq4 : q ≤ 4) (hvb : f 181 48 = nI v) (hv : v ≤ 60) (hb9 : f 181 14 = nI h) (hm9 : h ≤ 60) (H : ∀ r, r = scM f v h m w → R (some (.int r)) (shF L, f, g)) : Run mtab d 195 [.ref 181, .int (nI m), .int (nI w)] (shF L, f, g) R := by
  obtain ⟨d, rfl⟩ : ∃ e, d = e + 1 := ⟨d - 1, by omega⟩
  refine go_X11_scoreOf rfl ?_
  conv => whnf
  have hc0 : (nI (9 * m)).toNatClampNeg = 9 * m := nI_clamp (by omega)
  have hc1 : (nI (9 * m + 1)).toNatClampNeg = 9 * m + 1 := nI_clamp (by omega)
  have hc2 : (nI (9 * m + 2)).toNatClampNeg = 9 * m + 2 := nI_clamp (by omega)
  have hc3 : (nI (9 * m + 3)).toNatClampNeg = 9 * m + 3 := nI_clamp (by omega)
  have hc4 : (nI (9 * m + 4)).toNatClampNeg = 9 * m + 4 := nI_clamp (by omega)
  have hc5 : (nI (9 * m + 5)).toNatClampNeg = 9 * m + 5 := nI_clamp (by omega)
  have hc6 : (nI (9 * m + 6)).toNatClampNeg = 9 * m + 6 := nI_clamp (by omega)
  have hc7 : (nI (9 * m + 7)).toNatClampNeg = 9 * m + 7 := nI_clamp (by omega)
  have hc8 : (nI (9 * m + 8)).toNatClampNeg = 9 * m + 8 := nI_clamp (by omega)
  have hcw : (nI w).toNatClampNeg = w := nI_clamp (by omega)
  have hqc : (f 191 w).toNatClampNeg = q := by rw [hq]; exact nI_clamp (by omega)
  (try simp only [nI_9m, nI_1, nI_k _ 2 2 rfl, nI_k _ 3 3 rfl, nI_k _ 4 4 rfl, nI_k _ 5 5 rfl, nI_k _ 6 6 rfl, nI_k _ 7 7 rfl, nI_k _ 8 8 rfl])
  refine ⟨vp_in_nI (by omega) (by decide), ?_⟩
  conv => whnf
  (try simp only [nI_9m, nI_1, nI_k _ 2 2 rfl, nI_k _ 3 3 rfl, nI_k _ 4 4 rfl, nI_k _ 5 5 rfl, nI_k _ 6 6 rfl, nI_k _ 7 7 rfl, nI_k _ 8 8 rfl])
  (try simp only [hc0, hc1, hc2, hc3, hc4, hc5, hc6, hc7, hc8])
  (try simp only [nI_9m, nI_1, nI_k _ 2 2 rfl, nI_k _ 3 3 rfl, nI_k _ 4 4 rfl, nI_k _ 5 5 rfl, nI_k _ 6 6 rfl, nI_k _ 7 7 rfl, nI_k _ 8 8 rfl])
  refine ⟨vp_in_nI (by omega) (by decide), ?_⟩
  conv => whnf
  (try simp only [nI_9m, nI_1, nI_k _ 2 2 rfl, nI_k _ 3 3 rfl, nI_k _ 4 4 rfl, nI_k _ 5 5 rfl, nI_k _ 6 6 rfl, nI_k _ 7 7 rfl, nI_k _ 8 8 rfl])
  (try simp only [hc0, hc1, hc2, hc3, hc4, hc5, hc6, hc7, hc8])
  refine ⟨fun c0 => ?_, fun c0 => ?_⟩
  · conv => whnf
    have c0b : ¬ 0 < f 203 (9 * m + 3) := i32_nlt.mpr c0
    clear c0
    have c0 := c0b
    (refine ⟨fun z9 => ?_, fun z9 => ?_⟩ <;> first | ((have c9 : (1 : Int32) = 0 := by with_reducible exact z9); exact absurd c9 (by decide)) | exact absurd (rfl : (0 : Int32) = 0) (by with_reducible exact z9) | exact absurd True.intro (by with_reducible exact z9) | exact False.elim (by with_reducible exact z9) | (conv => whnf))
    refine ⟨vp_in_nI (by omega) (by decide), ?_⟩
    conv => whnf
    simp only [hcw]
    refine ⟨fun c1 => ?_, fun c1 => ?_⟩
    · conv => whnf
      exact H _ (ci_t (Or.inr (Or.inl c1))).symm
    · conv => whnf
      (try simp only [hvb])
      refine smf_stateOf (by omega) hv ?_
      conv => whnf
      refine ⟨fun c2 => ?_, fun c2 => ?_⟩
      · conv => whnf
        have nb : ¬ ((0 < f 203 (9 * m + 3) ∧ ¬ SFM f m w) ∨ f 203 (9 * m + 2) < f 200 w ∨ (smp f 9999 (nI w) v).1 = 2) := fun z => z.elim (fun y => c0 y.1) (fun z2 => z2.elim c1 c2)
        (try simp only [nI_9m, nI_1, nI_k _ 2 2 rfl, nI_k _ 3 3 rfl, nI_k _ 4 4 rfl, nI_k _ 5 5 rfl, nI_k _ 6 6 rfl, nI_k _ 7 7 rfl, nI_k _ 8 8 rfl])
        refine ⟨vp_in_nI (by omega) (by decide), ?_⟩
        conv => whnf
        (try simp only [nI_9m, nI_1, nI_k _ 2 2 rfl, nI_k _ 3 3 rfl, nI_k _ 4 4 rfl, nI_k _ 5 5 rfl, nI_k _ 6 6 rfl, nI_k _ 7 7 rfl, nI_k _ 8 8 rfl])
        (try simp only [hc0, hc1, hc2, hc3, hc4, hc5, hc6, hc7, hc8])
        refine ⟨fun c4 => ?_, fun c4 => ?_⟩
        · conv => whnf
          have c4b : ¬ f 203 (9 * m + 8) < 0 := i32_nlt.mpr c4
          clear c4
          have c4 := c4b
          refine smf_ownerOf (by omega) hb9 hm9 ?_
          conv => whnf
          refine ⟨fun c5 => ?_, fun c5 => ?_⟩
          · conv => whnf
            (try simp only [nI_9m, nI_1, nI_k _ 2 2 rfl, nI_k _ 3 3 rfl, nI_k _ 4 4 rfl, nI_k _ 5 5 rfl, nI_k _ 6 6 rfl, nI_k _ 7 7 rfl, nI_k _ 8 8 rfl])
            refine ⟨vp_in_nI (by omega) (by decide), ?_⟩
            conv => whnf
            (try simp only [nI_9m, nI_1, nI_k _ 2 2 rfl, nI_k _ 3 3 rfl, nI_k _ 4 4 rfl, nI_k _ 5 5 rfl, nI_k _ 6 6 rfl, nI_k _ 7 7 rfl, nI_k _ 8 8 rfl])
            (try simp only [hc0, hc1, hc2, hc3, hc4, hc5, hc6, hc7, hc8])
            refine sm_titleOf (by omega) hw hq hq1 hq4 ?_
            conv => whnf
            refine smf_ones (by omega) ?_
            conv => whnf
            (refine ⟨fun z9 => ?_, fun z9 => ?_⟩ <;> first | ((have c9 : (1 : Int32) = 0 := by with_reducible exact z9); exact absurd c9 (by decide)) | exact absurd (rfl : (0 : Int32) = 0) (by with_reducible exact z9) | exact absurd True.intro (by with_reducible exact z9) | exact False.elim (by with_reducible exact z9) | (conv => whnf))
            refine ⟨fun _ => ?_, fun c9 => absurd c5 c9⟩
            conv => whnf
            have es : scM f v h m w = sc4 (4 * onE (f 203 (9 * m + 7) &&& titM f w q (f 203 (9 * m + 2))) + 0 + 0) := by
              unfold scM scw
              rw [hqc, ci_f c4, ci_f nb, ci_f (fun z => z.1 c5), ci_f c0, ci_f (fun z => z c5)]
            refine ⟨fun c7 => ?_, fun c7 => ?_⟩
            · conv => whnf
              exact H _ (by rw [es]; unfold sc4; rw [if_neg (i32_nlt.mpr c7)])
            · conv => whnf
              exact H _ (by rw [es]; unfold sc4; rw [if_pos (i32_nle.mp c7)])
          · conv => whnf
            (try simp only [nI_9m, nI_1, nI_k _ 2 2 rfl, nI_k _ 3 3 rfl, nI_k _ 4 4 rfl, nI_k _ 5 5 rfl, nI_k _ 6 6 rfl, nI_k _ 7 7 rfl, nI_k _ 8 8 rfl])
            refine ⟨vp_in_nI (by omega) (by decide), ?_⟩
            conv => whnf
            (try simp only [nI_9m, nI_1, nI_k _ 2 2 rfl, nI_k _ 3 3 rfl, nI_k _ 4 4 rfl, nI_k _ 5 5 rfl, nI_k _ 6 6 rfl, nI_k _ 7 7 rfl, nI_k _ 8 8 rfl])
            (try simp only [hc0, hc1, hc2, hc3, hc4, hc5, hc6, hc7, hc8])
            refine ⟨fun c6 => ?_, fun c6 => ?_⟩
            · conv => whnf
              (try simp only [nI_9m, nI_1, nI_k _ 2 2 rfl, nI_k _ 3 3 rfl, nI_k _ 4 4 rfl, nI_k _ 5 5 rfl, nI_k _ 6 6 rfl, nI_k _ 7 7 rfl, nI_k _ 8 8 rfl])
              refine ⟨vp_in_nI (by omega) (by decide), ?_⟩
              conv => whnf
              (try simp only [nI_9m, nI_1, nI_k _ 2 2 rfl, nI_k _ 3 3 rfl, nI_k _ 4 4 rfl, nI_k _ 5 5 rfl, nI_k _ 6 6 rfl, nI_k _ 7 7 rfl, nI_k _ 8 8 rfl])
              (try simp only [hc0, hc1, hc2, hc3, hc4, hc5, hc6, hc7, hc8])
              refine sm_titleOf (by omega) hw hq hq1 hq4 ?_
              conv => whnf
              refine smf_ones (by omega) ?_
              conv => whnf
              (refine ⟨fun z9 => ?_, fun z9 => ?_⟩ <;> first | ((have c9 : (1 : Int32) = 0 := by with_reducible exact z9); exact absurd c9 (by decide)) | exact absurd (rfl : (0 : Int32) = 0) (by with_reducible exact z9) | exact absurd True.intro (by with_reducible exact z9) | exact False.elim (by with_reducible exact z9) | (conv => whnf))
              refine ⟨fun c9 => absurd c9 c5, fun _ => ?_⟩
              conv => whnf
              have es : scM f v h m w = sc4 (4 * onE (f 203 (9 * m + 7) &&& titM f w q (f 203 (9 * m + 2))) + 0 + 5) := by
                unfold scM scw
                rw [hqc, ci_f c4, ci_f nb, ci_f (fun z => z.2 c6), ci_f c0, ci_t c5]
              refine ⟨fun c7 => ?_, fun c7 => ?_⟩
              · conv => whnf
                exact H _ (by rw [es]; unfold sc4; rw [if_neg (i32_nlt.mpr c7)])
              · conv => whnf
                exact H _ (by rw [es]; unfold sc4; rw [if_pos (i32_nle.mp c7)])
            · conv => whnf
              exact H _ (by unfold scM scw; rw [ci_f c4, ci_f nb]; exact (ci_t ⟨c5, c6⟩).symm)
        · conv => whnf
          have c4b : f 203 (9 * m + 8) < 0 := i32_nle.mp c4
          clear c4
          have c4 := c4b
          refine ⟨fun _ => ?_, fun z9 => absurd (by decide) z9⟩
          conv => whnf
          (try simp only [nI_9m, nI_1, nI_k _ 2 2 rfl, nI_k _ 3 3 rfl, nI_k _ 4 4 rfl, nI_k _ 5 5 rfl, nI_k _ 6 6 rfl, nI_k _ 7 7 rfl, nI_k _ 8 8 rfl])
          refine ⟨vp_in_nI (by omega) (by decide), ?_⟩
          conv => whnf
          (try simp only [nI_9m, nI_1, nI_k _ 2 2 rfl, nI_k _ 3 3 rfl, nI_k _ 4 4 rfl, nI_k _ 5 5 rfl, nI_k _ 6 6 rfl, nI_k _ 7 7 rfl, nI_k _ 8 8 rfl])
          (try simp only [hc0, hc1, hc2, hc3, hc4, hc5, hc6, hc7, hc8])
          refine sm_titleOf (by omega) hw hq hq1 hq4 ?_
          conv => whnf
          refine smf_ones (by omega) ?_
          conv => whnf
          (refine ⟨fun z9 => ?_, fun z9 => ?_⟩ <;> first | ((have c9 : (1 : Int32) = 0 := by with_reducible exact z9); exact absurd c9 (by decide)) | exact absurd (rfl : (0 : Int32) = 0) (by with_reducible exact z9) | exact absurd True.intro (by with_reducible exact z9) | exact False.elim (by with_reducible exact z9) | (conv => whnf))
          refine ⟨fun _ => ?_, fun z9 => absurd (by decide) z9⟩
          conv => whnf
          have es : scM f v h m w = sc4 (4 * onE (f 203 (9 * m + 7) &&& titM f w q (f 203 (9 * m + 2))) + 0 + 0) := by
            unfold scM scw
            rw [hqc, ci_t c4, ci_f nb, ci_f (fun z => z.1 (by decide)), ci_f c0, ci_f (fun z => z (by decide))]
          refine ⟨fun c7 => ?_, fun c7 => ?_⟩
          · conv => whnf
            exact H _ (by rw [es]; unfold sc4; rw [if_neg (i32_nlt.mpr c7)])
          · conv => whnf
            exact H _ (by rw [es]; unfold sc4; rw [if_pos (i32_nle.mp c7)])
      · conv => whnf
        exact H _ (ci_t (Or.inr (Or.inr c2))).symm
  · conv => whnf
    have c0b : 0 < f 203 (9 * m + 3) := i32_nle.mp c0
    clear c0
    have c0 := c0b
    (refine ⟨fun z9 => ?_, fun z9 => ?_⟩ <;> first | ((have c9 : (1 : Int32) = 0 := by with_reducible exact z9); exact absurd c9 (by decide)) | exact absurd (rfl : (0 : Int32) = 0) (by with_reducible exact z9) | exact absurd True.intro (by with_reducible exact z9) | exact False.elim (by with_reducible exact z9) | (conv => whnf))
    have rHW : inr 1 6000 (f 203 (9 * m + 3)) ∧ inr 1 6000 (f 203 (9 * m + 4)) := by
      rcases hHW with z | z
      · exact absurd (show (0 : Int32) < 0 by rw [z.1] at c0; exact c0) (by decide)
      · exact z
    refine smf_fitsSizes (by omega) hm hw hU hF rHW.1 rHW.2 rh rw_ (fun yS => ?_) (fun nS => ?_)
    · conv => whnf
      (refine ⟨fun z9 => ?_, fun z9 => ?_⟩ <;> first | ((have c9 : (1 : Int32) = 0 := by with_reducible exact z9); exact absurd c9 (by decide)) | exact absurd (rfl : (0 : Int32) = 0) (by with_reducible exact z9) | exact absurd True.intro (by with_reducible exact z9) | exact False.elim (by with_reducible exact z9) | (conv => whnf))
      refine ⟨vp_in_nI (by omega) (by decide), ?_⟩
      conv => whnf
      simp only [hcw]
      refine ⟨fun c1 => ?_, fun c1 => ?_⟩
      · conv => whnf
        exact H _ (ci_t (Or.inr (Or.inl c1))).symm
      · conv => whnf
        (try simp only [hvb])
        refine smf_stateOf (by omega) hv ?_
        conv => whnf
        refine ⟨fun c2 => ?_, fun c2 => ?_⟩
        · conv => whnf
          have nb : ¬ ((0 < f 203 (9 * m + 3) ∧ ¬ SFM f m w) ∨ f 203 (9 * m + 2) < f 200 w ∨ (smp f 9999 (nI w) v).1 = 2) := fun z => z.elim (fun y => y.2 yS) (fun z2 => z2.elim c1 c2)
          (try simp only [nI_9m, nI_1, nI_k _ 2 2 rfl, nI_k _ 3 3 rfl, nI_k _ 4 4 rfl, nI_k _ 5 5 rfl, nI_k _ 6 6 rfl, nI_k _ 7 7 rfl, nI_k _ 8 8 rfl])
          refine ⟨vp_in_nI (by omega) (by decide), ?_⟩
          conv => whnf
          (try simp only [nI_9m, nI_1, nI_k _ 2 2 rfl, nI_k _ 3 3 rfl, nI_k _ 4 4 rfl, nI_k _ 5 5 rfl, nI_k _ 6 6 rfl, nI_k _ 7 7 rfl, nI_k _ 8 8 rfl])
          (try simp only [hc0, hc1, hc2, hc3, hc4, hc5, hc6, hc7, hc8])
          refine ⟨fun c4 => ?_, fun c4 => ?_⟩
          · conv => whnf
            have c4b : ¬ f 203 (9 * m + 8) < 0 := i32_nlt.mpr c4
            clear c4
            have c4 := c4b
            refine smf_ownerOf (by omega) hb9 hm9 ?_
            conv => whnf
            refine ⟨fun c5 => ?_, fun c5 => ?_⟩
            · conv => whnf
              (try simp only [nI_9m, nI_1, nI_k _ 2 2 rfl, nI_k _ 3 3 rfl, nI_k _ 4 4 rfl, nI_k _ 5 5 rfl, nI_k _ 6 6 rfl, nI_k _ 7 7 rfl, nI_k _ 8 8 rfl])
              refine ⟨vp_in_nI (by omega) (by decide), ?_⟩
              conv => whnf
              (try simp only [nI_9m, nI_1, nI_k _ 2 2 rfl, nI_k _ 3 3 rfl, nI_k _ 4 4 rfl, nI_k _ 5 5 rfl, nI_k _ 6 6 rfl, nI_k _ 7 7 rfl, nI_k _ 8 8 rfl])
              (try simp only [hc0, hc1, hc2, hc3, hc4, hc5, hc6, hc7, hc8])
              refine sm_titleOf (by omega) hw hq hq1 hq4 ?_
              conv => whnf
              refine smf_ones (by omega) ?_
              conv => whnf
              (refine ⟨fun z9 => ?_, fun z9 => ?_⟩ <;> first | ((have c9 : (1 : Int32) = 0 := by with_reducible exact z9); exact absurd c9 (by decide)) | exact absurd (rfl : (0 : Int32) = 0) (by with_reducible exact z9) | exact absurd True.intro (by with_reducible exact z9) | exact False.elim (by with_reducible exact z9) | (conv => whnf))
              refine ⟨fun _ => ?_, fun c9 => absurd c5 c9⟩
              conv => whnf
              have es : scM f v h m w = sc4 (4 * onE (f 203 (9 * m + 7) &&& titM f w q (f 203 (9 * m + 2))) + 3 + 0) := by
                unfold scM scw
                rw [hqc, ci_f c4, ci_f nb, ci_f (fun z => z.1 c5), ci_t c0, ci_f (fun z => z c5)]
              refine ⟨fun c7 => ?_, fun c7 => ?_⟩
              · conv => whnf
                exact H _ (by rw [es]; unfold sc4; rw [if_neg (i32_nlt.mpr c7)])
              · conv => whnf
                exact H _ (by rw [es]; unfold sc4; rw [if_pos (i32_nle.mp c7)])
            · conv => whnf
              (try simp only [nI_9m, nI_1, nI_k _ 2 2 rfl, nI_k _ 3 3 rfl, nI_k _ 4 4 rfl, nI_k _ 5 5 rfl, nI_k _ 6 6 rfl, nI_k _ 7 7 rfl, nI_k _ 8 8 rfl])
              refine ⟨vp_in_nI (by omega) (by decide), ?_⟩
              conv => whnf
              (try simp only [nI_9m, nI_1, nI_k _ 2 2 rfl, nI_k _ 3 3 rfl, nI_k _ 4 4 rfl, nI_k _ 5 5 rfl, nI_k _ 6 6 rfl, nI_k _ 7 7 rfl, nI_k _ 8 8 rfl])
              (try simp only [hc0, hc1, hc2, hc3, hc4, hc5, hc6, hc7, hc8])
              refine ⟨fun c6 => ?_, fun c6 => ?_⟩
              · conv => whnf
                (try simp only [nI_9m, nI_1, nI_k _ 2 2 rfl, nI_k _ 3 3 rfl, nI_k _ 4 4 rfl, nI_k _ 5 5 rfl, nI_k _ 6 6 rfl, nI_k _ 7 7 rfl, nI_k _ 8 8 rfl])
                refine ⟨vp_in_nI (by omega) (by decide), ?_⟩
                conv => whnf
                (try simp only [nI_9m, nI_1, nI_k _ 2 2 rfl, nI_k _ 3 3 rfl, nI_k _ 4 4 rfl, nI_k _ 5 5 rfl, nI_k _ 6 6 rfl, nI_k _ 7 7 rfl, nI_k _ 8 8 rfl])
                (try simp only [hc0, hc1, hc2, hc3, hc4, hc5, hc6, hc7, hc8])
                refine sm_titleOf (by omega) hw hq hq1 hq4 ?_
                conv => whnf
                refine smf_ones (by omega) ?_
                conv => whnf
                (refine ⟨fun z9 => ?_, fun z9 => ?_⟩ <;> first | ((have c9 : (1 : Int32) = 0 := by with_reducible exact z9); exact absurd c9 (by decide)) | exact absurd (rfl : (0 : Int32) = 0) (by with_reducible exact z9) | exact absurd True.intro (by with_reducible exact z9) | exact False.elim (by with_reducible exact z9) | (conv => whnf))
                refine ⟨fun c9 => absurd c9 c5, fun _ => ?_⟩
                conv => whnf
                have es : scM f v h m w = sc4 (4 * onE (f 203 (9 * m + 7) &&& titM f w q (f 203 (9 * m + 2))) + 3 + 5) := by
                  unfold scM scw
                  rw [hqc, ci_f c4, ci_f nb, ci_f (fun z => z.2 c6), ci_t c0, ci_t c5]
                refine ⟨fun c7 => ?_, fun c7 => ?_⟩
                · conv => whnf
                  exact H _ (by rw [es]; unfold sc4; rw [if_neg (i32_nlt.mpr c7)])
                · conv => whnf
                  exact H _ (by rw [es]; unfold sc4; rw [if_pos (i32_nle.mp c7)])
              · conv => whnf
                exact H _ (by unfold scM scw; rw [ci_f c4, ci_f nb]; exact (ci_t ⟨c5, c6⟩).symm)
          · conv => whnf
            have c4b : f 203 (9 * m + 8) < 0 := i32_nle.mp c4
            clear c4
            have c4 := c4b
            refine ⟨fun _ => ?_, fun z9 => absurd (by decide) z9⟩
            conv => whnf
            (try simp only [nI_9m, nI_1, nI_k _ 2 2 rfl, nI_k _ 3 3 rfl, nI_k _ 4 4 rfl, nI_k _ 5 5 rfl, nI_k _ 6 6 rfl, nI_k _ 7 7 rfl, nI_k _ 8 8 rfl])
            refine ⟨vp_in_nI (by omega) (by decide), ?_⟩
            conv => whnf
            (try simp only [nI_9m, nI_1, nI_k _ 2 2 rfl, nI_k _ 3 3 rfl, nI_k _ 4 4 rfl, nI_k _ 5 5 rfl, nI_k _ 6 6 rfl, nI_k _ 7 7 rfl, nI_k _ 8 8 rfl])
            (try simp only [hc0, hc1, hc2, hc3, hc4, hc5, hc6, hc7, hc8])
            refine sm_titleOf (by omega) hw hq hq1 hq4 ?_
            conv => whnf
            refine smf_ones (by omega) ?_
            conv => whnf
            (refine ⟨fun z9 => ?_, fun z9 => ?_⟩ <;> first | ((have c9 : (1 : Int32) = 0 := by with_reducible exact z9); exact absurd c9 (by decide)) | exact absurd (rfl : (0 : Int32) = 0) (by with_reducible exact z9) | exact absurd True.intro (by with_reducible exact z9) | exact False.elim (by with_reducible exact z9) | (conv => whnf))
            refine ⟨fun _ => ?_, fun z9 => absurd (by decide) z9⟩
            conv => whnf
            have es : scM f v h m w = sc4 (4 * onE (f 203 (9 * m + 7) &&& titM f w q (f 203 (9 * m + 2))) + 3 + 0) := by
              unfold scM scw
              rw [hqc, ci_t c4, ci_f nb, ci_f (fun z => z.1 (by decide)), ci_t c0, ci_f (fun z => z (by decide))]
            refine ⟨fun c7 => ?_, fun c7 => ?_⟩
            · conv => whnf
              exact H _ (by rw [es]; unfold sc4; rw [if_neg (i32_nlt.mpr c7)])
            · conv => whnf
              exact H _ (by rw [es]; unfold sc4; rw [if_pos (i32_nle.mp c7)])
        · conv => whnf
          exact H _ (ci_t (Or.inr (Or.inr c2))).symm
    · conv => whnf
      (refine ⟨fun z9 => ?_, fun z9 => ?_⟩ <;> first | ((have c9 : (1 : Int32) = 0 := by with_reducible exact z9); exact absurd c9 (by decide)) | exact absurd (rfl : (0 : Int32) = 0) (by with_reducible exact z9) | exact absurd True.intro (by with_reducible exact z9) | exact False.elim (by with_reducible exact z9) | (conv => whnf))
      exact H _ (ci_t (Or.inl ⟨c0, nS⟩)).symm
set_option maxRecDepth 100000 in
theorem rvf_lp {d L n v h m : Nat} {f : Nat → Nat → Int32} {g : Nat → Nat → Int64} {R : Option Value → mH → Prop} (hd : 5 ≤ d) (hm : m < 50) (hU : f 203 (9 * m + 5) = 0 ∨ f 203 (9 * m + 5) = 1) (hF : f 203 (9 * m + 6) = 0 ∨ f 203 (9 * m + 6) = 1) (hHW : (f 203 (9 * m + 3) = 0 ∧ f 203 (9 * m + 4) = 0) ∨ (inr 1 6000 (f 203 (9 * m + 3)) ∧ inr 1 6000 (f 203 (9 * m + 4)))) (hS : ∀ w, w < n → inr 10 5000 (hM f w (f 203 (9 * m + 2))) ∧ inr 10 5000 (wM f w (f 203 (9 * m + 2)))) (hT : ∀ w, w < n → ∃ q, 1 ≤ q ∧ q ≤ 4 ∧ f 191 w = nI q) (hnb : f 181 0 = nI n) (hn : n ≤ 40) (hvb : f 181 48 = nI v) (hv : v ≤ 60) (hb9 : f 181 14 = nI h) (hm9 : h ≤ 60) :
    ∀ (k i : Nat) (x a : Int32), i + k = n → x = nI i → R (some (.int (cntl (fun i => 0 < scM f v h m i) k i a))) (shF L, f, g) → WPe pg_X11_rivalsOf none (Run mtab d) R (m_drop pg_X11_rivalsOf 4) [some (.ref 181), some (.int (nI m)), some (.int a), some (.int x)] [] (shF L, f, g)
  | 0, i, x, a, hi, hx, H => by
    have e : i = n := by omega
    subst hx
    subst e
    refine at_X11_rivalsOf ?_
    conv => whnf
    simp only [hnb]
    refine ⟨fun c => ?_, fun c => absurd (nI_le (Nat.le_refl _) (by omega)) c⟩
    conv => whnf
    exact H
  | k + 1, i, x, a, hi, hx, H => by
    subst hx
    obtain ⟨q, hq1, hq4, hq⟩ := hT i (by omega)
    refine at_X11_rivalsOf ?_
    conv => whnf
    simp only [hnb]
    refine ⟨fun c => absurd c (nI_ge (b := n) (by omega) (by omega)), fun c => ?_⟩
    conv => whnf
    refine smf_scoreOf (v := v) (h := h) (by omega) hm (by omega) hU hF hHW (hS i (by omega)).1 (hS i (by omega)).2 hq hq1 hq4 hvb hv hb9 hm9 (fun r er => ?_)
    subst er
    conv => whnf
    refine ⟨fun c1 => ?_, fun c1 => ?_⟩
    · conv => whnf
      exact rvf_lp hd hm hU hF hHW hS hT hnb hn hvb hv hb9 hm9 k (i + 1) _ (a + 0) (by omega) (nI_1 i) (by rw [cnt_n (P := (fun i => 0 < scM f v h m i)) (k := k) (i := i) (a := a) (i32_nlt.mpr c1)] at H; rw [Int32.add_zero]; exact H)
    · conv => whnf
      exact rvf_lp hd hm hU hF hHW hS hT hnb hn hvb hv hb9 hm9 k (i + 1) _ (a + 1) (by omega) (nI_1 i) (by rw [cnt_y (P := (fun i => 0 < scM f v h m i)) (k := k) (i := i) (a := a) (i32_nle.mp c1)] at H; exact H)
set_option maxRecDepth 100000 in
set_option maxHeartbeats 4000000 in
theorem smf_rivalsOf {d L : Nat} {f : Nat → Nat → Int32} {g : Nat → Nat → Int64} {n v h m : Nat} {R : Option Value → mH → Prop} (hd : 6 ≤ d) (hm : m < 50) (hU : f 203 (9 * m + 5) = 0 ∨ f 203 (9 * m + 5) = 1) (hF : f 203 (9 * m + 6) = 0 ∨ f 203 (9 * m + 6) = 1) (hHW : (f 203 (9 * m + 3) = 0 ∧ f 203 (9 * m + 4) = 0) ∨ (inr 1 6000 (f 203 (9 * m + 3)) ∧ inr 1 6000 (f 203 (9 * m + 4)))) (hS : ∀ w, w < n → inr 10 5000 (hM f w (f 203 (9 * m + 2))) ∧ inr 10 5000 (wM f w (f 203 (9 * m + 2)))) (hT : ∀ w, w < n → ∃ q, 1 ≤ q ∧ q ≤ 4 ∧ f 191 w = nI q) (hnb : f 181 0 = nI n) (hn : n ≤ 40) (hvb : f 181 48 = nI v) (hv : v ≤ 60) (hb9 : f 181 14 = nI h) (hm9 : h ≤ 60) (H : R (some (.int (cntl (fun i => 0 < scM f v h m i) n 0 0))) (shF L, f, g)) : Run mtab d 198 [.ref 181, .int (nI m)] (shF L, f, g) R := by
  obtain ⟨d, rfl⟩ : ∃ e, d = e + 1 := ⟨d - 1, by omega⟩
  refine go_X11_rivalsOf rfl ?_
  conv => whnf
  exact rvf_lp (by omega) hm hU hF hHW hS hT hnb hn hvb hv hb9 hm9 n 0 _ _ (by omega) rfl H
