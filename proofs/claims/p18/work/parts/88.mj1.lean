theorem sh_l : ∀ l, l < 9 → (1 : Int32) <<< (nI l &&& 31) = nI (2 ^ l) := by decide +kernel
theorem or_in : ∀ s, s < 256 → ∀ i, i < 8 → ¬ ((nI s ||| (1 : Int32) <<< (nI i &&& 31)) < 0 ∨ 256 ≤ (nI s ||| (1 : Int32) <<< (nI i &&& 31)).toNatClampNeg) := by decide +kernel
theorem p2_le {l : Nat} (h : l ≤ 8) : 2 ^ l ≤ 256 := Nat.pow_le_pow_right (n := 2) (by decide) h
set_option maxRecDepth 100000 in
set_option maxHeartbeats 4000000 in
theorem sm_aw3_lp {d L n : Nat} {f0 : Nat → Nat → Int32} {p : Nat} {R : Option Value → mH → Prop} (hd : 1 ≤ d) (hm : n ≤ 256) (H : ∀ f' g', XI f' → fx 209 211 f0 f' → R none (shF L, f', g'))  :
    ∀ (k i : Nat) (x : Int32) (s4 : Option Value) (s5 : Option Value) (s6 : Option Value) (f : Nat → Nat → Int32) (g : Nat → Nat → Int64), i + k = n → x = nI i → XI f → fx 209 211 f0 f → WPe pg_X11_addWork none (Run mtab d) R (m_drop pg_X11_addWork 80) [some (.ref 181), some (.int (nI p)), some (.int (nI n)), some (.int x), s4, s5, s6] [] (shF L, f, g)
  | 0, i, x, s4, s5, s6, f, g, he, hx, hX, hF => by
    have e : i = n := by omega
    subst hx
    subst e
    refine at_X11_addWork ?_
    conv => whnf
    refine ⟨fun c => ?_, fun c => absurd (nI_le (Nat.le_refl _) (by omega)) c⟩
    conv => whnf
    repeat' first
      | ((with_reducible refine ⟨vp_in_nI (by omega) (by decide), ?_⟩) <;> conv => whnf)
      | (refine ⟨Or.inl rfl, ?_⟩ <;> conv => whnf)
      | (refine ⟨Or.inr rfl, ?_⟩ <;> conv => whnf)
      | (refine ⟨Or.inl True.intro, ?_⟩ <;> conv => whnf)
      | (refine ⟨Or.inr True.intro, ?_⟩ <;> conv => whnf)
      | (refine ⟨fun c => ?_, fun c => ?_⟩ <;> first | ((have c9 : (1 : Int32) = 0 := by with_reducible exact c); exact absurd c9 (by decide)) | exact absurd (rfl : (0 : Int32) = 0) (by with_reducible exact c) | exact absurd True.intro (by with_reducible exact c) | exact False.elim (by with_reducible exact c) | (conv => whnf))
      | (refine ⟨by unfold vp_in; decide, ?_⟩ <;> conv => whnf)
      | fail
    all_goals exact H _ _ hX hF
  | k + 1, i, x, s4, s5, s6, f, g, he, hx, hX, hF => by
    subst hx
    refine at_X11_addWork ?_
    conv => whnf
    refine ⟨fun c => absurd c (nI_ge (b := n) (by omega) (by omega)), fun c => ?_⟩
    conv => whnf
    repeat' first
      | exact sm_aw3_lp hd hm H k (i + 1) _ _ _ _ _ _ (by omega) (nI_1 i) (by repeat' first | (with_reducible assumption) | (with_reducible refine XI_ui ?_ ?_) | (with_reducible refine XI_fil ?_ (fun _ => ?_)) | (with_reducible refine XI_cpy ?_ (fun _ _ => ?_)) | exact True.intro | ((show inr _ _ _); first | (with_reducible assumption) | (unfold inr; decide)) | fail) (by repeat' first | (with_reducible exact fx_refl _ _ _) | (with_reducible assumption) | (with_reducible refine fx_ui ?_ ?_ ?_) | (with_reducible refine fx_fil ?_ ?_ ?_) | (with_reducible refine fx_cpy ?_ ?_ ?_) | omega | decide | fail)
      | ((with_reducible refine ⟨vp_in_nI (by omega) (by decide), ?_⟩) <;> conv => whnf)
      | (refine ⟨Or.inl rfl, ?_⟩ <;> conv => whnf)
      | (refine ⟨Or.inr rfl, ?_⟩ <;> conv => whnf)
      | (refine ⟨Or.inl True.intro, ?_⟩ <;> conv => whnf)
      | (refine ⟨Or.inr True.intro, ?_⟩ <;> conv => whnf)
      | (refine ⟨fun c => ?_, fun c => ?_⟩ <;> first | ((have c9 : (1 : Int32) = 0 := by with_reducible exact c); exact absurd c9 (by decide)) | exact absurd (rfl : (0 : Int32) = 0) (by with_reducible exact c) | exact absurd True.intro (by with_reducible exact c) | exact False.elim (by with_reducible exact c) | (conv => whnf))
      | (refine ⟨by unfold vp_in; decide, ?_⟩ <;> conv => whnf)
      | fail
    all_goals exact H _ _ hX hF
set_option maxRecDepth 100000 in
set_option maxHeartbeats 4000000 in
theorem sm_aw2I_lp {d L n : Nat} {f0 : Nat → Nat → Int32} {p N q : Nat} {R : Option Value → mH → Prop} (hd : 1 ≤ d) (hm : n ≤ 8) (h0 : f0 181 34 = nI n) (hp : p < 40) (hq : q < 256) (HO : ∀ (x' : Int32) (s4 s5 s6 : Option Value) (f' : Nat → Nat → Int32) (g' : Nat → Nat → Int64), x' = nI (q + 1) → XI f' → fx 209 211 f0 f' → WPe pg_X11_addWork none (Run mtab d) R (m_drop pg_X11_addWork 17) [some (.ref 181), some (.int (nI p)), some (.int (nI N)), some (.int x'), s4, s5, s6] [] (shF L, f', g')) (H : ∀ f' g', XI f' → fx 209 211 f0 f' → R none (shF L, f', g'))  :
    ∀ (k i : Nat) (x : Int32) (s5 : Option Value) (s6 : Option Value) (f : Nat → Nat → Int32) (g : Nat → Nat → Int64), i + k = n → x = nI i → XI f → fx 209 211 f0 f → WPe pg_X11_addWork none (Run mtab d) R (m_drop pg_X11_addWork 22) [some (.ref 181), some (.int (nI p)), some (.int (nI N)), some (.int (nI q)), some (.int x), s5, s6] [] (shF L, f, g)
  | 0, i, x, s5, s6, f, g, he, hx, hX, hF => by
    have e : i = n := by omega
    subst hx
    have hcb : f 181 34 = nI n := (hF 181 34 (by omega)).trans h0
    subst e
    refine at_X11_addWork ?_
    conv => whnf
    try simp only [hcb, nI_40m, nI_add]
    refine ⟨fun c => ?_, fun c => absurd (nI_le (Nat.le_refl _) (by omega)) c⟩
    conv => whnf
    repeat' first
      | exact HO _ _ _ _ _ _ (nI_1 q) hX hF
      | (simp only [hcb, nI_40m, nI_add])
      | ((with_reducible refine ⟨vp_in_nI (by omega) (by decide), ?_⟩) <;> conv => whnf)
      | (refine ⟨Or.inl rfl, ?_⟩ <;> conv => whnf)
      | (refine ⟨Or.inr rfl, ?_⟩ <;> conv => whnf)
      | (refine ⟨Or.inl True.intro, ?_⟩ <;> conv => whnf)
      | (refine ⟨Or.inr True.intro, ?_⟩ <;> conv => whnf)
      | (refine ⟨fun c => ?_, fun c => ?_⟩ <;> first | ((have c9 : (1 : Int32) = 0 := by with_reducible exact c); exact absurd c9 (by decide)) | exact absurd (rfl : (0 : Int32) = 0) (by with_reducible exact c) | exact absurd True.intro (by with_reducible exact c) | exact False.elim (by with_reducible exact c) | (conv => whnf))
      | (refine ⟨by unfold vp_in; decide, ?_⟩ <;> conv => whnf)
      | fail
    all_goals fail
  | k + 1, i, x, s5, s6, f, g, he, hx, hX, hF => by
    subst hx
    have hcb : f 181 34 = nI n := (hF 181 34 (by omega)).trans h0
    refine at_X11_addWork ?_
    conv => whnf
    try simp only [hcb, nI_40m, nI_add]
    refine ⟨fun c => absurd c (nI_ge (b := n) (by omega) (by omega)), fun c => ?_⟩
    conv => whnf
    repeat' first
      | exact sm_aw2I_lp hd hm h0 hp hq HO H k (i + 1) _ _ _ _ _ (by omega) (nI_1 i) (by repeat' first | (with_reducible assumption) | (with_reducible refine XI_ui ?_ ?_) | (with_reducible refine XI_fil ?_ (fun _ => ?_)) | (with_reducible refine XI_cpy ?_ (fun _ _ => ?_)) | exact True.intro | ((show inr _ _ _); first | (with_reducible assumption) | (unfold inr; decide)) | fail) (by repeat' first | (with_reducible exact fx_refl _ _ _) | (with_reducible assumption) | (with_reducible refine fx_ui ?_ ?_ ?_) | (with_reducible refine fx_fil ?_ ?_ ?_) | (with_reducible refine fx_cpy ?_ ?_ ?_) | omega | decide | fail)
      | exact HO _ _ _ _ _ _ (nI_1 q) hX hF
      | ((with_reducible refine ⟨or_in q hq i (by omega), ?_⟩) <;> conv => whnf)
      | (refine ⟨or_in q hq i (by omega), ?_⟩ <;> conv => whnf)
      | (simp only [hcb, nI_40m, nI_add])
      | ((with_reducible refine ⟨vp_in_nI (by omega) (by decide), ?_⟩) <;> conv => whnf)
      | (refine ⟨Or.inl rfl, ?_⟩ <;> conv => whnf)
      | (refine ⟨Or.inr rfl, ?_⟩ <;> conv => whnf)
      | (refine ⟨Or.inl True.intro, ?_⟩ <;> conv => whnf)
      | (refine ⟨Or.inr True.intro, ?_⟩ <;> conv => whnf)
      | (refine ⟨fun c => ?_, fun c => ?_⟩ <;> first | ((have c9 : (1 : Int32) = 0 := by with_reducible exact c); exact absurd c9 (by decide)) | exact absurd (rfl : (0 : Int32) = 0) (by with_reducible exact c) | exact absurd True.intro (by with_reducible exact c) | exact False.elim (by with_reducible exact c) | (conv => whnf))
      | (refine ⟨by unfold vp_in; decide, ?_⟩ <;> conv => whnf)
      | fail
    all_goals fail
set_option maxRecDepth 100000 in
set_option maxHeartbeats 4000000 in
theorem sm_aw2_lp {d L n : Nat} {f0 : Nat → Nat → Int32} {p l : Nat} {R : Option Value → mH → Prop} (hd : 1 ≤ d) (hm : n ≤ 256) (h0 : f0 181 34 = nI l) (hl : l ≤ 8) (hp : p < 40) (H : ∀ f' g', XI f' → fx 209 211 f0 f' → R none (shF L, f', g'))  :
    ∀ (k i : Nat) (x : Int32) (s4 : Option Value) (s5 : Option Value) (s6 : Option Value) (f : Nat → Nat → Int32) (g : Nat → Nat → Int64), i + k = n → x = nI i → XI f → fx 209 211 f0 f → WPe pg_X11_addWork none (Run mtab d) R (m_drop pg_X11_addWork 17) [some (.ref 181), some (.int (nI p)), some (.int (nI n)), some (.int x), s4, s5, s6] [] (shF L, f, g)
  | 0, i, x, s4, s5, s6, f, g, he, hx, hX, hF => by
    have e : i = n := by omega
    subst hx
    subst e
    refine at_X11_addWork ?_
    conv => whnf
    refine ⟨fun c => ?_, fun c => absurd (nI_le (Nat.le_refl _) (by omega)) c⟩
    conv => whnf
    repeat' first
      | exact sm_aw3_lp (by omega) hm H i 0 _ _ _ _ _ _ (by omega) rfl hX hF
      | ((with_reducible refine ⟨vp_in_nI (by omega) (by decide), ?_⟩) <;> conv => whnf)
      | (refine ⟨Or.inl rfl, ?_⟩ <;> conv => whnf)
      | (refine ⟨Or.inr rfl, ?_⟩ <;> conv => whnf)
      | (refine ⟨Or.inl True.intro, ?_⟩ <;> conv => whnf)
      | (refine ⟨Or.inr True.intro, ?_⟩ <;> conv => whnf)
      | (refine ⟨fun c => ?_, fun c => ?_⟩ <;> first | ((have c9 : (1 : Int32) = 0 := by with_reducible exact c); exact absurd c9 (by decide)) | exact absurd (rfl : (0 : Int32) = 0) (by with_reducible exact c) | exact absurd True.intro (by with_reducible exact c) | exact False.elim (by with_reducible exact c) | (conv => whnf))
      | (refine ⟨by unfold vp_in; decide, ?_⟩ <;> conv => whnf)
      | fail
    all_goals fail
  | k + 1, i, x, s4, s5, s6, f, g, he, hx, hX, hF => by
    subst hx
    refine at_X11_addWork ?_
    conv => whnf
    refine ⟨fun c => absurd c (nI_ge (b := n) (by omega) (by omega)), fun c => ?_⟩
    conv => whnf
    repeat' first
      | exact sm_aw2_lp hd hm h0 hl hp H k (i + 1) _ _ _ _ _ _ (by omega) (nI_1 i) (by repeat' first | (with_reducible assumption) | (with_reducible refine XI_ui ?_ ?_) | (with_reducible refine XI_fil ?_ (fun _ => ?_)) | (with_reducible refine XI_cpy ?_ (fun _ _ => ?_)) | exact True.intro | ((show inr _ _ _); first | (with_reducible assumption) | (unfold inr; decide)) | fail) (by repeat' first | (with_reducible exact fx_refl _ _ _) | (with_reducible assumption) | (with_reducible refine fx_ui ?_ ?_ ?_) | (with_reducible refine fx_fil ?_ ?_ ?_) | (with_reducible refine fx_cpy ?_ ?_ ?_) | omega | decide | fail)
      | exact sm_aw2I_lp (p := p) (N := n) (q := i) hd hl h0 hp (by omega) (fun x' s4 s5 s6 f' g' hx' hX' hF' => sm_aw2_lp hd hm h0 hl hp H k (i + 1) x' s4 s5 s6 f' g' (by omega) hx' hX' hF') H l 0 _ _ _ _ _ (by omega) rfl hX hF
      | ((with_reducible refine ⟨vp_in_nI (by omega) (by decide), ?_⟩) <;> conv => whnf)
      | (refine ⟨Or.inl rfl, ?_⟩ <;> conv => whnf)
      | (refine ⟨Or.inr rfl, ?_⟩ <;> conv => whnf)
      | (refine ⟨Or.inl True.intro, ?_⟩ <;> conv => whnf)
      | (refine ⟨Or.inr True.intro, ?_⟩ <;> conv => whnf)
      | (refine ⟨fun c => ?_, fun c => ?_⟩ <;> first | ((have c9 : (1 : Int32) = 0 := by with_reducible exact c); exact absurd c9 (by decide)) | exact absurd (rfl : (0 : Int32) = 0) (by with_reducible exact c) | exact absurd True.intro (by with_reducible exact c) | exact False.elim (by with_reducible exact c) | (conv => whnf))
      | (refine ⟨by unfold vp_in; decide, ?_⟩ <;> conv => whnf)
      | fail
    all_goals fail
set_option maxRecDepth 100000 in
set_option maxHeartbeats 4000000 in
theorem sm_aw1_lp {d L n : Nat} {f0 : Nat → Nat → Int32} {p l : Nat} {R : Option Value → mH → Prop} (hd : 1 ≤ d) (hm : n ≤ 256) (h0 : f0 181 34 = nI l) (hl : l ≤ 8) (hp : p < 40) (H : ∀ f' g', XI f' → fx 209 211 f0 f' → R none (shF L, f', g'))  :
    ∀ (k i : Nat) (x : Int32) (s4 : Option Value) (s5 : Option Value) (s6 : Option Value) (f : Nat → Nat → Int32) (g : Nat → Nat → Int64), i + k = n → x = nI i → XI f → fx 209 211 f0 f → WPe pg_X11_addWork none (Run mtab d) R (m_drop pg_X11_addWork 2) [some (.ref 181), some (.int (nI p)), some (.int (nI n)), some (.int x), s4, s5, s6] [] (shF L, f, g)
  | 0, i, x, s4, s5, s6, f, g, he, hx, hX, hF => by
    have e : i = n := by omega
    subst hx
    subst e
    refine at_X11_addWork ?_
    conv => whnf
    refine ⟨fun c => ?_, fun c => absurd (nI_le (Nat.le_refl _) (by omega)) c⟩
    conv => whnf
    repeat' first
      | exact sm_aw2_lp (by omega) hm h0 hl hp H i 0 _ _ _ _ _ _ (by omega) rfl hX hF
      | ((with_reducible refine ⟨vp_in_nI (by omega) (by decide), ?_⟩) <;> conv => whnf)
      | (refine ⟨Or.inl rfl, ?_⟩ <;> conv => whnf)
      | (refine ⟨Or.inr rfl, ?_⟩ <;> conv => whnf)
      | (refine ⟨Or.inl True.intro, ?_⟩ <;> conv => whnf)
      | (refine ⟨Or.inr True.intro, ?_⟩ <;> conv => whnf)
      | (refine ⟨fun c => ?_, fun c => ?_⟩ <;> first | ((have c9 : (1 : Int32) = 0 := by with_reducible exact c); exact absurd c9 (by decide)) | exact absurd (rfl : (0 : Int32) = 0) (by with_reducible exact c) | exact absurd True.intro (by with_reducible exact c) | exact False.elim (by with_reducible exact c) | (conv => whnf))
      | (refine ⟨by unfold vp_in; decide, ?_⟩ <;> conv => whnf)
      | fail
    all_goals fail
  | k + 1, i, x, s4, s5, s6, f, g, he, hx, hX, hF => by
    subst hx
    refine at_X11_addWork ?_
    conv => whnf
    refine ⟨fun c => absurd c (nI_ge (b := n) (by omega) (by omega)), fun c => ?_⟩
    conv => whnf
    repeat' first
      | exact sm_aw1_lp hd hm h0 hl hp H k (i + 1) _ _ _ _ _ _ (by omega) (nI_1 i) (by repeat' first | (with_reducible assumption) | (with_reducible refine XI_ui ?_ ?_) | (with_reducible refine XI_fil ?_ (fun _ => ?_)) | (with_reducible refine XI_cpy ?_ (fun _ _ => ?_)) | exact True.intro | ((show inr _ _ _); first | (with_reducible assumption) | (unfold inr; decide)) | fail) (by repeat' first | (with_reducible exact fx_refl _ _ _) | (with_reducible assumption) | (with_reducible refine fx_ui ?_ ?_ ?_) | (with_reducible refine fx_fil ?_ ?_ ?_) | (with_reducible refine fx_cpy ?_ ?_ ?_) | omega | decide | fail)
      | ((with_reducible refine ⟨vp_in_nI (by omega) (by decide), ?_⟩) <;> conv => whnf)
      | (refine ⟨Or.inl rfl, ?_⟩ <;> conv => whnf)
      | (refine ⟨Or.inr rfl, ?_⟩ <;> conv => whnf)
      | (refine ⟨Or.inl True.intro, ?_⟩ <;> conv => whnf)
      | (refine ⟨Or.inr True.intro, ?_⟩ <;> conv => whnf)
      | (refine ⟨fun c => ?_, fun c => ?_⟩ <;> first | ((have c9 : (1 : Int32) = 0 := by with_reducible exact c); exact absurd c9 (by decide)) | exact absurd (rfl : (0 : Int32) = 0) (by with_reducible exact c) | exact absurd True.intro (by with_reducible exact c) | exact False.elim (by with_reducible exact c) | (conv => whnf))
      | (refine ⟨by unfold vp_in; decide, ?_⟩ <;> conv => whnf)
      | fail
    all_goals fail
set_option maxRecDepth 100000 in
set_option maxHeartbeats 4000000 in
theorem sm_addWork {d L : Nat} {f : Nat → Nat → Int32} {g : Nat → Nat → Int64} {p n : Nat} {R : Option Value → mH → Prop} (hd : 2 ≤ d) (hX : XI f) (hp : p < 40) (hm : n ≤ 256) (H : ∀ f' g', XI f' → fx 209 211 f f' → R none (shF L, f', g')) : Run mtab d 201 [.ref 181, .int (nI p), .int (nI n)] (shF L, f, g) R := by
  obtain ⟨d, rfl⟩ : ∃ e, d = e + 1 := ⟨d - 1, by omega⟩
  refine go_X11_addWork rfl ?_
  conv => whnf
  obtain ⟨l, hl, hb⟩ := inr_nat (n := 8) rfl (xi_181_34 hX)
  exact sm_aw1_lp (by omega) hm hb hl hp H n 0 _ _ _ _ _ _ (by omega) rfl hX (fx_refl _ _ _)
set_option maxRecDepth 100000 in
set_option maxHeartbeats 4000000 in
theorem sm_gr3_lp {d L n : Nat} {f0 : Nat → Nat → Int32}  {R : Option Value → mH → Prop} (hd : 1 ≤ d) (hm : n ≤ 256) (H : ∀ v f' g', XI f' → fx 209 211 f0 f' → R (some (.int v)) (shF L, f', g'))  :
    ∀ (k i : Nat) (x : Int32) (a : Int32) (s4 : Option Value) (f : Nat → Nat → Int32) (g : Nat → Nat → Int64), i + k = n → x = nI i → XI f → fx 209 211 f0 f → WPe pg_X11_greatest none (Run mtab d) R (m_drop pg_X11_greatest 64) [some (.ref 181), some (.int (nI n)), some (.int a), some (.int x), s4] [] (shF L, f, g)
  | 0, i, x, a, s4, f, g, he, hx, hX, hF => by
    have e : i = n := by omega
    subst hx
    subst e
    refine at_X11_greatest ?_
    conv => whnf
    refine ⟨fun c => ?_, fun c => absurd (nI_le (Nat.le_refl _) (by omega)) c⟩
    conv => whnf
    repeat' first
      | ((with_reducible refine ⟨vp_in_nI (by omega) (by decide), ?_⟩) <;> conv => whnf)
      | (refine ⟨Or.inl rfl, ?_⟩ <;> conv => whnf)
      | (refine ⟨Or.inr rfl, ?_⟩ <;> conv => whnf)
      | (refine ⟨Or.inl True.intro, ?_⟩ <;> conv => whnf)
      | (refine ⟨Or.inr True.intro, ?_⟩ <;> conv => whnf)
      | (refine ⟨fun c => ?_, fun c => ?_⟩ <;> first | ((have c9 : (1 : Int32) = 0 := by with_reducible exact c); exact absurd c9 (by decide)) | exact absurd (rfl : (0 : Int32) = 0) (by with_reducible exact c) | exact absurd True.intro (by with_reducible exact c) | exact False.elim (by with_reducible exact c) | (conv => whnf))
      | (refine ⟨by unfold vp_in; decide, ?_⟩ <;> conv => whnf)
      | fail
    all_goals exact H _ _ _ hX hF
  | k + 1, i, x, a, s4, f, g, he, hx, hX, hF => by
    subst hx
    refine at_X11_greatest ?_
    conv => whnf
    refine ⟨fun c => absurd c (nI_ge (b := n) (by omega) (by omega)), fun c => ?_⟩
    conv => whnf
    repeat' first
      | exact sm_gr3_lp hd hm H k (i + 1) _ _ _ _ _ (by omega) (nI_1 i) (by repeat' first | (with_reducible assumption) | (with_reducible refine XI_ui ?_ ?_) | (with_reducible refine XI_fil ?_ (fun _ => ?_)) | (with_reducible refine XI_cpy ?_ (fun _ _ => ?_)) | exact True.intro | ((show inr _ _ _); first | (with_reducible assumption) | (unfold inr; decide)) | fail) (by repeat' first | (with_reducible exact fx_refl _ _ _) | (with_reducible assumption) | (with_reducible refine fx_ui ?_ ?_ ?_) | (with_reducible refine fx_fil ?_ ?_ ?_) | (with_reducible refine fx_cpy ?_ ?_ ?_) | omega | decide | fail)
      | ((with_reducible refine ⟨vp_in_nI (by omega) (by decide), ?_⟩) <;> conv => whnf)
      | (refine ⟨Or.inl rfl, ?_⟩ <;> conv => whnf)
      | (refine ⟨Or.inr rfl, ?_⟩ <;> conv => whnf)
      | (refine ⟨Or.inl True.intro, ?_⟩ <;> conv => whnf)
      | (refine ⟨Or.inr True.intro, ?_⟩ <;> conv => whnf)
      | (refine ⟨fun c => ?_, fun c => ?_⟩ <;> first | ((have c9 : (1 : Int32) = 0 := by with_reducible exact c); exact absurd c9 (by decide)) | exact absurd (rfl : (0 : Int32) = 0) (by with_reducible exact c) | exact absurd True.intro (by with_reducible exact c) | exact False.elim (by with_reducible exact c) | (conv => whnf))
      | (refine ⟨by unfold vp_in; decide, ?_⟩ <;> conv => whnf)
      | fail
    all_goals exact H _ _ _ hX hF
set_option maxRecDepth 100000 in
set_option maxHeartbeats 4000000 in
theorem sm_gr2I_lp {d L n : Nat} {f0 : Nat → Nat → Int32} {N q : Nat} {R : Option Value → mH → Prop} (hd : 2 ≤ d) (hm : n ≤ 8) (h0 : f0 181 34 = nI n) (hq : q < 40) (hN : N ≤ 256) (HO : ∀ (x' : Int32) (s3 s4 : Option Value) (f' : Nat → Nat → Int32) (g' : Nat → Nat → Int64), x' = nI (q + 1) → XI f' → fx 209 211 f0 f' → WPe pg_X11_greatest none (Run mtab d) R (m_drop pg_X11_greatest 23) [some (.ref 181), some (.int (nI N)), some (.int x'), s3, s4] [] (shF L, f', g')) (H : ∀ v f' g', XI f' → fx 209 211 f0 f' → R (some (.int v)) (shF L, f', g'))  :
    ∀ (k i : Nat) (x : Int32) (a : Int32) (f : Nat → Nat → Int32) (g : Nat → Nat → Int64), i + k = n → x = nI i → XI f → fx 209 211 f0 f → WPe pg_X11_greatest none (Run mtab d) R (m_drop pg_X11_greatest 31) [some (.ref 181), some (.int (nI N)), some (.int (nI q)), some (.int a), some (.int x)] [] (shF L, f, g)
  | 0, i, x, a, f, g, he, hx, hX, hF => by
    have e : i = n := by omega
    subst hx
    have hcb : f 181 34 = nI n := (hF 181 34 (by omega)).trans h0
    subst e
    refine at_X11_greatest ?_
    conv => whnf
    try simp only [hcb, nI_40m, nI_add]
    refine ⟨fun c => ?_, fun c => absurd (nI_le (Nat.le_refl _) (by omega)) c⟩
    conv => whnf
    repeat' first
      | exact HO _ _ _ _ _ (nI_1 q) hX hF
      | exact HO _ _ _ _ _ (nI_1 q) h1 k1'
      | (simp only [hcb, nI_40m, nI_add])
      | ((with_reducible refine ⟨vp_in_nI (by omega) (by decide), ?_⟩) <;> conv => whnf)
      | (refine ⟨Or.inl rfl, ?_⟩ <;> conv => whnf)
      | (refine ⟨Or.inr rfl, ?_⟩ <;> conv => whnf)
      | (refine ⟨Or.inl True.intro, ?_⟩ <;> conv => whnf)
      | (refine ⟨Or.inr True.intro, ?_⟩ <;> conv => whnf)
      | (refine ⟨fun c => ?_, fun c => ?_⟩ <;> first | ((have c9 : (1 : Int32) = 0 := by with_reducible exact c); exact absurd c9 (by decide)) | exact absurd (rfl : (0 : Int32) = 0) (by with_reducible exact c) | exact absurd True.intro (by with_reducible exact c) | exact False.elim (by with_reducible exact c) | (conv => whnf))
      | (refine sm_addWork (by omega) hX hq hN (fun f1 g1 h1 k1 => ?_) <;> (have k1' := fx_trans hF k1) <;> conv => whnf)
      | (refine ⟨by unfold vp_in; decide, ?_⟩ <;> conv => whnf)
      | fail
    all_goals fail
  | k + 1, i, x, a, f, g, he, hx, hX, hF => by
    subst hx
    have hcb : f 181 34 = nI n := (hF 181 34 (by omega)).trans h0
    refine at_X11_greatest ?_
    conv => whnf
    try simp only [hcb, nI_40m, nI_add]
    refine ⟨fun c => absurd c (nI_ge (b := n) (by omega) (by omega)), fun c => ?_⟩
    conv => whnf
    repeat' first
      | exact sm_gr2I_lp hd hm h0 hq hN HO H k (i + 1) _ _ _ _ (by omega) (nI_1 i) (by repeat' first | (with_reducible assumption) | (with_reducible refine XI_ui ?_ ?_) | (with_reducible refine XI_fil ?_ (fun _ => ?_)) | (with_reducible refine XI_cpy ?_ (fun _ _ => ?_)) | exact True.intro | ((show inr _ _ _); first | (with_reducible assumption) | (unfold inr; decide)) | fail) (by repeat' first | (with_reducible exact fx_refl _ _ _) | (with_reducible assumption) | (with_reducible refine fx_ui ?_ ?_ ?_) | (with_reducible refine fx_fil ?_ ?_ ?_) | (with_reducible refine fx_cpy ?_ ?_ ?_) | omega | decide | fail)
      | (simp only [hcb, nI_40m, nI_add])
      | ((with_reducible refine ⟨vp_in_nI (by omega) (by decide), ?_⟩) <;> conv => whnf)
      | (refine ⟨Or.inl rfl, ?_⟩ <;> conv => whnf)
      | (refine ⟨Or.inr rfl, ?_⟩ <;> conv => whnf)
      | (refine ⟨Or.inl True.intro, ?_⟩ <;> conv => whnf)
      | (refine ⟨Or.inr True.intro, ?_⟩ <;> conv => whnf)
      | (refine ⟨fun c => ?_, fun c => ?_⟩ <;> first | ((have c9 : (1 : Int32) = 0 := by with_reducible exact c); exact absurd c9 (by decide)) | exact absurd (rfl : (0 : Int32) = 0) (by with_reducible exact c) | exact absurd True.intro (by with_reducible exact c) | exact False.elim (by with_reducible exact c) | (conv => whnf))
      | (refine ⟨by unfold vp_in; decide, ?_⟩ <;> conv => whnf)
      | fail
    all_goals fail
set_option maxRecDepth 100000 in
set_option maxHeartbeats 4000000 in
theorem sm_gr2_lp {d L n : Nat} {f0 : Nat → Nat → Int32} {N l : Nat} {R : Option Value → mH → Prop} (hd : 2 ≤ d) (hm : n ≤ 40) (h0 : f0 181 34 = nI l) (hl : l ≤ 8) (hn : f0 181 0 = nI n) (hN : N ≤ 256) (H : ∀ v f' g', XI f' → fx 209 211 f0 f' → R (some (.int v)) (shF L, f', g'))  :
    ∀ (k i : Nat) (x : Int32) (s3 : Option Value) (s4 : Option Value) (f : Nat → Nat → Int32) (g : Nat → Nat → Int64), i + k = n → x = nI i → XI f → fx 209 211 f0 f → WPe pg_X11_greatest none (Run mtab d) R (m_drop pg_X11_greatest 23) [some (.ref 181), some (.int (nI N)), some (.int x), s3, s4] [] (shF L, f, g)
  | 0, i, x, s3, s4, f, g, he, hx, hX, hF => by
    have e : i = n := by omega
    subst hx
    have hcb : f 181 0 = nI n := (hF 181 0 (by omega)).trans hn
    subst e
    refine at_X11_greatest ?_
    conv => whnf
    try simp only [hcb]
    refine ⟨fun c => ?_, fun c => absurd (nI_le (Nat.le_refl _) (by omega)) c⟩
    conv => whnf
    repeat' first
      | exact sm_gr3_lp (by omega) hN H N 0 _ _ _ _ _ (by omega) rfl hX hF
      | (simp only [hcb])
      | ((with_reducible refine ⟨vp_in_nI (by omega) (by decide), ?_⟩) <;> conv => whnf)
      | (refine ⟨Or.inl rfl, ?_⟩ <;> conv => whnf)
      | (refine ⟨Or.inr rfl, ?_⟩ <;> conv => whnf)
      | (refine ⟨Or.inl True.intro, ?_⟩ <;> conv => whnf)
      | (refine ⟨Or.inr True.intro, ?_⟩ <;> conv => whnf)
      | (refine ⟨fun c => ?_, fun c => ?_⟩ <;> first | ((have c9 : (1 : Int32) = 0 := by with_reducible exact c); exact absurd c9 (by decide)) | exact absurd (rfl : (0 : Int32) = 0) (by with_reducible exact c) | exact absurd True.intro (by with_reducible exact c) | exact False.elim (by with_reducible exact c) | (conv => whnf))
      | (refine ⟨by unfold vp_in; decide, ?_⟩ <;> conv => whnf)
      | fail
    all_goals fail
  | k + 1, i, x, s3, s4, f, g, he, hx, hX, hF => by
    subst hx
    have hcb : f 181 0 = nI n := (hF 181 0 (by omega)).trans hn
    refine at_X11_greatest ?_
    conv => whnf
    try simp only [hcb]
    refine ⟨fun c => absurd c (nI_ge (b := n) (by omega) (by omega)), fun c => ?_⟩
    conv => whnf
    repeat' first
      | exact sm_gr2_lp hd hm h0 hl hn hN H k (i + 1) _ _ _ _ _ (by omega) (nI_1 i) (by repeat' first | (with_reducible assumption) | (with_reducible refine XI_ui ?_ ?_) | (with_reducible refine XI_fil ?_ (fun _ => ?_)) | (with_reducible refine XI_cpy ?_ (fun _ _ => ?_)) | exact True.intro | ((show inr _ _ _); first | (with_reducible assumption) | (unfold inr; decide)) | fail) (by repeat' first | (with_reducible exact fx_refl _ _ _) | (with_reducible assumption) | (with_reducible refine fx_ui ?_ ?_ ?_) | (with_reducible refine fx_fil ?_ ?_ ?_) | (with_reducible refine fx_cpy ?_ ?_ ?_) | omega | decide | fail)
      | exact sm_gr2I_lp (N := N) (q := i) hd hl h0 (by omega) hN (fun x' s3 s4 f' g' hx' hX' hF' => sm_gr2_lp hd hm h0 hl hn hN H k (i + 1) x' s3 s4 f' g' (by omega) hx' hX' hF') H l 0 _ _ _ _ (by omega) rfl hX hF
      | (simp only [hcb])
      | ((with_reducible refine ⟨vp_in_nI (by omega) (by decide), ?_⟩) <;> conv => whnf)
      | (refine ⟨Or.inl rfl, ?_⟩ <;> conv => whnf)
      | (refine ⟨Or.inr rfl, ?_⟩ <;> conv => whnf)
      | (refine ⟨Or.inl True.intro, ?_⟩ <;> conv => whnf)
      | (refine ⟨Or.inr True.intro, ?_⟩ <;> conv => whnf)
      | (refine ⟨fun c => ?_, fun c => ?_⟩ <;> first | ((have c9 : (1 : Int32) = 0 := by with_reducible exact c); exact absurd c9 (by decide)) | exact absurd (rfl : (0 : Int32) = 0) (by with_reducible exact c) | exact absurd True.intro (by with_reducible exact c) | exact False.elim (by with_reducible exact c) | (conv => whnf))
      | (refine ⟨by unfold vp_in; decide, ?_⟩ <;> conv => whnf)
      | fail
    all_goals fail
set_option maxRecDepth 100000 in
set_option maxHeartbeats 4000000 in
theorem sm_gr1_lp {d L n : Nat} {f0 : Nat → Nat → Int32} {w l : Nat} {R : Option Value → mH → Prop} (hd : 2 ≤ d) (hm : n ≤ 256) (h0 : f0 181 34 = nI l) (hl : l ≤ 8) (hn : f0 181 0 = nI w) (hw : w ≤ 40) (H : ∀ v f' g', XI f' → fx 209 211 f0 f' → R (some (.int v)) (shF L, f', g'))  :
    ∀ (k i : Nat) (x : Int32) (s3 : Option Value) (s4 : Option Value) (f : Nat → Nat → Int32) (g : Nat → Nat → Int64), i + k = n → x = nI i → XI f → fx 209 211 f0 f → WPe pg_X11_greatest none (Run mtab d) R (m_drop pg_X11_greatest 7) [some (.ref 181), some (.int (nI n)), some (.int x), s3, s4] [] (shF L, f, g)
  | 0, i, x, s3, s4, f, g, he, hx, hX, hF => by
    have e : i = n := by omega
    subst hx
    subst e
    refine at_X11_greatest ?_
    conv => whnf
    refine ⟨fun c => ?_, fun c => absurd (nI_le (Nat.le_refl _) (by omega)) c⟩
    conv => whnf
    repeat' first
      | exact sm_gr2_lp (by omega) hw h0 hl hn hm H w 0 _ _ _ _ _ (by omega) rfl hX hF
      | ((with_reducible refine ⟨vp_in_nI (by omega) (by decide), ?_⟩) <;> conv => whnf)
      | (refine ⟨Or.inl rfl, ?_⟩ <;> conv => whnf)
      | (refine ⟨Or.inr rfl, ?_⟩ <;> conv => whnf)
      | (refine ⟨Or.inl True.intro, ?_⟩ <;> conv => whnf)
      | (refine ⟨Or.inr True.intro, ?_⟩ <;> conv => whnf)
      | (refine ⟨fun c => ?_, fun c => ?_⟩ <;> first | ((have c9 : (1 : Int32) = 0 := by with_reducible exact c); exact absurd c9 (by decide)) | exact absurd (rfl : (0 : Int32) = 0) (by with_reducible exact c) | exact absurd True.intro (by with_reducible exact c) | exact False.elim (by with_reducible exact c) | (conv => whnf))
      | (refine ⟨by unfold vp_in; decide, ?_⟩ <;> conv => whnf)
      | fail
    all_goals fail
  | k + 1, i, x, s3, s4, f, g, he, hx, hX, hF => by
    subst hx
    refine at_X11_greatest ?_
    conv => whnf
    refine ⟨fun c => absurd c (nI_ge (b := n) (by omega) (by omega)), fun c => ?_⟩
    conv => whnf
    repeat' first
      | exact sm_gr1_lp hd hm h0 hl hn hw H k (i + 1) _ _ _ _ _ (by omega) (nI_1 i) (by repeat' first | (with_reducible assumption) | (with_reducible refine XI_ui ?_ ?_) | (with_reducible refine XI_fil ?_ (fun _ => ?_)) | (with_reducible refine XI_cpy ?_ (fun _ _ => ?_)) | exact True.intro | ((show inr _ _ _); first | (with_reducible assumption) | (unfold inr; decide)) | fail) (by repeat' first | (with_reducible exact fx_refl _ _ _) | (with_reducible assumption) | (with_reducible refine fx_ui ?_ ?_ ?_) | (with_reducible refine fx_fil ?_ ?_ ?_) | (with_reducible refine fx_cpy ?_ ?_ ?_) | omega | decide | fail)
      | ((with_reducible refine ⟨vp_in_nI (by omega) (by decide), ?_⟩) <;> conv => whnf)
      | (refine ⟨Or.inl rfl, ?_⟩ <;> conv => whnf)
      | (refine ⟨Or.inr rfl, ?_⟩ <;> conv => whnf)
      | (refine ⟨Or.inl True.intro, ?_⟩ <;> conv => whnf)
      | (refine ⟨Or.inr True.intro, ?_⟩ <;> conv => whnf)
      | (refine ⟨fun c => ?_, fun c => ?_⟩ <;> first | ((have c9 : (1 : Int32) = 0 := by with_reducible exact c); exact absurd c9 (by decide)) | exact absurd (rfl : (0 : Int32) = 0) (by with_reducible exact c) | exact absurd True.intro (by with_reducible exact c) | exact False.elim (by with_reducible exact c) | (conv => whnf))
      | (refine ⟨by unfold vp_in; decide, ?_⟩ <;> conv => whnf)
      | fail
    all_goals fail
set_option maxRecDepth 100000 in
set_option maxHeartbeats 4000000 in
theorem sm_greatest {d L : Nat} {f : Nat → Nat → Int32} {g : Nat → Nat → Int64}  {R : Option Value → mH → Prop} (hd : 4 ≤ d) (hX : XI f) (H : ∀ v f' g', XI f' → fx 209 211 f f' → R (some (.int v)) (shF L, f', g')) : Run mtab d 200 [.ref 181] (shF L, f, g) R := by
  obtain ⟨d, rfl⟩ : ∃ e, d = e + 1 := ⟨d - 1, by omega⟩
  refine go_X11_greatest rfl ?_
  conv => whnf
  obtain ⟨l, hl, hb⟩ := inr_nat (n := 8) rfl (xi_181_34 hX)
  obtain ⟨w, hw, hn⟩ := inr_nat (n := 40) rfl (xi_181_0 hX)
  simp only [hb]
  have e := sh_l l (by omega)
  have := sm_gr1_lp (d := d) (L := L) (by omega) (p2_le hl) hb hl hn hw H (2 ^ l) 0 _ none none f g (by omega) rfl hX (fx_refl _ _ _)
  rw [← e] at this
  exact this
set_option maxRecDepth 100000 in
set_option maxHeartbeats 4000000 in
theorem sm_ft2_lp {d L n : Nat} {f0 : Nat → Nat → Int32} {q : Nat} {R : Option Value → mH → Prop} (hd : 5 ≤ d) (hm : n ≤ 40) (h0 : f0 181 0 = nI n) (hI : MI f0) (hq : q < 8) (HO : ∀ (x' : Int32) (s2 : Option Value) (f' : Nat → Nat → Int32) (g' : Nat → Nat → Int64), x' = nI (q + 1) → XI f' → fx 208 209 f0 f' → WPe pg_X11_fillTable none (Run mtab d) R (m_drop pg_X11_fillTable 2) [some (.ref 181), some (.int x'), s2] [] (shF L, f', g')) (H : ∀ f' g', XI f' → fx 208 209 f0 f' → R none (shF L, f', g'))  :
    ∀ (k i : Nat) (x : Int32) (f : Nat → Nat → Int32) (g : Nat → Nat → Int64), i + k = n → x = nI i → XI f → fx 208 209 f0 f → WPe pg_X11_fillTable none (Run mtab d) R (m_drop pg_X11_fillTable 8) [some (.ref 181), some (.int (nI q)), some (.int x)] [] (shF L, f, g)
  | 0, i, x, f, g, he, hx, hX, hF => by
    have e : i = n := by omega
    subst hx
    have hcb : f 181 0 = nI n := (hF 181 0 (by omega)).trans h0
    subst e
    refine at_X11_fillTable ?_
    conv => whnf
    try simp only [hcb, nI_40m, nI_add]
    refine ⟨fun c => ?_, fun c => absurd (nI_le (Nat.le_refl _) (by omega)) c⟩
    conv => whnf
    repeat' first
      | exact HO _ _ _ _ (nI_1 q) hX hF
      | (simp only [hcb, nI_40m, nI_add])
      | ((with_reducible refine ⟨vp_in_nI (by omega) (by decide), ?_⟩) <;> conv => whnf)
      | (refine ⟨Or.inl rfl, ?_⟩ <;> conv => whnf)
      | (refine ⟨Or.inr rfl, ?_⟩ <;> conv => whnf)
      | (refine ⟨Or.inl True.intro, ?_⟩ <;> conv => whnf)
      | (refine ⟨Or.inr True.intro, ?_⟩ <;> conv => whnf)
      | (refine ⟨fun c => ?_, fun c => ?_⟩ <;> first | ((have c9 : (1 : Int32) = 0 := by with_reducible exact c); exact absurd c9 (by decide)) | exact absurd (rfl : (0 : Int32) = 0) (by with_reducible exact c) | exact absurd True.intro (by with_reducible exact c) | exact False.elim (by with_reducible exact c) | (conv => whnf))
      | (refine ⟨by unfold vp_in; decide, ?_⟩ <;> conv => whnf)
      | fail
    all_goals fail
  | k + 1, i, x, f, g, he, hx, hX, hF => by
    subst hx
    have hcb : f 181 0 = nI n := (hF 181 0 (by omega)).trans h0
    refine at_X11_fillTable ?_
    conv => whnf
    try simp only [hcb, nI_40m, nI_add]
    refine ⟨fun c => absurd c (nI_ge (b := n) (by omega) (by omega)), fun c => ?_⟩
    conv => whnf
    repeat' first
      | exact sm_ft2_lp hd hm h0 hI hq HO H k (i + 1) _  _ _ (by omega) (nI_1 i) (by repeat' first | (with_reducible assumption) | (with_reducible refine XI_ui ?_ ?_) | (with_reducible refine XI_fil ?_ (fun _ => ?_)) | (with_reducible refine XI_cpy ?_ (fun _ _ => ?_)) | exact True.intro | ((show inr _ _ _); first | (with_reducible assumption) | (unfold inr; decide)) | fail) (by repeat' first | (with_reducible exact fx_refl _ _ _) | (with_reducible assumption) | (with_reducible refine fx_ui ?_ ?_ ?_) | (with_reducible refine fx_fil ?_ ?_ ?_) | (with_reducible refine fx_cpy ?_ ?_ ?_) | omega | decide | fail)
      | (simp only [hcb, nI_40m, nI_add])
      | ((with_reducible refine ⟨vp_in_nI (by omega) (by decide), ?_⟩) <;> conv => whnf)
      | (refine ⟨Or.inl rfl, ?_⟩ <;> conv => whnf)
      | (refine ⟨Or.inr rfl, ?_⟩ <;> conv => whnf)
      | (refine ⟨Or.inl True.intro, ?_⟩ <;> conv => whnf)
      | (refine ⟨Or.inr True.intro, ?_⟩ <;> conv => whnf)
      | (refine ⟨fun c => ?_, fun c => ?_⟩ <;> first | ((have c9 : (1 : Int32) = 0 := by with_reducible exact c); exact absurd c9 (by decide)) | exact absurd (rfl : (0 : Int32) = 0) (by with_reducible exact c) | exact absurd True.intro (by with_reducible exact c) | exact False.elim (by with_reducible exact c) | (conv => whnf))
      | ((obtain ⟨lm, hlm, elm⟩ := inr_nat (n := 49) rfl (xi_207 hX (nI q).toNatClampNeg)); (simp only [elm]); (obtain ⟨⟨t, ht1, ht4, ht⟩, _⟩ := MI_fx hI hF (by omega) n hm hcb i (by omega)); refine sm_scoreOf (by omega) hX (by omega) (by omega) ht ht1 ht4 (fun v => ?_) <;> conv => whnf)
      | (refine ⟨by unfold vp_in; decide, ?_⟩ <;> conv => whnf)
      | fail
    all_goals fail
set_option maxRecDepth 100000 in
set_option maxHeartbeats 4000000 in
theorem sm_ft1_lp {d L n : Nat} {f0 : Nat → Nat → Int32} {w : Nat} {R : Option Value → mH → Prop} (hd : 5 ≤ d) (hm : n ≤ 8) (h0 : f0 181 34 = nI n) (hI : MI f0) (hn : f0 181 0 = nI w) (hw : w ≤ 40) (H : ∀ f' g', XI f' → fx 208 209 f0 f' → R none (shF L, f', g'))  :
    ∀ (k i : Nat) (x : Int32) (s2 : Option Value) (f : Nat → Nat → Int32) (g : Nat → Nat → Int64), i + k = n → x = nI i → XI f → fx 208 209 f0 f → WPe pg_X11_fillTable none (Run mtab d) R (m_drop pg_X11_fillTable 2) [some (.ref 181), some (.int x), s2] [] (shF L, f, g)
  | 0, i, x, s2, f, g, he, hx, hX, hF => by
    have e : i = n := by omega
    subst hx
    have hcb : f 181 34 = nI n := (hF 181 34 (by omega)).trans h0
    subst e
    refine at_X11_fillTable ?_
    conv => whnf
    try simp only [hcb]
    refine ⟨fun c => ?_, fun c => absurd (nI_le (Nat.le_refl _) (by omega)) c⟩
    conv => whnf
    repeat' first
      | (simp only [hcb])
      | ((with_reducible refine ⟨vp_in_nI (by omega) (by decide), ?_⟩) <;> conv => whnf)
      | (refine ⟨Or.inl rfl, ?_⟩ <;> conv => whnf)
      | (refine ⟨Or.inr rfl, ?_⟩ <;> conv => whnf)
      | (refine ⟨Or.inl True.intro, ?_⟩ <;> conv => whnf)
      | (refine ⟨Or.inr True.intro, ?_⟩ <;> conv => whnf)
      | (refine ⟨fun c => ?_, fun c => ?_⟩ <;> first | ((have c9 : (1 : Int32) = 0 := by with_reducible exact c); exact absurd c9 (by decide)) | exact absurd (rfl : (0 : Int32) = 0) (by with_reducible exact c) | exact absurd True.intro (by with_reducible exact c) | exact False.elim (by with_reducible exact c) | (conv => whnf))
      | (refine ⟨by unfold vp_in; decide, ?_⟩ <;> conv => whnf)
      | fail
    all_goals exact H _ _ hX hF
  | k + 1, i, x, s2, f, g, he, hx, hX, hF => by
    subst hx
    have hcb : f 181 34 = nI n := (hF 181 34 (by omega)).trans h0
    refine at_X11_fillTable ?_
    conv => whnf
    try simp only [hcb]
    refine ⟨fun c => absurd c (nI_ge (b := n) (by omega) (by omega)), fun c => ?_⟩
    conv => whnf
    repeat' first
      | exact sm_ft1_lp hd hm h0 hI hn hw H k (i + 1) _ _ _ _ (by omega) (nI_1 i) (by repeat' first | (with_reducible assumption) | (with_reducible refine XI_ui ?_ ?_) | (with_reducible refine XI_fil ?_ (fun _ => ?_)) | (with_reducible refine XI_cpy ?_ (fun _ _ => ?_)) | exact True.intro | ((show inr _ _ _); first | (with_reducible assumption) | (unfold inr; decide)) | fail) (by repeat' first | (with_reducible exact fx_refl _ _ _) | (with_reducible assumption) | (with_reducible refine fx_ui ?_ ?_ ?_) | (with_reducible refine fx_fil ?_ ?_ ?_) | (with_reducible refine fx_cpy ?_ ?_ ?_) | omega | decide | fail)
      | exact sm_ft2_lp (q := i) hd hw hn hI (by omega) (fun x' s2 f' g' hx' hX' hF' => sm_ft1_lp hd hm h0 hI hn hw H k (i + 1) x' s2 f' g' (by omega) hx' hX' hF') H w 0 _ _ _ (by omega) rfl hX hF
      | (simp only [hcb])
      | ((with_reducible refine ⟨vp_in_nI (by omega) (by decide), ?_⟩) <;> conv => whnf)
      | (refine ⟨Or.inl rfl, ?_⟩ <;> conv => whnf)
      | (refine ⟨Or.inr rfl, ?_⟩ <;> conv => whnf)
      | (refine ⟨Or.inl True.intro, ?_⟩ <;> conv => whnf)
      | (refine ⟨Or.inr True.intro, ?_⟩ <;> conv => whnf)
      | (refine ⟨fun c => ?_, fun c => ?_⟩ <;> first | ((have c9 : (1 : Int32) = 0 := by with_reducible exact c); exact absurd c9 (by decide)) | exact absurd (rfl : (0 : Int32) = 0) (by with_reducible exact c) | exact absurd True.intro (by with_reducible exact c) | exact False.elim (by with_reducible exact c) | (conv => whnf))
      | (refine ⟨by unfold vp_in; decide, ?_⟩ <;> conv => whnf)
      | fail
    all_goals exact H _ _ hX hF
set_option maxRecDepth 100000 in
set_option maxHeartbeats 4000000 in
theorem sm_fillTable {d L : Nat} {f : Nat → Nat → Int32} {g : Nat → Nat → Int64}  {R : Option Value → mH → Prop} (hd : 6 ≤ d) (hX : XI f) (hI : MI f) (H : ∀ f' g', XI f' → fx 208 209 f f' → R none (shF L, f', g')) : Run mtab d 202 [.ref 181] (shF L, f, g) R := by
  obtain ⟨d, rfl⟩ : ∃ e, d = e + 1 := ⟨d - 1, by omega⟩
  refine go_X11_fillTable rfl ?_
  conv => whnf
  obtain ⟨l, hl, hb⟩ := inr_nat (n := 8) rfl (xi_181_34 hX)
  obtain ⟨w, hw, hn⟩ := inr_nat (n := 40) rfl (xi_181_0 hX)
  exact sm_ft1_lp (by omega) hl hb hI hn hw H l 0 _ _ _ _ (by omega) rfl hX (fx_refl _ _ _)
theorem inr_m4 {x : Int32} (h : inr (-4) 39 x) (h0 : ¬ x < 0) : ∃ j, j < 40 ∧ x = nI j := by
  obtain ⟨j, hj, e⟩ := nI_of2 (n := 39) rfl h0 h.2
  exact ⟨j, by omega, e⟩
set_option maxRecDepth 100000 in
set_option maxHeartbeats 4000000 in
theorem sm_to2_lp {d L n : Nat} {f0 : Nat → Nat → Int32} {y w : Int32} {R : Option Value → mH → Prop} (hd : 1 ≤ d) (hm : n ≤ 8) (h0 : f0 181 34 = nI n) (hw : inr (-4) 39 w) (H : ∀ f' g', XI f' → fx 208 209 f0 f' → R none (shF L, f', g'))  :
    ∀ (k i : Nat) (x : Int32) (f : Nat → Nat → Int32) (g : Nat → Nat → Int64), i + k = n → x = nI i → XI f → fx 208 209 f0 f → WPe pg_X11_takeOut none (Run mtab d) R (m_drop pg_X11_takeOut 19) [some (.ref 181), some (.int y), some (.int w), some (.int x)] [] (shF L, f, g)
  | 0, i, x, f, g, he, hx, hX, hF => by
    have e : i = n := by omega
    subst hx
    have hcb : f 181 34 = nI n := (hF 181 34 (by omega)).trans h0
    subst e
    refine at_X11_takeOut ?_
    conv => whnf
    try simp only [hcb, nI_40m, nI_add]
    refine ⟨fun c => ?_, fun c => absurd (nI_le (Nat.le_refl _) (by omega)) c⟩
    conv => whnf
    repeat' first
      | ((have hx9 := inr_m4 hw (by with_reducible assumption)); (obtain ⟨j, hj, e⟩ := hx9); (refine ⟨(by simp only [e, nI_40m, nI_add]; exact vp_in_nI (by omega) (by decide)), ?_⟩) <;> conv => whnf)
      | (simp only [hcb, nI_40m, nI_add])
      | ((with_reducible refine ⟨vp_in_nI (by omega) (by decide), ?_⟩) <;> conv => whnf)
      | (refine ⟨Or.inl rfl, ?_⟩ <;> conv => whnf)
      | (refine ⟨Or.inr rfl, ?_⟩ <;> conv => whnf)
      | (refine ⟨Or.inl True.intro, ?_⟩ <;> conv => whnf)
      | (refine ⟨Or.inr True.intro, ?_⟩ <;> conv => whnf)
      | (refine ⟨fun c => ?_, fun c => ?_⟩ <;> first | ((have c9 : (1 : Int32) = 0 := by with_reducible exact c); exact absurd c9 (by decide)) | exact absurd (rfl : (0 : Int32) = 0) (by with_reducible exact c) | exact absurd True.intro (by with_reducible exact c) | exact False.elim (by with_reducible exact c) | (conv => whnf))
      | (refine ⟨by unfold vp_in; decide, ?_⟩ <;> conv => whnf)
      | fail
    all_goals exact H _ _ hX hF
  | k + 1, i, x, f, g, he, hx, hX, hF => by
    subst hx
    have hcb : f 181 34 = nI n := (hF 181 34 (by omega)).trans h0
    refine at_X11_takeOut ?_
    conv => whnf
    try simp only [hcb, nI_40m, nI_add]
    refine ⟨fun c => absurd c (nI_ge (b := n) (by omega) (by omega)), fun c => ?_⟩
    conv => whnf
    repeat' first
      | exact sm_to2_lp hd hm h0 hw H k (i + 1) _  _ _ (by omega) (nI_1 i) (by repeat' first | (with_reducible assumption) | (with_reducible refine XI_ui ?_ ?_) | (with_reducible refine XI_fil ?_ (fun _ => ?_)) | (with_reducible refine XI_cpy ?_ (fun _ _ => ?_)) | exact True.intro | ((show inr _ _ _); first | (with_reducible assumption) | (unfold inr; decide)) | fail) (by repeat' first | (with_reducible exact fx_refl _ _ _) | (with_reducible assumption) | (with_reducible refine fx_ui ?_ ?_ ?_) | (with_reducible refine fx_fil ?_ ?_ ?_) | (with_reducible refine fx_cpy ?_ ?_ ?_) | omega | decide | fail)
      | ((have hx9 := inr_m4 hw (by with_reducible assumption)); (obtain ⟨j, hj, e⟩ := hx9); (refine ⟨(by simp only [e, nI_40m, nI_add]; exact vp_in_nI (by omega) (by decide)), ?_⟩) <;> conv => whnf)
      | (simp only [hcb, nI_40m, nI_add])
      | ((with_reducible refine ⟨vp_in_nI (by omega) (by decide), ?_⟩) <;> conv => whnf)
      | (refine ⟨Or.inl rfl, ?_⟩ <;> conv => whnf)
      | (refine ⟨Or.inr rfl, ?_⟩ <;> conv => whnf)
      | (refine ⟨Or.inl True.intro, ?_⟩ <;> conv => whnf)
      | (refine ⟨Or.inr True.intro, ?_⟩ <;> conv => whnf)
      | (refine ⟨fun c => ?_, fun c => ?_⟩ <;> first | ((have c9 : (1 : Int32) = 0 := by with_reducible exact c); exact absurd c9 (by decide)) | exact absurd (rfl : (0 : Int32) = 0) (by with_reducible exact c) | exact absurd True.intro (by with_reducible exact c) | exact False.elim (by with_reducible exact c) | (conv => whnf))
      | (refine ⟨by unfold vp_in; decide, ?_⟩ <;> conv => whnf)
      | fail
    all_goals exact H _ _ hX hF
set_option maxRecDepth 100000 in
set_option maxHeartbeats 4000000 in
theorem sm_to1_lp {d L n : Nat} {f0 : Nat → Nat → Int32} {p l : Nat} {w : Int32} {R : Option Value → mH → Prop} (hd : 1 ≤ d) (hm : n ≤ 40) (h0 : f0 181 0 = nI n) (hp : p < 8) (hw : inr (-4) 39 w) (hl : f0 181 34 = nI l) (hl8 : l ≤ 8) (H : ∀ f' g', XI f' → fx 208 209 f0 f' → R none (shF L, f', g'))  :
    ∀ (k i : Nat) (x : Int32) (f : Nat → Nat → Int32) (g : Nat → Nat → Int64), i + k = n → x = nI i → XI f → fx 208 209 f0 f → WPe pg_X11_takeOut none (Run mtab d) R (m_drop pg_X11_takeOut 2) [some (.ref 181), some (.int (nI p)), some (.int w), some (.int x)] [] (shF L, f, g)
  | 0, i, x, f, g, he, hx, hX, hF => by
    have e : i = n := by omega
    subst hx
    have hcb : f 181 0 = nI n := (hF 181 0 (by omega)).trans h0
    subst e
    refine at_X11_takeOut ?_
    conv => whnf
    try simp only [hcb, nI_40m, nI_add]
    refine ⟨fun c => ?_, fun c => absurd (nI_le (Nat.le_refl _) (by omega)) c⟩
    conv => whnf
    repeat' first
      | exact sm_to2_lp (by omega) hl8 hl hw H l 0 _ _ _ (by omega) rfl hX hF
      | (simp only [hcb, nI_40m, nI_add])
      | ((with_reducible refine ⟨vp_in_nI (by omega) (by decide), ?_⟩) <;> conv => whnf)
      | (refine ⟨Or.inl rfl, ?_⟩ <;> conv => whnf)
      | (refine ⟨Or.inr rfl, ?_⟩ <;> conv => whnf)
      | (refine ⟨Or.inl True.intro, ?_⟩ <;> conv => whnf)
      | (refine ⟨Or.inr True.intro, ?_⟩ <;> conv => whnf)
      | (refine ⟨fun c => ?_, fun c => ?_⟩ <;> first | ((have c9 : (1 : Int32) = 0 := by with_reducible exact c); exact absurd c9 (by decide)) | exact absurd (rfl : (0 : Int32) = 0) (by with_reducible exact c) | exact absurd True.intro (by with_reducible exact c) | exact False.elim (by with_reducible exact c) | (conv => whnf))
      | (refine ⟨by unfold vp_in; decide, ?_⟩ <;> conv => whnf)
      | fail
    all_goals fail
  | k + 1, i, x, f, g, he, hx, hX, hF => by
    subst hx
    have hcb : f 181 0 = nI n := (hF 181 0 (by omega)).trans h0
    refine at_X11_takeOut ?_
    conv => whnf
    try simp only [hcb, nI_40m, nI_add]
    refine ⟨fun c => absurd c (nI_ge (b := n) (by omega) (by omega)), fun c => ?_⟩
    conv => whnf
    repeat' first
      | exact sm_to1_lp hd hm h0 hp hw hl hl8 H k (i + 1) _  _ _ (by omega) (nI_1 i) (by repeat' first | (with_reducible assumption) | (with_reducible refine XI_ui ?_ ?_) | (with_reducible refine XI_fil ?_ (fun _ => ?_)) | (with_reducible refine XI_cpy ?_ (fun _ _ => ?_)) | exact True.intro | ((show inr _ _ _); first | (with_reducible assumption) | (unfold inr; decide)) | fail) (by repeat' first | (with_reducible exact fx_refl _ _ _) | (with_reducible assumption) | (with_reducible refine fx_ui ?_ ?_ ?_) | (with_reducible refine fx_fil ?_ ?_ ?_) | (with_reducible refine fx_cpy ?_ ?_ ?_) | omega | decide | fail)
      | (simp only [hcb, nI_40m, nI_add])
      | ((with_reducible refine ⟨vp_in_nI (by omega) (by decide), ?_⟩) <;> conv => whnf)
      | (refine ⟨Or.inl rfl, ?_⟩ <;> conv => whnf)
      | (refine ⟨Or.inr rfl, ?_⟩ <;> conv => whnf)
      | (refine ⟨Or.inl True.intro, ?_⟩ <;> conv => whnf)
      | (refine ⟨Or.inr True.intro, ?_⟩ <;> conv => whnf)
      | (refine ⟨fun c => ?_, fun c => ?_⟩ <;> first | ((have c9 : (1 : Int32) = 0 := by with_reducible exact c); exact absurd c9 (by decide)) | exact absurd (rfl : (0 : Int32) = 0) (by with_reducible exact c) | exact absurd True.intro (by with_reducible exact c) | exact False.elim (by with_reducible exact c) | (conv => whnf))
      | (refine ⟨by unfold vp_in; decide, ?_⟩ <;> conv => whnf)
      | fail
    all_goals fail
set_option maxRecDepth 100000 in
set_option maxHeartbeats 4000000 in
theorem sm_takeOut {d L : Nat} {f : Nat → Nat → Int32} {g : Nat → Nat → Int64} {p : Nat} {w : Int32} {R : Option Value → mH → Prop} (hd : 2 ≤ d) (hX : XI f) (hp : p < 8) (hw : inr (-4) 39 w) (H : ∀ f' g', XI f' → fx 208 209 f f' → R none (shF L, f', g')) : Run mtab d 203 [.ref 181, .int (nI p), .int w] (shF L, f, g) R := by
  obtain ⟨d, rfl⟩ : ∃ e, d = e + 1 := ⟨d - 1, by omega⟩
  refine go_X11_takeOut rfl ?_
  conv => whnf
  obtain ⟨l, hl, hb⟩ := inr_nat (n := 8) rfl (xi_181_34 hX)
  obtain ⟨n, hn, hnb⟩ := inr_nat (n := 40) rfl (xi_181_0 hX)
  exact sm_to1_lp (by omega) hn hnb hp hw hb hl H n 0 _ _ _ (by omega) rfl hX (fx_refl _ _ _)
set_option maxRecDepth 100000 in
set_option maxHeartbeats 4000000 in
theorem sm_cj2_lp {d L : Nat} {f0 : Nat → Nat → Int32} {p q : Nat} {w y b : Int32} {R : Option Value → mH → Prop} (hd : 1 ≤ d) (hb : b = 0 ∨ b = 1) (H : ∀ v f' g', (v = 0 ∨ v = 1) → XI f' → fx 208 212 f0 f' → R (some (.int v)) (shF L, f', g'))  :
    ∀ (k i : Nat) (x : Int32) (f : Nat → Nat → Int32) (g : Nat → Nat → Int64), i + k = 320 → x = nI i → XI f → fx 208 212 f0 f → WPe pg_X11_canJoin none (Run mtab d) R (m_drop pg_X11_canJoin 40) [some (.ref 181), some (.int (nI p)), some (.int (nI q)), some (.int w), some (.int y), some (.int b), some (.int x)] [] (shF L, f, g)
  | 0, i, x, f, g, he, hx, hX, hF => by
    have e : i = 320 := by omega
    subst hx
    subst e
    refine at_X11_canJoin ?_
    conv => whnf
    refine ⟨fun c => ?_, fun c => absurd (by decide) c⟩
    conv => whnf
    repeat' first
      | ((with_reducible refine ⟨vp_in_nI (by omega) (by decide), ?_⟩) <;> conv => whnf)
      | (refine ⟨Or.inl rfl, ?_⟩ <;> conv => whnf)
      | (refine ⟨Or.inr rfl, ?_⟩ <;> conv => whnf)
      | (refine ⟨Or.inl True.intro, ?_⟩ <;> conv => whnf)
      | (refine ⟨Or.inr True.intro, ?_⟩ <;> conv => whnf)
      | (refine ⟨fun c => ?_, fun c => ?_⟩ <;> first | ((have c9 : (1 : Int32) = 0 := by with_reducible exact c); exact absurd c9 (by decide)) | exact absurd (rfl : (0 : Int32) = 0) (by with_reducible exact c) | exact absurd True.intro (by with_reducible exact c) | exact False.elim (by with_reducible exact c) | (conv => whnf))
      | (refine ⟨by unfold vp_in; decide, ?_⟩ <;> conv => whnf)
      | fail
    all_goals exact ⟨hb, H _ _ _ hb hX hF⟩
  | k + 1, i, x, f, g, he, hx, hX, hF => by
    subst hx
    refine at_X11_canJoin ?_
    conv => whnf
    refine ⟨fun c => absurd c (nI_ge (b := 320) (by omega) (by omega)), fun c => ?_⟩
    conv => whnf
    repeat' first
      | exact sm_cj2_lp hd hb H k (i + 1) _  _ _ (by omega) (nI_1 i) (by repeat' first | (with_reducible assumption) | (with_reducible refine XI_ui ?_ ?_) | (with_reducible refine XI_fil ?_ (fun _ => ?_)) | (with_reducible refine XI_cpy ?_ (fun _ _ => ?_)) | exact True.intro | ((show inr _ _ _); first | (with_reducible assumption) | (unfold inr; decide)) | fail) (by repeat' first | (with_reducible exact fx_refl _ _ _) | (with_reducible assumption) | (with_reducible refine fx_ui ?_ ?_ ?_) | (with_reducible refine fx_fil ?_ ?_ ?_) | (with_reducible refine fx_cpy ?_ ?_ ?_) | omega | decide | fail)
      | ((with_reducible refine ⟨vp_in_nI (by omega) (by decide), ?_⟩) <;> conv => whnf)
      | (refine ⟨Or.inl rfl, ?_⟩ <;> conv => whnf)
      | (refine ⟨Or.inr rfl, ?_⟩ <;> conv => whnf)
      | (refine ⟨Or.inl True.intro, ?_⟩ <;> conv => whnf)
      | (refine ⟨Or.inr True.intro, ?_⟩ <;> conv => whnf)
      | (refine ⟨fun c => ?_, fun c => ?_⟩ <;> first | ((have c9 : (1 : Int32) = 0 := by with_reducible exact c); exact absurd c9 (by decide)) | exact absurd (rfl : (0 : Int32) = 0) (by with_reducible exact c) | exact absurd True.intro (by with_reducible exact c) | exact False.elim (by with_reducible exact c) | (conv => whnf))
      | (refine ⟨by unfold vp_in; decide, ?_⟩ <;> conv => whnf)
      | fail
    all_goals exact ⟨hb, H _ _ _ hb hX hF⟩
theorem inr_j {j : Nat} (h : j < 40) : inr (-4) 39 (nI j) := by
  have a := inr_n (n := j) (m := 39) (hi := 39) (by omega) rfl (by decide)
  refine ⟨?_, a.2⟩
  have b := Int32.le_iff_toInt_le.mp a.1
  rw [Int32.le_iff_toInt_le]
  have e0 : (0 : Int32).toInt = 0 := rfl
  have e4 : (-4 : Int32).toInt = -4 := rfl
  omega
set_option maxRecDepth 100000 in
set_option maxHeartbeats 4000000 in
theorem sm_cj1_lp {d L : Nat} {f0 : Nat → Nat → Int32} {p q : Nat} {w : Int32} {R : Option Value → mH → Prop} (hd : 4 ≤ d) (hp : p < 8) (hq : q < 40) (H : ∀ v f' g', (v = 0 ∨ v = 1) → XI f' → fx 208 212 f0 f' → R (some (.int v)) (shF L, f', g'))  :
    ∀ (k i : Nat) (x : Int32) (s5 : Option Value) (s6 : Option Value) (f : Nat → Nat → Int32) (g : Nat → Nat → Int64), i + k = 320 → x = nI i → XI f → fx 208 212 f0 f → WPe pg_X11_canJoin none (Run mtab d) R (m_drop pg_X11_canJoin 2) [some (.ref 181), some (.int (nI p)), some (.int (nI q)), some (.int w), some (.int x), s5, s6] [] (shF L, f, g)
  | 0, i, x, s5, s6, f, g, he, hx, hX, hF => by
    have e : i = 320 := by omega
    subst hx
    subst e
    refine at_X11_canJoin ?_
    conv => whnf
    refine ⟨fun c => ?_, fun c => absurd (by decide) c⟩
    conv => whnf
    repeat' first
      | exact sm_cj2_lp (by omega) (Or.inl rfl) H 320 0 _ _ _ (by omega) rfl h2 k2'
      | exact sm_cj2_lp (by omega) (Or.inr rfl) H 320 0 _ _ _ (by omega) rfl h2 k2'
      | ((with_reducible refine ⟨vp_in_nI (by omega) (by decide), ?_⟩) <;> conv => whnf)
      | (refine ⟨Or.inl rfl, ?_⟩ <;> conv => whnf)
      | (refine ⟨Or.inr rfl, ?_⟩ <;> conv => whnf)
      | (refine ⟨Or.inl True.intro, ?_⟩ <;> conv => whnf)
      | (refine ⟨Or.inr True.intro, ?_⟩ <;> conv => whnf)
      | (refine ⟨fun c => ?_, fun c => ?_⟩ <;> first | ((have c9 : (1 : Int32) = 0 := by with_reducible exact c); exact absurd c9 (by decide)) | exact absurd (rfl : (0 : Int32) = 0) (by with_reducible exact c) | exact absurd True.intro (by with_reducible exact c) | exact False.elim (by with_reducible exact c) | (conv => whnf))
      | ((simp only [nI_40m, nI_add]))
      | (refine sm_takeOut (by omega) hX hp (inr_j hq) (fun f1 g1 h1 k1 => ?_) <;> (have k1' : fx 208 212 f0 f1 := fx_trans hF (fx_wide k1 (by omega) (by omega))) <;> conv => whnf)
      | (refine sm_greatest (by omega) h1 (fun v f2 g2 h2 k2 => ?_) <;> (have k2' : fx 208 212 f0 f2 := fx_trans k1' (fx_wide k2 (by omega) (by omega))) <;> conv => whnf)
      | (refine ⟨by unfold vp_in; decide, ?_⟩ <;> conv => whnf)
      | fail
    all_goals fail
  | k + 1, i, x, s5, s6, f, g, he, hx, hX, hF => by
    subst hx
    refine at_X11_canJoin ?_
    conv => whnf
    refine ⟨fun c => absurd c (nI_ge (b := 320) (by omega) (by omega)), fun c => ?_⟩
    conv => whnf
    repeat' first
      | exact sm_cj1_lp hd hp hq H k (i + 1) _ _ _ _ _ (by omega) (nI_1 i) (by repeat' first | (with_reducible assumption) | (with_reducible refine XI_ui ?_ ?_) | (with_reducible refine XI_fil ?_ (fun _ => ?_)) | (with_reducible refine XI_cpy ?_ (fun _ _ => ?_)) | exact True.intro | ((show inr _ _ _); first | (with_reducible assumption) | (unfold inr; decide)) | fail) (by repeat' first | (with_reducible exact fx_refl _ _ _) | (with_reducible assumption) | (with_reducible refine fx_ui ?_ ?_ ?_) | (with_reducible refine fx_fil ?_ ?_ ?_) | (with_reducible refine fx_cpy ?_ ?_ ?_) | omega | decide | fail)
      | ((with_reducible refine ⟨vp_in_nI (by omega) (by decide), ?_⟩) <;> conv => whnf)
      | (refine ⟨Or.inl rfl, ?_⟩ <;> conv => whnf)
      | (refine ⟨Or.inr rfl, ?_⟩ <;> conv => whnf)
      | (refine ⟨Or.inl True.intro, ?_⟩ <;> conv => whnf)
      | (refine ⟨Or.inr True.intro, ?_⟩ <;> conv => whnf)
      | (refine ⟨fun c => ?_, fun c => ?_⟩ <;> first | ((have c9 : (1 : Int32) = 0 := by with_reducible exact c); exact absurd c9 (by decide)) | exact absurd (rfl : (0 : Int32) = 0) (by with_reducible exact c) | exact absurd True.intro (by with_reducible exact c) | exact False.elim (by with_reducible exact c) | (conv => whnf))
      | (refine ⟨by unfold vp_in; decide, ?_⟩ <;> conv => whnf)
      | fail
    all_goals fail
set_option maxRecDepth 100000 in
set_option maxHeartbeats 4000000 in
theorem sm_canJoin {d L : Nat} {f : Nat → Nat → Int32} {g : Nat → Nat → Int64} {p q : Nat} {w : Int32} {R : Option Value → mH → Prop} (hd : 5 ≤ d) (hX : XI f) (hp : p < 8) (hq : q < 40) (H : ∀ v f' g', (v = 0 ∨ v = 1) → XI f' → fx 208 212 f f' → R (some (.int v)) (shF L, f', g')) : Run mtab d 205 [.ref 181, .int (nI p), .int (nI q), .int w] (shF L, f, g) R := by
  obtain ⟨d, rfl⟩ : ∃ e, d = e + 1 := ⟨d - 1, by omega⟩
  refine go_X11_canJoin rfl ?_
  conv => whnf
  exact sm_cj1_lp (by omega) hp hq H 320 0 _ _ _ _ _ (by omega) rfl hX (fx_refl _ _ _)
