/-- a choice by any statement -/
noncomputable def ci (p : Prop) (a b : Int32) : Int32 := @ite Int32 p (Classical.propDecidable p) a b
theorem ci_t {p : Prop} {a b : Int32} (h : p) : ci p a b = a := @if_pos p (Classical.propDecidable p) h Int32 a b
theorem ci_f {p : Prop} {a b : Int32} (h : ¬ p) : ci p a b = b := @if_neg p (Classical.propDecidable p) h Int32 a b
/-- the one owner: N says when the one found before counts -/
noncomputable def ownl (N : Int32 → Prop) (P : Nat → Prop) (D : Nat → Int32) : Nat → Nat → Int32 → Int32
  | 0, _, a => a
  | k + 1, i, a => ci (P i) (ci (N a ∧ ¬ a = D i) (-4) (ownl N P D k (i + 1) (D i))) (ownl N P D k (i + 1) a)
theorem own_n {N : Int32 → Prop} {P : Nat → Prop} {D : Nat → Int32} {k i : Nat} {a : Int32} (h : ¬ P i) : ownl N P D (k + 1) i a = ownl N P D k (i + 1) a := ci_f h
theorem own_y {N : Int32 → Prop} {P : Nat → Prop} {D : Nat → Int32} {k i : Nat} {a : Int32} (h : P i) (h2 : ¬ (N a ∧ ¬ a = D i)) : ownl N P D (k + 1) i a = ownl N P D k (i + 1) (D i) := (ci_t h).trans (ci_f h2)
theorem own_q {N : Int32 → Prop} {P : Nat → Prop} {D : Nat → Int32} {k i : Nat} {a : Int32} (h : P i) (h2 : N a ∧ ¬ a = D i) : ownl N P D (k + 1) i a = -4 := (ci_t h).trans (ci_t h2)
/-- all who may hold -/
noncomputable def mayl (P : Nat → Prop) (D : Nat → Int32) : Nat → Nat → Int32 → Int32
  | 0, _, a => a
  | k + 1, i, a => mayl P D k (i + 1) (ci (P i) (a ||| (1 <<< (D i &&& 31))) a)
theorem may_y {P : Nat → Prop} {D : Nat → Int32} {k i : Nat} {a : Int32} (h : P i) : mayl P D (k + 1) i a = mayl P D k (i + 1) (a ||| (1 <<< (D i &&& 31))) := by
  show mayl P D k (i + 1) _ = _
  rw [ci_t h]
theorem may_n {P : Nat → Prop} {D : Nat → Int32} {k i : Nat} {a : Int32} (h : ¬ P i) : mayl P D (k + 1) i a = mayl P D k (i + 1) a := by
  show mayl P D k (i + 1) _ = _
  rw [ci_f h]
def PO (f : Nat → Nat → Int32) (lo hi : Nat) (w y : Int32) (i : Nat) : Prop := f 101 i = w ∧ inr (f lo i) (f hi i) y
def PM (f : Nat → Nat → Int32) (lo hi : Nat) (w y : Int32) (i : Nat) : Prop := f 195 (6 * i) = w ∧ inr (f 195 (6 * i + lo)) (f 195 (6 * i + hi)) y
set_option maxRecDepth 100000 in
theorem ow_lp {d L h : Nat} {f : Nat → Nat → Int32} {g : Nat → Nat → Int64} {w y : Int32} {R : Option Value → mH → Prop} (hd : 1 ≤ d) (hb : f 100 6 = nI h) (hm : h ≤ 60) :
    ∀ (k i : Nat) (x a : Int32) , i + k = h → x = nI i → R (some (.int (ownl (fun a => ¬ a = -4) (PO f 104 105 w y) (fun i => f 102 i) k i a))) (shF L, f, g) → WPe pg_X5_theOwner none (Run mtab d) R (m_drop pg_X5_theOwner 4) [some (.ref 100), some (.int w), some (.int y), some (.int a), some (.int x)] [] (shF L, f, g)
  | 0, i, x, a, hi, hx, H => by
    have e : i = h := by omega
    subst hx
    subst e
    refine at_X5_theOwner ?_
    conv => whnf
    simp only [hb]
    refine ⟨fun c => ?_, fun c => absurd (nI_le (Nat.le_refl _) (by omega)) c⟩
    conv => whnf
    exact H
  | k + 1, i, x, a, hi, hx, H => by
    subst hx
    have hcl : (nI i).toNatClampNeg = i := nI_clamp (by omega)
    have hc0 : (nI (6 * i)).toNatClampNeg = 6 * i := nI_clamp (by omega)
    have hc1 : (nI (6 * i + 1)).toNatClampNeg = 6 * i + 1 := nI_clamp (by omega)
    have hc2 : (nI (6 * i + 2)).toNatClampNeg = 6 * i + 2 := nI_clamp (by omega)
    have hc3 : (nI (6 * i + 3)).toNatClampNeg = 6 * i + 3 := nI_clamp (by omega)
    have hc4 : (nI (6 * i + 4)).toNatClampNeg = 6 * i + 4 := nI_clamp (by omega)
    have hc5 : (nI (6 * i + 5)).toNatClampNeg = 6 * i + 5 := nI_clamp (by omega)
    refine at_X5_theOwner ?_
    conv => whnf
    simp only [hb]
    refine ⟨fun c => absurd c (nI_ge (b := h) (by omega) (by omega)), fun c => ?_⟩
    conv => whnf
    refine ⟨vp_in_nI (by omega) (by decide), ?_⟩
    conv => whnf
    simp only [hcl]
    refine ⟨fun c1 => ?_, fun c1 => ?_⟩
    · conv => whnf
      exact ow_lp hd hb hm k (i + 1) _ _ (by omega) (nI_1 i) (by rw [own_n (N := fun a => ¬ a = -4) (P := PO f 104 105 w y) (D := fun i => f 102 i) (k := k) (i := i) (a := a) (fun z => c1 z.1)] at H; exact H)
    · conv => whnf
      refine ⟨vp_in_nI (by omega) (by decide), ?_⟩
      conv => whnf
      refine ⟨vp_in_nI (by omega) (by decide), ?_⟩
      conv => whnf
      simp only [hcl]
      refine ct_isWithin hd (fun p => ?_) (fun p => ?_)
      · conv => whnf
        refine ⟨fun c => absurd c (by decide), fun _ => ?_⟩
        conv => whnf
        refine ⟨fun c2 => ?_, fun c2 => ?_⟩
        · conv => whnf
          refine ⟨vp_in_nI (by omega) (by decide), ?_⟩
          conv => whnf
          simp only [hcl]
          exact ow_lp hd hb hm k (i + 1) _ _ (by omega) (nI_1 i) (by rw [own_y (N := fun a => ¬ a = -4) (P := PO f 104 105 w y) (D := fun i => f 102 i) (k := k) (i := i) (a := a) ⟨c1, p⟩ (fun z => z.1 c2)] at H; exact H)
        · conv => whnf
          refine ⟨vp_in_nI (by omega) (by decide), ?_⟩
          conv => whnf
          simp only [hcl]
          refine ⟨fun c3 => ?_, fun c3 => ?_⟩
          · conv => whnf
            refine ⟨vp_in_nI (by omega) (by decide), ?_⟩
            conv => whnf
            simp only [hcl]
            exact ow_lp hd hb hm k (i + 1) _ _ (by omega) (nI_1 i) (by rw [own_y (N := fun a => ¬ a = -4) (P := PO f 104 105 w y) (D := fun i => f 102 i) (k := k) (i := i) (a := a) ⟨c1, p⟩ (fun z => z.2 c3)] at H; exact H)
          · conv => whnf
            rw [own_q (N := fun a => ¬ a = -4) (P := PO f 104 105 w y) (D := fun i => f 102 i) (k := k) (i := i) (a := a) ⟨c1, p⟩ ⟨c2, c3⟩] at H
            exact H
      · conv => whnf
        refine ⟨fun _ => ?_, fun c => absurd rfl c⟩
        conv => whnf
        exact ow_lp hd hb hm k (i + 1) _ _ (by omega) (nI_1 i) (by rw [own_n (N := fun a => ¬ a = -4) (P := PO f 104 105 w y) (D := fun i => f 102 i) (k := k) (i := i) (a := a) (fun z => p z.2)] at H; exact H)
set_option maxRecDepth 100000 in
set_option maxHeartbeats 4000000 in
theorem sf_theOwner {d L : Nat} {f : Nat → Nat → Int32} {g : Nat → Nat → Int64} {h : Nat} {w y : Int32} {R : Option Value → mH → Prop} (hd : 2 ≤ d) (hb : f 100 6 = nI h) (hm : h ≤ 60) (H : R (some (.int (ownl (fun a => ¬ a = -4) (PO f 104 105 w y) (fun i => f 102 i) h 0 (-4)))) (shF L, f, g)) : Run mtab d 44 [.ref 100, .int w, .int y] (shF L, f, g) R := by
  obtain ⟨d, rfl⟩ : ∃ e, d = e + 1 := ⟨d - 1, by omega⟩
  refine go_X5_theOwner rfl ?_
  conv => whnf
  exact ow_lp (by omega) hb hm h 0 _ _ (by omega) rfl H
set_option maxRecDepth 100000 in
theorem mw_lp {d L h : Nat} {f : Nat → Nat → Int32} {g : Nat → Nat → Int64} {w y : Int32} {R : Option Value → mH → Prop} (hd : 1 ≤ d) (hb : f 100 6 = nI h) (hm : h ≤ 60) :
    ∀ (k i : Nat) (x a : Int32) , i + k = h → x = nI i → R (some (.int (mayl (PO f 103 106 w y) (fun i => f 102 i) k i a))) (shF L, f, g) → WPe pg_X5_whoMay none (Run mtab d) R (m_drop pg_X5_whoMay 4) [some (.ref 100), some (.int w), some (.int y), some (.int a), some (.int x)] [] (shF L, f, g)
  | 0, i, x, a, hi, hx, H => by
    have e : i = h := by omega
    subst hx
    subst e
    refine at_X5_whoMay ?_
    conv => whnf
    simp only [hb]
    refine ⟨fun c => ?_, fun c => absurd (nI_le (Nat.le_refl _) (by omega)) c⟩
    conv => whnf
    exact H
  | k + 1, i, x, a, hi, hx, H => by
    subst hx
    have hcl : (nI i).toNatClampNeg = i := nI_clamp (by omega)
    have hc0 : (nI (6 * i)).toNatClampNeg = 6 * i := nI_clamp (by omega)
    have hc1 : (nI (6 * i + 1)).toNatClampNeg = 6 * i + 1 := nI_clamp (by omega)
    have hc2 : (nI (6 * i + 2)).toNatClampNeg = 6 * i + 2 := nI_clamp (by omega)
    have hc3 : (nI (6 * i + 3)).toNatClampNeg = 6 * i + 3 := nI_clamp (by omega)
    have hc4 : (nI (6 * i + 4)).toNatClampNeg = 6 * i + 4 := nI_clamp (by omega)
    have hc5 : (nI (6 * i + 5)).toNatClampNeg = 6 * i + 5 := nI_clamp (by omega)
    refine at_X5_whoMay ?_
    conv => whnf
    simp only [hb]
    refine ⟨fun c => absurd c (nI_ge (b := h) (by omega) (by omega)), fun c => ?_⟩
    conv => whnf
    refine ⟨vp_in_nI (by omega) (by decide), ?_⟩
    conv => whnf
    simp only [hcl]
    refine ⟨fun c1 => ?_, fun c1 => ?_⟩
    · conv => whnf
      exact mw_lp hd hb hm k (i + 1) _ _ (by omega) (nI_1 i) (by rw [may_n (P := PO f 103 106 w y) (D := fun i => f 102 i) (k := k) (i := i) (a := a) (fun z => c1 z.1)] at H; exact H)
    · conv => whnf
      refine ⟨vp_in_nI (by omega) (by decide), ?_⟩
      conv => whnf
      refine ⟨vp_in_nI (by omega) (by decide), ?_⟩
      conv => whnf
      simp only [hcl]
      refine ct_isWithin hd (fun p => ?_) (fun p => ?_)
      · conv => whnf
        refine ⟨fun c => absurd c (by decide), fun _ => ?_⟩
        conv => whnf
        refine ⟨vp_in_nI (by omega) (by decide), ?_⟩
        conv => whnf
        simp only [hcl]
        exact mw_lp hd hb hm k (i + 1) _ _ (by omega) (nI_1 i) (by rw [may_y (P := PO f 103 106 w y) (D := fun i => f 102 i) (k := k) (i := i) (a := a) ⟨c1, p⟩] at H; exact H)
      · conv => whnf
        refine ⟨fun _ => ?_, fun c => absurd rfl c⟩
        conv => whnf
        exact mw_lp hd hb hm k (i + 1) _ _ (by omega) (nI_1 i) (by rw [may_n (P := PO f 103 106 w y) (D := fun i => f 102 i) (k := k) (i := i) (a := a) (fun z => p z.2)] at H; exact H)
set_option maxRecDepth 100000 in
set_option maxHeartbeats 4000000 in
theorem sf_whoMay {d L : Nat} {f : Nat → Nat → Int32} {g : Nat → Nat → Int64} {h : Nat} {w y : Int32} {R : Option Value → mH → Prop} (hd : 2 ≤ d) (hb : f 100 6 = nI h) (hm : h ≤ 60) (H : R (some (.int (mayl (PO f 103 106 w y) (fun i => f 102 i) h 0 0))) (shF L, f, g)) : Run mtab d 45 [.ref 100, .int w, .int y] (shF L, f, g) R := by
  obtain ⟨d, rfl⟩ : ∃ e, d = e + 1 := ⟨d - 1, by omega⟩
  refine go_X5_whoMay rfl ?_
  conv => whnf
  exact mw_lp (by omega) hb hm h 0 _ _ (by omega) rfl H
set_option maxRecDepth 100000 in
theorem om_lp {d L h : Nat} {f : Nat → Nat → Int32} {g : Nat → Nat → Int64} {w y : Int32} {R : Option Value → mH → Prop} (hd : 1 ≤ d) (hb : f 181 14 = nI h) (hm : h ≤ 60) :
    ∀ (k i : Nat) (x a : Int32) (s5 : Option Value), i + k = h → x = nI i → R (some (.int (ownl (fun a => ¬ a < 0) (PM f 3 4 w y) (fun i => f 195 (6 * i + 1)) k i a))) (shF L, f, g) → WPe pg_X11_ownerOf none (Run mtab d) R (m_drop pg_X11_ownerOf 4) [some (.ref 181), some (.int w), some (.int y), some (.int a), some (.int x), s5] [] (shF L, f, g)
  | 0, i, x, a, s5, hi, hx, H => by
    have e : i = h := by omega
    subst hx
    subst e
    refine at_X11_ownerOf ?_
    conv => whnf
    simp only [hb]
    refine ⟨fun c => ?_, fun c => absurd (nI_le (Nat.le_refl _) (by omega)) c⟩
    conv => whnf
    exact H
  | k + 1, i, x, a, s5, hi, hx, H => by
    subst hx
    have hcl : (nI i).toNatClampNeg = i := nI_clamp (by omega)
    have hc0 : (nI (6 * i)).toNatClampNeg = 6 * i := nI_clamp (by omega)
    have hc1 : (nI (6 * i + 1)).toNatClampNeg = 6 * i + 1 := nI_clamp (by omega)
    have hc2 : (nI (6 * i + 2)).toNatClampNeg = 6 * i + 2 := nI_clamp (by omega)
    have hc3 : (nI (6 * i + 3)).toNatClampNeg = 6 * i + 3 := nI_clamp (by omega)
    have hc4 : (nI (6 * i + 4)).toNatClampNeg = 6 * i + 4 := nI_clamp (by omega)
    have hc5 : (nI (6 * i + 5)).toNatClampNeg = 6 * i + 5 := nI_clamp (by omega)
    refine at_X11_ownerOf ?_
    conv => whnf
    simp only [hb]
    refine ⟨fun c => absurd c (nI_ge (b := h) (by omega) (by omega)), fun c => ?_⟩
    conv => whnf
    (try simp only [nI_6m, nI_1, nI_k _ 2 2 rfl, nI_k _ 3 3 rfl, nI_k _ 4 4 rfl, nI_k _ 5 5 rfl])
    refine ⟨vp_in_nI (by omega) (by decide), ?_⟩
    conv => whnf
    simp only [hc0, hc1, hc2, hc3, hc4, hc5]
    refine ⟨fun c1 => ?_, fun c1 => ?_⟩
    · conv => whnf
      exact om_lp hd hb hm k (i + 1) _ _ _ (by omega) (nI_1 i) (by rw [own_n (N := fun a => ¬ a < 0) (P := PM f 3 4 w y) (D := fun i => f 195 (6 * i + 1)) (k := k) (i := i) (a := a) (fun z => c1 z.1)] at H; exact H)
    · conv => whnf
      (try simp only [nI_6m, nI_1, nI_k _ 2 2 rfl, nI_k _ 3 3 rfl, nI_k _ 4 4 rfl, nI_k _ 5 5 rfl])
      refine ⟨vp_in_nI (by omega) (by decide), ?_⟩
      conv => whnf
      (try simp only [nI_6m, nI_1, nI_k _ 2 2 rfl, nI_k _ 3 3 rfl, nI_k _ 4 4 rfl, nI_k _ 5 5 rfl])
      refine ⟨vp_in_nI (by omega) (by decide), ?_⟩
      conv => whnf
      simp only [hc0, hc1, hc2, hc3, hc4, hc5]
      refine ct_i_v_v hd (fun p => ?_) (fun p => ?_)
      · conv => whnf
        refine ⟨fun c => absurd c (by decide), fun _ => ?_⟩
        conv => whnf
        refine ⟨fun c2 => ?_, fun c2 => ?_⟩
        · conv => whnf
          (try simp only [nI_6m, nI_1, nI_k _ 2 2 rfl, nI_k _ 3 3 rfl, nI_k _ 4 4 rfl, nI_k _ 5 5 rfl])
          refine ⟨vp_in_nI (by omega) (by decide), ?_⟩
          conv => whnf
          simp only [hc0, hc1, hc2, hc3, hc4, hc5]
          exact om_lp hd hb hm k (i + 1) _ _ _ (by omega) (nI_1 i) (by rw [own_y (N := fun a => ¬ a < 0) (P := PM f 3 4 w y) (D := fun i => f 195 (6 * i + 1)) (k := k) (i := i) (a := a) ⟨c1, p⟩ (fun z => z.1 c2)] at H; exact H)
        · conv => whnf
          (try simp only [nI_6m, nI_1, nI_k _ 2 2 rfl, nI_k _ 3 3 rfl, nI_k _ 4 4 rfl, nI_k _ 5 5 rfl])
          refine ⟨vp_in_nI (by omega) (by decide), ?_⟩
          conv => whnf
          simp only [hc0, hc1, hc2, hc3, hc4, hc5]
          refine ⟨fun c3 => ?_, fun c3 => ?_⟩
          · conv => whnf
            (try simp only [nI_6m, nI_1, nI_k _ 2 2 rfl, nI_k _ 3 3 rfl, nI_k _ 4 4 rfl, nI_k _ 5 5 rfl])
            refine ⟨vp_in_nI (by omega) (by decide), ?_⟩
            conv => whnf
            simp only [hc0, hc1, hc2, hc3, hc4, hc5]
            exact om_lp hd hb hm k (i + 1) _ _ _ (by omega) (nI_1 i) (by rw [own_y (N := fun a => ¬ a < 0) (P := PM f 3 4 w y) (D := fun i => f 195 (6 * i + 1)) (k := k) (i := i) (a := a) ⟨c1, p⟩ (fun z => z.2 c3)] at H; exact H)
          · conv => whnf
            rw [own_q (N := fun a => ¬ a < 0) (P := PM f 3 4 w y) (D := fun i => f 195 (6 * i + 1)) (k := k) (i := i) (a := a) ⟨c1, p⟩ ⟨c2, c3⟩] at H
            exact H
      · conv => whnf
        refine ⟨fun _ => ?_, fun c => absurd rfl c⟩
        conv => whnf
        exact om_lp hd hb hm k (i + 1) _ _ _ (by omega) (nI_1 i) (by rw [own_n (N := fun a => ¬ a < 0) (P := PM f 3 4 w y) (D := fun i => f 195 (6 * i + 1)) (k := k) (i := i) (a := a) (fun z => p z.2)] at H; exact H)
set_option maxRecDepth 100000 in
set_option maxHeartbeats 4000000 in
theorem smf_ownerOf {d L : Nat} {f : Nat → Nat → Int32} {g : Nat → Nat → Int64} {h : Nat} {w y : Int32} {R : Option Value → mH → Prop} (hd : 2 ≤ d) (hb : f 181 14 = nI h) (hm : h ≤ 60) (H : R (some (.int (ownl (fun a => ¬ a < 0) (PM f 3 4 w y) (fun i => f 195 (6 * i + 1)) h 0 (-4)))) (shF L, f, g)) : Run mtab d 170 [.ref 181, .int w, .int y] (shF L, f, g) R := by
  obtain ⟨d, rfl⟩ : ∃ e, d = e + 1 := ⟨d - 1, by omega⟩
  refine go_X11_ownerOf rfl ?_
  conv => whnf
  exact om_lp (by omega) hb hm h 0 _ _ _ (by omega) rfl H
theorem or_0 (a : Int32) : a ||| 0 = a := Int32.or_zero
set_option maxRecDepth 100000 in
theorem mm_lp {d L h : Nat} {f : Nat → Nat → Int32} {g : Nat → Nat → Int64} {w y : Int32} {R : Option Value → mH → Prop} (hd : 1 ≤ d) (hb : f 181 14 = nI h) (hm : h ≤ 60) :
    ∀ (k i : Nat) (x a : Int32) (s5 : Option Value), i + k = h → x = nI i → R (some (.int (mayl (PM f 2 5 w y) (fun i => f 195 (6 * i + 1)) k i a))) (shF L, f, g) → WPe pg_X11_mayHold none (Run mtab d) R (m_drop pg_X11_mayHold 4) [some (.ref 181), some (.int w), some (.int y), some (.int a), some (.int x), s5] [] (shF L, f, g)
  | 0, i, x, a, s5, hi, hx, H => by
    have e : i = h := by omega
    subst hx
    subst e
    refine at_X11_mayHold ?_
    conv => whnf
    simp only [hb]
    refine ⟨fun c => ?_, fun c => absurd (nI_le (Nat.le_refl _) (by omega)) c⟩
    conv => whnf
    exact H
  | k + 1, i, x, a, s5, hi, hx, H => by
    subst hx
    have hcl : (nI i).toNatClampNeg = i := nI_clamp (by omega)
    have hc0 : (nI (6 * i)).toNatClampNeg = 6 * i := nI_clamp (by omega)
    have hc1 : (nI (6 * i + 1)).toNatClampNeg = 6 * i + 1 := nI_clamp (by omega)
    have hc2 : (nI (6 * i + 2)).toNatClampNeg = 6 * i + 2 := nI_clamp (by omega)
    have hc3 : (nI (6 * i + 3)).toNatClampNeg = 6 * i + 3 := nI_clamp (by omega)
    have hc4 : (nI (6 * i + 4)).toNatClampNeg = 6 * i + 4 := nI_clamp (by omega)
    have hc5 : (nI (6 * i + 5)).toNatClampNeg = 6 * i + 5 := nI_clamp (by omega)
    refine at_X11_mayHold ?_
    conv => whnf
    simp only [hb]
    refine ⟨fun c => absurd c (nI_ge (b := h) (by omega) (by omega)), fun c => ?_⟩
    conv => whnf
    (try simp only [nI_6m, nI_1, nI_k _ 2 2 rfl, nI_k _ 3 3 rfl, nI_k _ 4 4 rfl, nI_k _ 5 5 rfl])
    refine ⟨vp_in_nI (by omega) (by decide), ?_⟩
    conv => whnf
    simp only [hc0, hc1, hc2, hc3, hc4, hc5]
    refine ⟨fun c1 => ?_, fun c1 => ?_⟩
    · conv => whnf
      exact mm_lp hd hb hm k (i + 1) _ _ _ (by omega) (nI_1 i) (by rw [may_n (P := PM f 2 5 w y) (D := fun i => f 195 (6 * i + 1)) (k := k) (i := i) (a := a) (fun z => c1 z.1), ← or_0 a] at H; exact H)
    · conv => whnf
      (try simp only [nI_6m, nI_1, nI_k _ 2 2 rfl, nI_k _ 3 3 rfl, nI_k _ 4 4 rfl, nI_k _ 5 5 rfl])
      refine ⟨vp_in_nI (by omega) (by decide), ?_⟩
      conv => whnf
      (try simp only [nI_6m, nI_1, nI_k _ 2 2 rfl, nI_k _ 3 3 rfl, nI_k _ 4 4 rfl, nI_k _ 5 5 rfl])
      refine ⟨vp_in_nI (by omega) (by decide), ?_⟩
      conv => whnf
      simp only [hc0, hc1, hc2, hc3, hc4, hc5]
      refine ct_i_v_v hd (fun p => ?_) (fun p => ?_)
      · conv => whnf
        refine ⟨fun c => absurd c (by decide), fun _ => ?_⟩
        conv => whnf
        (try simp only [nI_6m, nI_1, nI_k _ 2 2 rfl, nI_k _ 3 3 rfl, nI_k _ 4 4 rfl, nI_k _ 5 5 rfl])
        refine ⟨vp_in_nI (by omega) (by decide), ?_⟩
        conv => whnf
        simp only [hc0, hc1, hc2, hc3, hc4, hc5]
        exact mm_lp hd hb hm k (i + 1) _ _ _ (by omega) (nI_1 i) (by rw [may_y (P := PM f 2 5 w y) (D := fun i => f 195 (6 * i + 1)) (k := k) (i := i) (a := a) ⟨c1, p⟩] at H; exact H)
      · conv => whnf
        refine ⟨fun _ => ?_, fun c => absurd rfl c⟩
        conv => whnf
        exact mm_lp hd hb hm k (i + 1) _ _ _ (by omega) (nI_1 i) (by rw [may_n (P := PM f 2 5 w y) (D := fun i => f 195 (6 * i + 1)) (k := k) (i := i) (a := a) (fun z => p z.2), ← or_0 a] at H; exact H)
set_option maxRecDepth 100000 in
set_option maxHeartbeats 4000000 in
theorem smf_mayHold {d L : Nat} {f : Nat → Nat → Int32} {g : Nat → Nat → Int64} {h : Nat} {w y : Int32} {R : Option Value → mH → Prop} (hd : 2 ≤ d) (hb : f 181 14 = nI h) (hm : h ≤ 60) (H : R (some (.int (mayl (PM f 2 5 w y) (fun i => f 195 (6 * i + 1)) h 0 0))) (shF L, f, g)) : Run mtab d 171 [.ref 181, .int w, .int y] (shF L, f, g) R := by
  obtain ⟨d, rfl⟩ : ∃ e, d = e + 1 := ⟨d - 1, by omega⟩
  refine go_X11_mayHold rfl ?_
  conv => whnf
  exact mm_lp (by omega) hb hm h 0 _ _ _ (by omega) rfl H
theorem ownl_eq {N M : Int32 → Prop} {P Q : Nat → Prop} {D E : Nat → Int32} (h : Nat) (hP : ∀ i, i < h → (P i ↔ Q i)) (hD : ∀ i, i < h → D i = E i) (hr : ∀ i, i < h → (N (D i) ↔ M (D i))) : ∀ (k i : Nat) (a : Int32), i + k = h → (N a ↔ M a) → ownl N P D k i a = ownl M Q E k i a
  | 0, i, a, _, _ => rfl
  | k + 1, i, a, hi, ha => by
    have p := hP i (by omega)
    have d := hD i (by omega)
    by_cases q : P i
    · by_cases z : N a ∧ ¬ a = D i
      · rw [own_q q z, own_q (p.mp q) ⟨ha.mp z.1, by rw [← d]; exact z.2⟩]
      · rw [own_y q z, own_y (p.mp q) (fun w => z ⟨ha.mpr w.1, by rw [d]; exact w.2⟩), ← d]
        exact ownl_eq h hP hD hr k (i + 1) _ (by omega) (hr i (by omega))
    · rw [own_n q, own_n (fun w => q (p.mpr w))]
      exact ownl_eq h hP hD hr k (i + 1) a (by omega) ha
theorem mayl_eq {P Q : Nat → Prop} {D E : Nat → Int32} (h : Nat) (hP : ∀ i, i < h → (P i ↔ Q i)) (hD : ∀ i, i < h → D i = E i) : ∀ (k i : Nat) (a : Int32), i + k = h → mayl P D k i a = mayl Q E k i a
  | 0, i, a, _ => rfl
  | k + 1, i, a, hi => by
    have p := hP i (by omega)
    by_cases q : P i
    · rw [may_y q, may_y (p.mp q), hD i (by omega)]
      exact mayl_eq h hP hD k (i + 1) _ (by omega)
    · rw [may_n q, may_n (fun w => q (p.mpr w))]
      exact mayl_eq h hP hD k (i + 1) a (by omega)
theorem own_RO {f : Nat → Nat → Int32} {h : Nat} (hO : RO h f) (w y : Int32) : ownl (fun a => ¬ a = -4) (PO f 104 105 w y) (fun i => f 102 i) h 0 (-4) = ownl (fun a => ¬ a < 0) (PM f 3 4 w y) (fun i => f 195 (6 * i + 1)) h 0 (-4) := by
  refine ownl_eq h (fun i hi => ?_) (fun i hi => (hO.2.2.2 i hi).2.1) (fun i hi => ?_) h 0 _ (by omega) ?_
  · obtain ⟨a, b, c, d, e, g, k⟩ := hO.2.2.2 i hi
    unfold PO PM
    rw [a, e, g]
    exact Iff.rfl
  · have c := (hO.2.2.2 i hi).2.2.1
    constructor
    · exact fun _ => i32_nlt.mpr c.1
    · intro _ z
      rw [z] at c
      exact absurd c.1 (by decide)
  · decide
theorem may_RO {f : Nat → Nat → Int32} {h : Nat} (hO : RO h f) (w y : Int32) : mayl (PO f 103 106 w y) (fun i => f 102 i) h 0 0 = mayl (PM f 2 5 w y) (fun i => f 195 (6 * i + 1)) h 0 0 := by
  refine mayl_eq h (fun i hi => ?_) (fun i hi => (hO.2.2.2 i hi).2.1) h 0 _ (by omega)
  obtain ⟨a, b, c, d, e, g, k⟩ := hO.2.2.2 i hi
  unfold PO PM
  rw [a, d, k]
  exact Iff.rfl
