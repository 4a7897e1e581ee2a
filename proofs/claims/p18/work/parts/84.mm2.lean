set_option maxRecDepth 100000 in
set_option maxHeartbeats 4000000 in
theorem sm_in {d L : Nat} {f : Nat → Nat → Int32} {g : Nat → Nat → Int64} {a b e : Int64} {R : Option Value → mH → Prop} (hd : 1 ≤ d) (H : ∀ v, (v = 0 ∨ v = 1) → R (some (.int v)) (shF L, f, g)) : Run mtab d 147 [.long a, .long b, .long e] (shF L, f, g) R := by
  obtain ⟨d, rfl⟩ : ∃ e, d = e + 1 := ⟨d - 1, by omega⟩
  refine go_X11_in rfl ?_
  conv => whnf
  repeat' first
    | ((with_reducible refine ⟨vp_in_nI (by omega) (by decide), ?_⟩) <;> conv => whnf)
    | (refine ⟨Or.inl rfl, ?_⟩ <;> conv => whnf)
    | (refine ⟨Or.inr rfl, ?_⟩ <;> conv => whnf)
    | (refine ⟨Or.inl True.intro, ?_⟩ <;> conv => whnf)
    | (refine ⟨Or.inr True.intro, ?_⟩ <;> conv => whnf)
    | (refine ⟨fun c => ?_, fun c => ?_⟩ <;> first | ((have c9 : (1 : Int32) = 0 := by with_reducible exact c); exact absurd c9 (by decide)) | exact absurd (rfl : (0 : Int32) = 0) (by with_reducible exact c) | exact absurd True.intro (by with_reducible exact c) | exact False.elim (by with_reducible exact c) | (conv => whnf))
    | (refine ⟨by unfold vp_in; decide, ?_⟩ <;> conv => whnf)
    | fail
  all_goals first | exact ⟨Or.inl rfl, H _ (Or.inl rfl)⟩ | exact ⟨Or.inr rfl, H _ (Or.inr rfl)⟩ | exact H _ (Or.inl rfl) | exact H _ (Or.inr rfl)
set_option maxRecDepth 100000 in
theorem ty2_lp {d L n m0 : Nat} {w : Int64} {f0 : Nat → Nat → Int32} {R : Option Value → mH → Prop} (hn : n + m0 ≤ 50) (H : ∀ v f' g', XI f' → kp [13] f0 f' → R (some (.int v)) (shF L, f', g')) :
    ∀ (k m : Nat) (y : Int32) (f : Nat → Nat → Int32) (g : Nat → Nat → Int64), m + k = n + m0 → y = nI k + -1 → f 181 46 = nI m → XI f → kp [13] f0 f → WPe pg_X11_type none (Run mtab d) R (m_drop pg_X11_type 41) [some (.ref 181), some (.long w), none, some (.int (nI n)), some (.int y)] [] (shF L, f, g)
  | 0, m, y, f, g, hm, hy, hf, hX, hr => by
    subst hy
    refine at_X11_type ?_
    conv => whnf
    refine ⟨fun c => ?_, fun c => absurd (by decide) c⟩
    conv => whnf
    exact H _ f g hX hr
  | k + 1, m, y, f, g, hm, hy, hf, hX, hr => by
    have e : nI (k + 1) + -1 = nI k := by rw [← Int32.sub_eq_add_neg, nI_pred]
    rw [e] at hy
    subst hy
    refine at_X11_type ?_
    conv => whnf
    refine ⟨fun c => absurd c (nI_pos (by omega)), fun c => ?_⟩
    conv => whnf
    refine ⟨by rw [hf]; exact vp_in_nI (by omega) (by decide), ?_⟩
    conv => whnf
    refine ty2_lp hn H k (m + 1) _ _ g (by omega) rfl ?_ (XI_ui (XI_ui hX True.intro) ?_) (kp_ui rfl (kp_ui rfl hr))
    · show f 181 46 + 1 = _
      rw [hf, nI_1]
    · show inr 0 50 (f 181 46 + 1)
      rw [hf]
      exact inr_n1 (m := 50) (by omega) rfl (by decide)
set_option maxRecDepth 100000 in
theorem ty1_lp {d L n : Nat} {w : Int64} {f : Nat → Nat → Int32} {g : Nat → Nat → Int64} {R : Option Value → mH → Prop} (hd : 1 ≤ d) (hX : XI f) (hn : n ≤ 8) (H : ∀ v f' g', XI f' → kp [13] f f' → R (some (.int v)) (shF L, f', g')) :
    ∀ (k : Nat) (y : Int32), y = nI k + -1 → k ≤ 8 → WPe pg_X11_type none (Run mtab d) R (m_drop pg_X11_type 12) [some (.ref 181), some (.long w), none, some (.int (nI n)), some (.int y)] [] (shF L, f, g)
  | 0, y, hy, hk => by
    subst hy
    obtain ⟨m, hm, hb⟩ := inr_nat (n := 50) rfl (xi_181_46 hX)
    refine at_X11_type ?_
    conv => whnf
    refine ⟨fun c => ?_, fun c => absurd (by decide) c⟩
    conv => whnf
    simp only [hb]
    refine ⟨fun c => ?_, fun c => ?_⟩
    · conv => whnf
      have c2 : nI m + nI n ≤ nI 50 := c
      rw [nI_add, nI_leI (by omega) (by decide)] at c2
      exact ty2_lp (n := n) (m0 := m) (by omega) H n m _ f g (by omega) (Int32.sub_eq_add_neg ..) hb hX (kp_refl _ _)
    · conv => whnf
      exact H _ f g hX (kp_refl _ _)
  | k + 1, y, hy, hk => by
    have e : nI (k + 1) + -1 = nI k := by rw [← Int32.sub_eq_add_neg, nI_pred]
    rw [e] at hy
    subst hy
    refine at_X11_type ?_
    conv => whnf
    refine ⟨fun c => absurd c (nI_pos (by omega)), fun c => ?_⟩
    conv => whnf
    refine sm_in hd (fun v hv => ?_)
    conv => whnf
    refine ⟨fun c => ?_, fun c => ?_⟩
    · conv => whnf
      exact ty1_lp hd hX hn H k _ rfl (by omega)
    · conv => whnf
      exact H _ f g hX (kp_refl _ _)
set_option maxRecDepth 100000 in
theorem sm_type {d L : Nat} {x : Int32} {w : Int64} {f : Nat → Nat → Int32} {g : Nat → Nat → Int64} {R : Option Value → mH → Prop} (hd : 6 ≤ d) (hX : XI f) (H : ∀ v f' g', XI f' → kp [13] f f' → R (some (.int v)) (shF L, f', g')) : Run mtab d 215 [.ref 181, .long w, .int x] (shF L, f, g) R := by
  obtain ⟨d, rfl⟩ : ∃ e, d = e + 1 := ⟨d - 1, by omega⟩
  refine go_X11_type rfl ?_
  conv => whnf
  refine ct_i_1_8 (by omega) (fun p => ?_) (fun p => ?_)
  · obtain ⟨n, h1, h8, rfl⟩ := inr_18 p
    conv => whnf
    refine ⟨fun _ => ?_, fun c => absurd c (by decide)⟩
    conv => whnf
    exact ty1_lp (by omega) hX h8 H n _ (Int32.sub_eq_add_neg ..) h8
  · conv => whnf
    refine ⟨fun c => absurd (by decide) c, fun _ => ?_⟩
    conv => whnf
    exact H _ _ _ hX (kp_refl _ _)
/-- the model's tape: its length, the place on it -/
def tm (m p : Nat) (f : Nat → Nat → Int32) : Prop := f 181 46 = nI m ∧ f 181 47 = nI p ∧ p ≤ m ∧ m ≤ 50
theorem tm_up {m p : Nat} {f : Nat → Nat → Int32} (t : tm m p f) (h : p < m) : tm m (p + 1) (m_ui f 181 47 (nI p + 1)) := ⟨t.1, nI_1 p, by omega, t.2.2.2⟩
theorem xm_up {m p : Nat} {f : Nat → Nat → Int32} (hX : XI f) (t : tm m p f) (h : p < m) : XI (m_ui f 181 47 (nI p + 1)) := XI_ui hX (show inr 0 50 _ from inr_n1 (m := 50) (by have := t.2.2.2; omega) rfl (by decide))
theorem tm_lt {m p : Nat} (c : ¬ nI m ≤ nI p) (hm : m ≤ 50) (hp : p ≤ m) : p < m := by
  rw [nI_leI (by omega) (by omega)] at c
  omega
set_option maxRecDepth 100000 in
theorem nxt_lp {d L m : Nat} {f0 : Nat → Nat → Int32} {R : Option Value → mH → Prop} (H : ∀ v p f' g', (p < m ∨ v = -1) → tm m p f' → XI f' → kp [10] f0 f' → R (some (.int v)) (shF L, f', g')) :
    ∀ (k p : Nat) (f : Nat → Nat → Int32) (g : Nat → Nat → Int64), p + k = m → tm m p f → XI f → kp [10] f0 f → WPe pg_X11_next none (Run mtab d) R (m_drop pg_X11_next 0) [some (.ref 181)] [] (shF L, f, g)
  | 0, p, f, g, hk, t, hX, hF => by
    obtain ⟨u1, u2, u3, u4⟩ := id t
    refine at_X11_next ?_
    conv => whnf
    simp only [u1, u2]
    refine ⟨fun c => ?_, fun c => absurd (nI_le (by omega) (by omega)) c⟩
    conv => whnf
    simp only [u1, u2]
    refine ⟨fun c => ?_, fun c => absurd (nI_le (by omega) (by omega)) c⟩
    conv => whnf
    exact H _ p f g (Or.inr rfl) t hX hF
  | k + 1, p, f, g, hk, t, hX, hF => by
    obtain ⟨u1, u2, u3, u4⟩ := id t
    refine at_X11_next ?_
    conv => whnf
    simp only [u1, u2]
    refine ⟨fun c => absurd c (nI_ge (by omega) (by omega)), fun c => ?_⟩
    conv => whnf
    simp only [u2]
    refine ⟨vp_in_nI (by omega) (by decide), ?_⟩
    conv => whnf
    refine ⟨fun c' => ?_, fun c' => ?_⟩
    · conv => whnf
      simp only [u1, u2]
      refine ⟨fun c => absurd c (nI_ge (by omega) (by omega)), fun c => ?_⟩
      conv => whnf
      simp only [u2]
      refine ⟨vp_in_nI (by omega) (by decide), ?_⟩
      conv => whnf
      exact H _ p f g (Or.inl (by omega)) t hX hF
    · conv => whnf
      simp only [u2]
      exact nxt_lp H k (p + 1) _ g (by omega) (tm_up t (by omega)) (xm_up hX t (by omega)) (kp_ui rfl hF)
theorem sm_next {d L m p : Nat} {f : Nat → Nat → Int32} {g : Nat → Nat → Int64} {R : Option Value → mH → Prop} (hd : 1 ≤ d) (hX : XI f) (t : tm m p f) (H : ∀ v p f' g', (p < m ∨ v = -1) → tm m p f' → XI f' → kp [10] f f' → R (some (.int v)) (shF L, f', g')) : Run mtab d 216 [.ref 181] (shF L, f, g) R := by
  obtain ⟨d, rfl⟩ : ∃ e, d = e + 1 := ⟨d - 1, by omega⟩
  refine run_wp (k := 210) (M := M_X11_next) rfl rfl ?_
  have := nxt_lp (d := d) (L := L) H (m - p) p f g (by have := t.2.2.1; omega) t hX (kp_refl _ _)
  rw [m_drop_0] at this
  exact this
theorem tm_back {m p q : Nat} {f : Nat → Nat → Int32} (t : tm m p f) (h : q ≤ m) : tm m q (m_ui f 181 47 (nI q)) := ⟨t.1, rfl, h, t.2.2.2⟩
theorem xm_back {m p q : Nat} {f : Nat → Nat → Int32} (hX : XI f) (t : tm m p f) (h : q ≤ m) : XI (m_ui f 181 47 (nI q)) := XI_ui hX (show inr 0 50 _ from inr_n (m := 50) (by have := t.2.2.2; omega) rfl (by decide))
set_option maxRecDepth 100000 in
set_option maxHeartbeats 4000000 in
theorem mnum_lp {d L m q : Nat} {f0 : Nat → Nat → Int32} {x y ch : Int32} {R : Option Value → mH → Prop} (hd : 2 ≤ d) (hq : q ≤ m) (H : ∀ v p' f' g', tm m p' f' → XI f' → kp [10] f0 f' → R (some (.int v)) (shF L, f', g')) :
    ∀ (k p : Nat) (a : Int32) (f : Nat → Nat → Int32) (g : Nat → Nat → Int64), p + k = m → tm m p f → XI f → kp [10] f0 f → WPe pg_X11_number none (Run mtab d) R (m_drop pg_X11_number 8) [some (.ref 181), some (.int x), some (.int y), some (.int ch), some (.int (nI q)), some (.int a)] [] (shF L, f, g)
  | 0, p, a, f, g, hk, t, hX, hF => by
    obtain ⟨u1, u2, u3, u4⟩ := id t
    refine at_X11_number ?_
    conv => whnf
    simp only [u1, u2]
    refine ⟨fun c => ?_, fun c => absurd (nI_le (by omega) (by omega)) c⟩
    conv => whnf
    repeat' first
      | ((with_reducible refine ⟨vp_in_nI (by omega) (by decide), ?_⟩) <;> conv => whnf)
      | (refine ⟨Or.inl rfl, ?_⟩ <;> conv => whnf)
      | (refine ⟨Or.inr rfl, ?_⟩ <;> conv => whnf)
      | (refine ⟨Or.inl True.intro, ?_⟩ <;> conv => whnf)
      | (refine ⟨Or.inr True.intro, ?_⟩ <;> conv => whnf)
      | (refine ⟨fun c => ?_, fun c => ?_⟩ <;> first | ((have c9 : (1 : Int32) = 0 := by with_reducible exact c); exact absurd c9 (by decide)) | exact absurd (rfl : (0 : Int32) = 0) (by with_reducible exact c) | exact absurd True.intro (by with_reducible exact c) | exact False.elim (by with_reducible exact c) | (conv => whnf))
      | ((with_reducible refine ct_i_v_v (by omega) (fun pp => ?_) (fun pp => ?_)) <;> conv => whnf)
      | (refine ⟨by unfold vp_in; decide, ?_⟩ <;> conv => whnf)
      | fail
    all_goals first | exact H _ _ _ _ t hX hF | exact H _ _ _ _ (tm_back t hq) (xm_back hX t hq) (kp_ui rfl hF)
  | k + 1, p, a, f, g, hk, t, hX, hF => by
    obtain ⟨u1, u2, u3, u4⟩ := id t
    refine at_X11_number ?_
    conv => whnf
    simp only [u1, u2]
    refine ⟨fun c => absurd c (nI_ge (by omega) (by omega)), fun cc => ?_⟩
    conv => whnf
    simp only [u2]
    refine ⟨vp_in_nI (by omega) (by decide), ?_⟩
    conv => whnf
    refine ct_i_48_57 (by omega) (fun pp => ?_) (fun pp => ?_)
    · conv => whnf
      refine ⟨fun c => absurd c (by decide), fun _ => ?_⟩
      conv => whnf
      refine ⟨fun c => ?_, fun c => ?_⟩
      · conv => whnf
        simp only [u2]
        refine ⟨vp_in_nI (by omega) (by decide), ?_⟩
        conv => whnf
        simp only [u2]
        exact mnum_lp hd hq H k (p + 1) _ _ g (by omega) (tm_up t (by omega)) (xm_up hX t (by omega)) (kp_ui rfl hF)
      · conv => whnf
        simp only [u2]
        exact mnum_lp hd hq H k (p + 1) _ _ g (by omega) (tm_up t (by omega)) (xm_up hX t (by omega)) (kp_ui rfl hF)
    · conv => whnf
      refine ⟨fun _ => ?_, fun c => absurd (by decide) c⟩
      conv => whnf
      repeat' first
        | ((with_reducible refine ⟨vp_in_nI (by omega) (by decide), ?_⟩) <;> conv => whnf)
        | (refine ⟨Or.inl rfl, ?_⟩ <;> conv => whnf)
        | (refine ⟨Or.inr rfl, ?_⟩ <;> conv => whnf)
        | (refine ⟨Or.inl True.intro, ?_⟩ <;> conv => whnf)
        | (refine ⟨Or.inr True.intro, ?_⟩ <;> conv => whnf)
        | (refine ⟨fun c => ?_, fun c => ?_⟩ <;> first | ((have c9 : (1 : Int32) = 0 := by with_reducible exact c); exact absurd c9 (by decide)) | exact absurd (rfl : (0 : Int32) = 0) (by with_reducible exact c) | exact absurd True.intro (by with_reducible exact c) | exact False.elim (by with_reducible exact c) | (conv => whnf))
        | ((with_reducible refine ct_i_v_v (by omega) (fun pp => ?_) (fun pp => ?_)) <;> conv => whnf)
        | (refine ⟨by unfold vp_in; decide, ?_⟩ <;> conv => whnf)
        | fail
      all_goals first | exact H _ _ _ _ t hX hF | exact H _ _ _ _ (tm_back t hq) (xm_back hX t hq) (kp_ui rfl hF)
set_option maxRecDepth 100000 in
set_option maxHeartbeats 4000000 in
theorem sm_number0 {d L : Nat} {f : Nat → Nat → Int32} {g : Nat → Nat → Int64} {m p : Nat} {x y : Int32} {R : Option Value → mH → Prop} (hd : 3 ≤ d) (hX : XI f) (t : tm m p f) (H : ∀ v p' f' g', tm m p' f' → XI f' → kp [10] f f' → R (some (.int v)) (shF L, f', g')) : Run mtab d 217 [.ref 181, .int x, .int y] (shF L, f, g) R := by
  obtain ⟨d, rfl⟩ : ∃ e, d = e + 1 := ⟨d - 1, by omega⟩
  refine go_X11_number rfl ?_
  conv => whnf
  refine sm_next (by omega) hX t (fun v p1 f1 g1 hv t1 h1 k1 => ?_)
  obtain ⟨u1, u2, u3, u4⟩ := id t1
  conv => whnf
  simp only [u2]
  exact mnum_lp (by omega) u3 H (m - p1) p1 _ _ _ (by omega) t1 h1 k1
set_option maxRecDepth 100000 in
set_option maxHeartbeats 4000000 in
theorem sm_takes {d L : Nat} {f : Nat → Nat → Int32} {g : Nat → Nat → Int64} {m p : Nat} {x : Int32} {R : Option Value → mH → Prop} (hd : 2 ≤ d) (hX : XI f) (hx : ¬ x = -1) (t : tm m p f) (H : ∀ v p' f' g', (v = 0 ∨ v = 1) → tm m p' f' → XI f' → kp [10] f f' → R (some (.int v)) (shF L, f', g')) : Run mtab d 218 [.ref 181, .int x] (shF L, f, g) R := by
  obtain ⟨d, rfl⟩ : ∃ e, d = e + 1 := ⟨d - 1, by omega⟩
  refine go_X11_takes rfl ?_
  conv => whnf
  repeat' first
    | (simp only [u2])
    | ((with_reducible refine ⟨vp_in_nI (by omega) (by decide), ?_⟩) <;> conv => whnf)
    | (refine ⟨Or.inl rfl, ?_⟩ <;> conv => whnf)
    | (refine ⟨Or.inr rfl, ?_⟩ <;> conv => whnf)
    | (refine ⟨Or.inl True.intro, ?_⟩ <;> conv => whnf)
    | (refine ⟨Or.inr True.intro, ?_⟩ <;> conv => whnf)
    | (refine ⟨fun c => ?_, fun c => ?_⟩ <;> first | ((have c9 : (1 : Int32) = 0 := by with_reducible exact c); exact absurd c9 (by decide)) | exact absurd (rfl : (0 : Int32) = 0) (by with_reducible exact c) | exact absurd True.intro (by with_reducible exact c) | exact False.elim (by with_reducible exact c) | (conv => whnf))
    | (refine sm_next (by omega) hX t (fun v p1 f1 g1 hv t1 h1 k1 => ?_) <;> (obtain ⟨u1, u2, u3, u4⟩ := id t1) <;> conv => whnf)
    | (refine ⟨by unfold vp_in; decide, ?_⟩ <;> conv => whnf)
    | fail
  all_goals first | exact ⟨Or.inl rfl, H _ _ _ _ (Or.inl rfl) t1 h1 k1⟩ | exact H _ _ _ _ (Or.inl rfl) t1 h1 k1 | (have hl : p1 < m := hv.resolve_right (fun e => hx (by have := ‹v = x›; rw [← this, e])); first | exact ⟨Or.inr rfl, H _ _ _ _ (Or.inr rfl) (tm_up t1 hl) (xm_up h1 t1 hl) (kp_ui rfl k1)⟩ | exact H _ _ _ _ (Or.inr rfl) (tm_up t1 hl) (xm_up h1 t1 hl) (kp_ui rfl k1)) | (have e0 : nI p1 + 0 = nI p1 := Int32.add_zero _; simp only [e0]; first | exact ⟨Or.inl rfl, H _ _ _ _ (Or.inl rfl) (tm_back t1 u3) (xm_back h1 t1 u3) (kp_ui rfl k1)⟩ | exact H _ _ _ _ (Or.inl rfl) (tm_back t1 u3) (xm_back h1 t1 u3) (kp_ui rfl k1))
