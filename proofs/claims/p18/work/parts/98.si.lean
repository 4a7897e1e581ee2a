set_option maxRecDepth 100000 in
theorem ra_e {d L m : Nat} {f0 f : Nat → Nat → Int32} {g : Nat → Nat → Int64} {a : Int32} {s3 : Option Value} {R : Option Value → mH → Prop} (H : R (some (.int a)) (shF L, f, g)) : WPe pg_X11_readAll none (Run mtab d) R (m_drop pg_X11_readAll 19) [some (.ref 181), some (.int a), some (.int 0), s3] [] (shF L, f, g) := by
  refine at_X11_readAll ?_
  conv => whnf
  refine ⟨fun _ => ?_, fun c => absurd rfl c⟩
  conv => whnf
  exact H
set_option maxRecDepth 100000 in
set_option maxHeartbeats 4000000 in
theorem rf_lp {d L m : Nat} {f0 : Nat → Nat → Int32} {g : Nat → Nat → Int64} {R : Option Value → mH → Prop} (hd : 4 ≤ d) (hm : m ≤ 50) (hc : ∀ j, j < m → ¬ (tk f0 217 m) j < 0) :
    ∀ (k n p : Nat) (a : Int32) (s3 : Option Value) (S : Nat → Nat → Int32) (f : Nat → Nat → Int32), k + 1 + n = 4 → a = nI n → p ≤ m → ms f0 m p S f → (∀ n' S', alS (tk f0 217 m) m (k + 1) n p S = .ok (n', S') → ∀ f' p', p' ≤ m → ms f0 m p' S' f' → R (some (.int (nI n'))) (shF L, f', g)) → (∀ r, alS (tk f0 217 m) m (k + 1) n p S = .error r → ∀ f' S', ms f0 m r S' f' → R (some (.int (-1))) (shF L, f', g)) → WPe pg_X11_readAll none (Run mtab d) R (m_drop pg_X11_readAll 19) [some (.ref 181), some (.int a), some (.int 1), s3] [] (shF L, f, g) := by
  intro k
  induction k with
  | zero =>
    intro n p a s3 S f hn ha hp t HO HE
    have e3 : n = 3 := by omega
    subst e3
    subst ha
    refine at_X11_readAll ?_
    conv => whnf
    refine ⟨fun c => absurd c (by decide), fun _ => ?_⟩
    conv => whnf
    refine smf_readClause (by omega) hm hp t hc (fun k a b e p1 h1 f1 t1 => ?_) (fun r h1 f1 t1 => ?_)
    · have hp1 := ((cl_both (S := S) hm hp).2 k a b e p1 h1).1
      conv => whnf
      (refine ⟨fun c => ?_, fun c => ?_⟩ <;> first | ((have c9 : (1 : Int32) = 0 := by with_reducible exact c); exact absurd c9 (by decide)) | exact absurd (rfl : (0 : Int32) = 0) (by with_reducible exact c) | exact absurd True.intro (by with_reducible exact c) | exact False.elim (by with_reducible exact c) | (conv => whnf))
      refine smf_next (by omega) hm hp1 t1 (fun f2 t2 => ?_)
      have hr := sk_le (T := (tk f0 217 m)) hp1
      have u2 := t2.2.1
      by_cases hl : sk (tk f0 217 m) m p1 < m
      · have ev : nx (tk f0 217 m) m (sk (tk f0 217 m) m p1) = (tk f0 217 m) (sk (tk f0 217 m) m p1) := if_pos hl
        have eE : alS (tk f0 217 m) m (0 + 1) 3 p S = .error (sk (tk f0 217 m) m p1) := by
          simp only [alS, h1]
          rw [if_pos hl, if_neg (fun z => z.2 (by trivial))]
        rw [ev]
        conv => whnf
        refine ⟨fun c2 => absurd c2 (hc _ hl), fun c2 => ?_⟩
        conv => whnf
        refine ⟨fun c3 => ?_, fun c3 => ?_⟩
        · conv => whnf
          exact HE _ eE _ _ t2
        · conv => whnf
          refine ⟨fun c4 => absurd (by decide) c4, fun c4 => ?_⟩
          conv => whnf
          exact HE _ eE _ _ t2
      · have ev : nx (tk f0 217 m) m (sk (tk f0 217 m) m p1) = -1 := if_neg hl
        have eO : alS (tk f0 217 m) m (0 + 1) 3 p S = .ok (3 + 1, updS S k.toNatClampNeg a b e) := by
          simp only [alS, h1]
          rw [if_neg hl]
        rw [ev]
        conv => whnf
        refine ⟨fun _ => ?_, fun c => absurd (by decide) c⟩
        conv => whnf
        refine ⟨fun _ => ?_, fun c => absurd (by decide) c⟩
        conv => whnf
        (refine ⟨fun c => ?_, fun c => ?_⟩ <;> first | ((have c9 : (1 : Int32) = 0 := by with_reducible exact c); exact absurd c9 (by decide)) | exact absurd (rfl : (0 : Int32) = 0) (by with_reducible exact c) | exact absurd True.intro (by with_reducible exact c) | exact False.elim (by with_reducible exact c) | (conv => whnf))
        simp only [u2]
        exact ra_e (f0 := f0) (m := m) (HO _ _ eO _ _ hr.2 (ms_p t2 (Int32.add_zero _)))
    · have eE : alS (tk f0 217 m) m (0 + 1) 3 p S = .error r := by simp only [alS, h1]
      conv => whnf
      (refine ⟨fun c => ?_, fun c => ?_⟩ <;> first | ((have c9 : (1 : Int32) = 0 := by with_reducible exact c); exact absurd c9 (by decide)) | exact absurd (rfl : (0 : Int32) = 0) (by with_reducible exact c) | exact absurd True.intro (by with_reducible exact c) | exact False.elim (by with_reducible exact c) | (conv => whnf))
      exact HE _ eE _ _ t1
  | succ k ih =>
    intro n p a s3 S f hn ha hp t HO HE
    subst ha
    refine at_X11_readAll ?_
    conv => whnf
    refine ⟨fun c => absurd c (by decide), fun _ => ?_⟩
    conv => whnf
    refine smf_readClause (by omega) hm hp t hc (fun kk a b e p1 h1 f1 t1 => ?_) (fun r h1 f1 t1 => ?_)
    · have hp1 := ((cl_both (S := S) hm hp).2 kk a b e p1 h1).1
      conv => whnf
      (refine ⟨fun c => ?_, fun c => ?_⟩ <;> first | ((have c9 : (1 : Int32) = 0 := by with_reducible exact c); exact absurd c9 (by decide)) | exact absurd (rfl : (0 : Int32) = 0) (by with_reducible exact c) | exact absurd True.intro (by with_reducible exact c) | exact False.elim (by with_reducible exact c) | (conv => whnf))
      refine smf_next (by omega) hm hp1 t1 (fun f2 t2 => ?_)
      have hr := sk_le (T := (tk f0 217 m)) hp1
      have u2 := t2.2.1
      by_cases hl : sk (tk f0 217 m) m p1 < m
      · have ev : nx (tk f0 217 m) m (sk (tk f0 217 m) m p1) = (tk f0 217 m) (sk (tk f0 217 m) m p1) := if_pos hl
        rw [ev]
        conv => whnf
        refine ⟨fun c2 => absurd c2 (hc _ hl), fun c2 => ?_⟩
        conv => whnf
        refine ⟨fun c3 => ?_, fun c3 => ?_⟩
        · have eE : alS (tk f0 217 m) m (k + 1 + 1) n p S = .error (sk (tk f0 217 m) m p1) := by
            simp only [alS, h1]
            rw [if_pos hl, if_neg (fun z => c3 z.1)]
          conv => whnf
          exact HE _ eE _ _ t2
        · have eN : alS (tk f0 217 m) m (k + 1 + 1) n p S = alS (tk f0 217 m) m (k + 1) (n + 1) (sk (tk f0 217 m) m p1 + 1) (updS S kk.toNatClampNeg a b e) := by
            show (match clS (tk f0 217 m) m p with
              | .error r => .error r
              | .ok (kd, a, b, c, p') => if sk (tk f0 217 m) m p' < m then (if (tk f0 217 m) (sk (tk f0 217 m) m p') = 59 ∧ ¬ k + 1 = 0 then alS (tk f0 217 m) m (k + 1) (n + 1) (sk (tk f0 217 m) m p' + 1) (updS S kd.toNatClampNeg a b c) else .error (sk (tk f0 217 m) m p')) else .ok (n + 1, updS S kd.toNatClampNeg a b c) : Except Nat (Nat × (Nat → Nat → Int32))) = _
            rw [h1]
            dsimp only
            rw [if_pos hl, if_pos ⟨c3, by omega⟩]
          rw [eN] at HO HE
          conv => whnf
          refine ⟨fun c4 => ?_, fun c4 => absurd c4 (fin_c (by omega))⟩
          conv => whnf
          refine ⟨fun c => absurd c c2, fun _ => ?_⟩
          conv => whnf
          (refine ⟨fun c => ?_, fun c => ?_⟩ <;> first | ((have c9 : (1 : Int32) = 0 := by with_reducible exact c); exact absurd c9 (by decide)) | exact absurd (rfl : (0 : Int32) = 0) (by with_reducible exact c) | exact absurd True.intro (by with_reducible exact c) | exact False.elim (by with_reducible exact c) | (conv => whnf))
          simp only [u2]
          exact ih (n + 1) (sk (tk f0 217 m) m p1 + 1) _ _ _ _ (by omega) (nI_1 n) (by omega) (ms_p t2 (nI_1 _)) HO HE
      · have ev : nx (tk f0 217 m) m (sk (tk f0 217 m) m p1) = -1 := if_neg hl
        have eO : alS (tk f0 217 m) m (k + 1 + 1) n p S = .ok (n + 1, updS S kk.toNatClampNeg a b e) := by
          simp only [alS, h1]
          rw [if_neg hl]
        rw [ev]
        conv => whnf
        refine ⟨fun _ => ?_, fun c => absurd (by decide) c⟩
        conv => whnf
        refine ⟨fun _ => ?_, fun c => absurd (by decide) c⟩
        conv => whnf
        (refine ⟨fun c => ?_, fun c => ?_⟩ <;> first | ((have c9 : (1 : Int32) = 0 := by with_reducible exact c); exact absurd c9 (by decide)) | exact absurd (rfl : (0 : Int32) = 0) (by with_reducible exact c) | exact absurd True.intro (by with_reducible exact c) | exact False.elim (by with_reducible exact c) | (conv => whnf))
        simp only [u2, nI_1]
        exact ra_e (f0 := f0) (m := m) (HO _ _ eO _ _ hr.2 (ms_p t2 (Int32.add_zero _)))
    · have eE : alS (tk f0 217 m) m (k + 1 + 1) n p S = .error r := by simp only [alS, h1]
      conv => whnf
      (refine ⟨fun c => ?_, fun c => ?_⟩ <;> first | ((have c9 : (1 : Int32) = 0 := by with_reducible exact c); exact absurd c9 (by decide)) | exact absurd (rfl : (0 : Int32) = 0) (by with_reducible exact c) | exact absurd True.intro (by with_reducible exact c) | exact False.elim (by with_reducible exact c) | (conv => whnf))
      exact HE _ eE _ _ t1
set_option maxRecDepth 100000 in
theorem rz_lp {d L m : Nat} {f0 : Nat → Nat → Int32} {g : Nat → Nat → Int64} {R : Option Value → mH → Prop} (H : ∀ f', ms f0 m 0 (fun _ _ => 0) f' → WPe pg_X11_readAll none (Run mtab d) R (m_drop pg_X11_readAll 19) [some (.ref 181), some (.int 0), some (.int 1), none] [] (shF L, f', g)) :
    ∀ (k i : Nat) (x : Int32) (f : Nat → Nat → Int32), i + k = 12 → x = nI i → f 181 46 = nI m → f 181 47 = 0 → (∀ j, j < i → f 216 j = 0) → (∀ a i, ¬ (a = 181 ∧ i = 47) → ¬ a = 216 → f a i = f0 a i) → WPe pg_X11_readAll none (Run mtab d) R (m_drop pg_X11_readAll 5) [some (.ref 181), some (.int x), none, none] [] (shF L, f, g)
  | 0, i, x, f, hk, hx, h1, h2, h3, h4 => by
    have e : i = 12 := by omega
    subst hx
    subst e
    refine at_X11_readAll ?_
    conv => whnf
    refine ⟨fun c => ?_, fun c => absurd (by decide) c⟩
    conv => whnf
    exact H f ⟨h1, h2, fun k t hk ht => h3 _ (by omega), h4⟩
  | k + 1, i, x, f, hk, hx, h1, h2, h3, h4 => by
    subst hx
    have hcl : (nI i).toNatClampNeg = i := nI_clamp (by omega)
    refine at_X11_readAll ?_
    conv => whnf
    refine ⟨fun c => absurd c (nI_ge (b := 12) (by omega) (by omega)), fun c => ?_⟩
    conv => whnf
    refine ⟨vp_in_nI (by omega) (by decide), ?_⟩
    conv => whnf
    simp only [hcl]
    refine rz_lp H k (i + 1) _ _ (by omega) (nI_1 i) ?_ ?_ (fun j hj => ?_) (fun a i h5 h6 => ?_)
    · rw [m_ui_o (by omega)]; exact h1
    · rw [m_ui_o (by omega)]; exact h2
    · by_cases e : j = i
      · subst e
        rw [m_ui_s]
      · rw [m_ui_o (by omega)]
        exact h3 j (by omega)
    · rw [m_ui_o (by omega)]
      exact h4 a i h5 h6
set_option maxRecDepth 100000 in
set_option maxHeartbeats 4000000 in
theorem smf_readAll {d L : Nat} {f : Nat → Nat → Int32} {g : Nat → Nat → Int64} {m : Nat} {R : Option Value → mH → Prop} (hd : 5 ≤ d) (hm : m ≤ 50) (hb : f 181 46 = nI m) (hc : ∀ j, j < m → ¬ tk f 217 m j < 0) (HO : ∀ n' S', alS (tk f 217 m) m 4 0 0 (fun _ _ => 0) = .ok (n', S') → ∀ f' p', p' ≤ m → ms f m p' S' f' → R (some (.int (nI n'))) (shF L, f', g)) (HE : ∀ r, alS (tk f 217 m) m 4 0 0 (fun _ _ => 0) = .error r → ∀ f' S', ms f m r S' f' → R (some (.int (-1))) (shF L, f', g)) : Run mtab d 220 [.ref 181] (shF L, f, g) R := by
  obtain ⟨d, rfl⟩ : ∃ e, d = e + 1 := ⟨d - 1, by omega⟩
  refine go_X11_readAll rfl ?_
  conv => whnf
  refine rz_lp (m := m) (f0 := f) (fun f' t => rf_lp (by omega) hm hc 3 0 0 _ _ _ _ (by omega) rfl (by omega) t HO HE) 12 0 _ _ (by omega) rfl ?_ ?_ (fun j hj => absurd hj (by omega)) (fun a i h1 h2 => ?_)
  · rw [m_ui_o (by omega)]; exact hb
  · rw [m_ui_s]
  · rw [m_ui_o (by omega)]
/-- what the model's rules leave -/
def rtM (f : Nat → Nat → Int32) (m : Nat) (f' : Nat → Nat → Int32) (v : Int32) : Prop := f' 181 46 = 0 ∧ (∃ p : Nat, p ≤ 50 ∧ f' 181 47 = nI p) ∧ (∀ a i, ¬ (a = 181 ∧ i = 46) → ¬ (a = 181 ∧ i = 47) → ¬ (213 ≤ a ∧ a ≤ 216) → f' a i = f a i) ∧ ((∃ r, alS (tk f 217 m) m 4 0 0 (fun _ _ => 0) = .error r ∧ v = -20 - nI r ∧ (∀ j t, j < 4 → t < 3 → f' (213 + t) j = f (213 + t) j)) ∨ (∃ n' S', alS (tk f 217 m) m 4 0 0 (fun _ _ => 0) = .ok (n', S') ∧ v = nI n' ∧ (∀ j t, j < 4 → t < 3 → f' (213 + t) j = S' j t)))
set_option maxRecDepth 100000 in
set_option maxHeartbeats 4000000 in
theorem rc_lp {d L : Nat} {f0 : Nat → Nat → Int32} {g : Nat → Nat → Int64} {w : Int32} {S : Nat → Nat → Int32} {R : Option Value → mH → Prop} (H : ∀ f', (∀ j t, j < 4 → t < 3 → f' (213 + t) j = S j t) → (∀ a i, ¬ (213 ≤ a ∧ a ≤ 215) → f' a i = f0 a i) → R (some (.int w)) (shF L, f', g)) (h0 : ∀ j t, j < 4 → t < 3 → f0 216 (3 * j + t) = S j t) :
    ∀ (k i : Nat) (x : Int32) (f : Nat → Nat → Int32), i + k = 4 → x = nI i → (∀ j t, j < i → t < 3 → f (213 + t) j = S j t) → (∀ a i, ¬ (213 ≤ a ∧ a ≤ 215) → f a i = f0 a i) → WPe pg_X11_rules none (Run mtab d) R (m_drop pg_X11_rules 15) [some (.ref 181), some (.int w), some (.int x)] [] (shF L, f, g)
  | 0, i, x, f, hk, hx, h1, h2 => by
    have e : i = 4 := by omega
    subst hx
    subst e
    refine at_X11_rules ?_
    conv => whnf
    refine ⟨fun c => ?_, fun c => absurd (by decide) c⟩
    conv => whnf
    exact H f h1 h2
  | k + 1, i, x, f, hk, hx, h1, h2 => by
    subst hx
    have hcl : (nI i).toNatClampNeg = i := nI_clamp (by omega)
    have hc0 : (nI (3 * i)).toNatClampNeg = 3 * i := nI_clamp (by omega)
    have hc1 : (nI (3 * i + 1)).toNatClampNeg = 3 * i + 1 := nI_clamp (by omega)
    have hc2 : (nI (3 * i + 2)).toNatClampNeg = 3 * i + 2 := nI_clamp (by omega)
    have v0 : f 216 (3 * i) = S i 0 := (h2 216 _ (by omega)).trans (h0 i 0 (by omega) (by omega))
    have v1 : f 216 (3 * i + 1) = S i 1 := (h2 216 _ (by omega)).trans (h0 i 1 (by omega) (by omega))
    have v2 : f 216 (3 * i + 2) = S i 2 := (h2 216 _ (by omega)).trans (h0 i 2 (by omega) (by omega))
    refine at_X11_rules ?_
    conv => whnf
    refine ⟨fun c => absurd c (nI_ge (b := 4) (by omega) (by omega)), fun c => ?_⟩
    conv => whnf
    (try simp only [nI_3m, nI_1, nI_k _ 2 2 rfl])
    refine ⟨vp_in_nI (by omega) (by decide), ?_⟩
    conv => whnf
    (try simp only [nI_3m, nI_1, nI_k _ 2 2 rfl])
    refine ⟨vp_in_nI (by omega) (by decide), ?_⟩
    conv => whnf
    (try simp only [nI_3m, nI_1, nI_k _ 2 2 rfl])
    refine ⟨vp_in_nI (by omega) (by decide), ?_⟩
    conv => whnf
    (try simp only [nI_3m, nI_1, nI_k _ 2 2 rfl])
    refine ⟨vp_in_nI (by omega) (by decide), ?_⟩
    conv => whnf
    (try simp only [nI_3m, nI_1, nI_k _ 2 2 rfl])
    refine ⟨vp_in_nI (by omega) (by decide), ?_⟩
    conv => whnf
    (try simp only [nI_3m, nI_1, nI_k _ 2 2 rfl])
    refine ⟨vp_in_nI (by omega) (by decide), ?_⟩
    conv => whnf
    simp only [hcl, hc0, hc1, hc2, m_ui_ap, m_fil_ap, m_cpy_ap, Nat.reduceEqDiff, Nat.reduceLT, Nat.reduceLeDiff, eq_self, ↓reduceIte, false_and, and_false, true_and, and_true, and_self, nI_3m, nI_1, nI_k _ 2 2 rfl, v0, v1, v2]
    refine rc_lp H h0 k (i + 1) _ _ (by omega) (by first | rfl | exact nI_1 i) (fun j t hj ht => ?_) (fun a b h5 => ?_)
    · have ht3 : t = 0 ∨ t = 1 ∨ t = 2 := by omega
      by_cases e : j = i
      · subst e
        rcases ht3 with rfl | rfl | rfl
        · rw [m_ui_o (by omega), m_ui_o (by omega), m_ui_s]
        · rw [m_ui_o (by omega), m_ui_s]
        · rw [m_ui_s]
      · rw [m_ui_o (by omega), m_ui_o (by omega), m_ui_o (by omega)]
        exact h1 j t (by omega) ht
    · rw [m_ui_o (by omega), m_ui_o (by omega), m_ui_o (by omega)]
      exact h2 a b h5
set_option maxRecDepth 100000 in
set_option maxHeartbeats 4000000 in
theorem smf_rules {d L : Nat} {f : Nat → Nat → Int32} {g : Nat → Nat → Int64} {m : Nat} {R : Option Value → mH → Prop} (hd : 8 ≤ d) (hm : m ≤ 50) (hb : f 181 46 = nI m) (hc : ∀ j, j < m → ¬ tk f 217 m j < 0) (H : ∀ v f', rtM f m f' v → R (some (.int v)) (shF L, f', g)) : Run mtab d 221 [.ref 181] (shF L, f, g) R := by
  obtain ⟨d, rfl⟩ : ∃ e, d = e + 1 := ⟨d - 1, by omega⟩
  refine go_X11_rules rfl ?_
  conv => whnf
  refine smf_readAll (by omega) hm hb hc (fun n' S' h1 f1 p1 hp1 t1 => ?_) (fun r h1 f1 S1 t1 => ?_)
  · have hn : n' ≤ 4 := ((al_both (T := tk f 217 m) hm 3 0 0 (fun _ _ => 0) (by omega) (by omega)).2 n' S' h1).1
    conv => whnf
    refine ⟨fun _ => ?_, fun c => absurd (i32_nlt.mp (nI_pos (by omega))) c⟩
    conv => whnf
    refine rc_lp (f0 := m_ui f1 181 46 0) (S := S') (fun f2 a1 a2 => ?_) (fun j t hj ht => ?_) 4 0 _ _ (by omega) rfl (fun j t hj ht => absurd hj (by omega)) (fun a i _ => rfl)
    · refine H _ _ ⟨?_, ⟨p1, by omega, ?_⟩, fun a i h2 h3 h4 => ?_, Or.inr ⟨n', S', h1, rfl, a1⟩⟩
      · rw [a2 181 46 (by omega), m_ui_s]
      · rw [a2 181 47 (by omega), m_ui_o (by omega)]
        exact t1.2.1
      · rw [a2 a i (by omega), m_ui_o (by omega)]
        exact t1.2.2.2 a i h3 (by omega)
    · rw [m_ui_o (by omega)]
      exact t1.2.2.1 j t hj ht
  · have hr : r ≤ m := ((al_both (T := tk f 217 m) hm 3 0 0 (fun _ _ => 0) (by omega) (by omega)).1 r h1).1
    have u2 := t1.2.1
    have u3 : m_ui f1 181 46 0 181 47 = nI r := (m_ui_o (by omega)).trans u2
    conv => whnf
    refine ⟨fun c => absurd c (by decide), fun _ => ?_⟩
    conv => whnf
    simp only [u2, u3]
    refine H _ _ ⟨m_ui_s, ⟨r, by omega, u3⟩, fun a i h2 h3 h4 => ?_, Or.inl ⟨r, h1, rfl, fun j t hj ht => ?_⟩⟩
    · rw [m_ui_o (by omega)]
      exact t1.2.2.2 a i h3 (by omega)
    · rw [m_ui_o (by omega)]
      exact t1.2.2.2 _ _ (by omega) (by omega)
theorem ro_m {d L : Nat} {f : Nat → Nat → Int32} {g : Nat → Nat → Int64} {w : Int32} {R : Option Value → mH → Prop} (H : R (some (.int (-1))) (shF L, f, g)) : WPe pg_X11_ruleOf none (Run mtab d) R (m_drop pg_X11_ruleOf 2) [some (.ref 181), some (.int w), some (.int (-1))] [] (shF L, f, g) := by
  refine at_X11_ruleOf ?_
  conv => whnf
  refine ⟨fun _ => ?_, fun c => absurd (by decide) c⟩
  conv => whnf
  exact H
def rov : Nat → (Nat → Nat → Int32) → Int32
  | 0, f => if f 213 0 = 0 then -1 else 0
  | 1, f => if f 213 1 = 0 then (if f 213 0 = 0 then -1 else 0) else 1
  | 2, f => if f 213 2 = 0 then (if f 213 0 = 0 then -1 else 0) else 2
  | _, f => if f 213 3 = 0 then (if f 213 2 = 0 then (if f 213 0 = 0 then -1 else 0) else 2) else 3
set_option maxRecDepth 100000 in
theorem ro_0 {d L : Nat} {f : Nat → Nat → Int32} {g : Nat → Nat → Int64} {w : Int32} {R : Option Value → mH → Prop} (H : R (some (.int (rov 0 f))) (shF L, f, g)) : WPe pg_X11_ruleOf none (Run mtab d) R (m_drop pg_X11_ruleOf 2) [some (.ref 181), some (.int w), some (.int 0)] [] (shF L, f, g) := by
  refine at_X11_ruleOf ?_
  conv => whnf
  refine ⟨fun c => absurd c (by decide), fun _ => ?_⟩
  conv => whnf
  refine ⟨by unfold vp_in; decide, ?_⟩
  conv => whnf
  refine ⟨fun c => ?_, fun c => ?_⟩
  · conv => whnf
    have e : rov 0 f = 0 := if_neg c
    rw [e] at H
    exact H
  · have c1 : f 213 0 = 0 := c
    have e : rov 0 f = -1 := if_pos c1
    rw [e] at H
    conv => whnf
    refine ⟨fun c => absurd rfl c, fun _ => ?_⟩
    conv => whnf
    exact ro_m H
set_option maxRecDepth 100000 in
theorem ro_2 {d L : Nat} {f : Nat → Nat → Int32} {g : Nat → Nat → Int64} {w : Int32} {R : Option Value → mH → Prop} (H : R (some (.int (rov 2 f))) (shF L, f, g)) : WPe pg_X11_ruleOf none (Run mtab d) R (m_drop pg_X11_ruleOf 2) [some (.ref 181), some (.int w), some (.int 2)] [] (shF L, f, g) := by
  refine at_X11_ruleOf ?_
  conv => whnf
  refine ⟨fun c => absurd c (by decide), fun _ => ?_⟩
  conv => whnf
  refine ⟨by unfold vp_in; decide, ?_⟩
  conv => whnf
  refine ⟨fun c => ?_, fun c => ?_⟩
  · conv => whnf
    have e : rov 2 f = 2 := if_neg c
    rw [e] at H
    exact H
  · have c1 : f 213 2 = 0 := c
    have e : rov 2 f = rov 0 f := if_pos c1
    rw [e] at H
    conv => whnf
    refine ⟨fun _ => ?_, fun c => absurd c (by decide)⟩
    conv => whnf
    refine ⟨fun _ => ?_, fun c => absurd c (by decide)⟩
    conv => whnf
    exact ro_0 H
set_option maxRecDepth 100000 in
theorem ro_1 {d L : Nat} {f : Nat → Nat → Int32} {g : Nat → Nat → Int64} {w : Int32} {R : Option Value → mH → Prop} (H : R (some (.int (rov 1 f))) (shF L, f, g)) : WPe pg_X11_ruleOf none (Run mtab d) R (m_drop pg_X11_ruleOf 2) [some (.ref 181), some (.int w), some (.int 1)] [] (shF L, f, g) := by
  refine at_X11_ruleOf ?_
  conv => whnf
  refine ⟨fun c => absurd c (by decide), fun _ => ?_⟩
  conv => whnf
  refine ⟨by unfold vp_in; decide, ?_⟩
  conv => whnf
  refine ⟨fun c => ?_, fun c => ?_⟩
  · conv => whnf
    have e : rov 1 f = 1 := if_neg c
    rw [e] at H
    exact H
  · have c1 : f 213 1 = 0 := c
    have e : rov 1 f = rov 0 f := if_pos c1
    rw [e] at H
    conv => whnf
    refine ⟨fun _ => ?_, fun c => absurd c (by decide)⟩
    conv => whnf
    refine ⟨fun _ => ?_, fun c => absurd c (by decide)⟩
    conv => whnf
    exact ro_0 H
set_option maxRecDepth 100000 in
theorem ro_3 {d L : Nat} {f : Nat → Nat → Int32} {g : Nat → Nat → Int64} {w : Int32} {R : Option Value → mH → Prop} (H : R (some (.int (rov 3 f))) (shF L, f, g)) : WPe pg_X11_ruleOf none (Run mtab d) R (m_drop pg_X11_ruleOf 2) [some (.ref 181), some (.int w), some (.int 3)] [] (shF L, f, g) := by
  refine at_X11_ruleOf ?_
  conv => whnf
  refine ⟨fun c => absurd c (by decide), fun _ => ?_⟩
  conv => whnf
  refine ⟨by unfold vp_in; decide, ?_⟩
  conv => whnf
  refine ⟨fun c => ?_, fun c => ?_⟩
  · conv => whnf
    have e : rov 3 f = 3 := if_neg c
    rw [e] at H
    exact H
  · have c1 : f 213 3 = 0 := c
    have e : rov 3 f = rov 2 f := if_pos c1
    rw [e] at H
    conv => whnf
    refine ⟨fun _ => ?_, fun c => absurd c (by decide)⟩
    conv => whnf
    refine ⟨fun c => absurd rfl c, fun _ => ?_⟩
    conv => whnf
    exact ro_2 H
theorem c4_c {k : Nat} (hk : k < 4) : k = 0 ∨ k = 1 ∨ k = 2 ∨ k = 3 := by omega
set_option maxRecDepth 100000 in
set_option maxHeartbeats 4000000 in
theorem smf_ruleOf {d L : Nat} {f : Nat → Nat → Int32} {g : Nat → Nat → Int64} {k : Nat} {R : Option Value → mH → Prop} (hd : 1 ≤ d) (hk : k < 4) (H : R (some (.int (rov k f))) (shF L, f, g)) : Run mtab d 222 [.ref 181, .int (nI k)] (shF L, f, g) R := by
  obtain ⟨d, rfl⟩ : ∃ e, d = e + 1 := ⟨d - 1, by omega⟩
  refine go_X11_ruleOf rfl ?_
  conv => whnf
  rcases c4_c hk with rfl | rfl | rfl | rfl
  · exact ro_0 H
  · exact ro_1 H
  · exact ro_2 H
  · exact ro_3 H
theorem c3_c {t : Nat} (ht : t < 3) : t = 0 ∨ t = 1 ∨ t = 2 := by omega
set_option maxRecDepth 100000 in
set_option maxHeartbeats 4000000 in
theorem smf_rulePart {d L : Nat} {f : Nat → Nat → Int32} {g : Nat → Nat → Int64} {k t : Nat} {R : Option Value → mH → Prop} (hd : 2 ≤ d) (hk : k < 4) (ht : t < 3) (H : R (some (.int (eC (fun k t => f (213 + t) k) k t))) (shF L, f, g)) : Run mtab d 223 [.ref 181, .int (nI k), .int (nI t)] (shF L, f, g) R := by
  obtain ⟨d, rfl⟩ : ∃ e, d = e + 1 := ⟨d - 1, by omega⟩
  refine go_X11_rulePart rfl ?_
  conv => whnf
  refine smf_ruleOf (by omega) hk ?_
  rcases c4_c hk with rfl | rfl | rfl | rfl
  · rcases c3_c ht with rfl | rfl | rfl
    · by_cases z0 : f 213 0 = 0
      · have e : rov 0 f = -1 := by
          show (if f 213 0 = 0 then (-1 : Int32) else 0) = -1
          rw [if_pos z0]
        rw [e]
        conv => whnf
        refine ⟨fun c => absurd c (by decide), fun _ => ?_⟩
        conv => whnf
        have e2 : eC (fun k t => f (213 + t) k) 0 0 = 1 := by
          show (if f 213 0 = 0 then (1 : Int32) else f (213 + 0) 0) = 1
          rw [if_pos z0]
        rw [e2] at H
        exact H
      · have e : rov 0 f = 0 := by
          show (if f 213 0 = 0 then (-1 : Int32) else 0) = 0
          rw [if_neg z0]
        rw [e]
        conv => whnf
        refine ⟨fun _ => ?_, fun c => absurd (by decide) c⟩
        conv => whnf
        refine ⟨fun c => absurd rfl c, fun _ => ?_⟩
        conv => whnf
        refine ⟨by unfold vp_in; decide, ?_⟩
        conv => whnf
        have e2 : eC (fun k t => f (213 + t) k) 0 0 = f (213 + 0) 0 := by
          show (if f 213 0 = 0 then (1 : Int32) else f (213 + 0) 0) = _
          rw [if_neg z0]
        rw [e2] at H
        exact H
    · by_cases z0 : f 213 0 = 0
      · have e : rov 0 f = -1 := by
          show (if f 213 0 = 0 then (-1 : Int32) else 0) = -1
          rw [if_pos z0]
        rw [e]
        conv => whnf
        refine ⟨fun c => absurd c (by decide), fun _ => ?_⟩
        conv => whnf
        have e2 : eC (fun k t => f (213 + t) k) 0 1 = 1 := by
          show (if f 213 0 = 0 then (1 : Int32) else f (213 + 1) 0) = 1
          rw [if_pos z0]
        rw [e2] at H
        exact H
      · have e : rov 0 f = 0 := by
          show (if f 213 0 = 0 then (-1 : Int32) else 0) = 0
          rw [if_neg z0]
        rw [e]
        conv => whnf
        refine ⟨fun _ => ?_, fun c => absurd (by decide) c⟩
        conv => whnf
        refine ⟨fun _ => ?_, fun c => absurd c (by decide)⟩
        conv => whnf
        refine ⟨fun c => absurd rfl c, fun _ => ?_⟩
        conv => whnf
        refine ⟨by unfold vp_in; decide, ?_⟩
        conv => whnf
        have e2 : eC (fun k t => f (213 + t) k) 0 1 = f (213 + 1) 0 := by
          show (if f 213 0 = 0 then (1 : Int32) else f (213 + 1) 0) = _
          rw [if_neg z0]
        rw [e2] at H
        exact H
    · by_cases z0 : f 213 0 = 0
      · have e : rov 0 f = -1 := by
          show (if f 213 0 = 0 then (-1 : Int32) else 0) = -1
          rw [if_pos z0]
        rw [e]
        conv => whnf
        refine ⟨fun c => absurd c (by decide), fun _ => ?_⟩
        conv => whnf
        have e2 : eC (fun k t => f (213 + t) k) 0 2 = 1 := by
          show (if f 213 0 = 0 then (1 : Int32) else f (213 + 2) 0) = 1
          rw [if_pos z0]
        rw [e2] at H
        exact H
      · have e : rov 0 f = 0 := by
          show (if f 213 0 = 0 then (-1 : Int32) else 0) = 0
          rw [if_neg z0]
        rw [e]
        conv => whnf
        refine ⟨fun _ => ?_, fun c => absurd (by decide) c⟩
        conv => whnf
        refine ⟨fun _ => ?_, fun c => absurd c (by decide)⟩
        conv => whnf
        refine ⟨fun _ => ?_, fun c => absurd c (by decide)⟩
        conv => whnf
        refine ⟨by unfold vp_in; decide, ?_⟩
        conv => whnf
        have e2 : eC (fun k t => f (213 + t) k) 0 2 = f (213 + 2) 0 := by
          show (if f 213 0 = 0 then (1 : Int32) else f (213 + 2) 0) = _
          rw [if_neg z0]
        rw [e2] at H
        exact H
  · rcases c3_c ht with rfl | rfl | rfl
    · by_cases z1 : f 213 1 = 0
      · by_cases z0 : f 213 0 = 0
        · have e : rov 1 f = -1 := by
            show (if f 213 1 = 0 then (if f 213 0 = 0 then (-1 : Int32) else 0) else 1) = -1
            rw [if_pos z1, if_pos z0]
          rw [e]
          conv => whnf
          refine ⟨fun c => absurd c (by decide), fun _ => ?_⟩
          conv => whnf
          have e2 : eC (fun k t => f (213 + t) k) 1 0 = 1 := by
            show (if f 213 1 = 0 then (if f 213 0 = 0 then (1 : Int32) else f (213 + 0) 0) else f (213 + 0) 1) = 1
            rw [if_pos z1, if_pos z0]
          rw [e2] at H
          exact H
        · have e : rov 1 f = 0 := by
            show (if f 213 1 = 0 then (if f 213 0 = 0 then (-1 : Int32) else 0) else 1) = 0
            rw [if_pos z1, if_neg z0]
          rw [e]
          conv => whnf
          refine ⟨fun _ => ?_, fun c => absurd (by decide) c⟩
          conv => whnf
          refine ⟨fun c => absurd rfl c, fun _ => ?_⟩
          conv => whnf
          refine ⟨by unfold vp_in; decide, ?_⟩
          conv => whnf
          have e2 : eC (fun k t => f (213 + t) k) 1 0 = f (213 + 0) 0 := by
            show (if f 213 1 = 0 then (if f 213 0 = 0 then (1 : Int32) else f (213 + 0) 0) else f (213 + 0) 1) = _
            rw [if_pos z1, if_neg z0]
          rw [e2] at H
          exact H
      · have e : rov 1 f = 1 := by
          show (if f 213 1 = 0 then (if f 213 0 = 0 then (-1 : Int32) else 0) else 1) = 1
          rw [if_neg z1]
        rw [e]
        conv => whnf
        refine ⟨fun _ => ?_, fun c => absurd (by decide) c⟩
        conv => whnf
        refine ⟨fun c => absurd rfl c, fun _ => ?_⟩
        conv => whnf
        refine ⟨by unfold vp_in; decide, ?_⟩
        conv => whnf
        have e2 : eC (fun k t => f (213 + t) k) 1 0 = f (213 + 0) 1 := by
          show (if f 213 1 = 0 then (if f 213 0 = 0 then (1 : Int32) else f (213 + 0) 0) else f (213 + 0) 1) = _
          rw [if_neg z1]
        rw [e2] at H
        exact H
    · by_cases z1 : f 213 1 = 0
      · by_cases z0 : f 213 0 = 0
        · have e : rov 1 f = -1 := by
            show (if f 213 1 = 0 then (if f 213 0 = 0 then (-1 : Int32) else 0) else 1) = -1
            rw [if_pos z1, if_pos z0]
          rw [e]
          conv => whnf
          refine ⟨fun c => absurd c (by decide), fun _ => ?_⟩
          conv => whnf
          have e2 : eC (fun k t => f (213 + t) k) 1 1 = 1 := by
            show (if f 213 1 = 0 then (if f 213 0 = 0 then (1 : Int32) else f (213 + 1) 0) else f (213 + 1) 1) = 1
            rw [if_pos z1, if_pos z0]
          rw [e2] at H
          exact H
        · have e : rov 1 f = 0 := by
            show (if f 213 1 = 0 then (if f 213 0 = 0 then (-1 : Int32) else 0) else 1) = 0
            rw [if_pos z1, if_neg z0]
          rw [e]
          conv => whnf
          refine ⟨fun _ => ?_, fun c => absurd (by decide) c⟩
          conv => whnf
          refine ⟨fun _ => ?_, fun c => absurd c (by decide)⟩
          conv => whnf
          refine ⟨fun c => absurd rfl c, fun _ => ?_⟩
          conv => whnf
          refine ⟨by unfold vp_in; decide, ?_⟩
          conv => whnf
          have e2 : eC (fun k t => f (213 + t) k) 1 1 = f (213 + 1) 0 := by
            show (if f 213 1 = 0 then (if f 213 0 = 0 then (1 : Int32) else f (213 + 1) 0) else f (213 + 1) 1) = _
            rw [if_pos z1, if_neg z0]
          rw [e2] at H
          exact H
      · have e : rov 1 f = 1 := by
          show (if f 213 1 = 0 then (if f 213 0 = 0 then (-1 : Int32) else 0) else 1) = 1
          rw [if_neg z1]
        rw [e]
        conv => whnf
        refine ⟨fun _ => ?_, fun c => absurd (by decide) c⟩
        conv => whnf
        refine ⟨fun _ => ?_, fun c => absurd c (by decide)⟩
        conv => whnf
        refine ⟨fun c => absurd rfl c, fun _ => ?_⟩
        conv => whnf
        refine ⟨by unfold vp_in; decide, ?_⟩
        conv => whnf
        have e2 : eC (fun k t => f (213 + t) k) 1 1 = f (213 + 1) 1 := by
          show (if f 213 1 = 0 then (if f 213 0 = 0 then (1 : Int32) else f (213 + 1) 0) else f (213 + 1) 1) = _
          rw [if_neg z1]
        rw [e2] at H
        exact H
    · by_cases z1 : f 213 1 = 0
      · by_cases z0 : f 213 0 = 0
        · have e : rov 1 f = -1 := by
            show (if f 213 1 = 0 then (if f 213 0 = 0 then (-1 : Int32) else 0) else 1) = -1
            rw [if_pos z1, if_pos z0]
          rw [e]
          conv => whnf
          refine ⟨fun c => absurd c (by decide), fun _ => ?_⟩
          conv => whnf
          have e2 : eC (fun k t => f (213 + t) k) 1 2 = 1 := by
            show (if f 213 1 = 0 then (if f 213 0 = 0 then (1 : Int32) else f (213 + 2) 0) else f (213 + 2) 1) = 1
            rw [if_pos z1, if_pos z0]
          rw [e2] at H
          exact H
        · have e : rov 1 f = 0 := by
            show (if f 213 1 = 0 then (if f 213 0 = 0 then (-1 : Int32) else 0) else 1) = 0
            rw [if_pos z1, if_neg z0]
          rw [e]
          conv => whnf
          refine ⟨fun _ => ?_, fun c => absurd (by decide) c⟩
          conv => whnf
          refine ⟨fun _ => ?_, fun c => absurd c (by decide)⟩
          conv => whnf
          refine ⟨fun _ => ?_, fun c => absurd c (by decide)⟩
          conv => whnf
          refine ⟨by unfold vp_in; decide, ?_⟩
          conv => whnf
          have e2 : eC (fun k t => f (213 + t) k) 1 2 = f (213 + 2) 0 := by
            show (if f 213 1 = 0 then (if f 213 0 = 0 then (1 : Int32) else f (213 + 2) 0) else f (213 + 2) 1) = _
            rw [if_pos z1, if_neg z0]
          rw [e2] at H
          exact H
      · have e : rov 1 f = 1 := by
          show (if f 213 1 = 0 then (if f 213 0 = 0 then (-1 : Int32) else 0) else 1) = 1
          rw [if_neg z1]
        rw [e]
        conv => whnf
        refine ⟨fun _ => ?_, fun c => absurd (by decide) c⟩
        conv => whnf
        refine ⟨fun _ => ?_, fun c => absurd c (by decide)⟩
        conv => whnf
        refine ⟨fun _ => ?_, fun c => absurd c (by decide)⟩
        conv => whnf
        refine ⟨by unfold vp_in; decide, ?_⟩
        conv => whnf
        have e2 : eC (fun k t => f (213 + t) k) 1 2 = f (213 + 2) 1 := by
          show (if f 213 1 = 0 then (if f 213 0 = 0 then (1 : Int32) else f (213 + 2) 0) else f (213 + 2) 1) = _
          rw [if_neg z1]
        rw [e2] at H
        exact H
  · rcases c3_c ht with rfl | rfl | rfl
    · by_cases z2 : f 213 2 = 0
      · by_cases z0 : f 213 0 = 0
        · have e : rov 2 f = -1 := by
            show (if f 213 2 = 0 then (if f 213 0 = 0 then (-1 : Int32) else 0) else 2) = -1
            rw [if_pos z2, if_pos z0]
          rw [e]
          conv => whnf
          refine ⟨fun c => absurd c (by decide), fun _ => ?_⟩
          conv => whnf
          have e2 : eC (fun k t => f (213 + t) k) 2 0 = 1 := by
            show (if f 213 2 = 0 then (if f 213 0 = 0 then (1 : Int32) else f (213 + 0) 0) else f (213 + 0) 2) = 1
            rw [if_pos z2, if_pos z0]
          rw [e2] at H
          exact H
        · have e : rov 2 f = 0 := by
            show (if f 213 2 = 0 then (if f 213 0 = 0 then (-1 : Int32) else 0) else 2) = 0
            rw [if_pos z2, if_neg z0]
          rw [e]
          conv => whnf
          refine ⟨fun _ => ?_, fun c => absurd (by decide) c⟩
          conv => whnf
          refine ⟨fun c => absurd rfl c, fun _ => ?_⟩
          conv => whnf
          refine ⟨by unfold vp_in; decide, ?_⟩
          conv => whnf
          have e2 : eC (fun k t => f (213 + t) k) 2 0 = f (213 + 0) 0 := by
            show (if f 213 2 = 0 then (if f 213 0 = 0 then (1 : Int32) else f (213 + 0) 0) else f (213 + 0) 2) = _
            rw [if_pos z2, if_neg z0]
          rw [e2] at H
          exact H
      · have e : rov 2 f = 2 := by
          show (if f 213 2 = 0 then (if f 213 0 = 0 then (-1 : Int32) else 0) else 2) = 2
          rw [if_neg z2]
        rw [e]
        conv => whnf
        refine ⟨fun _ => ?_, fun c => absurd (by decide) c⟩
        conv => whnf
        refine ⟨fun c => absurd rfl c, fun _ => ?_⟩
        conv => whnf
        refine ⟨by unfold vp_in; decide, ?_⟩
        conv => whnf
        have e2 : eC (fun k t => f (213 + t) k) 2 0 = f (213 + 0) 2 := by
          show (if f 213 2 = 0 then (if f 213 0 = 0 then (1 : Int32) else f (213 + 0) 0) else f (213 + 0) 2) = _
          rw [if_neg z2]
        rw [e2] at H
        exact H
    · by_cases z2 : f 213 2 = 0
      · by_cases z0 : f 213 0 = 0
        · have e : rov 2 f = -1 := by
            show (if f 213 2 = 0 then (if f 213 0 = 0 then (-1 : Int32) else 0) else 2) = -1
            rw [if_pos z2, if_pos z0]
          rw [e]
          conv => whnf
          refine ⟨fun c => absurd c (by decide), fun _ => ?_⟩
          conv => whnf
          have e2 : eC (fun k t => f (213 + t) k) 2 1 = 1 := by
            show (if f 213 2 = 0 then (if f 213 0 = 0 then (1 : Int32) else f (213 + 1) 0) else f (213 + 1) 2) = 1
            rw [if_pos z2, if_pos z0]
          rw [e2] at H
          exact H
        · have e : rov 2 f = 0 := by
            show (if f 213 2 = 0 then (if f 213 0 = 0 then (-1 : Int32) else 0) else 2) = 0
            rw [if_pos z2, if_neg z0]
          rw [e]
          conv => whnf
          refine ⟨fun _ => ?_, fun c => absurd (by decide) c⟩
          conv => whnf
          refine ⟨fun _ => ?_, fun c => absurd c (by decide)⟩
          conv => whnf
          refine ⟨fun c => absurd rfl c, fun _ => ?_⟩
          conv => whnf
          refine ⟨by unfold vp_in; decide, ?_⟩
          conv => whnf
          have e2 : eC (fun k t => f (213 + t) k) 2 1 = f (213 + 1) 0 := by
            show (if f 213 2 = 0 then (if f 213 0 = 0 then (1 : Int32) else f (213 + 1) 0) else f (213 + 1) 2) = _
            rw [if_pos z2, if_neg z0]
          rw [e2] at H
          exact H
      · have e : rov 2 f = 2 := by
          show (if f 213 2 = 0 then (if f 213 0 = 0 then (-1 : Int32) else 0) else 2) = 2
          rw [if_neg z2]
        rw [e]
        conv => whnf
        refine ⟨fun _ => ?_, fun c => absurd (by decide) c⟩
        conv => whnf
        refine ⟨fun _ => ?_, fun c => absurd c (by decide)⟩
        conv => whnf
        refine ⟨fun c => absurd rfl c, fun _ => ?_⟩
        conv => whnf
        refine ⟨by unfold vp_in; decide, ?_⟩
        conv => whnf
        have e2 : eC (fun k t => f (213 + t) k) 2 1 = f (213 + 1) 2 := by
          show (if f 213 2 = 0 then (if f 213 0 = 0 then (1 : Int32) else f (213 + 1) 0) else f (213 + 1) 2) = _
          rw [if_neg z2]
        rw [e2] at H
        exact H
    · by_cases z2 : f 213 2 = 0
      · by_cases z0 : f 213 0 = 0
        · have e : rov 2 f = -1 := by
            show (if f 213 2 = 0 then (if f 213 0 = 0 then (-1 : Int32) else 0) else 2) = -1
            rw [if_pos z2, if_pos z0]
          rw [e]
          conv => whnf
          refine ⟨fun c => absurd c (by decide), fun _ => ?_⟩
          conv => whnf
          have e2 : eC (fun k t => f (213 + t) k) 2 2 = 1 := by
            show (if f 213 2 = 0 then (if f 213 0 = 0 then (1 : Int32) else f (213 + 2) 0) else f (213 + 2) 2) = 1
            rw [if_pos z2, if_pos z0]
          rw [e2] at H
          exact H
        · have e : rov 2 f = 0 := by
            show (if f 213 2 = 0 then (if f 213 0 = 0 then (-1 : Int32) else 0) else 2) = 0
            rw [if_pos z2, if_neg z0]
          rw [e]
          conv => whnf
          refine ⟨fun _ => ?_, fun c => absurd (by decide) c⟩
          conv => whnf
          refine ⟨fun _ => ?_, fun c => absurd c (by decide)⟩
          conv => whnf
          refine ⟨fun _ => ?_, fun c => absurd c (by decide)⟩
          conv => whnf
          refine ⟨by unfold vp_in; decide, ?_⟩
          conv => whnf
          have e2 : eC (fun k t => f (213 + t) k) 2 2 = f (213 + 2) 0 := by
            show (if f 213 2 = 0 then (if f 213 0 = 0 then (1 : Int32) else f (213 + 2) 0) else f (213 + 2) 2) = _
            rw [if_pos z2, if_neg z0]
          rw [e2] at H
          exact H
      · have e : rov 2 f = 2 := by
          show (if f 213 2 = 0 then (if f 213 0 = 0 then (-1 : Int32) else 0) else 2) = 2
          rw [if_neg z2]
        rw [e]
        conv => whnf
        refine ⟨fun _ => ?_, fun c => absurd (by decide) c⟩
        conv => whnf
        refine ⟨fun _ => ?_, fun c => absurd c (by decide)⟩
        conv => whnf
        refine ⟨fun _ => ?_, fun c => absurd c (by decide)⟩
        conv => whnf
        refine ⟨by unfold vp_in; decide, ?_⟩
        conv => whnf
        have e2 : eC (fun k t => f (213 + t) k) 2 2 = f (213 + 2) 2 := by
          show (if f 213 2 = 0 then (if f 213 0 = 0 then (1 : Int32) else f (213 + 2) 0) else f (213 + 2) 2) = _
          rw [if_neg z2]
        rw [e2] at H
        exact H
  · rcases c3_c ht with rfl | rfl | rfl
    · by_cases z3 : f 213 3 = 0
      · by_cases z2 : f 213 2 = 0
        · by_cases z0 : f 213 0 = 0
          · have e : rov 3 f = -1 := by
              show (if f 213 3 = 0 then (if f 213 2 = 0 then (if f 213 0 = 0 then (-1 : Int32) else 0) else 2) else 3) = -1
              rw [if_pos z3, if_pos z2, if_pos z0]
            rw [e]
            conv => whnf
            refine ⟨fun c => absurd c (by decide), fun _ => ?_⟩
            conv => whnf
            have e2 : eC (fun k t => f (213 + t) k) 3 0 = 1 := by
              show (if f 213 3 = 0 then (if f 213 2 = 0 then (if f 213 0 = 0 then (1 : Int32) else f (213 + 0) 0) else f (213 + 0) 2) else f (213 + 0) 3) = 1
              rw [if_pos z3, if_pos z2, if_pos z0]
            rw [e2] at H
            exact H
          · have e : rov 3 f = 0 := by
              show (if f 213 3 = 0 then (if f 213 2 = 0 then (if f 213 0 = 0 then (-1 : Int32) else 0) else 2) else 3) = 0
              rw [if_pos z3, if_pos z2, if_neg z0]
            rw [e]
            conv => whnf
            refine ⟨fun _ => ?_, fun c => absurd (by decide) c⟩
            conv => whnf
            refine ⟨fun c => absurd rfl c, fun _ => ?_⟩
            conv => whnf
            refine ⟨by unfold vp_in; decide, ?_⟩
            conv => whnf
            have e2 : eC (fun k t => f (213 + t) k) 3 0 = f (213 + 0) 0 := by
              show (if f 213 3 = 0 then (if f 213 2 = 0 then (if f 213 0 = 0 then (1 : Int32) else f (213 + 0) 0) else f (213 + 0) 2) else f (213 + 0) 3) = _
              rw [if_pos z3, if_pos z2, if_neg z0]
            rw [e2] at H
            exact H
        · have e : rov 3 f = 2 := by
            show (if f 213 3 = 0 then (if f 213 2 = 0 then (if f 213 0 = 0 then (-1 : Int32) else 0) else 2) else 3) = 2
            rw [if_pos z3, if_neg z2]
          rw [e]
          conv => whnf
          refine ⟨fun _ => ?_, fun c => absurd (by decide) c⟩
          conv => whnf
          refine ⟨fun c => absurd rfl c, fun _ => ?_⟩
          conv => whnf
          refine ⟨by unfold vp_in; decide, ?_⟩
          conv => whnf
          have e2 : eC (fun k t => f (213 + t) k) 3 0 = f (213 + 0) 2 := by
            show (if f 213 3 = 0 then (if f 213 2 = 0 then (if f 213 0 = 0 then (1 : Int32) else f (213 + 0) 0) else f (213 + 0) 2) else f (213 + 0) 3) = _
            rw [if_pos z3, if_neg z2]
          rw [e2] at H
          exact H
      · have e : rov 3 f = 3 := by
          show (if f 213 3 = 0 then (if f 213 2 = 0 then (if f 213 0 = 0 then (-1 : Int32) else 0) else 2) else 3) = 3
          rw [if_neg z3]
        rw [e]
        conv => whnf
        refine ⟨fun _ => ?_, fun c => absurd (by decide) c⟩
        conv => whnf
        refine ⟨fun c => absurd rfl c, fun _ => ?_⟩
        conv => whnf
        refine ⟨by unfold vp_in; decide, ?_⟩
        conv => whnf
        have e2 : eC (fun k t => f (213 + t) k) 3 0 = f (213 + 0) 3 := by
          show (if f 213 3 = 0 then (if f 213 2 = 0 then (if f 213 0 = 0 then (1 : Int32) else f (213 + 0) 0) else f (213 + 0) 2) else f (213 + 0) 3) = _
          rw [if_neg z3]
        rw [e2] at H
        exact H
    · by_cases z3 : f 213 3 = 0
      · by_cases z2 : f 213 2 = 0
        · by_cases z0 : f 213 0 = 0
          · have e : rov 3 f = -1 := by
              show (if f 213 3 = 0 then (if f 213 2 = 0 then (if f 213 0 = 0 then (-1 : Int32) else 0) else 2) else 3) = -1
              rw [if_pos z3, if_pos z2, if_pos z0]
            rw [e]
            conv => whnf
            refine ⟨fun c => absurd c (by decide), fun _ => ?_⟩
            conv => whnf
            have e2 : eC (fun k t => f (213 + t) k) 3 1 = 1 := by
              show (if f 213 3 = 0 then (if f 213 2 = 0 then (if f 213 0 = 0 then (1 : Int32) else f (213 + 1) 0) else f (213 + 1) 2) else f (213 + 1) 3) = 1
              rw [if_pos z3, if_pos z2, if_pos z0]
            rw [e2] at H
            exact H
          · have e : rov 3 f = 0 := by
              show (if f 213 3 = 0 then (if f 213 2 = 0 then (if f 213 0 = 0 then (-1 : Int32) else 0) else 2) else 3) = 0
              rw [if_pos z3, if_pos z2, if_neg z0]
            rw [e]
            conv => whnf
            refine ⟨fun _ => ?_, fun c => absurd (by decide) c⟩
            conv => whnf
            refine ⟨fun _ => ?_, fun c => absurd c (by decide)⟩
            conv => whnf
            refine ⟨fun c => absurd rfl c, fun _ => ?_⟩
            conv => whnf
            refine ⟨by unfold vp_in; decide, ?_⟩
            conv => whnf
            have e2 : eC (fun k t => f (213 + t) k) 3 1 = f (213 + 1) 0 := by
              show (if f 213 3 = 0 then (if f 213 2 = 0 then (if f 213 0 = 0 then (1 : Int32) else f (213 + 1) 0) else f (213 + 1) 2) else f (213 + 1) 3) = _
              rw [if_pos z3, if_pos z2, if_neg z0]
            rw [e2] at H
            exact H
        · have e : rov 3 f = 2 := by
            show (if f 213 3 = 0 then (if f 213 2 = 0 then (if f 213 0 = 0 then (-1 : Int32) else 0) else 2) else 3) = 2
            rw [if_pos z3, if_neg z2]
          rw [e]
          conv => whnf
          refine ⟨fun _ => ?_, fun c => absurd (by decide) c⟩
          conv => whnf
          refine ⟨fun _ => ?_, fun c => absurd c (by decide)⟩
          conv => whnf
          refine ⟨fun c => absurd rfl c, fun _ => ?_⟩
          conv => whnf
          refine ⟨by unfold vp_in; decide, ?_⟩
          conv => whnf
          have e2 : eC (fun k t => f (213 + t) k) 3 1 = f (213 + 1) 2 := by
            show (if f 213 3 = 0 then (if f 213 2 = 0 then (if f 213 0 = 0 then (1 : Int32) else f (213 + 1) 0) else f (213 + 1) 2) else f (213 + 1) 3) = _
            rw [if_pos z3, if_neg z2]
          rw [e2] at H
          exact H
      · have e : rov 3 f = 3 := by
          show (if f 213 3 = 0 then (if f 213 2 = 0 then (if f 213 0 = 0 then (-1 : Int32) else 0) else 2) else 3) = 3
          rw [if_neg z3]
        rw [e]
        conv => whnf
        refine ⟨fun _ => ?_, fun c => absurd (by decide) c⟩
        conv => whnf
        refine ⟨fun _ => ?_, fun c => absurd c (by decide)⟩
        conv => whnf
        refine ⟨fun c => absurd rfl c, fun _ => ?_⟩
        conv => whnf
        refine ⟨by unfold vp_in; decide, ?_⟩
        conv => whnf
        have e2 : eC (fun k t => f (213 + t) k) 3 1 = f (213 + 1) 3 := by
          show (if f 213 3 = 0 then (if f 213 2 = 0 then (if f 213 0 = 0 then (1 : Int32) else f (213 + 1) 0) else f (213 + 1) 2) else f (213 + 1) 3) = _
          rw [if_neg z3]
        rw [e2] at H
        exact H
    · by_cases z3 : f 213 3 = 0
      · by_cases z2 : f 213 2 = 0
        · by_cases z0 : f 213 0 = 0
          · have e : rov 3 f = -1 := by
              show (if f 213 3 = 0 then (if f 213 2 = 0 then (if f 213 0 = 0 then (-1 : Int32) else 0) else 2) else 3) = -1
              rw [if_pos z3, if_pos z2, if_pos z0]
            rw [e]
            conv => whnf
            refine ⟨fun c => absurd c (by decide), fun _ => ?_⟩
            conv => whnf
            have e2 : eC (fun k t => f (213 + t) k) 3 2 = 1 := by
              show (if f 213 3 = 0 then (if f 213 2 = 0 then (if f 213 0 = 0 then (1 : Int32) else f (213 + 2) 0) else f (213 + 2) 2) else f (213 + 2) 3) = 1
              rw [if_pos z3, if_pos z2, if_pos z0]
            rw [e2] at H
            exact H
          · have e : rov 3 f = 0 := by
              show (if f 213 3 = 0 then (if f 213 2 = 0 then (if f 213 0 = 0 then (-1 : Int32) else 0) else 2) else 3) = 0
              rw [if_pos z3, if_pos z2, if_neg z0]
            rw [e]
            conv => whnf
            refine ⟨fun _ => ?_, fun c => absurd (by decide) c⟩
            conv => whnf
            refine ⟨fun _ => ?_, fun c => absurd c (by decide)⟩
            conv => whnf
            refine ⟨fun _ => ?_, fun c => absurd c (by decide)⟩
            conv => whnf
            refine ⟨by unfold vp_in; decide, ?_⟩
            conv => whnf
            have e2 : eC (fun k t => f (213 + t) k) 3 2 = f (213 + 2) 0 := by
              show (if f 213 3 = 0 then (if f 213 2 = 0 then (if f 213 0 = 0 then (1 : Int32) else f (213 + 2) 0) else f (213 + 2) 2) else f (213 + 2) 3) = _
              rw [if_pos z3, if_pos z2, if_neg z0]
            rw [e2] at H
            exact H
        · have e : rov 3 f = 2 := by
            show (if f 213 3 = 0 then (if f 213 2 = 0 then (if f 213 0 = 0 then (-1 : Int32) else 0) else 2) else 3) = 2
            rw [if_pos z3, if_neg z2]
          rw [e]
          conv => whnf
          refine ⟨fun _ => ?_, fun c => absurd (by decide) c⟩
          conv => whnf
          refine ⟨fun _ => ?_, fun c => absurd c (by decide)⟩
          conv => whnf
          refine ⟨fun _ => ?_, fun c => absurd c (by decide)⟩
          conv => whnf
          refine ⟨by unfold vp_in; decide, ?_⟩
          conv => whnf
          have e2 : eC (fun k t => f (213 + t) k) 3 2 = f (213 + 2) 2 := by
            show (if f 213 3 = 0 then (if f 213 2 = 0 then (if f 213 0 = 0 then (1 : Int32) else f (213 + 2) 0) else f (213 + 2) 2) else f (213 + 2) 3) = _
            rw [if_pos z3, if_neg z2]
          rw [e2] at H
          exact H
      · have e : rov 3 f = 3 := by
          show (if f 213 3 = 0 then (if f 213 2 = 0 then (if f 213 0 = 0 then (-1 : Int32) else 0) else 2) else 3) = 3
          rw [if_neg z3]
        rw [e]
        conv => whnf
        refine ⟨fun _ => ?_, fun c => absurd (by decide) c⟩
        conv => whnf
        refine ⟨fun _ => ?_, fun c => absurd c (by decide)⟩
        conv => whnf
        refine ⟨fun _ => ?_, fun c => absurd c (by decide)⟩
        conv => whnf
        refine ⟨by unfold vp_in; decide, ?_⟩
        conv => whnf
        have e2 : eC (fun k t => f (213 + t) k) 3 2 = f (213 + 2) 3 := by
          show (if f 213 3 = 0 then (if f 213 2 = 0 then (if f 213 0 = 0 then (1 : Int32) else f (213 + 2) 0) else f (213 + 2) 2) else f (213 + 2) 3) = _
          rw [if_neg z3]
        rw [e2] at H
        exact H
set_option maxRecDepth 100000 in
set_option maxHeartbeats 4000000 in
theorem smf_rule {d L : Nat} {f : Nat → Nat → Int32} {g : Nat → Nat → Int64} {x1 x2 : Int32} {R : Option Value → mH → Prop} (hd : 4 ≤ d) (H : ∀ v, ((¬ (inr 0 3 x1 ∧ inr 0 2 x2) ∧ v = -1) ∨ (∃ k t, k < 4 ∧ t < 3 ∧ x1 = nI k ∧ x2 = nI t ∧ v = eC (fun k t => f (213 + t) k) k t)) → R (some (.int v)) (shF L, f, g)) : Run mtab d 224 [.ref 181, .int x1, .int x2] (shF L, f, g) R := by
  obtain ⟨d, rfl⟩ : ∃ e, d = e + 1 := ⟨d - 1, by omega⟩
  refine go_X11_rule rfl ?_
  conv => whnf
  refine ct_i_0_3 (by omega) (fun p1 => ?_) (fun p1 => ?_)
  · obtain ⟨k, hk, rfl⟩ := inr_nat (n := 3) rfl p1
    conv => whnf
    (refine ⟨fun c => ?_, fun c => ?_⟩ <;> first | ((have c9 : (1 : Int32) = 0 := by with_reducible exact c); exact absurd c9 (by decide)) | exact absurd (rfl : (0 : Int32) = 0) (by with_reducible exact c) | exact absurd True.intro (by with_reducible exact c) | exact False.elim (by with_reducible exact c) | (conv => whnf))
    refine ct_i_0_2 (by omega) (fun p2 => ?_) (fun p2 => ?_)
    · obtain ⟨t, ht, rfl⟩ := inr_nat (n := 2) rfl p2
      conv => whnf
      (refine ⟨fun c => ?_, fun c => ?_⟩ <;> first | ((have c9 : (1 : Int32) = 0 := by with_reducible exact c); exact absurd c9 (by decide)) | exact absurd (rfl : (0 : Int32) = 0) (by with_reducible exact c) | exact absurd True.intro (by with_reducible exact c) | exact False.elim (by with_reducible exact c) | (conv => whnf))
      refine smf_rulePart (by omega) (by omega) (by omega) ?_
      conv => whnf
      exact H _ (Or.inr ⟨k, t, by omega, by omega, rfl, rfl, rfl⟩)
    · conv => whnf
      (refine ⟨fun c => ?_, fun c => ?_⟩ <;> first | ((have c9 : (1 : Int32) = 0 := by with_reducible exact c); exact absurd c9 (by decide)) | exact absurd (rfl : (0 : Int32) = 0) (by with_reducible exact c) | exact absurd True.intro (by with_reducible exact c) | exact False.elim (by with_reducible exact c) | (conv => whnf))
      exact H _ (Or.inl ⟨fun hh => p2 hh.2, rfl⟩)
  · conv => whnf
    (refine ⟨fun c => ?_, fun c => ?_⟩ <;> first | ((have c9 : (1 : Int32) = 0 := by with_reducible exact c); exact absurd c9 (by decide)) | exact absurd (rfl : (0 : Int32) = 0) (by with_reducible exact c) | exact absurd True.intro (by with_reducible exact c) | exact False.elim (by with_reducible exact c) | (conv => whnf))
    exact H _ (Or.inl ⟨fun hh => p1 hh.1, rfl⟩)
