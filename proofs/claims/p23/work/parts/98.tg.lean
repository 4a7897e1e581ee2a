set_option maxRecDepth 100000 in
set_option maxHeartbeats 4000000 in
theorem sf_middle {d L : Nat} {f : Nat → Nat → Int32} {g : Nat → Nat → Int64} {w : Nat} {R : Option Value → mH → Prop} (hd : 1 ≤ d) (hw : w < 40) (H : R (some (.int (f 134 w + f 135 w))) (shF L, f, g)) : Run mtab d 17 [.ref 168, .int (nI w)] (shF L, f, g) R := by
  obtain ⟨d, rfl⟩ : ∃ e, d = e + 1 := ⟨d - 1, by omega⟩
  refine go_X1_middle rfl ?_
  conv => whnf
  have hcl : (nI w).toNatClampNeg = w := nI_clamp (by omega)
  refine ⟨vp_in_nI (by omega) (by decide), ?_⟩
  conv => whnf
  refine ⟨vp_in_nI (by omega) (by decide), ?_⟩
  conv => whnf
  simp only [hcl]
  exact H
set_option maxRecDepth 100000 in
set_option maxHeartbeats 4000000 in
theorem ssr_in {d L p q : Nat} {f0 : Nat → Nat → Int32} {g : Nat → Nat → Int64} {o : Nat → Nat} {R : Option Value → mH → Prop} (hd : 1 ≤ d) (hp : p < 40) (hq : q ≤ p) (ho : ∀ i, i < q → o i < p)
    (HO : ∀ (b' x' : Int32) (s : Option Value) (f' : Nat → Nat → Int32), b' = nI (q + 1) → x' = nI (p + 1) → XI f' → (∀ i, i < q + 1 → f' 172 i = nI (insO o (insP (fun u => f0 134 u + f0 135 u) o p q) p i)) → (∀ a i, ¬ a = 172 → f' a i = f0 a i) → WPe pg_X1_sortThoseIn none (Run mtab d) R (m_drop pg_X1_sortThoseIn 4) [some (.ref 168), some (.int b'), some (.int x'), s] [] (shF L, f', g)) :
    ∀ (t : Nat) (y : Int32) (f : Nat → Nat → Int32), t ≤ q → y = nI t → insP (fun u => f0 134 u + f0 135 u) o p q = insP (fun u => f0 134 u + f0 135 u) o p t → (∀ i, i < t → f 172 i = nI (o i)) → (∀ i, t < i → i ≤ q → f 172 i = nI (o (i - 1))) → (∀ a i, ¬ a = 172 → f a i = f0 a i) → XI f → WPe pg_X1_sortThoseIn none (Run mtab d) R (m_drop pg_X1_sortThoseIn 19) [some (.ref 168), some (.int (nI q)), some (.int (nI p)), some (.int y)] [] (shF L, f, g)
  | 0, y, f, ht, hy, INS, hA, hB, hF, hX => by
    subst hy
    have hc0 : (nI 0).toNatClampNeg = 0 := nI_clamp (by omega)
    refine at_X1_sortThoseIn ?_
    conv => whnf
    refine ⟨fun c => ?_, fun c => absurd (by decide) c⟩
    conv => whnf
    refine ⟨vp_in_nI (by omega) (by decide), ?_⟩
    conv => whnf
    simp only [hc0]
    refine HO _ _ _ _ (nI_1 q) (nI_1 p) (XI_ui hX (show inr 0 39 _ from inr_n (m := 39) (by omega) rfl (by decide))) (fun i hi => ?_) (fun a b h => (m_ui_o (fun e => h e.1)).trans (hF a b h))
    rw [show insP (fun u => f0 134 u + f0 135 u) o p q = 0 from INS]
    by_cases e : i = 0
    · subst e
      rw [m_ui_s]
      have e9 : insO o (0) p (0) = p := by
        unfold insO
        rw [if_neg (by omega), if_pos rfl]
      rw [e9]
    · rw [m_ui_o (by omega)]
      unfold insO
      by_cases e2 : i < 0
      · rw [if_pos e2]
        exact hA i e2
      · rw [if_neg e2, if_neg e]
        exact hB i (by omega) (by omega)
  | t + 1, y, f, ht, hy, INS, hA, hB, hF, hX => by
    subst hy
    have hp1 : nI (t + 1) - 1 = nI t := nI_pred t
    have hct : (nI t).toNatClampNeg = t := nI_clamp (by omega)
    have hct1 : (nI (t + 1)).toNatClampNeg = t + 1 := nI_clamp (by omega)
    have e172 : f 172 t = nI (o t) := hA t (by omega)
    have hot := ho t (by omega)
    have g134 : ∀ u, f 134 u = f0 134 u := fun u => hF 134 u (by omega)
    have g135 : ∀ u, f 135 u = f0 135 u := fun u => hF 135 u (by omega)
    refine at_X1_sortThoseIn ?_
    conv => whnf
    refine ⟨fun c => absurd c (nI_nle (by omega) (by omega)), fun c => ?_⟩
    conv => whnf
    simp only [hp1]
    refine ⟨vp_in_nI (by omega) (by decide), ?_⟩
    conv => whnf
    simp only [hct, e172]
    refine sf_middle (by omega) (by omega) ?_
    conv => whnf
    refine sf_middle (by omega) hp ?_
    conv => whnf
    simp only [g134, g135]
    refine ⟨fun c2 => ?_, fun c2 => ?_⟩
    · rw [insP_n (i32_nlt.mpr c2)] at INS
      conv => whnf
      refine ⟨vp_in_nI (by omega) (by decide), ?_⟩
      conv => whnf
      simp only [hct1]
      refine HO _ _ _ _ (nI_1 q) (nI_1 p) (XI_ui hX (show inr 0 39 _ from inr_n (m := 39) (by omega) rfl (by decide))) (fun i hi => ?_) (fun a b h => (m_ui_o (fun e => h e.1)).trans (hF a b h))
      rw [show insP (fun u => f0 134 u + f0 135 u) o p q = t + 1 from INS]
      by_cases e : i = t + 1
      · subst e
        rw [m_ui_s]
        have e9 : insO o (t + 1) p (t + 1) = p := by
          unfold insO
          rw [if_neg (by omega), if_pos rfl]
        rw [e9]
      · rw [m_ui_o (by omega)]
        unfold insO
        by_cases e2 : i < t + 1
        · rw [if_pos e2]
          exact hA i e2
        · rw [if_neg e2, if_neg e]
          exact hB i (by omega) (by omega)
    · rw [insP_y (i32_nle.mp c2)] at INS
      conv => whnf
      simp only [hp1]
      refine ⟨vp_in_nI (by omega) (by decide), ?_⟩
      conv => whnf
      refine ⟨vp_in_nI (by omega) (by decide), ?_⟩
      conv => whnf
      simp only [hct, hct1, e172]
      refine ssr_in hd hp hq ho HO t _ _ (by omega) (by rw [← Int32.sub_eq_add_neg, nI_pred]) INS (fun i hi => ?_) (fun i h1 h2 => ?_) (fun a b h => (m_ui_o (fun e => h e.1)).trans (hF a b h)) (XI_ui hX (show inr 0 39 _ from inr_n (m := 39) (by omega) rfl (by decide)))
      · rw [m_ui_o (by omega)]
        exact hA i (by omega)
      · by_cases e : i = t + 1
        · subst e
          rw [m_ui_s, show t + 1 - 1 = t by omega]
        · rw [m_ui_o (by omega)]
          exact hB i (by omega) h2
set_option maxRecDepth 100000 in
set_option maxHeartbeats 4000000 in
theorem ssr_lp {d L n : Nat} {f0 : Nat → Nat → Int32} {g : Nat → Nat → Int64} {R : Option Value → mH → Prop} (hd : 1 ≤ d) (hn : n ≤ 40) (h0 : f0 6 13 = nI n) (H : ∀ f', XI f' → (∀ j, j < (srt (fun u => f0 134 u + f0 135 u) (fun u => f0 127 u = 1) n).1 → f' 172 j = nI ((srt (fun u => f0 134 u + f0 135 u) (fun u => f0 127 u = 1) n).2 j)) → (∀ a i, ¬ a = 172 → f' a i = f0 a i) → R (some (.int (nI (srt (fun u => f0 134 u + f0 135 u) (fun u => f0 127 u = 1) n).1))) (shF L, f', g)) :
    ∀ (k i : Nat) (x b : Int32) (s : Option Value) (f : Nat → Nat → Int32), i + k = n → x = nI i → b = nI (srt (fun u => f0 134 u + f0 135 u) (fun u => f0 127 u = 1) i).1 → (∀ j, j < (srt (fun u => f0 134 u + f0 135 u) (fun u => f0 127 u = 1) i).1 → f 172 j = nI ((srt (fun u => f0 134 u + f0 135 u) (fun u => f0 127 u = 1) i).2 j)) → (∀ a i, ¬ a = 172 → f a i = f0 a i) → XI f → WPe pg_X1_sortThoseIn none (Run mtab d) R (m_drop pg_X1_sortThoseIn 4) [some (.ref 168), some (.int b), some (.int x), s] [] (shF L, f, g)
  | 0, i, x, b, s, f, hi, hx, hb, hA, hF, hX => by
    have e : i = n := by omega
    subst hx
    subst hb
    subst e
    have hc : f 6 13 = nI i := (hF 6 13 (by omega)).trans h0
    refine at_X1_sortThoseIn ?_
    conv => whnf
    simp only [hc]
    refine ⟨fun c => ?_, fun c => absurd (nI_le (Nat.le_refl _) (by omega)) c⟩
    conv => whnf
    exact H f hX hA hF
  | k + 1, i, x, b, s, f, hi, hx, hb, hA, hF, hX => by
    subst hx
    subst hb
    obtain ⟨l1, l2, l3⟩ := srtI (mid := (fun u => f0 134 u + f0 135 u)) (inn := fun u => f0 127 u = 1) i
    have hc : f 6 13 = nI n := (hF 6 13 (by omega)).trans h0
    have hcl : (nI i).toNatClampNeg = i := nI_clamp (by omega)
    have g127 : f 127 i = f0 127 i := hF 127 i (by omega)
    refine at_X1_sortThoseIn ?_
    conv => whnf
    simp only [hc]
    refine ⟨fun c => absurd c (nI_ge (b := n) (by omega) (by omega)), fun c => ?_⟩
    conv => whnf
    refine ⟨vp_in_nI (by omega) (by decide), ?_⟩
    conv => whnf
    simp only [hcl, g127]
    refine ⟨fun c1 => ?_, fun c1 => ?_⟩
    · conv => whnf
      refine ssr_in (p := i) (f0 := f0) hd (by omega) l1 l2 (fun b' x' s' f' hb' hx' hX' hA' hF' => ?_) (srt (fun u => f0 134 u + f0 135 u) (fun u => f0 127 u = 1) i).1 _ f (Nat.le_refl _) rfl rfl hA (fun j h1 h2 => absurd h1 (by omega)) hF hX
      have es := srt_y (mid := (fun u => f0 134 u + f0 135 u)) (inn := fun u => f0 127 u = 1) (w := i) c1
      refine ssr_lp hd hn h0 H k (i + 1) x' b' s' f' (by omega) hx' (by rw [es]; exact hb') (fun j hj => ?_) hF' hX'
      rw [es] at hj ⊢
      exact hA' j hj
    · conv => whnf
      have es := srt_n (mid := (fun u => f0 134 u + f0 135 u)) (inn := fun u => f0 127 u = 1) (w := i) c1
      refine ssr_lp hd hn h0 H k (i + 1) _ _ s f (by omega) (nI_1 i) (by rw [es]) (fun j hj => ?_) hF hX
      rw [es] at hj ⊢
      exact hA j hj
set_option maxRecDepth 100000 in
set_option maxHeartbeats 4000000 in
theorem sf_sortThoseIn {d L : Nat} {f : Nat → Nat → Int32} {g : Nat → Nat → Int64} {n : Nat} {R : Option Value → mH → Prop} (hd : 2 ≤ d) (hX : XI f) (hn : n ≤ 40) (h0 : f 6 13 = nI n) (H : ∀ f', XI f' → (∀ j, j < (srt (fun u => f 134 u + f 135 u) (fun u => f 127 u = 1) n).1 → f' 172 j = nI ((srt (fun u => f 134 u + f 135 u) (fun u => f 127 u = 1) n).2 j)) → (∀ a i, ¬ a = 172 → f' a i = f a i) → R (some (.int (nI (srt (fun u => f 134 u + f 135 u) (fun u => f 127 u = 1) n).1))) (shF L, f', g)) : Run mtab d 16 [.ref 168] (shF L, f, g) R := by
  obtain ⟨d, rfl⟩ : ∃ e, d = e + 1 := ⟨d - 1, by omega⟩
  refine go_X1_sortThoseIn rfl ?_
  conv => whnf
  exact ssr_lp (f0 := f) (by omega) hn h0 H n 0 _ _ _ f (by omega) rfl rfl (fun j hj => absurd hj (Nat.not_lt_zero j)) (fun _ _ _ => rfl) hX
set_option maxRecDepth 100000 in
set_option maxHeartbeats 4000000 in
theorem sf_giveL {d L : Nat} {f : Nat → Nat → Int32} {g : Nat → Nat → Int64} {w q : Nat} {R : Option Value → mH → Prop} (hd : 1 ≤ d) (hw : w < 40) (hq : q ≤ 40) (h0 : ¬ f 168 7 = 0) (H1 : ¬ f 171 q = 26 → R (some (.int 1)) (shF L, m_ui (m_ui (m_ui f 171 q (f 171 q + 1)) 169 w (nI q)) 170 w (f 171 q + 1), g)) (H0 : f 171 q = 26 → R (some (.int 0)) (shF L, f, g)) : Run mtab d 15 [.ref 168, .int (nI w), .int (nI q)] (shF L, f, g) R := by
  obtain ⟨d, rfl⟩ : ∃ e, d = e + 1 := ⟨d - 1, by omega⟩
  refine go_X1_give rfl ?_
  conv => whnf
  have hcw : (nI w).toNatClampNeg = w := nI_clamp (by omega)
  have hcq : (nI q).toNatClampNeg = q := nI_clamp (by omega)
  have hs : ∀ v x, m_ui (m_ui f 171 q v) 169 w x 171 q = v := fun v x => (m_ui_o (by omega)).trans m_ui_s
  refine ⟨fun c => ?_, fun c => absurd c h0⟩
  conv => whnf
  refine ⟨vp_in_nI (by omega) (by decide), ?_⟩
  conv => whnf
  simp only [hcq]
  refine ⟨fun c1 => ?_, fun c1 => ?_⟩
  · conv => whnf
    refine ⟨vp_in_nI (by omega) (by decide), ?_⟩
    conv => whnf
    refine ⟨vp_in_nI (by omega) (by decide), ?_⟩
    conv => whnf
    refine ⟨vp_in_nI (by omega) (by decide), ?_⟩
    conv => whnf
    refine ⟨vp_in_nI (by omega) (by decide), ?_⟩
    conv => whnf
    refine ⟨vp_in_nI (by omega) (by decide), ?_⟩
    conv => whnf
    simp only [hcw, hcq, hs]
    have G := H1 c1
    first | exact ⟨Or.inr rfl, G⟩ | exact ⟨Or.inr True.intro, G⟩ | exact G
  · conv => whnf
    have G := H0 c1
    first | exact ⟨Or.inl rfl, G⟩ | exact G
/-- the class's tables are those of the state -/
def HS (f : Nat → Nat → Int32) (s : EdS) : Prop := (∀ j, f 169 j = s.1 j) ∧ (∀ j, f 170 j = s.2.1 j) ∧ ∀ k, f 171 k = s.2.2.1 k
def s0_ (f : Nat → Nat → Int32) : EdS := (fun j => f 169 j, fun j => f 170 j, fun k => f 171 k, 0, 0)
/-- behind an edition -/
def EDF (f f' : Nat → Nat → Int32) (s : EdS) : Prop := HS f' s ∧ f' 168 7 = f 168 7 + 1 ∧ ∀ a i, ¬ (a = 168 ∧ i = 7) → ¬ a = 169 → ¬ a = 170 → ¬ a = 171 → ¬ a = 172 → f' a i = f a i
theorem HS_9 {f : Nat → Nat → Int32} {s : EdS} {w : Nat} {x a g : Int32} (h : HS f s) : HS (m_ui f 169 w x) (up1 s.1 w x, s.2.1, s.2.2.1, a, g) := by
  obtain ⟨h1, h2, h3⟩ := h
  refine ⟨fun j => ?_, fun j => (m_ui_o (by omega)).trans (h2 j), fun k => (m_ui_o (by omega)).trans (h3 k)⟩
  by_cases e : j = w
  · subst e
    rw [m_ui_s]
    exact up1_s.symm
  · rw [m_ui_o (by omega)]
    exact (h1 j).trans (up1_o e).symm
theorem HS_L {f : Nat → Nat → Int32} {s : EdS} {w q : Nat} {x y a g : Int32} (h : HS f s) : HS (m_ui (m_ui (m_ui f 171 q y) 169 w x) 170 w y) (up1 s.1 w x, up1 s.2.1 w y, up1 s.2.2.1 q y, a, g) := by
  obtain ⟨h1, h2, h3⟩ := h
  refine ⟨fun j => ?_, fun j => ?_, fun k => ?_⟩
  · show _ = up1 s.1 w x j
    by_cases e : j = w
    · subst e
      rw [m_ui_o (by omega), m_ui_s]
      exact up1_s.symm
    · rw [m_ui_o (by omega), m_ui_o (by omega), m_ui_o (by omega)]
      exact (h1 j).trans (up1_o e).symm
  · show _ = up1 s.2.1 w y j
    by_cases e : j = w
    · subst e
      rw [m_ui_s]
      exact up1_s.symm
    · rw [m_ui_o (by omega), m_ui_o (by omega), m_ui_o (by omega)]
      exact (h2 j).trans (up1_o e).symm
  · show _ = up1 s.2.2.1 q y k
    by_cases e : k = q
    · subst e
      rw [m_ui_o (by omega), m_ui_o (by omega), m_ui_s]
      exact up1_s.symm
    · rw [m_ui_o (by omega), m_ui_o (by omega), m_ui_o (by omega)]
      exact (h3 k).trans (up1_o e).symm
set_option maxRecDepth 100000 in
set_option maxHeartbeats 8000000 in
theorem spb1 {d L m : Nat} {f0 : Nat → Nat → Int32} {g : Nat → Nat → Int64} {o : Nat → Nat} {R : Option Value → mH → Prop} (hd : 1 ≤ d) (hm : m ≤ 40) (ho : ∀ i, i < m → o i < 40) (hc0 : f0 168 7 = 0) (H : ∀ f', XI f' → EDF f0 f' (edR ed1 o (s0_ f0) m) → R (some (.int (edR ed1 o (s0_ f0) m).2.2.2.2)) (shF L, f', g)) :
    ∀ (k i : Nat) (x a b : Int32) (s5 : Option Value) (f : Nat → Nat → Int32), i + k = m → x = nI i → XI f → (∀ a i, ¬ a = 169 → ¬ a = 170 → ¬ a = 171 → ¬ a = 172 → f a i = f0 a i) → (∀ j, j < m → f 172 j = nI (o j)) → HS f (edR ed1 o (s0_ f0) i) → a = (edR ed1 o (s0_ f0) i).2.2.2.2 → b = (edR ed1 o (s0_ f0) i).2.2.2.1 → (∃ q, q ≤ i ∧ b = nI q) → (∀ j, j < 40 → f 169 j = -4 ∨ ∃ q, q ≤ i ∧ f 169 j = nI q) → WPe pg_X1_publish none (Run mtab d) R (m_drop pg_X1_publish 9) [some (.ref 168), some (.int (nI m)), some (.int a), some (.int b), some (.int x), s5] [] (shF L, f, g)
  | 0, i, x, a, b, s5, f, hi, hx, hX, hF, h172, hS, ha, hb, hq, hN => by
    have e : i = m := by omega
    subst hx
    subst e
    have hcz : f 168 7 = 0 := (hF 168 7 (by omega) (by omega) (by omega) (by omega)).trans hc0
    refine at_X1_publish ?_
    conv => whnf
    refine ⟨fun c => ?_, fun c => absurd (nI_le (Nat.le_refl _) (by omega)) c⟩
    conv => whnf
    simp only [hcz]
    rw [ha]
    refine H _ (XI_ui hX (show inr 0 9 _ by unfold inr; decide)) ⟨⟨fun j => (m_ui_o (by omega)).trans (hS.1 j), fun j => (m_ui_o (by omega)).trans (hS.2.1 j), fun j => (m_ui_o (by omega)).trans (hS.2.2 j)⟩, by rw [m_ui_s, hc0], fun a b h1 h2 h3 h4 h5 => (m_ui_o h1).trans (hF a b h2 h3 h4 h5)⟩
  | k + 1, i, x, a, b, s5, f, hi, hx, hX, hF, h172, hS, ha, hb, hq, hN => by
    subst hx
    obtain ⟨q, hq, rfl⟩ := hq
    have hcz : f 168 7 = 0 := (hF 168 7 (by omega) (by omega) (by omega) (by omega)).trans hc0
    skip
    have en : edR ed1 o (s0_ f0) (i + 1) = ed1 (o i) (edR ed1 o (s0_ f0) i) := rfl
    have hoi := ho i (by omega)
    have hcl : (nI i).toNatClampNeg = i := nI_clamp (by omega)
    have hco : (nI (o i)).toNatClampNeg = o i := nI_clamp (by omega)
    have e172 := h172 i (by omega)
    refine at_X1_publish ?_
    conv => whnf
    refine ⟨fun c => absurd c (nI_ge (b := m) (by omega) (by omega)), fun c => ?_⟩
    conv => whnf
    refine ⟨vp_in_nI (by omega) (by decide), ?_⟩
    conv => whnf
    simp only [hcl, e172]
    refine ⟨vp_in_nI (by omega) (by decide), ?_⟩
    conv => whnf
    simp only [hco]
    refine ⟨fun c2 => ?_, fun c2 => ?_⟩
    · have e1 : ed1 (o i) (edR ed1 o (s0_ f0) i) = ((edR ed1 o (s0_ f0) i).1, (edR ed1 o (s0_ f0) i).2.1, (edR ed1 o (s0_ f0) i).2.2.1, (edR ed1 o (s0_ f0) i).1 (o i), (edR ed1 o (s0_ f0) i).2.2.2.2) := if_neg (fun z => c2 ((hS.1 (o i)).trans z))
      conv => whnf
      refine ⟨vp_in_nI (by omega) (by decide), ?_⟩
      conv => whnf
      simp only [hco]
      refine ⟨fun c3 => absurd c3 c2, fun c3 => ?_⟩
      conv => whnf
      refine ⟨vp_in_nI (by omega) (by decide), ?_⟩
      conv => whnf
      simp only [hco]
      obtain ⟨q2, h2, e2⟩ := (hN (o i) hoi).resolve_left c2
      refine spb1 hd hm ho hc0 H k (i + 1) _ _ _ _ f (by omega) (nI_1 i) hX hF h172 (by rw [en, e1]; exact hS) (by rw [en, e1]; exact ha) (by rw [en, e1]; exact hS.1 (o i)) ⟨q2, by omega, e2⟩ (fun j hj => (hN j hj).imp id (fun ⟨r, h1, h2⟩ => ⟨r, by omega, h2⟩))
    · conv => whnf
      refine sx_give0 (by omega) (vp_in_nI (by omega) (by decide)) hcz ?_
      conv => whnf
      (refine ⟨fun z9 => ?_, fun z9 => ?_⟩ <;> first | ((have c9 : (1 : Int32) = 0 := by with_reducible exact z9); exact absurd c9 (by decide)) | exact absurd (rfl : (0 : Int32) = 0) (by with_reducible exact z9) | exact absurd True.intro (by with_reducible exact z9) | exact False.elim (by with_reducible exact z9) | (conv => whnf))
      simp only [hco, nI_1]
      refine ⟨vp_in_nI (by omega) (by decide), ?_⟩
      conv => whnf
      simp only [hco, show m_ui f 169 (o i) (nI (q + 1)) 169 (o i) = nI (q + 1) from m_ui_s]
      refine ⟨fun c3 => absurd c3 (nI_m4 (by omega)), fun c3 => ?_⟩
      conv => whnf
      refine ⟨vp_in_nI (by omega) (by decide), ?_⟩
      conv => whnf
      simp only [hco, show m_ui f 169 (o i) (nI (q + 1)) 169 (o i) = nI (q + 1) from m_ui_s]
      have e1 : ed1 (o i) (edR ed1 o (s0_ f0) i) = (up1 (edR ed1 o (s0_ f0) i).1 (o i) ((edR ed1 o (s0_ f0) i).2.2.2.1 + 1), (edR ed1 o (s0_ f0) i).2.1, (edR ed1 o (s0_ f0) i).2.2.1, (edR ed1 o (s0_ f0) i).2.2.2.1 + 1, (edR ed1 o (s0_ f0) i).2.2.2.2 + 1) := if_pos ((hS.1 (o i)).symm.trans c2)
      have hq1 : (edR ed1 o (s0_ f0) i).2.2.2.1 + 1 = nI (q + 1) := by rw [← hb, nI_1]
      refine spb1 hd hm ho hc0 H k (i + 1) _ _ _ _ (m_ui f 169 (o i) (nI (q + 1))) (by omega) (by first | rfl | exact nI_1 i) (XI_ui hX (Or.inr (inr_n (m := 40) (by omega) rfl (by decide)))) (fun a b h1 h2 h3 h4 => (m_ui_o (fun e => h1 e.1)).trans (hF a b h1 h2 h3 h4)) (fun j hj => (m_ui_o (by omega)).trans (h172 j hj)) (by rw [en, e1, hq1]; exact HS_9 hS) (by rw [en, e1]; exact congrArg (fun z => z + 1) ha) (by rw [en, e1]; exact hq1.symm) ⟨q + 1, by omega, rfl⟩ (fun j hj => ?_)
      by_cases e : j = o i
      · subst e
        rw [m_ui_s]
        exact Or.inr ⟨q + 1, by omega, rfl⟩
      · rw [m_ui_o (by omega)]
        exact (hN j hj).imp id (fun ⟨r, h1, h2⟩ => ⟨r, by omega, h2⟩)
set_option maxRecDepth 100000 in
set_option maxHeartbeats 8000000 in
theorem spbL {d L m : Nat} {f0 : Nat → Nat → Int32} {g : Nat → Nat → Int64} {o : Nat → Nat} {R : Option Value → mH → Prop} {q0 : Nat} (hd : 1 ≤ d) (hm : m ≤ 40) (ho : ∀ i, i < m → o i < 40) (hc0 : f0 168 7 = nI q0) (hq0 : ¬ q0 = 0) (hq9 : q0 < 9) (H : ∀ f', XI f' → EDF f0 f' (edR edL o (s0_ f0) m) → R (some (.int (edR edL o (s0_ f0) m).2.2.2.2)) (shF L, f', g)) :
    ∀ (k i : Nat) (x a b : Int32) (s5 : Option Value) (f : Nat → Nat → Int32), i + k = m → x = nI i → XI f → (∀ a i, ¬ a = 169 → ¬ a = 170 → ¬ a = 171 → ¬ a = 172 → f a i = f0 a i) → (∀ j, j < m → f 172 j = nI (o j)) → HS f (edR edL o (s0_ f0) i) → a = (edR edL o (s0_ f0) i).2.2.2.2 → b = (edR edL o (s0_ f0) i).2.2.2.1 → (∃ q, q ≤ 40 ∧ b = nI q) → WPe pg_X1_publish none (Run mtab d) R (m_drop pg_X1_publish 9) [some (.ref 168), some (.int (nI m)), some (.int a), some (.int b), some (.int x), s5] [] (shF L, f, g)
  | 0, i, x, a, b, s5, f, hi, hx, hX, hF, h172, hS, ha, hb, hq => by
    have e : i = m := by omega
    subst hx
    subst e
    have hcz : f 168 7 = nI q0 := (hF 168 7 (by omega) (by omega) (by omega) (by omega)).trans hc0
    refine at_X1_publish ?_
    conv => whnf
    refine ⟨fun c => ?_, fun c => absurd (nI_le (Nat.le_refl _) (by omega)) c⟩
    conv => whnf
    simp only [hcz]
    rw [ha]
    refine H _ (XI_ui hX (show inr 0 9 _ from inr_n1 (m := 9) (by omega) rfl (by decide))) ⟨⟨fun j => (m_ui_o (by omega)).trans (hS.1 j), fun j => (m_ui_o (by omega)).trans (hS.2.1 j), fun j => (m_ui_o (by omega)).trans (hS.2.2 j)⟩, by rw [m_ui_s, hc0], fun a b h1 h2 h3 h4 h5 => (m_ui_o h1).trans (hF a b h2 h3 h4 h5)⟩
  | k + 1, i, x, a, b, s5, f, hi, hx, hX, hF, h172, hS, ha, hb, hq => by
    subst hx
    obtain ⟨q, hq, rfl⟩ := hq
    have hcz : f 168 7 = nI q0 := (hF 168 7 (by omega) (by omega) (by omega) (by omega)).trans hc0
    have hnz : ¬ f 168 7 = 0 := by rw [hcz]; exact nI_nz hq0 (by omega)
    have en : edR edL o (s0_ f0) (i + 1) = edL (o i) (edR edL o (s0_ f0) i) := rfl
    have hoi := ho i (by omega)
    have hcl : (nI i).toNatClampNeg = i := nI_clamp (by omega)
    have hco : (nI (o i)).toNatClampNeg = o i := nI_clamp (by omega)
    have e172 := h172 i (by omega)
    refine at_X1_publish ?_
    conv => whnf
    refine ⟨fun c => absurd c (nI_ge (b := m) (by omega) (by omega)), fun c => ?_⟩
    conv => whnf
    refine ⟨vp_in_nI (by omega) (by decide), ?_⟩
    conv => whnf
    simp only [hcl, e172]
    refine ⟨vp_in_nI (by omega) (by decide), ?_⟩
    conv => whnf
    simp only [hco]
    refine ⟨fun c2 => ?_, fun c2 => ?_⟩
    · have e1 : edL (o i) (edR edL o (s0_ f0) i) = ((edR edL o (s0_ f0) i).1, (edR edL o (s0_ f0) i).2.1, (edR edL o (s0_ f0) i).2.2.1, (edR edL o (s0_ f0) i).1 (o i), (edR edL o (s0_ f0) i).2.2.2.2) := if_neg (fun z => c2 ((hS.1 (o i)).trans z))
      conv => whnf
      refine ⟨vp_in_nI (by omega) (by decide), ?_⟩
      conv => whnf
      simp only [hco]
      refine ⟨fun c3 => absurd c3 c2, fun c3 => ?_⟩
      conv => whnf
      refine ⟨vp_in_nI (by omega) (by decide), ?_⟩
      conv => whnf
      simp only [hco]
      obtain ⟨q2, h2, e2⟩ := inr_nat (n := 40) rfl ((xi_169 hX (o i)).resolve_left c2)
      exact spbL hd hm ho hc0 hq0 hq9 H k (i + 1) _ _ _ _ f (by omega) (nI_1 i) hX hF h172 (by rw [en, e1]; exact hS) (by rw [en, e1]; exact ha) (by rw [en, e1]; exact hS.1 (o i)) ⟨q2, h2, e2⟩
    · conv => whnf
      refine sf_giveL (q := q) (by omega) (by omega) hq hnz (fun y => ?_) (fun y => ?_)
      · have e26 : (edR edL o (s0_ f0) i).2.2.1 (edR edL o (s0_ f0) i).2.2.2.1.toNatClampNeg = f 171 q := by rw [← hb, nI_clamp (by omega)]; exact (hS.2.2 q).symm
        have e1 : edL (o i) (edR edL o (s0_ f0) i) = (up1 (edR edL o (s0_ f0) i).1 (o i) (edR edL o (s0_ f0) i).2.2.2.1, up1 (edR edL o (s0_ f0) i).2.1 (o i) ((edR edL o (s0_ f0) i).2.2.1 (edR edL o (s0_ f0) i).2.2.2.1.toNatClampNeg + 1), up1 (edR edL o (s0_ f0) i).2.2.1 (edR edL o (s0_ f0) i).2.2.2.1.toNatClampNeg ((edR edL o (s0_ f0) i).2.2.1 (edR edL o (s0_ f0) i).2.2.2.1.toNatClampNeg + 1), (edR edL o (s0_ f0) i).2.2.2.1, (edR edL o (s0_ f0) i).2.2.2.2 + 1) := (if_pos ((hS.1 (o i)).symm.trans c2)).trans (if_neg (fun z => y (e26.symm.trans z)))
        have eN : m_ui (m_ui (m_ui f 171 q (f 171 q + 1)) 169 (o i) (nI q)) 170 (o i) (f 171 q + 1) 169 (o i) = nI q := (m_ui_o (by omega)).trans m_ui_s
        have eq9 : (edR edL o (s0_ f0) i).2.2.2.1.toNatClampNeg = q := by rw [← hb]; exact nI_clamp (by omega)
        conv => whnf
        (refine ⟨fun z9 => ?_, fun z9 => ?_⟩ <;> first | ((have c9 : (1 : Int32) = 0 := by with_reducible exact z9); exact absurd c9 (by decide)) | exact absurd (rfl : (0 : Int32) = 0) (by with_reducible exact z9) | exact absurd True.intro (by with_reducible exact z9) | exact False.elim (by with_reducible exact z9) | (conv => whnf))
        refine ⟨vp_in_nI (by omega) (by decide), ?_⟩
        conv => whnf
        simp only [hco, eN]
        refine ⟨fun c3 => absurd c3 (nI_m4 (by omega)), fun c3 => ?_⟩
        conv => whnf
        refine ⟨vp_in_nI (by omega) (by decide), ?_⟩
        conv => whnf
        simp only [hco, eN]
        exact spbL hd hm ho hc0 hq0 hq9 H k (i + 1) _ _ _ _ (m_ui (m_ui (m_ui f 171 q (f 171 q + 1)) 169 (o i) (nI q)) 170 (o i) (f 171 q + 1)) (by omega) (nI_1 i) (XI_ui (XI_ui (XI_ui hX True.intro) (Or.inr (inr_n (m := 40) (by omega) rfl (by decide)))) True.intro) (fun a b h1 h2 h3 h4 => ((m_ui_o (fun e => h2 e.1)).trans ((m_ui_o (fun e => h1 e.1)).trans (m_ui_o (fun e => h3 e.1)))).trans (hF a b h1 h2 h3 h4)) (fun j hj => ((m_ui_o (by omega)).trans ((m_ui_o (by omega)).trans (m_ui_o (by omega)))).trans (h172 j hj)) (by rw [en, e1, e26, eq9, ← hb]; exact HS_L hS) (by rw [en, e1]; exact congrArg (fun z => z + 1) ha) (by rw [en, e1]; exact hb) ⟨q, hq, rfl⟩
      · have e26 : (edR edL o (s0_ f0) i).2.2.1 (edR edL o (s0_ f0) i).2.2.2.1.toNatClampNeg = f 171 q := by rw [← hb, nI_clamp (by omega)]; exact (hS.2.2 q).symm
        have e1 : edL (o i) (edR edL o (s0_ f0) i) = (edR edL o (s0_ f0) i) := (if_pos ((hS.1 (o i)).symm.trans c2)).trans (if_pos (e26.trans y))
        conv => whnf
        (refine ⟨fun z9 => ?_, fun z9 => ?_⟩ <;> first | ((have c9 : (1 : Int32) = 0 := by with_reducible exact z9); exact absurd c9 (by decide)) | exact absurd (rfl : (0 : Int32) = 0) (by with_reducible exact z9) | exact absurd True.intro (by with_reducible exact z9) | exact False.elim (by with_reducible exact z9) | (conv => whnf))
        refine ⟨vp_in_nI (by omega) (by decide), ?_⟩
        conv => whnf
        simp only [hco]
        refine ⟨fun c3 => ?_, fun c3 => absurd c2 c3⟩
        conv => whnf
        exact spbL hd hm ho hc0 hq0 hq9 H k (i + 1) _ _ _ _ f (by omega) (nI_1 i) hX hF h172 (by rw [en, e1]; exact hS) (by rw [en, e1]; exact ha) (by rw [en, e1]; exact hb) ⟨q, hq, rfl⟩
/-- what an edition leaves: the years are reckoned, then those in are numbered in order -/
noncomputable def edC (f : Nat → Nat → Int32) (n : Nat) : EdS := @ite _ (f 168 7 = 0) (Classical.propDecidable _) (edR ed1 (srt (fun u => f 134 u + f 135 u) (fun u => f 127 u = 1) n).2 (s0_ f) (srt (fun u => f 134 u + f 135 u) (fun u => f 127 u = 1) n).1) (edR edL (srt (fun u => f 134 u + f 135 u) (fun u => f 127 u = 1) n).2 (s0_ f) (srt (fun u => f 134 u + f 135 u) (fun u => f 127 u = 1) n).1)
set_option maxRecDepth 100000 in
set_option maxHeartbeats 4000000 in
theorem sf_publish2 {d L : Nat} {f : Nat → Nat → Int32} {g : Nat → Nat → Int64} {n q : Nat} {R : Option Value → mH → Prop} (hd : 4 ≤ d) (hX : XI f) (hE : EI f) (hn : n ≤ 40) (h0 : f 6 13 = nI n) (hc : f 168 7 = nI q) (hq9 : q < 9) (H : ∀ f', XI f' → EDF f f' (edC f n) → R (some (.int (edC f n).2.2.2.2)) (shF L, f', g)) : Run mtab d 14 [.ref 168] (shF L, f, g) R := by
  obtain ⟨d, rfl⟩ : ∃ e, d = e + 1 := ⟨d - 1, by omega⟩
  refine go_X1_publish rfl ?_
  conv => whnf
  refine sf_sortThoseIn (by omega) hX hn h0 (fun f1 x1 h1 k1 => ?_)
  conv => whnf
  obtain ⟨l1, l2, l3⟩ := srtI (mid := (fun u => f 134 u + f 135 u)) (inn := fun u => f 127 u = 1) n
  have es : s0_ f1 = s0_ f := by
    unfold s0_
    rw [show (fun j => f1 169 j) = fun j => f 169 j from funext (fun j => k1 169 j (by omega)), show (fun j => f1 170 j) = fun j => f 170 j from funext (fun j => k1 170 j (by omega)), show (fun j => f1 171 j) = fun j => f 171 j from funext (fun j => k1 171 j (by omega))]
  have hc1 : f1 168 7 = nI q := (k1 168 7 (by omega)).trans hc
  have up : ∀ (s : EdS) f', EDF f1 f' s → EDF f f' s := fun s f' z => ⟨z.1, z.2.1.trans (by rw [k1 168 7 (by omega)]), fun a i p1 p2 p3 p4 p5 => (z.2.2 a i p1 p2 p3 p4 p5).trans (k1 a i p5)⟩
  by_cases hz : q = 0
  · subst hz
    have hz1 : f1 168 7 = 0 := hc1
    have ee : edC f n = (edR ed1 (srt (fun u => f 134 u + f 135 u) (fun u => f 127 u = 1) n).2 (s0_ f) (srt (fun u => f 134 u + f 135 u) (fun u => f 127 u = 1) n).1) := @if_pos _ (Classical.propDecidable _) hc _ _ _
    rw [ee] at H
    exact spb1 (f0 := f1) (by omega) (by omega) (fun i hi => Nat.lt_of_lt_of_le (l2 i hi) hn) hz1 (fun f' x' z => by rw [es] at z ⊢; exact H f' x' (up _ _ z)) (srt (fun u => f 134 u + f 135 u) (fun u => f 127 u = 1) n).1 0 _ _ _ _ f1 (by omega) rfl x1 (fun _ _ _ _ _ _ => rfl) h1 ⟨fun _ => rfl, fun _ => rfl, fun _ => rfl⟩ rfl rfl ⟨0, by omega, rfl⟩ (fun j hj => Or.inl ((k1 169 j (by omega)).trans (hE hc j hj)))
  · have ee : edC f n = (edR edL (srt (fun u => f 134 u + f 135 u) (fun u => f 127 u = 1) n).2 (s0_ f) (srt (fun u => f 134 u + f 135 u) (fun u => f 127 u = 1) n).1) := @if_neg _ (Classical.propDecidable _) (fun z => hz ((nI_eq (b := 0) (by omega) (by decide)).mp (hc.symm.trans z))) _ _ _
    rw [ee] at H
    exact spbL (f0 := f1) (by omega) (by omega) (fun i hi => Nat.lt_of_lt_of_le (l2 i hi) hn) hc1 hz hq9 (fun f' x' z => by rw [es] at z ⊢; exact H f' x' (up _ _ z)) (srt (fun u => f 134 u + f 135 u) (fun u => f 127 u = 1) n).1 0 _ _ _ _ f1 (by omega) rfl x1 (fun _ _ _ _ _ _ => rfl) h1 ⟨fun _ => rfl, fun _ => rfl, fun _ => rfl⟩ rfl rfl ⟨0, by omega, rfl⟩
def SX_edition (n c v : Nat) (f f2 : Nat → Nat → Int32) (r : Int32) : Prop := (f 168 7 = 9 ∧ r = -3 ∧ f2 = f) ∨ (∃ f1 q, q < 9 ∧ f 168 7 = nI q ∧ rkY f f1 n c v ∧ EDF f1 f2 (edC f1 n) ∧ r = (edC f1 n).2.2.2.2)
set_option maxRecDepth 100000 in
set_option maxHeartbeats 4000000 in
theorem sf_edition2 {d L : Nat} {f : Nat → Nat → Int32} {g : Nat → Nat → Int64} {n c v : Nat} {R : Option Value → mH → Prop} (hd : 8 ≤ d) (hX : XI f) (hE : EI f) (hK : YK f n c v) (H : ∀ r f2, SX_edition n c v f f2 r → XI f2 → R (some (.int r)) (shF L, f2, g)) : Run mtab d 127 [.ref 5] (shF L, f, g) R := by
  obtain ⟨d, rfl⟩ : ∃ e, d = e + 1 := ⟨d - 1, by omega⟩
  refine go_X10_edition rfl ?_
  conv => whnf
  obtain ⟨hn, hnb, hvb, hv, hCE, cy, hA0⟩ := hK
  obtain ⟨q, hq, hc⟩ := inr_nat (n := 9) rfl (xi_168 hX 7)
  simp only [hc]
  by_cases e9 : q = 9
  · subst e9
    refine ⟨fun c => absurd (by decide) c, fun c => ?_⟩
    conv => whnf
    exact H _ _ (Or.inl ⟨hc, rfl, rfl⟩) hX
  · refine ⟨fun z9 => ?_, fun z9 => absurd ((nI_eq (b := 9) (by omega) (by decide)).mp z9) e9⟩
    conv => whnf
    refine sf_reckon (n := n) (c := c) (v := v) (by omega) hX hn hnb hvb hv hCE cy hA0 (fun f1 r1 => ?_)
    conv => whnf
    have k1 := kp_rkY r1
    refine sf_publish2 (q := q) (by omega) (XI_rkY hX r1) (EI_kp hE k1 rfl) hn ((k1 6 13 rfl).trans hnb) ((k1 168 7 rfl).trans hc) (by omega) (fun f2 x2 z2 => ?_)
    conv => whnf
    exact H _ _ (Or.inr ⟨f1, q, by omega, hc, r1, z2, rfl⟩) x2
