set_option maxRecDepth 100000 in
theorem aw3f_lp {d L r w : Nat} {f1 : Nat → Nat → Int32} {g : Nat → Nat → Int64} {R : Option Value → mH → Prop} (hr : 2 ^ r ≤ 256) (H : ∀ f', XI f' → (∀ a i, ¬ a = 209 → f' a i = f1 a i) → (∀ s, s < 2 ^ r → f' 209 s = f1 210 s) → R none (shF L, f', g)) :
    ∀ (k i : Nat) (x : Int32) (s4 s5 s6 : Option Value) (f : Nat → Nat → Int32), i + k = 2 ^ r → x = nI i → XI f → (∀ a q, ¬ a = 209 → f a q = f1 a q) → (∀ s, s < i → f 209 s = f1 210 s) → WPe pg_X11_addWork none (Run mtab d) R (m_drop pg_X11_addWork 80) [some (.ref 181), some (.int (nI w)), some (.int (nI (2 ^ r))), some (.int x), s4, s5, s6] [] (shF L, f, g)
  | 0, i, x, s4, s5, s6, f, hi, hx, hX, hF, hR => by
    subst hx
    refine at_X11_addWork ?_
    conv => whnf
    refine ⟨fun _ => ?_, fun y => absurd (nI_le (by omega) (by omega)) y⟩
    conv => whnf
    exact H f hX hF (fun s hs => hR s (by omega))
  | k + 1, i, x, s4, s5, s6, f, hi, hx, hX, hF, hR => by
    subst hx
    have hcl : (nI i).toNatClampNeg = i := nI_clamp (by omega)
    refine at_X11_addWork ?_
    conv => whnf
    refine ⟨fun y => absurd y (nI_ge (by omega) (by omega)), fun _ => ?_⟩
    conv => whnf
    refine ⟨vp_in_nI (by omega) (by decide), ?_⟩
    conv => whnf
    refine ⟨vp_in_nI (by omega) (by decide), ?_⟩
    conv => whnf
    simp only [hcl]
    refine aw3f_lp hr H k (i + 1) _ _ _ _ _ (by omega) (nI_1 i) (XI_ui hX True.intro) (fun a q h => (m_ui_o (fun e => h e.1)).trans (hF a q h)) (fun s hs => ?_)
    by_cases e : s = i
    · rw [e, m_ui_s]
      exact hF 210 i (by omega)
    · rw [m_ui_o (by omega)]
      exact hR s (by omega)
set_option maxRecDepth 100000 in
set_option maxHeartbeats 8000000 in
theorem aw2If_lp {d L r w q : Nat} {T : Nat → Nat → Int} {f0 : Nat → Nat → Int32} {g : Nat → Nat → Int64} {R : Option Value → mH → Prop} (hr : r ≤ 8) (hw : w < 40) (hrb : f0 181 34 = nI r) (hT : ∀ i, i < r → (f0 208 (40 * i + w)).toInt = T i w) (hT0 : ∀ i, 0 ≤ T i w ∧ T i w ≤ 136) (hO : ∀ s, s < 2 ^ r → -1 ≤ (f0 209 s).toInt ∧ (f0 209 s).toInt ≤ 100000) (hq : q < 2 ^ r)
    (HO : ∀ (x' : Int32) (s4 s5 s6 : Option Value) (f : Nat → Nat → Int32), x' = nI (q + 1) → XI f → (∀ a i, ¬ a = 210 → f a i = f0 a i) → LIc r T w (fun s => (f0 209 s).toInt) (fun s => (f 210 s).toInt) (q + 1) 0 → WPe pg_X11_addWork none (Run mtab d) R (m_drop pg_X11_addWork 17) [some (.ref 181), some (.int (nI w)), some (.int (nI (2 ^ r))), some (.int x'), s4, s5, s6] [] (shF L, f, g)) :
    ∀ (k i : Nat) (x : Int32) (s5 s6 : Option Value) (f : Nat → Nat → Int32), i + k = r → x = nI i → XI f → (∀ a j, ¬ a = 210 → f a j = f0 a j) → LIc r T w (fun s => (f0 209 s).toInt) (fun s => (f 210 s).toInt) q i → WPe pg_X11_addWork none (Run mtab d) R (m_drop pg_X11_addWork 22) [some (.ref 181), some (.int (nI w)), some (.int (nI (2 ^ r))), some (.int (nI q)), some (.int x), s5, s6] [] (shF L, f, g)
  | 0, i, x, s5, s6, f, hi, hx, hX, hF, hL => by
    have e : i = r := by omega
    subst hx
    have hrb2 : f 181 34 = nI r := (hF 181 34 (by omega)).trans hrb
    refine at_X11_addWork ?_
    conv => whnf
    simp only [hrb2]
    refine ⟨fun _ => ?_, fun y => absurd (nI_le (by omega) (by omega)) y⟩
    conv => whnf
    exact HO _ _ _ _ f (nI_1 q) hX hF (LI_next hL (Or.inl e))
  | k + 1, i, x, s5, s6, f, hi, hx, hX, hF, hL => by
    subst hx
    have h256 := p2_256 hr
    have hq8 : q < 256 := by omega
    have hcq : (nI q).toNatClampNeg = q := nI_clamp (by omega)
    have hrb2 : f 181 34 = nI r := (hF 181 34 (by omega)).trans hrb
    have e209 : f 209 q = f0 209 q := hF 209 q (by omega)
    have e208 : f 208 (40 * i + w) = f0 208 (40 * i + w) := hF 208 _ (by omega)
    have hci : (nI (40 * i + w)).toNatClampNeg = 40 * i + w := nI_clamp (by omega)
    obtain ⟨b1, b2⟩ := bt1 q hq8 i (by omega)
    have b5 := bt5 q hq8 i (by omega)
    have hct : (nI (q ||| 2 ^ i)).toNatClampNeg = q ||| 2 ^ i := nI_clamp (by omega)
    have tr := (bt4 r (by omega) q hq i (by omega)).1
    have tv := hT i (by omega)
    have t0 := hT0 i
    have o0 := hO q hq
    refine at_X11_addWork ?_
    conv => whnf
    simp only [hrb2]
    refine ⟨fun y => absurd y (nI_ge (by omega) (by omega)), fun _ => ?_⟩
    conv => whnf
    refine ⟨vp_in_nI (by omega) (by decide), ?_⟩
    conv => whnf
    simp only [hcq, e209]
    by_cases c1 : f0 209 q < 0
    · refine ⟨fun _ => ?_, fun y => absurd c1 y⟩
      conv => whnf
      exact HO _ _ _ _ f (nI_1 q) hX hF (LI_next hL (Or.inr (Int32.lt_iff_toInt_lt.mp c1)))
    · have c1' : 0 ≤ (f0 209 q).toInt := by
        have c9 : ¬ (f0 209 q).toInt < (0 : Int32).toInt := fun z => c1 (Int32.lt_iff_toInt_lt.mpr z)
        have e0 : (0 : Int32).toInt = 0 := rfl
        omega
      refine ⟨fun y => absurd y c1, fun _ => ?_⟩
      conv => whnf
      refine ⟨vp_in_nI (by omega) (by decide), ?_⟩
      conv => whnf
      simp only [nI_40m, nI_add]
      refine ⟨vp_in_nI (by omega) (by decide), ?_⟩
      conv => whnf
      simp only [hcq, e209, hci, e208, b1]
      have es : (f0 209 q + f0 208 (40 * i + w)).toInt = (f0 209 q).toInt + T i w := by rw [i_add (by omega) (by omega), tv]
      by_cases c2 : q.testBit i = true
      · refine ⟨fun _ => ?_, fun y => absurd (by rw [b5.mpr c2]) y⟩
        conv => whnf
        exact aw2If_lp hr hw hrb hT hT0 hO hq HO k (i + 1) _ _ _ f (by omega) (nI_1 i) hX hF (LI_skip hL (fun t hv => by have := hv.2.2.1; rw [c2] at this; exact absurd this (by decide)))
      · have c2' : q.testBit i = false := by
          cases z9 : q.testBit i
          · rfl
          · exact absurd z9 c2
        refine ⟨fun y => absurd (b5.mp ((nI_eq (by omega) (by omega)).mp y)) c2, fun _ => ?_⟩
        conv => whnf
        simp only [nI_40m, nI_add]
        refine ⟨vp_in_nI (by omega) (by decide), ?_⟩
        conv => whnf
        simp only [hci, e208]
        by_cases c3 : 0 < T i w
        · refine ⟨fun y => absurd (Int32.le_iff_toInt_le.mp y) (by rw [tv]; have e0 : (0 : Int32).toInt = 0 := rfl; omega), fun _ => ?_⟩
          have hv : VA r T w (fun s => (f0 209 s).toInt) q i (q ||| 2 ^ i) := ⟨hq, by omega, c2', c1', c3, rfl⟩
          conv => whnf
          refine ⟨vp_in_nI (by omega) (by decide), ?_⟩
          conv => whnf
          simp only [hct]
          by_cases c4 : (f0 209 q).toInt + T i w ≤ (f 210 (q ||| 2 ^ i)).toInt
          · refine ⟨fun _ => ?_, fun y => absurd (Int32.le_iff_toInt_le.mpr (by rw [es]; exact c4)) y⟩
            conv => whnf
            exact aw2If_lp hr hw hrb hT hT0 hO hq HO k (i + 1) _ _ _ f (by omega) (nI_1 i) hX hF (LI_low hL c4)
          · refine ⟨fun y => absurd (Int32.le_iff_toInt_le.mp y) (by rw [es]; exact c4), fun _ => ?_⟩
            conv => whnf
            refine ⟨vp_in_nI (by omega) (by decide), ?_⟩
            conv => whnf
            simp only [hct]
            exact aw2If_lp hr hw hrb hT hT0 hO hq HO k (i + 1) _ _ _ _ (by omega) (nI_1 i) (XI_ui hX True.intro) (fun a j h => (m_ui_o (fun e => h e.1)).trans (hF a j h)) (LI_up hL hv (by show (f 210 (q ||| 2 ^ i)).toInt < (f0 209 q).toInt + T i w; omega) (by show (m_ui f 210 (q ||| 2 ^ i) _ 210 (q ||| 2 ^ i)).toInt = (f0 209 q).toInt + T i w; rw [m_ui_s]; exact es) (fun t ht => by show (m_ui f 210 (q ||| 2 ^ i) _ 210 t).toInt = _; rw [m_ui_o (fun e => ht e.2)]))
        · refine ⟨fun _ => ?_, fun y => absurd (Int32.le_iff_toInt_le.mpr (by rw [tv]; have e0 : (0 : Int32).toInt = 0 := rfl; omega)) y⟩
          conv => whnf
          exact aw2If_lp hr hw hrb hT hT0 hO hq HO k (i + 1) _ _ _ f (by omega) (nI_1 i) hX hF (LI_skip hL (fun t hv => c3 hv.2.2.2.2.1))
set_option maxRecDepth 100000 in
theorem aw2f_lp {d L r w : Nat} {T : Nat → Nat → Int} {f0 : Nat → Nat → Int32} {g : Nat → Nat → Int64} {R : Option Value → mH → Prop} (hr : r ≤ 8) (hw : w < 40) (hrb : f0 181 34 = nI r) (hT : ∀ i, i < r → (f0 208 (40 * i + w)).toInt = T i w) (hT0 : ∀ i, 0 ≤ T i w ∧ T i w ≤ 136) (hO : ∀ s, s < 2 ^ r → -1 ≤ (f0 209 s).toInt ∧ (f0 209 s).toInt ≤ 100000)
    (H : ∀ f, XI f → (∀ a i, ¬ a = 209 → ¬ a = 210 → f a i = f0 a i) → LIc r T w (fun s => (f0 209 s).toInt) (fun s => (f 209 s).toInt) (2 ^ r) 0 → R none (shF L, f, g)) :
    ∀ (k q : Nat) (x : Int32) (s4 s5 s6 : Option Value) (f : Nat → Nat → Int32), q + k = 2 ^ r → x = nI q → XI f → (∀ a j, ¬ a = 210 → f a j = f0 a j) → LIc r T w (fun s => (f0 209 s).toInt) (fun s => (f 210 s).toInt) q 0 → WPe pg_X11_addWork none (Run mtab d) R (m_drop pg_X11_addWork 17) [some (.ref 181), some (.int (nI w)), some (.int (nI (2 ^ r))), some (.int x), s4, s5, s6] [] (shF L, f, g)
  | 0, q, x, s4, s5, s6, f, hi, hx, hX, hF, hL => by
    have h256 := p2_256 hr
    have e : q = 2 ^ r := by omega
    subst hx
    refine at_X11_addWork ?_
    conv => whnf
    refine ⟨fun _ => ?_, fun y => absurd (nI_le (by omega) (by omega)) y⟩
    conv => whnf
    exact aw3f_lp h256 (fun f' x' k' h' => H f' x' (fun a i h1 h2 => (k' a i h1).trans (hF a i h2)) (by
      rw [e] at hL
      intro t ht
      obtain ⟨a1, a2, a3⟩ := hL t ht
      show _ ≤ (f' 209 t).toInt ∧ (∀ s j, VA r T w (fun s => (f0 209 s).toInt) s j t → _ → _ ≤ (f' 209 t).toInt) ∧ ((f' 209 t).toInt = _ ∨ ∃ s j, VA r T w (fun s => (f0 209 s).toInt) s j t ∧ (f' 209 t).toInt = _)
      rw [h' t ht]
      exact ⟨a1, a2, a3⟩)) (2 ^ r) 0 _ _ _ _ f (by omega) rfl hX (fun _ _ _ => rfl) (fun s hs => absurd hs (by omega))
  | k + 1, q, x, s4, s5, s6, f, hi, hx, hX, hF, hL => by
    have h256 := p2_256 hr
    subst hx
    refine at_X11_addWork ?_
    conv => whnf
    refine ⟨fun y => absurd y (nI_ge (by omega) (by omega)), fun _ => ?_⟩
    conv => whnf
    exact aw2If_lp hr hw hrb hT hT0 hO (by omega) (fun x' s4 s5 s6 f' hx' hX' hF' hL' => aw2f_lp hr hw hrb hT hT0 hO H k (q + 1) x' s4 s5 s6 f' (by omega) hx' hX' hF' hL') r 0 _ _ _ f (by omega) rfl hX hF hL
set_option maxRecDepth 100000 in
theorem aw1f_lp {d L r w : Nat} {T : Nat → Nat → Int} {f0 : Nat → Nat → Int32} {g : Nat → Nat → Int64} {R : Option Value → mH → Prop} (hr : r ≤ 8) (hw : w < 40) (hrb : f0 181 34 = nI r) (hT : ∀ i, i < r → (f0 208 (40 * i + w)).toInt = T i w) (hT0 : ∀ i, 0 ≤ T i w ∧ T i w ≤ 136) (hO : ∀ s, s < 2 ^ r → -1 ≤ (f0 209 s).toInt ∧ (f0 209 s).toInt ≤ 100000)
    (H : ∀ f, XI f → (∀ a i, ¬ a = 209 → ¬ a = 210 → f a i = f0 a i) → LIc r T w (fun s => (f0 209 s).toInt) (fun s => (f 209 s).toInt) (2 ^ r) 0 → R none (shF L, f, g)) :
    ∀ (k q : Nat) (x : Int32) (s4 s5 s6 : Option Value) (f : Nat → Nat → Int32), q + k = 2 ^ r → x = nI q → XI f → (∀ a j, ¬ a = 210 → f a j = f0 a j) → (∀ s, s < q → f 210 s = f0 209 s) → WPe pg_X11_addWork none (Run mtab d) R (m_drop pg_X11_addWork 2) [some (.ref 181), some (.int (nI w)), some (.int (nI (2 ^ r))), some (.int x), s4, s5, s6] [] (shF L, f, g)
  | 0, q, x, s4, s5, s6, f, hi, hx, hX, hF, hR => by
    have h256 := p2_256 hr
    subst hx
    refine at_X11_addWork ?_
    conv => whnf
    refine ⟨fun _ => ?_, fun y => absurd (nI_le (by omega) (by omega)) y⟩
    conv => whnf
    exact aw2f_lp hr hw hrb hT hT0 hO H (2 ^ r) 0 _ _ _ _ f (by omega) rfl hX hF (LI_0 (fun t ht => by show (f 210 t).toInt = (f0 209 t).toInt; rw [hR t (by omega)]))
  | k + 1, q, x, s4, s5, s6, f, hi, hx, hX, hF, hR => by
    have h256 := p2_256 hr
    subst hx
    have hcl : (nI q).toNatClampNeg = q := nI_clamp (by omega)
    refine at_X11_addWork ?_
    conv => whnf
    refine ⟨fun y => absurd y (nI_ge (by omega) (by omega)), fun _ => ?_⟩
    conv => whnf
    refine ⟨vp_in_nI (by omega) (by decide), ?_⟩
    conv => whnf
    refine ⟨vp_in_nI (by omega) (by decide), ?_⟩
    conv => whnf
    simp only [hcl]
    refine aw1f_lp hr hw hrb hT hT0 hO H k (q + 1) _ _ _ _ _ (by omega) (nI_1 q) (XI_ui hX True.intro) (fun a j h => (m_ui_o (fun e => h e.1)).trans (hF a j h)) (fun s hs => ?_)
    by_cases e : s = q
    · rw [e, m_ui_s]
      exact hF 209 q (by omega)
    · rw [m_ui_o (by omega)]
      exact hR s (by omega)
set_option maxRecDepth 100000 in
set_option maxHeartbeats 4000000 in
theorem smf_addWork {d L : Nat} {f : Nat → Nat → Int32} {g : Nat → Nat → Int64} {r w : Nat} {T : Nat → Nat → Int} {R : Option Value → mH → Prop} (hd : 2 ≤ d) (hX : XI f) (hr : r ≤ 8) (hw : w < 40) (hrb : f 181 34 = nI r) (hT : ∀ i, i < r → (f 208 (40 * i + w)).toInt = T i w) (hT0 : ∀ i, 0 ≤ T i w ∧ T i w ≤ 136) (hO : ∀ s, s < 2 ^ r → -1 ≤ (f 209 s).toInt ∧ (f 209 s).toInt ≤ 100000) (H : ∀ f', XI f' → (∀ a i, ¬ a = 209 → ¬ a = 210 → f' a i = f a i) → (∀ t, t < 2 ^ r → (f 209 t).toInt ≤ (f' 209 t).toInt ∧ (∀ s i, VA r T w (fun s => (f 209 s).toInt) s i t → (f 209 s).toInt + T i w ≤ (f' 209 t).toInt) ∧ ((f' 209 t).toInt = (f 209 t).toInt ∨ ∃ s i, VA r T w (fun s => (f 209 s).toInt) s i t ∧ (f' 209 t).toInt = (f 209 s).toInt + T i w)) → R none (shF L, f', g)) : Run mtab d 201 [.ref 181, .int (nI w), .int (nI (2 ^ r))] (shF L, f, g) R := by
  obtain ⟨d, rfl⟩ : ∃ e, d = e + 1 := ⟨d - 1, by omega⟩
  refine go_X11_addWork rfl ?_
  conv => whnf
  exact aw1f_lp hr hw hrb hT hT0 hO (fun f' x' k' l' => H f' x' k' (LI_end l')) (2 ^ r) 0 _ _ _ _ f (by omega) rfl hX (fun _ _ _ => rfl) (fun s hs => absurd hs (by omega))
theorem BV_b {r n w s : Nat} {T : Nat → Nat → Int} {x : Int} (hr : r ≤ 8) (hT0 : ∀ i w, 0 ≤ T i w ∧ T i w ≤ 136) (h : BV r n T w s x) : -1 ≤ x ∧ x ≤ 100000 := by
  rcases h with ⟨e, _⟩ | ⟨h0, ⟨b, _, e⟩, _⟩
  · omega
  · have := vl_b (b := b) hT0 r
    omega
set_option maxRecDepth 100000 in
theorem gr3f_lp {d L r n : Nat} {T : Nat → Nat → Int} {f0 : Nat → Nat → Int32} {g : Nat → Nat → Int64} {R : Option Value → mH → Prop} (hr : r ≤ 8) (hn : n ≤ 40) (hrb : f0 181 34 = nI r) (hnb : f0 181 0 = nI n) (hT : ∀ i, i < r → ∀ w, w < n → (f0 208 (40 * i + w)).toInt = T i w) (hT0 : ∀ i w, 0 ≤ T i w ∧ T i w ≤ 136) (hZ : Z0 n T) (H : ∀ (v : Int32) f', XI f' → (∀ a i, ¬ a = 209 → ¬ a = 210 → f' a i = f0 a i) → Mst r n T v.toInt → 0 ≤ v.toInt → R (some (.int v)) (shF L, f', g)) {f : Nat → Nat → Int32} (hX : XI f) (hF : (∀ a j, ¬ a = 209 → ¬ a = 210 → f a j = f0 a j)) (hB : (∀ s, s < 2 ^ r → BV r n T n s (f 209 s).toInt)) :
    ∀ (k i : Nat) (x best : Int32) (s4 : Option Value), i + k = 2 ^ r → x = nI i → 0 ≤ best.toInt → (∀ s, s < i → (f 209 s).toInt ≤ best.toInt) → (best.toInt = 0 ∨ ∃ s, s < 2 ^ r ∧ best.toInt = (f 209 s).toInt) → WPe pg_X11_greatest none (Run mtab d) R (m_drop pg_X11_greatest 64) [some (.ref 181), some (.int (nI (2 ^ r))), some (.int best), some (.int x), s4] [] (shF L, f, g)
  | 0, i, x, best, s4, hi, hx, h0, h1, h2 => by
    have h256 := p2_256 hr
    subst hx
    refine at_X11_greatest ?_
    conv => whnf
    refine ⟨fun _ => ?_, fun y => absurd (nI_le (by omega) (by omega)) y⟩
    conv => whnf
    exact H best f hX hF (dp_end hr (fun i w => (hT0 i w).1) hZ hB (fun s hs => h1 s (by omega)) h2 h0) h0
  | k + 1, i, x, best, s4, hi, hx, h0, h1, h2 => by
    have h256 := p2_256 hr
    subst hx
    have hcl : (nI i).toNatClampNeg = i := nI_clamp (by omega)
    refine at_X11_greatest ?_
    conv => whnf
    refine ⟨fun y => absurd y (nI_ge (by omega) (by omega)), fun _ => ?_⟩
    conv => whnf
    refine ⟨vp_in_nI (by omega) (by decide), ?_⟩
    conv => whnf
    simp only [hcl]
    by_cases c1 : f 209 i ≤ best
    · refine ⟨fun _ => ?_, fun y => absurd c1 y⟩
      conv => whnf
      exact gr3f_lp hr hn hrb hnb hT hT0 hZ H hX hF hB k (i + 1) _ _ _ (by omega) (nI_1 i) h0 (fun s hs => by
        by_cases e : s = i
        · rw [e]
          exact Int32.le_iff_toInt_le.mp c1
        · exact h1 s (by omega)) h2
    · refine ⟨fun y => absurd y c1, fun _ => ?_⟩
      have c1' : ¬ (f 209 i).toInt ≤ best.toInt := fun z => c1 (Int32.le_iff_toInt_le.mpr z)
      conv => whnf
      refine ⟨vp_in_nI (by omega) (by decide), ?_⟩
      conv => whnf
      simp only [hcl]
      exact gr3f_lp hr hn hrb hnb hT hT0 hZ H hX hF hB k (i + 1) _ _ _ (by omega) (nI_1 i) (by omega) (fun s hs => by
        by_cases e : s = i
        · rw [e]
          exact Int.le_refl _
        · have := h1 s (by omega)
          omega) (Or.inr ⟨i, by omega, rfl⟩)
set_option maxRecDepth 100000 in
set_option maxHeartbeats 4000000 in
theorem gr2If_lp {d L r n w : Nat} {T : Nat → Nat → Int} {f0 : Nat → Nat → Int32} {g : Nat → Nat → Int64} {R : Option Value → mH → Prop} (hr : r ≤ 8) (hn : n ≤ 40) (hrb : f0 181 34 = nI r) (hnb : f0 181 0 = nI n) (hT : ∀ i, i < r → ∀ w, w < n → (f0 208 (40 * i + w)).toInt = T i w) (hT0 : ∀ i w, 0 ≤ T i w ∧ T i w ≤ 136) (hZ : Z0 n T) (hd : 2 ≤ d) (hw : w < n) {f : Nat → Nat → Int32} (hX : XI f) (hF : (∀ a j, ¬ a = 209 → ¬ a = 210 → f a j = f0 a j)) (hB : (∀ s, s < 2 ^ r → BV r n T w s (f 209 s).toInt))
    (HO : ∀ (x' : Int32) (s3 s4 : Option Value) (f : Nat → Nat → Int32), x' = nI (w + 1) → XI f → (∀ a j, ¬ a = 209 → ¬ a = 210 → f a j = f0 a j) → (∀ s, s < 2 ^ r → BV r n T (w + 1) s (f 209 s).toInt) → WPe pg_X11_greatest none (Run mtab d) R (m_drop pg_X11_greatest 23) [some (.ref 181), some (.int (nI (2 ^ r))), some (.int x'), s3, s4] [] (shF L, f, g)) :
    ∀ (k i : Nat) (x a : Int32), i + k = r → x = nI i → ((a = 0 ∧ ∀ j, j < i → ¬ 0 < T j w) ∨ a = 1) → WPe pg_X11_greatest none (Run mtab d) R (m_drop pg_X11_greatest 31) [some (.ref 181), some (.int (nI (2 ^ r))), some (.int (nI w)), some (.int a), some (.int x)] [] (shF L, f, g)
  | 0, i, x, a, hi, hx, ha => by
    have h256 := p2_256 hr
    have e : i = r := by omega
    subst hx
    subst e
    have hrb2 : f 181 34 = nI i := (hF 181 34 (by omega) (by omega)).trans hrb
    refine at_X11_greatest ?_
    conv => whnf
    simp only [hrb2]
    refine ⟨fun _ => ?_, fun y => absurd (nI_le (Nat.le_refl _) (by omega)) y⟩
    conv => whnf
    rcases ha with ⟨rfl, ha⟩ | rfl
    · (first | refine ⟨fun _ => ?_, fun z9 => absurd rfl z9⟩ | refine ⟨fun _ => ?_, fun z9 => absurd True.intro z9⟩)
      conv => whnf
      exact HO _ _ _ f (nI_1 w) hX hF (dp_step hr (fun i w => (hT0 i w).1) hZ hw hB (fun t ht => ⟨Int.le_refl _, fun s j hv => absurd hv.2.2.2.2.1 (ha j hv.2.1), Or.inl rfl⟩))
    · (first | refine ⟨fun z9 => absurd z9 (by decide), fun _ => ?_⟩ | refine ⟨fun z9 => False.elim z9, fun _ => ?_⟩)
      conv => whnf
      refine smf_addWork (r := i) (w := w) (T := T) (by omega) hX hr (by omega) hrb2 (fun j hj => by rw [hF 208 _ (by omega) (by omega)]; exact hT j hj w hw) (fun j => hT0 j w) (fun s hs => BV_b hr hT0 (hB s hs)) (fun f' x' k' h' => ?_)
      conv => whnf
      exact HO _ _ _ f' (nI_1 w) x' (fun a j h1 h2 => (k' a j h1 h2).trans (hF a j h1 h2)) (dp_step hr (fun i w => (hT0 i w).1) hZ hw hB h')
  | k + 1, i, x, a, hi, hx, ha => by
    have h256 := p2_256 hr
    subst hx
    have hrb2 : f 181 34 = nI r := (hF 181 34 (by omega) (by omega)).trans hrb
    have hci : (nI (40 * i + w)).toNatClampNeg = 40 * i + w := nI_clamp (by omega)
    have tv : (f 208 (40 * i + w)).toInt = T i w := by rw [hF 208 _ (by omega) (by omega)]; exact hT i (by omega) w hw
    refine at_X11_greatest ?_
    conv => whnf
    simp only [hrb2]
    refine ⟨fun y => absurd y (nI_ge (by omega) (by omega)), fun _ => ?_⟩
    conv => whnf
    rcases ha with ⟨rfl, ha⟩ | rfl
    · (first | refine ⟨fun z9 => absurd rfl z9, fun _ => ?_⟩ | refine ⟨fun z9 => absurd True.intro z9, fun _ => ?_⟩ | refine ⟨fun z9 => False.elim z9, fun _ => ?_⟩)
      conv => whnf
      simp only [nI_40m, nI_add]
      refine ⟨vp_in_nI (by omega) (by decide), ?_⟩
      conv => whnf
      simp only [hci]
      by_cases c1 : 0 < T i w
      · refine ⟨fun y => absurd (Int32.le_iff_toInt_le.mp y) (by rw [tv]; have e0 : (0 : Int32).toInt = 0 := rfl; omega), fun _ => ?_⟩
        conv => whnf
        exact gr2If_lp hr hn hrb hnb hT hT0 hZ hd hw hX hF hB HO k (i + 1) _ _ (by omega) (nI_1 i) (Or.inr rfl)
      · refine ⟨fun _ => ?_, fun y => absurd (Int32.le_iff_toInt_le.mpr (by rw [tv]; have e0 : (0 : Int32).toInt = 0 := rfl; omega)) y⟩
        conv => whnf
        exact gr2If_lp hr hn hrb hnb hT hT0 hZ hd hw hX hF hB HO k (i + 1) _ _ (by omega) (nI_1 i) (Or.inl ⟨rfl, fun j hj => by
          by_cases e : j = i
          · rw [e]
            exact c1
          · exact ha j (by omega)⟩)
    · (first | refine ⟨fun _ => ?_, fun z9 => absurd z9 (by decide)⟩ | refine ⟨fun _ => ?_, fun z9 => False.elim z9⟩)
      conv => whnf
      exact gr2If_lp hr hn hrb hnb hT hT0 hZ hd hw hX hF hB HO k (i + 1) _ _ (by omega) (nI_1 i) (Or.inr rfl)
set_option maxRecDepth 100000 in
theorem gr2f_lp {d L r n : Nat} {T : Nat → Nat → Int} {f0 : Nat → Nat → Int32} {g : Nat → Nat → Int64} {R : Option Value → mH → Prop} (hr : r ≤ 8) (hn : n ≤ 40) (hrb : f0 181 34 = nI r) (hnb : f0 181 0 = nI n) (hT : ∀ i, i < r → ∀ w, w < n → (f0 208 (40 * i + w)).toInt = T i w) (hT0 : ∀ i w, 0 ≤ T i w ∧ T i w ≤ 136) (hZ : Z0 n T) (hd : 2 ≤ d) (H : ∀ (v : Int32) f', XI f' → (∀ a i, ¬ a = 209 → ¬ a = 210 → f' a i = f0 a i) → Mst r n T v.toInt → 0 ≤ v.toInt → R (some (.int v)) (shF L, f', g)) :
    ∀ (k w : Nat) (x : Int32) (s3 s4 : Option Value) (f : Nat → Nat → Int32), w + k = n → x = nI w → XI f → (∀ a j, ¬ a = 209 → ¬ a = 210 → f a j = f0 a j) → (∀ s, s < 2 ^ r → BV r n T w s (f 209 s).toInt) → WPe pg_X11_greatest none (Run mtab d) R (m_drop pg_X11_greatest 23) [some (.ref 181), some (.int (nI (2 ^ r))), some (.int x), s3, s4] [] (shF L, f, g)
  | 0, w, x, s3, s4, f, hi, hx, hX, hF, hB => by
    have h256 := p2_256 hr
    have e : w = n := by omega
    subst hx
    subst e
    have hnb2 : f 181 0 = nI w := (hF 181 0 (by omega) (by omega)).trans hnb
    refine at_X11_greatest ?_
    conv => whnf
    simp only [hnb2]
    refine ⟨fun _ => ?_, fun y => absurd (nI_le (Nat.le_refl _) (by omega)) y⟩
    conv => whnf
    exact gr3f_lp hr hn hrb hnb hT hT0 hZ H hX hF hB (2 ^ r) 0 _ _ _ (by omega) rfl (by decide) (fun s hs => absurd hs (by omega)) (Or.inl rfl)
  | k + 1, w, x, s3, s4, f, hi, hx, hX, hF, hB => by
    have h256 := p2_256 hr
    subst hx
    have hnb2 : f 181 0 = nI n := (hF 181 0 (by omega) (by omega)).trans hnb
    refine at_X11_greatest ?_
    conv => whnf
    simp only [hnb2]
    refine ⟨fun y => absurd y (nI_ge (by omega) (by omega)), fun _ => ?_⟩
    conv => whnf
    exact gr2If_lp hr hn hrb hnb hT hT0 hZ hd (by omega) hX hF hB (fun x' s3 s4 f' hx' hX' hF' hB' => gr2f_lp hr hn hrb hnb hT hT0 hZ hd H k (w + 1) x' s3 s4 f' (by omega) hx' hX' hF' hB') r 0 _ _ (by omega) rfl (Or.inl ⟨rfl, fun j hj => absurd hj (by omega)⟩)
set_option maxRecDepth 100000 in
theorem gr1f_lp {d L r n : Nat} {T : Nat → Nat → Int} {f0 : Nat → Nat → Int32} {g : Nat → Nat → Int64} {R : Option Value → mH → Prop} (hr : r ≤ 8) (hn : n ≤ 40) (hrb : f0 181 34 = nI r) (hnb : f0 181 0 = nI n) (hT : ∀ i, i < r → ∀ w, w < n → (f0 208 (40 * i + w)).toInt = T i w) (hT0 : ∀ i w, 0 ≤ T i w ∧ T i w ≤ 136) (hZ : Z0 n T) (hd : 2 ≤ d) (H : ∀ (v : Int32) f', XI f' → (∀ a i, ¬ a = 209 → ¬ a = 210 → f' a i = f0 a i) → Mst r n T v.toInt → 0 ≤ v.toInt → R (some (.int v)) (shF L, f', g)) :
    ∀ (k i : Nat) (x : Int32) (s3 s4 : Option Value) (f : Nat → Nat → Int32), i + k = 2 ^ r → x = nI i → XI f → (∀ a j, ¬ a = 209 → ¬ a = 210 → f a j = f0 a j) → (∀ s, s < i → f 209 s = if s = 0 then 0 else -1) → WPe pg_X11_greatest none (Run mtab d) R (m_drop pg_X11_greatest 7) [some (.ref 181), some (.int (nI (2 ^ r))), some (.int x), s3, s4] [] (shF L, f, g)
  | 0, i, x, s3, s4, f, hi, hx, hX, hF, hR => by
    have h256 := p2_256 hr
    subst hx
    refine at_X11_greatest ?_
    conv => whnf
    refine ⟨fun _ => ?_, fun y => absurd (nI_le (by omega) (by omega)) y⟩
    conv => whnf
    refine gr2f_lp hr hn hrb hnb hT hT0 hZ hd H n 0 _ _ _ f (by omega) rfl hX hF (fun s hs => ?_)
    have z := dp_0 (T := T) hr hZ s hs
    rw [hR s (by omega)]
    by_cases e : s = 0
    · rw [if_pos e] at z ⊢
      exact z
    · rw [if_neg e] at z ⊢
      exact z
  | k + 1, i, x, s3, s4, f, hi, hx, hX, hF, hR => by
    have h256 := p2_256 hr
    subst hx
    have hcl : (nI i).toNatClampNeg = i := nI_clamp (by omega)
    refine at_X11_greatest ?_
    conv => whnf
    refine ⟨fun y => absurd y (nI_ge (by omega) (by omega)), fun _ => ?_⟩
    conv => whnf
    by_cases c1 : i = 0
    · refine ⟨fun y => absurd (show nI i = 0 by rw [c1]; rfl) y, fun _ => ?_⟩
      conv => whnf
      refine ⟨vp_in_nI (by omega) (by decide), ?_⟩
      conv => whnf
      simp only [hcl]
      refine gr1f_lp hr hn hrb hnb hT hT0 hZ hd H k (i + 1) _ _ _ _ (by omega) (nI_1 i) (XI_ui hX True.intro) (fun a j h1 h2 => (m_ui_o (fun e => h1 e.1)).trans (hF a j h1 h2)) (fun s hs => ?_)
      by_cases e : s = i
      · rw [e, m_ui_s, if_pos c1]
      · rw [m_ui_o (by omega)]
        exact hR s (by omega)
    · refine ⟨fun _ => ?_, fun y => absurd ((nI_eq (b := 0) (by omega) (by decide)).mp y) c1⟩
      conv => whnf
      refine ⟨vp_in_nI (by omega) (by decide), ?_⟩
      conv => whnf
      simp only [hcl]
      refine gr1f_lp hr hn hrb hnb hT hT0 hZ hd H k (i + 1) _ _ _ _ (by omega) (nI_1 i) (XI_ui hX True.intro) (fun a j h1 h2 => (m_ui_o (fun e => h1 e.1)).trans (hF a j h1 h2)) (fun s hs => ?_)
      by_cases e : s = i
      · rw [e, m_ui_s, if_neg c1]
      · rw [m_ui_o (by omega)]
        exact hR s (by omega)
set_option maxRecDepth 100000 in
set_option maxHeartbeats 4000000 in
theorem smf_greatest {d L : Nat} {f : Nat → Nat → Int32} {g : Nat → Nat → Int64} {r n : Nat} {T : Nat → Nat → Int} {R : Option Value → mH → Prop} (hd : 4 ≤ d) (hX : XI f) (hr : r ≤ 8) (hn : n ≤ 40) (hrb : f 181 34 = nI r) (hnb : f 181 0 = nI n) (hT : ∀ i, i < r → ∀ w, w < n → (f 208 (40 * i + w)).toInt = T i w) (hT0 : ∀ i w, 0 ≤ T i w ∧ T i w ≤ 136) (hZ : Z0 n T) (H : ∀ (v : Int32) f', XI f' → (∀ a i, ¬ a = 209 → ¬ a = 210 → f' a i = f a i) → Mst r n T v.toInt → 0 ≤ v.toInt → R (some (.int v)) (shF L, f', g)) : Run mtab d 200 [.ref 181] (shF L, f, g) R := by
  obtain ⟨d, rfl⟩ : ∃ e, d = e + 1 := ⟨d - 1, by omega⟩
  refine go_X11_greatest rfl ?_
  conv => whnf
  have e0 := sh_l r (by omega)
  have h256 := p2_256 hr
  simp only [hrb, e0]
  exact gr1f_lp hr hn hrb hnb hT hT0 hZ (by omega) H (2 ^ r) 0 _ _ _ f (by omega) rfl hX (fun _ _ _ _ => rfl) (fun s hs => absurd hs (by omega))
/-- the table's numbers -/
def TBL (f : Nat → Nat → Int32) (r n : Nat) (T : Nat → Nat → Int) : Prop := ∀ i, i < r → ∀ w, w < n → (f 208 (40 * i + w)).toInt = T i w
set_option maxRecDepth 100000 in
set_option maxHeartbeats 4000000 in
theorem to2f_lp {d L r : Nat} {f1 : Nat → Nat → Int32} {g : Nat → Nat → Int64} {y w : Int32} {R : Option Value → mH → Prop} (hr : r ≤ 8) (hrb : f1 181 34 = nI r) (hw : w = -4 ∨ ∃ v, v < 40 ∧ w = nI v) (H : ∀ f, XI f → (∀ a i, ¬ a = 208 → f a i = f1 a i) → (∀ k v, k < r → v < 40 → f 208 (40 * k + v) = if nI v = w then 0 else f1 208 (40 * k + v)) → R none (shF L, f, g)) :
    ∀ (k i : Nat) (x : Int32) (f : Nat → Nat → Int32), i + k = r → x = nI i → XI f → (∀ a j, ¬ a = 208 → f a j = f1 a j) → (∀ q v, q < 8 → v < 40 → f 208 (40 * q + v) = if q < i ∧ nI v = w then 0 else f1 208 (40 * q + v)) → WPe pg_X11_takeOut none (Run mtab d) R (m_drop pg_X11_takeOut 19) [some (.ref 181), some (.int y), some (.int w), some (.int x)] [] (shF L, f, g)
  | 0, i, x, f, hi, hx, hX, hF, hR => by
    have e : i = r := by omega
    subst hx
    subst e
    have hrb2 : f 181 34 = nI i := (hF 181 34 (by omega)).trans hrb
    refine at_X11_takeOut ?_
    conv => whnf
    simp only [hrb2]
    refine ⟨fun _ => ?_, fun y => absurd (nI_le (Nat.le_refl _) (by omega)) y⟩
    conv => whnf
    exact H f hX hF (fun k v hk hv => by
      rw [hR k v (by omega) hv]
      by_cases c1 : nI v = w
      · rw [if_pos ⟨hk, c1⟩, if_pos c1]
      · rw [if_neg (fun z => c1 z.2), if_neg c1])
  | k + 1, i, x, f, hi, hx, hX, hF, hR => by
    subst hx
    have hrb2 : f 181 34 = nI r := (hF 181 34 (by omega)).trans hrb
    refine at_X11_takeOut ?_
    conv => whnf
    simp only [hrb2]
    refine ⟨fun y => absurd y (nI_ge (by omega) (by omega)), fun _ => ?_⟩
    conv => whnf
    rcases hw with rfl | ⟨wv, hwv, rfl⟩
    · refine ⟨fun _ => ?_, fun y => absurd (by decide) y⟩
      conv => whnf
      exact H f hX hF (fun k v hk hv => by
        have c1 : ¬ nI v = -4 := nI_m4 (by omega)
        rw [hR k v (by omega) hv, if_neg (fun z => c1 z.2), if_neg c1])
    · have hci : (nI (40 * i + wv)).toNatClampNeg = 40 * i + wv := nI_clamp (by omega)
      refine ⟨fun y => absurd (show nI wv < nI 0 from y) (nI_nlt (by omega) (by omega)), fun _ => ?_⟩
      conv => whnf
      simp only [nI_40m, nI_add]
      refine ⟨vp_in_nI (by omega) (by decide), ?_⟩
      conv => whnf
      simp only [hci]
      refine to2f_lp hr hrb (Or.inr ⟨wv, hwv, rfl⟩) H k (i + 1) _ _ (by omega) (nI_1 i) (XI_ui hX True.intro) (fun a j h => (m_ui_o (fun e => h e.1)).trans (hF a j h)) (fun q v hq hv => ?_)
      by_cases c1 : q = i ∧ v = wv
      · rw [c1.1, c1.2, m_ui_s, if_pos ⟨by omega, rfl⟩]
      · rw [m_ui_o (by omega), hR q v hq hv]
        by_cases c2 : q < i ∧ nI v = nI wv
        · rw [if_pos c2, if_pos ⟨by omega, c2.2⟩]
        · rw [if_neg c2, if_neg (fun z => c2 ⟨by
            have : v = wv := (nI_eq (by omega) (by omega)).mp z.2
            have := z.1
            omega, z.2⟩)]
set_option maxRecDepth 100000 in
set_option maxHeartbeats 4000000 in
theorem to1f_lp {d L n r p : Nat} {f1 : Nat → Nat → Int32} {g : Nat → Nat → Int64} {w : Int32} {R : Option Value → mH → Prop} (hr : r ≤ 8) (hn : n ≤ 40) (hp : p < r) (hrb : f1 181 34 = nI r) (hnb : f1 181 0 = nI n) (hw : w = -4 ∨ ∃ v, v < 40 ∧ w = nI v) (H : ∀ f, XI f → (∀ a i, ¬ a = 208 → f a i = f1 a i) → (∀ k v, k < r → v < n → f 208 (40 * k + v) = if k = p ∨ nI v = w then 0 else f1 208 (40 * k + v)) → R none (shF L, f, g)) :
    ∀ (k i : Nat) (x : Int32) (f : Nat → Nat → Int32), i + k = n → x = nI i → XI f → (∀ a j, ¬ a = 208 → f a j = f1 a j) → (∀ q v, q < 8 → v < 40 → f 208 (40 * q + v) = if q = p ∧ v < i then 0 else f1 208 (40 * q + v)) → WPe pg_X11_takeOut none (Run mtab d) R (m_drop pg_X11_takeOut 2) [some (.ref 181), some (.int (nI p)), some (.int w), some (.int x)] [] (shF L, f, g)
  | 0, i, x, f, hi, hx, hX, hF, hR => by
    have e : i = n := by omega
    subst hx
    subst e
    have hnb2 : f 181 0 = nI i := (hF 181 0 (by omega)).trans hnb
    refine at_X11_takeOut ?_
    conv => whnf
    simp only [hnb2]
    refine ⟨fun _ => ?_, fun y => absurd (nI_le (Nat.le_refl _) (by omega)) y⟩
    conv => whnf
    refine to2f_lp (f1 := f) hr ((hF 181 34 (by omega)).trans hrb) hw (fun f2 x2 k2 h2 => H f2 x2 (fun a j h => (k2 a j h).trans (hF a j h)) (fun k v hk hv => ?_)) r 0 _ f (by omega) rfl hX (fun _ _ _ => rfl) (fun q v _ _ => by rw [if_neg (fun z => absurd z.1 (by omega))])
    rw [h2 k v hk (by omega), hR k v (by omega) (by omega)]
    by_cases c1 : nI v = w
    · rw [if_pos c1, if_pos (Or.inr c1)]
    · rw [if_neg c1]
      by_cases c2 : k = p
      · rw [if_pos ⟨c2, hv⟩, if_pos (Or.inl c2)]
      · rw [if_neg (fun z => c2 z.1), if_neg (fun z => z.elim c2 c1)]
  | k + 1, i, x, f, hi, hx, hX, hF, hR => by
    subst hx
    have hnb2 : f 181 0 = nI n := (hF 181 0 (by omega)).trans hnb
    have hci : (nI (40 * p + i)).toNatClampNeg = 40 * p + i := nI_clamp (by omega)
    refine at_X11_takeOut ?_
    conv => whnf
    simp only [hnb2]
    refine ⟨fun y => absurd y (nI_ge (by omega) (by omega)), fun _ => ?_⟩
    conv => whnf
    simp only [nI_40m, nI_add]
    refine ⟨vp_in_nI (by omega) (by decide), ?_⟩
    conv => whnf
    simp only [hci]
    refine to1f_lp hr hn hp hrb hnb hw H k (i + 1) _ _ (by omega) (nI_1 i) (XI_ui hX True.intro) (fun a j h => (m_ui_o (fun e => h e.1)).trans (hF a j h)) (fun q v hq hv => ?_)
    by_cases c1 : q = p ∧ v = i
    · rw [c1.1, c1.2, m_ui_s, if_pos ⟨rfl, by omega⟩]
    · rw [m_ui_o (by omega), hR q v hq hv]
      by_cases c2 : q = p ∧ v < i
      · rw [if_pos c2, if_pos ⟨c2.1, by omega⟩]
      · rw [if_neg c2, if_neg (fun z => c2 ⟨z.1, by
          have := z.1
          have := z.2
          omega⟩)]
set_option maxRecDepth 100000 in
set_option maxHeartbeats 4000000 in
theorem smf_takeOut {d L : Nat} {f : Nat → Nat → Int32} {g : Nat → Nat → Int64} {n r p : Nat} {w : Int32} {R : Option Value → mH → Prop} (hd : 2 ≤ d) (hX : XI f) (hr : r ≤ 8) (hn : n ≤ 40) (hp : p < r) (hrb : f 181 34 = nI r) (hnb : f 181 0 = nI n) (hw : w = -4 ∨ ∃ v, v < 40 ∧ w = nI v) (H : ∀ f', XI f' → (∀ a i, ¬ a = 208 → f' a i = f a i) → (∀ k v, k < r → v < n → f' 208 (40 * k + v) = if k = p ∨ nI v = w then 0 else f 208 (40 * k + v)) → R none (shF L, f', g)) : Run mtab d 203 [.ref 181, .int (nI p), .int w] (shF L, f, g) R := by
  obtain ⟨d, rfl⟩ : ∃ e, d = e + 1 := ⟨d - 1, by omega⟩
  refine go_X11_takeOut rfl ?_
  conv => whnf
  exact to1f_lp hr hn hp hrb hnb hw H n 0 _ f (by omega) rfl hX (fun _ _ _ => rfl) (fun q v _ _ => by rw [if_neg (fun z => absurd z.2 (by omega))])
theorem tko_t {f f' : Nat → Nat → Int32} {r n p v : Nat} {T : Nat → Nat → Int} (hn : n ≤ 40) (hv : v < n) (h : TBL f r n T) (e : ∀ k u, k < r → u < n → f' 208 (40 * k + u) = if k = p ∨ nI u = nI v then 0 else f 208 (40 * k + u)) : TBL f' r n (tko T p v) := fun i hi u hu => by
  rw [e i u hi hu]
  show _ = (if i = p ∨ u = v then 0 else T i u)
  by_cases c1 : i = p ∨ u = v
  · rw [if_pos c1, if_pos (c1.imp id (fun z => by rw [z]))]
    rfl
  · rw [if_neg c1, if_neg (fun z => c1 (z.imp id (fun z => (nI_eq (by omega) (by omega)).mp z)))]
    exact h i hi u hu
theorem tko_b {T : Nat → Nat → Int} {p v : Nat} (h : ∀ i w, 0 ≤ T i w ∧ T i w ≤ 136) : ∀ i w, 0 ≤ tko T p v i w ∧ tko T p v i w ≤ 136 := fun i w => by
  show 0 ≤ (if i = p ∨ w = v then 0 else T i w) ∧ (if i = p ∨ w = v then 0 else T i w) ≤ 136
  have := h i w
  by_cases c1 : i = p ∨ w = v
  · rw [if_pos c1]
    omega
  · rw [if_neg c1]
    exact this
theorem tko_Z {T : Nat → Nat → Int} {n p v : Nat} (h : Z0 n T) : Z0 n (tko T p v) := fun i w hw => by
  show (if i = p ∨ w = v then 0 else T i w) = 0
  by_cases c1 : i = p ∨ w = v
  · rw [if_pos c1]
  · rw [if_neg c1]
    exact h i w hw
set_option maxRecDepth 100000 in
theorem cj2f_lp {d L p q : Nat} {f1 : Nat → Nat → Int32} {g : Nat → Nat → Int64} {w y b : Int32} {R : Option Value → mH → Prop} (hb : b = 0 ∨ b = 1) (H : ∀ f, XI f → (∀ a i, ¬ a = 208 → f a i = f1 a i) → (∀ k, k < 320 → f 208 k = f1 211 k) → R (some (.int b)) (shF L, f, g)) :
    ∀ (k i : Nat) (x : Int32) (f : Nat → Nat → Int32), i + k = 320 → x = nI i → XI f → (∀ a j, ¬ a = 208 → f a j = f1 a j) → (∀ k, k < i → f 208 k = f1 211 k) → WPe pg_X11_canJoin none (Run mtab d) R (m_drop pg_X11_canJoin 40) [some (.ref 181), some (.int (nI p)), some (.int (nI q)), some (.int w), some (.int y), some (.int b), some (.int x)] [] (shF L, f, g)
  | 0, i, x, f, hi, hx, hX, hF, hR => by
    have e : i = 320 := by omega
    subst hx
    subst e
    refine at_X11_canJoin ?_
    conv => whnf
    refine ⟨fun _ => ?_, fun y => absurd (show (320 : Int32) ≤ nI 320 by decide) y⟩
    conv => whnf
    have G := H f hX hF hR
    rcases hb with rfl | rfl
    · first | exact ⟨Or.inl rfl, G⟩ | exact ⟨Or.inl True.intro, G⟩ | exact G
    · first | exact ⟨Or.inr rfl, G⟩ | exact ⟨Or.inr True.intro, G⟩ | exact G
  | k + 1, i, x, f, hi, hx, hX, hF, hR => by
    subst hx
    have hcl : (nI i).toNatClampNeg = i := nI_clamp (by omega)
    refine at_X11_canJoin ?_
    conv => whnf
    refine ⟨fun y => absurd (show nI 320 ≤ nI i from y) (nI_ge (by omega) (by decide)), fun _ => ?_⟩
    conv => whnf
    refine ⟨vp_in_nI (by omega) (by decide), ?_⟩
    conv => whnf
    refine ⟨vp_in_nI (by omega) (by decide), ?_⟩
    conv => whnf
    simp only [hcl]
    refine cj2f_lp hb H k (i + 1) _ _ (by omega) (nI_1 i) (XI_ui hX True.intro) (fun a j h => (m_ui_o (fun e => h e.1)).trans (hF a j h)) (fun s hs => ?_)
    by_cases e : s = i
    · rw [e, m_ui_s]
      exact hF 211 i (by omega)
    · rw [m_ui_o (by omega)]
      exact hR s (by omega)
set_option maxRecDepth 100000 in
set_option maxHeartbeats 4000000 in
theorem cj1f_lp {d L n r p v : Nat} {T : Nat → Nat → Int} {f1 : Nat → Nat → Int32} {g : Nat → Nat → Int64} {w : Int32} {R : Option Value → mH → Prop} (hd : 4 ≤ d) (hr : r ≤ 8) (hn : n ≤ 40) (hp : p < r) (hv : v < n) (hrb : f1 181 34 = nI r) (hnb : f1 181 0 = nI n) (hT : TBL f1 r n T) (hT0 : ∀ i w, 0 ≤ T i w ∧ T i w ≤ 136) (hZ : Z0 n T) (H : ∀ f (x : Int), XI f → (∀ a i, ¬ a = 208 → ¬ a = 209 → ¬ a = 210 → ¬ a = 211 → f a i = f1 a i) → (∀ k, k < 320 → f 208 k = f1 208 k) → Mst r n (tko T p v) x → R (some (.int (if T p v + x = w.toInt then 1 else 0))) (shF L, f, g)) :
    ∀ (k i : Nat) (x : Int32) (s5 s6 : Option Value) (f : Nat → Nat → Int32), i + k = 320 → x = nI i → XI f → (∀ a j, ¬ a = 211 → f a j = f1 a j) → (∀ k, k < i → f 211 k = f1 208 k) → WPe pg_X11_canJoin none (Run mtab d) R (m_drop pg_X11_canJoin 2) [some (.ref 181), some (.int (nI p)), some (.int (nI v)), some (.int w), some (.int x), s5, s6] [] (shF L, f, g)
  | 0, i, x, s5, s6, f, hi, hx, hX, hF, hR => by
    have e : i = 320 := by omega
    subst hx
    subst e
    have hci : (nI (40 * p + v)).toNatClampNeg = 40 * p + v := nI_clamp (by omega)
    have hrb2 : f 181 34 = nI r := (hF 181 34 (by omega)).trans hrb
    have hnb2 : f 181 0 = nI n := (hF 181 0 (by omega)).trans hnb
    have hT2 : TBL f r n T := fun i hi u hu => by rw [hF 208 _ (by omega)]; exact hT i hi u hu
    have eo := hT2 p hp v hv
    refine at_X11_canJoin ?_
    conv => whnf
    refine ⟨fun _ => ?_, fun y => absurd (show (320 : Int32) ≤ nI 320 by decide) y⟩
    conv => whnf
    simp only [nI_40m, nI_add]
    refine ⟨vp_in_nI (by omega) (by decide), ?_⟩
    conv => whnf
    simp only [hci]
    refine smf_takeOut (n := n) (r := r) (p := p) (by omega) hX hr hn hp hrb2 hnb2 (Or.inr ⟨v, by omega, rfl⟩) (fun f2 x2 k2 h2 => ?_)
    conv => whnf
    refine smf_greatest (r := r) (n := n) (T := tko T p v) (by omega) x2 hr hn ((k2 181 34 (by omega)).trans hrb2) ((k2 181 0 (by omega)).trans hnb2) (tko_t hn hv hT2 h2) (tko_b hT0) (tko_Z hZ) (fun x f3 x3 k3 m3 x0 => ?_)
    have xb : x.toInt ≤ 2000 := by
      obtain ⟨⟨b, _, eb⟩, _⟩ := m3
      have := vl_b (b := b) (tko_b (p := p) (v := v) hT0) r
      omega
    have t0 := hT0 p v
    have es : (f 208 (40 * p + v) + x).toInt = T p v + x.toInt := by rw [i_add (by omega) (by omega), eo]
    conv => whnf
    have kk : ∀ a j, ¬ a = 208 → ¬ a = 209 → ¬ a = 210 → ¬ a = 211 → f3 a j = f1 a j := fun a j h1 h2 h3 h4 => (k3 a j h2 h3).trans ((k2 a j h1).trans (hF a j h4))
    have G : ∀ f4, XI f4 → (∀ a j, ¬ a = 208 → f4 a j = f3 a j) → (∀ k, k < 320 → f4 208 k = f3 211 k) → R (some (.int (if T p v + x.toInt = w.toInt then 1 else 0))) (shF L, f4, g) := fun f4 x4 k4 h4 => H f4 x.toInt x4 (fun a j h1 h2 h3 h5 => (k4 a j h1).trans (kk a j h1 h2 h3 h5)) (fun k hk => by rw [h4 k hk, k3 211 k (by omega) (by omega), k2 211 k (by omega)]; exact hR k hk) m3
    by_cases c1 : f 208 (40 * p + v) + x = w
    · rw [if_pos (by rw [← c1, es])] at G
      refine ⟨fun y => absurd c1 y, fun _ => ?_⟩
      conv => whnf
      exact cj2f_lp (Or.inr rfl) G 320 0 _ f3 (by omega) rfl x3 (fun _ _ _ => rfl) (fun s hs => absurd hs (by omega))
    · rw [if_neg (fun z => c1 (Int32.toInt_inj.mp (es.trans z)))] at G
      refine ⟨fun _ => ?_, fun y => absurd y c1⟩
      conv => whnf
      exact cj2f_lp (Or.inl rfl) G 320 0 _ f3 (by omega) rfl x3 (fun _ _ _ => rfl) (fun s hs => absurd hs (by omega))
  | k + 1, i, x, s5, s6, f, hi, hx, hX, hF, hR => by
    subst hx
    have hcl : (nI i).toNatClampNeg = i := nI_clamp (by omega)
    refine at_X11_canJoin ?_
    conv => whnf
    refine ⟨fun y => absurd (show nI 320 ≤ nI i from y) (nI_ge (by omega) (by decide)), fun _ => ?_⟩
    conv => whnf
    refine ⟨vp_in_nI (by omega) (by decide), ?_⟩
    conv => whnf
    refine ⟨vp_in_nI (by omega) (by decide), ?_⟩
    conv => whnf
    simp only [hcl]
    refine cj1f_lp hd hr hn hp hv hrb hnb hT hT0 hZ H k (i + 1) _ _ _ _ (by omega) (nI_1 i) (XI_ui hX True.intro) (fun a j h => (m_ui_o (fun e => h e.1)).trans (hF a j h)) (fun s hs => ?_)
    by_cases e : s = i
    · rw [e, m_ui_s]
      exact hF 208 i (by omega)
    · rw [m_ui_o (by omega)]
      exact hR s (by omega)
set_option maxRecDepth 100000 in
set_option maxHeartbeats 4000000 in
theorem smf_canJoin {d L : Nat} {f : Nat → Nat → Int32} {g : Nat → Nat → Int64} {n r p v : Nat} {T : Nat → Nat → Int} {w : Int32} {R : Option Value → mH → Prop} (hd : 5 ≤ d) (hX : XI f) (hr : r ≤ 8) (hn : n ≤ 40) (hp : p < r) (hv : v < n) (hrb : f 181 34 = nI r) (hnb : f 181 0 = nI n) (hT : TBL f r n T) (hT0 : ∀ i w, 0 ≤ T i w ∧ T i w ≤ 136) (hZ : Z0 n T) (H : ∀ f' (x : Int), XI f' → (∀ a i, ¬ a = 208 → ¬ a = 209 → ¬ a = 210 → ¬ a = 211 → f' a i = f a i) → (∀ k, k < 320 → f' 208 k = f 208 k) → Mst r n (tko T p v) x → R (some (.int (if T p v + x = w.toInt then 1 else 0))) (shF L, f', g)) : Run mtab d 205 [.ref 181, .int (nI p), .int (nI v), .int w] (shF L, f, g) R := by
  obtain ⟨d, rfl⟩ : ∃ e, d = e + 1 := ⟨d - 1, by omega⟩
  refine go_X11_canJoin rfl ?_
  conv => whnf
  exact cj1f_lp (by omega) hr hn hp hv hrb hnb hT hT0 hZ H 320 0 _ _ _ f (by omega) rfl hX (fun _ _ _ => rfl) (fun s hs => absurd hs (by omega))
/-- what a join of the model may change -/
def FJ (f f' : Nat → Nat → Int32) : Prop := ∀ a i, ¬ (204 ≤ a ∧ a ≤ 211) → ¬ (a = 181 ∧ (i = 34 ∨ i = 39)) → f' a i = f a i
theorem FJ_t {f f1 f2 : Nat → Nat → Int32} (h : FJ f f1) (h' : FJ f1 f2) : FJ f f2 := fun a i h1 h2 => (h' a i h1 h2).trans (h a i h1 h2)
theorem FJ_r (f : Nat → Nat → Int32) : FJ f f := fun _ _ _ _ => rfl
theorem scM_q {f f' : Nat → Nat → Int32} {v h m w : Nat} (k : FJ f f') : scM f' v h m w = scM f v h m w := by
  have k' : ∀ a, ¬ (204 ≤ a ∧ a ≤ 211) → ¬ a = 181 → f' a = f a := fun a h1 h2 => funext (fun i => k a i h1 (fun e => h2 e.1))
  have eP : ∀ y, PM f' 3 4 (nI w) y = PM f 3 4 (nI w) y := fun y => funext (fun i => by
    unfold PM
    rw [k' 195 (by omega) (by omega)])
  have eS := smp_kp (f := f) (f1 := f') (fun i => k 218 i (by omega) (by omega)) 9999 (nI w) v
  unfold scM SFM hM wM titM
  rw [eS, eP, k' 203 (by omega) (by omega), k' 200 (by omega) (by omega), k' 192 (by omega) (by omega), k' 193 (by omega) (by omega), k' 194 (by omega) (by omega), k' 185 (by omega) (by omega), k' 186 (by omega) (by omega), k' 189 (by omega) (by omega), k' 190 (by omega) (by omega), k' 191 (by omega) (by omega), k' 195 (by omega) (by omega)]
theorem popf_le : ∀ k x, popf k x ≤ k
  | 0, _ => Nat.le_refl _
  | k + 1, x => by
    show x % 2 + popf k (x / 2) ≤ k + 1
    have := popf_le k (x / 2)
    omega
theorem sc4_b {k : Nat} (hk : k ≤ 136) : 0 ≤ (sc4 (nI k)).toInt ∧ (sc4 (nI k)).toInt ≤ 136 := by
  unfold sc4
  by_cases q : nI k < 4
  · rw [if_pos q]
    decide
  · rw [if_neg q, nI_toInt (by omega)]
    omega
theorem scw_b {bad sized : Prop} {B ow hd : Int32} {k : Nat} (hk : k ≤ 32) (e : B = nI k) : 0 ≤ (scw bad sized B ow hd).toInt ∧ (scw bad sized B ow hd).toInt ≤ 136 := by
  have z : 0 ≤ (0 : Int32).toInt ∧ (0 : Int32).toInt ≤ 136 := by decide
  unfold scw
  by_cases c1 : bad
  · rw [ci_t (p := bad) c1]
    exact z
  · rw [ci_f (p := bad) c1]
    by_cases c2 : ¬ ow < 0 ∧ ¬ ow = hd
    · rw [ci_t (p := ¬ ow < 0 ∧ ¬ ow = hd) c2]
      exact z
    · rw [ci_f (p := ¬ ow < 0 ∧ ¬ ow = hd) c2, e, nI_4m]
      by_cases c3 : sized
      · rw [ci_t (p := sized) c3, show (3 : Int32) = nI 3 from rfl, nI_add]
        by_cases c4 : ¬ ow < 0
        · rw [ci_t (p := ¬ ow < 0) c4, show (5 : Int32) = nI 5 from rfl, nI_add]
          exact sc4_b (by omega)
        · rw [ci_f (p := ¬ ow < 0) c4, show (0 : Int32) = nI 0 from rfl, nI_add]
          exact sc4_b (by omega)
      · rw [ci_f (p := sized) c3, show (0 : Int32) = nI 0 from rfl, nI_add]
        by_cases c4 : ¬ ow < nI 0
        · rw [ci_t (p := ¬ ow < nI 0) c4, show (5 : Int32) = nI 5 from rfl, nI_add]
          exact sc4_b (by omega)
        · rw [ci_f (p := ¬ ow < nI 0) c4, nI_add]
          exact sc4_b (by omega)
theorem scM_b {f : Nat → Nat → Int32} {v h m w : Nat} (hb : inr 0 1073741823 (f 203 (9 * m + 7))) : 0 ≤ (scM f v h m w).toInt ∧ (scM f v h m w).toInt ≤ 136 := by
  obtain ⟨j, hj, e⟩ := inr_nat (n := 1073741823) rfl (and_30 (y := titM f w (f 191 w).toNatClampNeg (f 203 (9 * m + 2))) hb)
  unfold scM
  rw [e]
  exact scw_b (popf_le 32 j) (onE_pop (by omega))
/-- what the model's scores want -/
def SCo (f : Nat → Nat → Int32) (n v h m : Nat) : Prop := n ≤ 40 ∧ m ≤ 50 ∧ v ≤ 60 ∧ h ≤ 60 ∧ f 181 0 = nI n ∧ f 181 27 = nI m ∧ f 181 48 = nI v ∧ f 181 14 = nI h ∧ SZ n f ∧ (∀ w, w < n → ∃ q, 1 ≤ q ∧ q ≤ 4 ∧ f 191 w = nI q) ∧ ∀ j, j < m → (f 203 (9 * j + 5) = 0 ∨ f 203 (9 * j + 5) = 1) ∧ (f 203 (9 * j + 6) = 0 ∨ f 203 (9 * j + 6) = 1) ∧ ((f 203 (9 * j + 3) = 0 ∧ f 203 (9 * j + 4) = 0) ∨ (inr 1 6000 (f 203 (9 * j + 3)) ∧ inr 1 6000 (f 203 (9 * j + 4)))) ∧ inr 0 1073741823 (f 203 (9 * j + 7))
theorem SCo_q {f f' : Nat → Nat → Int32} {n v h m : Nat} (k : FJ f f') (s : SCo f n v h m) : SCo f' n v h m := by
  obtain ⟨a1, a2, a3, a4, a5, a6, a7, a8, a9, a10, a11⟩ := s
  refine ⟨a1, a2, a3, a4, (k 181 0 (by omega) (by omega)).trans a5, (k 181 27 (by omega) (by omega)).trans a6, (k 181 48 (by omega) (by omega)).trans a7, (k 181 14 (by omega) (by omega)).trans a8, SZ_q (fun a i q => k a i (by omega) (by omega)) a9, fun w hw => ?_, fun j hj => ?_⟩
  · obtain ⟨q, h1, h2, h3⟩ := a10 w hw
    exact ⟨q, h1, h2, (k 191 w (by omega) (by omega)).trans h3⟩
  · have k3 : f' 203 = f 203 := funext (fun i => k 203 i (by omega) (by omega))
    rw [k3]
    exact a11 j hj
theorem smf_sc {d L n v h m j w : Nat} {f : Nat → Nat → Int32} {g : Nat → Nat → Int64} {R : Option Value → mH → Prop} (hd : 5 ≤ d) (s : SCo f n v h m) (hj : j < m) (hw : w < n) (H : R (some (.int (scM f v h j w))) (shF L, f, g)) : Run mtab d 195 [.ref 181, .int (nI j), .int (nI w)] (shF L, f, g) R := by
  obtain ⟨a1, a2, a3, a4, a5, a6, a7, a8, a9, a10, a11⟩ := s
  obtain ⟨q, h1, h2, h3⟩ := a10 w hw
  obtain ⟨u1, u2, u3, u4⟩ := a11 j hj
  have z := hM_in (y := f 203 (9 * j + 2)) a9 hw
  exact smf_scoreOf hd (by omega) (by omega) u1 u2 u3 z.1 z.2 h3 h1 h2 a7 a3 a8 a4 (fun r e => by rw [e]; exact H)
theorem FJ_208 {f0 f : Nat → Nat → Int32} (h : (∀ a i, ¬ a = 208 → f a i = f0 a i)) : FJ f0 f := fun a i h1 _ => h a i (by omega)
set_option maxRecDepth 100000 in
set_option maxHeartbeats 4000000 in
theorem ft2f_lp {d L n v h m r q : Nat} {li : Nat → Nat} {f0 : Nat → Nat → Int32} {g : Nat → Nat → Int64} {R : Option Value → mH → Prop} (hd : 5 ≤ d) (hS : SCo f0 n v h m) (hr : r ≤ 8) (hrb : f0 181 34 = nI r) (hli : ∀ q, q < r → f0 207 q = nI (li q) ∧ li q < m) (hq : q < r)
    (HO : ∀ (x' : Int32) (s2 : Option Value) (f : Nat → Nat → Int32), x' = nI (q + 1) → XI f → (∀ a i, ¬ a = 208 → f a i = f0 a i) → (∀ p w, p < q + 1 → w < n → f 208 (40 * p + w) = scM f0 v h (li p) w) → WPe pg_X11_fillTable none (Run mtab d) R (m_drop pg_X11_fillTable 2) [some (.ref 181), some (.int x'), s2] [] (shF L, f, g)) :
    ∀ (k i : Nat) (x : Int32) (f : Nat → Nat → Int32), i + k = n → x = nI i → XI f → (∀ a i, ¬ a = 208 → f a i = f0 a i) → (∀ p w, p < q → w < n → f 208 (40 * p + w) = scM f0 v h (li p) w) → (∀ w, w < i → f 208 (40 * q + w) = scM f0 v h (li q) w) → WPe pg_X11_fillTable none (Run mtab d) R (m_drop pg_X11_fillTable 8) [some (.ref 181), some (.int (nI q)), some (.int x)] [] (shF L, f, g)
  | 0, i, x, f, hi, hx, hX, hF, hR, hR2 => by
    have e : i = n := by omega
    subst hx
    subst e
    obtain ⟨a1, a2, a3, a4, a5, _⟩ := id hS
    have hnb2 : f 181 0 = nI i := (hF 181 0 (by omega)).trans a5
    refine at_X11_fillTable ?_
    conv => whnf
    simp only [hnb2]
    refine ⟨fun _ => ?_, fun y => absurd (nI_le (Nat.le_refl _) (by omega)) y⟩
    conv => whnf
    exact HO _ _ f (nI_1 q) hX hF (fun p w hp hw => by
      by_cases e : p = q
      · rw [e]
        exact hR2 w hw
      · exact hR p w (by omega) hw)
  | k + 1, i, x, f, hi, hx, hX, hF, hR, hR2 => by
    subst hx
    obtain ⟨a1, a2, a3, a4, a5, _⟩ := id hS
    have hnb2 : f 181 0 = nI n := (hF 181 0 (by omega)).trans a5
    have hcq : (nI q).toNatClampNeg = q := nI_clamp (by omega)
    have hci : (nI (40 * q + i)).toNatClampNeg = 40 * q + i := nI_clamp (by omega)
    obtain ⟨l1, l2⟩ := hli q hq
    have e207 : f 207 q = nI (li q) := (hF 207 q (by omega)).trans l1
    refine at_X11_fillTable ?_
    conv => whnf
    simp only [hnb2]
    refine ⟨fun y => absurd y (nI_ge (by omega) (by omega)), fun _ => ?_⟩
    conv => whnf
    refine ⟨vp_in_nI (by omega) (by decide), ?_⟩
    conv => whnf
    simp only [hcq, e207]
    refine smf_sc (n := n) (v := v) (h := h) (m := m) hd (SCo_q (FJ_208 hF) hS) l2 (by omega) ?_
    rw [scM_q (FJ_208 hF)]
    conv => whnf
    simp only [nI_40m, nI_add]
    refine ⟨vp_in_nI (by omega) (by decide), ?_⟩
    conv => whnf
    simp only [hci]
    refine ft2f_lp hd hS hr hrb hli hq HO k (i + 1) _ _ (by omega) (nI_1 i) (XI_ui hX True.intro) (fun a j h => (m_ui_o (fun e => h e.1)).trans (hF a j h)) (fun p w hp hw => ?_) (fun w hw => ?_)
    · rw [m_ui_o (by omega)]
      exact hR p w hp hw
    · by_cases e : w = i
      · rw [e, m_ui_s]
      · rw [m_ui_o (by omega)]
        exact hR2 w (by omega)
set_option maxRecDepth 100000 in
theorem ft1f_lp {d L n v h m r : Nat} {li : Nat → Nat} {f0 : Nat → Nat → Int32} {g : Nat → Nat → Int64} {R : Option Value → mH → Prop} (hd : 5 ≤ d) (hS : SCo f0 n v h m) (hr : r ≤ 8) (hrb : f0 181 34 = nI r) (hli : ∀ q, q < r → f0 207 q = nI (li q) ∧ li q < m) (H : ∀ f, XI f → (∀ a i, ¬ a = 208 → f a i = f0 a i) → (∀ p w, p < r → w < n → f 208 (40 * p + w) = scM f0 v h (li p) w) → R none (shF L, f, g)) :
    ∀ (k q : Nat) (x : Int32) (s2 : Option Value) (f : Nat → Nat → Int32), q + k = r → x = nI q → XI f → (∀ a i, ¬ a = 208 → f a i = f0 a i) → (∀ p w, p < q → w < n → f 208 (40 * p + w) = scM f0 v h (li p) w) → WPe pg_X11_fillTable none (Run mtab d) R (m_drop pg_X11_fillTable 2) [some (.ref 181), some (.int x), s2] [] (shF L, f, g)
  | 0, q, x, s2, f, hi, hx, hX, hF, hR => by
    have e : q = r := by omega
    subst hx
    subst e
    have hrb2 : f 181 34 = nI q := (hF 181 34 (by omega)).trans hrb
    refine at_X11_fillTable ?_
    conv => whnf
    simp only [hrb2]
    refine ⟨fun _ => ?_, fun y => absurd (nI_le (Nat.le_refl _) (by omega)) y⟩
    conv => whnf
    exact H f hX hF hR
  | k + 1, q, x, s2, f, hi, hx, hX, hF, hR => by
    subst hx
    have hrb2 : f 181 34 = nI r := (hF 181 34 (by omega)).trans hrb
    refine at_X11_fillTable ?_
    conv => whnf
    simp only [hrb2]
    refine ⟨fun y => absurd y (nI_ge (by omega) (by omega)), fun _ => ?_⟩
    conv => whnf
    exact ft2f_lp hd hS hr hrb hli (by omega) (fun x' s2 f' hx' hX' hF' hR' => ft1f_lp hd hS hr hrb hli H k (q + 1) x' s2 f' (by omega) hx' hX' hF' hR') n 0 _ f (by omega) rfl hX hF hR (fun w hw => absurd hw (by omega))
set_option maxRecDepth 100000 in
set_option maxHeartbeats 4000000 in
theorem smf_fillTable {d L : Nat} {f : Nat → Nat → Int32} {g : Nat → Nat → Int64} {n v h m r : Nat} {li : Nat → Nat} {R : Option Value → mH → Prop} (hd : 6 ≤ d) (hX : XI f) (hS : SCo f n v h m) (hr : r ≤ 8) (hrb : f 181 34 = nI r) (hli : ∀ q, q < r → f 207 q = nI (li q) ∧ li q < m) (H : ∀ f', XI f' → (∀ a i, ¬ a = 208 → f' a i = f a i) → (∀ p w, p < r → w < n → f' 208 (40 * p + w) = scM f v h (li p) w) → R none (shF L, f', g)) : Run mtab d 202 [.ref 181] (shF L, f, g) R := by
  obtain ⟨d, rfl⟩ : ∃ e, d = e + 1 := ⟨d - 1, by omega⟩
  refine go_X11_fillTable rfl ?_
  conv => whnf
  exact ft1f_lp (by omega) hS hr hrb hli H r 0 _ _ f (by omega) rfl hX (fun _ _ _ => rfl) (fun p w hp => absurd hp (by omega))
theorem tb_own {n r p : Nat} {S : Nat → Nat → Int} {b : Nat → Nat} (hZ : Z0 n S) (hM : PMt r n b) (hp : p < r) : tb S b p p (b p) = S p (b p) := tb_n (fun y => y.elim (fun z => absurd z (by omega)) (fun ⟨q, h1, h2, h3⟩ => hM q p h1 hp (S_n hZ h2) h3))
theorem tb_b {S : Nat → Nat → Int} {b : Nat → Nat} {p : Nat} (hS0 : ∀ p w, 0 ≤ S p w ∧ S p w ≤ 136) : ∀ i w, 0 ≤ tb S b p i w ∧ tb S b p i w ≤ 136 := fun i w => by
  have a := tb_ge (S := S) (b := b) (i := p) (k := i) (w := w) (fun i w => (hS0 i w).1)
  have c := hS0 i w
  omega
theorem tb_Z {n : Nat} {S : Nat → Nat → Int} {b : Nat → Nat} {p : Nat} (hS0 : ∀ p w, 0 ≤ S p w ∧ S p w ≤ 136) (hZ : Z0 n S) : Z0 n (tb S b p) := fun i w hw => by
  have a := tb_ge (S := S) (b := b) (i := p) (k := i) (w := w) (fun i w => (hS0 i w).1)
  have c := hZ i w hw
  omega
/-- a best one is there -/
theorem opt_ex {r n : Nat} {W : Nat → Nat → Int} {B : Int} (hB : ∀ b, vl W b r ≤ B) : ∃ b, Opt r n W b := by
  have key : ∀ k : Nat, ∀ b, PMt r n b → (B - vl W b r).toNat ≤ k → ∃ b, Opt r n W b := by
    intro k
    induction k with
    | zero =>
      intro b hb hk
      refine ⟨b, hb, fun b' _ => ?_⟩
      have := hB b'
      omega
    | succ k ih =>
      intro b hb hk
      by_cases q : ∃ b', PMt r n b' ∧ vl W b r < vl W b' r
      · obtain ⟨b', h1, h2⟩ := q
        refine ih b' h1 ?_
        have := hB b'
        omega
      · exact ⟨b, hb, fun b' hb' => Int.not_lt.mp (fun z => q ⟨b', hb', z⟩)⟩
  exact key _ (fun _ => n) (fun i j _ _ h => absurd h (Nat.lt_irrefl _)) (Nat.le_refl _)
theorem opt_dg {n r : Nat} {S : Nat → Nat → Int} {b b' : Nat → Nat} (hn : n ≤ 40) (hr : r ≤ 8) (h : Opt r n (wt n S) b) (h' : Opt r n (wt n S) b') : vl S b' r = vl S b r ∧ ∀ k, k ≤ r → ∀ i, i < k → DG n S i (b' i) = DG n S i (b i) := by
  have e1 := wt_opt hn hr h
  have e2 := wt_opt hn hr h'
  have l1 := e1.2 b' e2.1
  have l2 := e2.2 b e1.1
  refine ⟨by omega, fun k => ?_⟩
  induction k with
  | zero => intro _ i hi; exact absurd hi (Nat.not_lt_zero _)
  | succ k ih =>
    intro hk i hi
    have ih' := ih (by omega)
    by_cases e : i = k
    · subst e
      have a := wt_lex hn hr h h'.1 (s := i) (by omega) (by omega) ih'
      have c := wt_lex hn hr h' h.1 (s := i) (by omega) (by omega) (fun j hj => (ih' j hj).symm)
      omega
    · exact ih' i (by omega)
/-- any two best ones join alike -/
theorem opt_un {n r : Nat} {S : Nat → Nat → Int} {b b' : Nat → Nat} (hn : n ≤ 40) (hr : r ≤ 8) (hZ : Z0 n S) (h : Opt r n (wt n S) b) (h' : Opt r n (wt n S) b') : vl S b' r = vl S b r ∧ ∀ i, i < r → (0 < S i (b' i) ↔ 0 < S i (b i)) ∧ (0 < S i (b i) → b' i = b i) := by
  obtain ⟨e, hd⟩ := opt_dg hn hr h h'
  refine ⟨e, fun i hi => ?_⟩
  have d := hd r (Nat.le_refl _) i hi
  unfold DG at d
  by_cases c2 : b' i < n ∧ 0 < S i (b' i)
  · rw [if_pos c2] at d
    by_cases c1 : b i < n ∧ 0 < S i (b i)
    · rw [if_pos c1] at d
      exact ⟨⟨fun _ => c1.2, fun _ => c2.2⟩, fun _ => by omega⟩
    · rw [if_neg c1] at d
      omega
  · rw [if_neg c2] at d
    have n2 : ¬ 0 < S i (b' i) := fun z => c2 ⟨S_n hZ z, z⟩
    by_cases c1 : b i < n ∧ 0 < S i (b i)
    · rw [if_pos c1] at d
      omega
    · have n1 : ¬ 0 < S i (b i) := fun z => c1 ⟨S_n hZ z, z⟩
      exact ⟨⟨fun z => absurd z n2, fun z => absurd z n1⟩, fun z => absurd z n1⟩
/-- what stands behind the joining of an event -/
def JEv (f : Nat → Nat → Int32) (e n r : Nat) (li : Nat → Nat) (S : Nat → Nat → Int) (b : Nat → Nat) : Prop :=
  (f 206 e).toInt = vl S b r ∧ (∀ q, q < r → f 204 (li q) = if 0 < S q (b q) then nI (b q) else -4) ∧ ∀ q, q < r → 0 < S q (b q) → ∀ y, Mst r n (S0 S q (b q)) y → f 205 (li q) = if y < vl S b r then 1 else 0
theorem JEv_all {f : Nat → Nat → Int32} {e n r : Nat} {li : Nat → Nat} {S : Nat → Nat → Int} {b b' : Nat → Nat} (hn : n ≤ 40) (hr : r ≤ 8) (hZ : Z0 n S) (h : Opt r n (wt n S) b) (h' : Opt r n (wt n S) b') (j : JEv f e n r li S b) : JEv f e n r li S b' := by
  obtain ⟨u1, u2⟩ := opt_un hn hr hZ h h'
  obtain ⟨j1, j2, j3⟩ := j
  refine ⟨by rw [u1]; exact j1, fun q hq => ?_, fun q hq c1 y hy => ?_⟩
  · obtain ⟨w1, w2⟩ := u2 q hq
    rw [j2 q hq]
    by_cases c1 : 0 < S q (b q)
    · rw [if_pos c1, if_pos (w1.mpr c1), w2 c1]
    · rw [if_neg c1, if_neg (fun z => c1 (w1.mp z))]
  · obtain ⟨w1, w2⟩ := u2 q hq
    have c2 := w1.mp c1
    rw [w2 c2] at hy
    rw [j3 q hq c2 y hy, u1]
set_option maxRecDepth 100000 in
set_option maxHeartbeats 4000000 in
theorem je3f_lp {d L n v h m r e : Nat} {li b : Nat → Nat} {S : Nat → Nat → Int} {f1 : Nat → Nat → Int32} {g : Nat → Nat → Int64} {R : Option Value → mH → Prop} {y z : Int32} (hd : 6 ≤ d) (hS : SCo f1 n v h m) (hr : r ≤ 8) (hrb : f1 181 34 = nI r) (hli : ∀ q, q < r → f1 207 q = nI (li q) ∧ li q < m) (hin : ∀ q s, q < r → s < r → li q = li s → q = s) (hSc : ∀ p, p < r → ∀ w, w < n → (scM f1 v h (li p) w).toInt = S p w) (hS0 : ∀ p w, 0 ≤ S p w ∧ S p w ≤ 136) (hZ : Z0 n S) (hb : Opt r n (wt n S) b) (h4 : (∀ q, q < r → f1 204 (li q) = if 0 < S q (b q) then nI (b q) else -4)) (hy : y.toInt = vl S b r)
    (H : ∀ f, XI f → (∀ a i, ¬ a = 205 → ¬ (208 ≤ a ∧ a ≤ 211) → f a i = f1 a i) → (∀ s, (∀ q, q < r → ¬ s = li q) → f 205 s = f1 205 s) → (∀ q, q < r → 0 < S q (b q) → ∀ y, Mst r n (S0 S q (b q)) y → f 205 (li q) = if y < vl S b r then 1 else 0) → R none (shF L, f, g)) :
    ∀ (k i : Nat) (x : Int32) (s5 s6 : Option Value) (f : Nat → Nat → Int32), i + k = r → x = nI i → XI f → (∀ a i, ¬ a = 205 → ¬ (208 ≤ a ∧ a ≤ 211) → f a i = f1 a i) → (∀ s, (∀ q, q < r → ¬ s = li q) → f 205 s = f1 205 s) → (∀ q, q < i → 0 < S q (b q) → ∀ y, Mst r n (S0 S q (b q)) y → f 205 (li q) = if y < vl S b r then 1 else 0) → WPe pg_X11_joinEvent none (Run mtab d) R (m_drop pg_X11_joinEvent 117) [some (.ref 181), some (.int (nI e)), some (.int y), some (.int z), some (.int x), s5, s6] [] (shF L, f, g)
  | 0, i, x, s5, s6, f, hi, hx, hX, hF, hU, hR => by
    have e9 : i = r := by omega
    subst hx
    subst e9
    have hrb2 : f 181 34 = nI i := (hF 181 34 (by omega) (by omega)).trans hrb
    refine at_X11_joinEvent ?_
    conv => whnf
    simp only [hrb2]
    refine ⟨fun _ => ?_, fun y9 => absurd (nI_le (Nat.le_refl _) (by omega)) y9⟩
    conv => whnf
    exact H f hX hF hU hR
  | k + 1, i, x, s5, s6, f, hi, hx, hX, hF, hU, hR => by
    subst hx
    obtain ⟨a1, a2, a3, a4, a5, _⟩ := id hS
    obtain ⟨l1, l2⟩ := hli i (by omega)
    have hcl : (nI i).toNatClampNeg = i := nI_clamp (by omega)
    have hcm : (nI (li i)).toNatClampNeg = li i := nI_clamp (by omega)
    have hrb2 : f 181 34 = nI r := (hF 181 34 (by omega) (by omega)).trans hrb
    have hnb2 : f 181 0 = nI n := (hF 181 0 (by omega) (by omega)).trans a5
    have e207 : f 207 i = nI (li i) := (hF 207 i (by omega) (by omega)).trans l1
    have e204 := (hF 204 (li i) (by omega) (by omega)).trans (h4 i (by omega))
    have kJ : FJ f1 f := fun a j h1 h2 => hF a j (by omega) (by omega)
    refine at_X11_joinEvent ?_
    conv => whnf
    simp only [hrb2]
    refine ⟨fun y9 => absurd y9 (nI_ge (by omega) (by omega)), fun _ => ?_⟩
    conv => whnf
    refine ⟨vp_in_nI (by omega) (by decide), ?_⟩
    conv => whnf
    simp only [hcl, e207]
    refine ⟨vp_in_nI (by omega) (by decide), ?_⟩
    conv => whnf
    simp only [hcm]
    by_cases c1 : 0 < S i (b i)
    · have hbn := S_n hZ c1
      rw [if_pos c1] at e204
      have hci : (nI (40 * i + b i)).toNatClampNeg = 40 * i + b i := nI_clamp (by omega)
      simp only [e204]
      refine ⟨fun y9 => absurd (show nI (b i) < nI 0 from y9) (nI_nlt (by omega) (by omega)), fun _ => ?_⟩
      conv => whnf
      refine smf_fillTable (n := n) (v := v) (h := h) (m := m) (r := r) (li := li) (by omega) hX (SCo_q kJ hS) hr hrb2 (fun q hq => ⟨(hF 207 q (by omega) (by omega)).trans (hli q hq).1, (hli q hq).2⟩) (fun f2 x2 k2 t2 => ?_)
      conv => whnf
      simp only [nI_40m, nI_add]
      refine ⟨vp_in_nI (by omega) (by decide), ?_⟩
      conv => whnf
      simp only [hci]
      refine ⟨vp_in_nI (by omega) (by decide), ?_⟩
      conv => whnf
      simp only [hcl, show m_ui f2 208 (40 * i + b i) 0 207 i = nI (li i) from (m_ui_o (by omega)).trans ((k2 207 i (by omega)).trans e207)]
      refine smf_greatest (r := r) (n := n) (T := S0 S i (b i)) (by omega) (XI_ui x2 True.intro) hr a1 ((m_ui_o (by omega)).trans ((k2 181 34 (by omega)).trans hrb2)) ((m_ui_o (by omega)).trans ((k2 181 0 (by omega)).trans hnb2)) (fun k hk w hw => ?_) (S0_b hS0) (S0_Z hZ) (fun v3 f3 x3 k3 m3 p3 => ?_)
      · by_cases e9 : k = i ∧ w = b i
        · rw [e9.1, e9.2, m_ui_s]
          unfold S0
          rw [if_pos ⟨rfl, rfl⟩]
          rfl
        · rw [m_ui_o (by omega), t2 k w hk hw, scM_q kJ, hSc k hk w hw]
          unfold S0
          rw [if_neg e9]
      · conv => whnf
        by_cases c2 : v3.toInt < vl S b r
        · refine ⟨fun y9 => absurd (Int32.le_iff_toInt_le.mp y9) (by omega), fun _ => ?_⟩
          conv => whnf
          refine ⟨vp_in_nI (by omega) (by decide), ?_⟩
          conv => whnf
          simp only [hcm, show vp_nar .boolean 1 = 1 from rfl]
          exact je3f_lp hd hS hr hrb hli hin hSc hS0 hZ hb h4 hy H k (i + 1) _ _ _ _ (by omega) (nI_1 i) (XI_ui x3 True.intro) (fun a j h1 h2 => (m_ui_o (fun e => h1 e.1)).trans ((k3 a j (by omega) (by omega)).trans ((m_ui_o (by omega)).trans ((k2 a j (by omega)).trans (hF a j h1 h2))))) (fun s hs => (m_ui_o (fun e => hs i (by omega) e.2)).trans ((k3 205 s (by omega) (by omega)).trans ((m_ui_o (by omega)).trans ((k2 205 s (by omega)).trans (hU s hs))))) (fun q hq cq y9 hy9 => by
            by_cases e : q = i
            · rw [e] at hy9 ⊢
              rw [m_ui_s, Mst_un hy9 m3, if_pos c2]
            · rw [m_ui_o (fun z9 => e (hin q i (by omega) (by omega) z9.2)), k3 205 _ (by omega) (by omega), m_ui_o (by omega), k2 205 _ (by omega)]
              exact hR q (by omega) cq y9 hy9)
        · refine ⟨fun _ => ?_, fun y9 => absurd (Int32.le_iff_toInt_le.mpr (by omega)) y9⟩
          conv => whnf
          refine ⟨vp_in_nI (by omega) (by decide), ?_⟩
          conv => whnf
          simp only [hcm, show vp_nar .boolean 0 = 0 from rfl]
          exact je3f_lp hd hS hr hrb hli hin hSc hS0 hZ hb h4 hy H k (i + 1) _ _ _ _ (by omega) (nI_1 i) (XI_ui x3 True.intro) (fun a j h1 h2 => (m_ui_o (fun e => h1 e.1)).trans ((k3 a j (by omega) (by omega)).trans ((m_ui_o (by omega)).trans ((k2 a j (by omega)).trans (hF a j h1 h2))))) (fun s hs => (m_ui_o (fun e => hs i (by omega) e.2)).trans ((k3 205 s (by omega) (by omega)).trans ((m_ui_o (by omega)).trans ((k2 205 s (by omega)).trans (hU s hs))))) (fun q hq cq y9 hy9 => by
            by_cases e : q = i
            · rw [e] at hy9 ⊢
              rw [m_ui_s, Mst_un hy9 m3, if_neg c2]
            · rw [m_ui_o (fun z9 => e (hin q i (by omega) (by omega) z9.2)), k3 205 _ (by omega) (by omega), m_ui_o (by omega), k2 205 _ (by omega)]
              exact hR q (by omega) cq y9 hy9)
    · rw [if_neg c1] at e204
      simp only [e204]
      refine ⟨fun _ => ?_, fun y9 => absurd (by decide) y9⟩
      conv => whnf
      exact je3f_lp hd hS hr hrb hli hin hSc hS0 hZ hb h4 hy H k (i + 1) _ _ _ f (by omega) (nI_1 i) hX hF hU (fun q hq cq y9 hy9 => by
        by_cases e9 : q = i
        · rw [e9] at cq
          exact absurd cq c1
        · exact hR q (by omega) cq y9 hy9)
set_option maxRecDepth 100000 in
set_option maxHeartbeats 8000000 in
theorem je2If_lp {d L n m r e p : Nat} {li b : Nat → Nat} {S : Nat → Nat → Int} {f2 : Nat → Nat → Int32} {g : Nat → Nat → Int64} {R : Option Value → mH → Prop} {y z : Int32} (hd : 5 ≤ d) (hn : n ≤ 40) (hm : m ≤ 50) (hr : r ≤ 8) (hp : p < r) (hrb : f2 181 34 = nI r) (hnb : f2 181 0 = nI n) (hli : ∀ q, q < r → f2 207 q = nI (li q) ∧ li q < m) (hS0 : ∀ p w, 0 ≤ S p w ∧ S p w ≤ 136) (hZ : Z0 n S) (hb : Opt r n (wt n S) b) (hT : TBL f2 r n (tb S b p)) (hl : z.toInt = vl S b r - vl S b p)
    (HO : ∀ (x' z' : Int32) (s5 s6 : Option Value) (f : Nat → Nat → Int32), x' = nI (p + 1) → z'.toInt = vl S b r - vl S b (p + 1) → XI f → (∀ a j, ¬ a = 204 → ¬ (208 ≤ a ∧ a ≤ 211) → f a j = f2 a j) → (∀ s, ¬ s = li p → f 204 s = f2 204 s) → (f 204 (li p) = if 0 < S p (b p) then nI (b p) else -4) → TBL f r n (tb S b (p + 1)) → WPe pg_X11_joinEvent none (Run mtab d) R (m_drop pg_X11_joinEvent 51) [some (.ref 181), some (.int (nI e)), some (.int y), some (.int z'), some (.int x'), s5, s6] [] (shF L, f, g)) :
    ∀ (k i : Nat) (x fd : Int32) (f : Nat → Nat → Int32), i + k = n → x = nI i → XI f → (∀ a j, ¬ (208 ≤ a ∧ a ≤ 211) → f a j = f2 a j) → (∀ s, s < 320 → f 208 s = f2 208 s) → ((fd = -4 ∧ (0 < S p (b p) → i ≤ b p)) ∨ (fd = nI (b p) ∧ 0 < S p (b p))) → WPe pg_X11_joinEvent none (Run mtab d) R (m_drop pg_X11_joinEvent 59) [some (.ref 181), some (.int (nI e)), some (.int y), some (.int z), some (.int (nI p)), some (.int fd), some (.int x)] [] (shF L, f, g)
  | 0, i, x, fd, f, hi, hx, hX, hF, h8, hfd => by
    have e9 : i = n := by omega
    subst hx
    obtain ⟨l1, l2⟩ := hli p hp
    have hcp : (nI p).toNatClampNeg = p := nI_clamp (by omega)
    have hcm : (nI (li p)).toNatClampNeg = li p := nI_clamp (by omega)
    have rb2 : f 181 34 = nI r := (hF 181 34 (by omega)).trans hrb
    have nb2 : f 181 0 = nI n := (hF 181 0 (by omega)).trans hnb
    have e207 : f 207 p = nI (li p) := (hF 207 p (by omega)).trans l1
    have hTf : TBL f r n (tb S b p) := fun i hi w hw => by rw [h8 (40 * i + w) (by omega)]; exact hT i hi w hw
    have vb1 := vl_b (b := b) hS0 r
    have vb2 := vl_b (b := b) hS0 p
    refine at_X11_joinEvent ?_
    conv => whnf
    simp only [nb2]
    refine ⟨fun _ => ?_, fun y9 => absurd (nI_le (by omega) (by omega)) y9⟩
    conv => whnf
    rcases hfd with ⟨rfl, c1⟩ | ⟨rfl, c1⟩
    · have c1 : ¬ 0 < S p (b p) := fun z9 => by
        have := S_n hZ z9
        have := c1 z9
        omega
      refine ⟨fun y9 => absurd y9 (by decide), fun _ => ?_⟩
      conv => whnf
      refine smf_takeOut (n := n) (r := r) (p := p) (by omega) hX hr hn hp rb2 nb2 (Or.inl rfl) (fun f3 x3 k3 h3 => ?_)
      conv => whnf
      refine ⟨vp_in_nI (by omega) (by decide), ?_⟩
      conv => whnf
      simp only [hcp, (k3 207 p (by omega)).trans e207]
      refine ⟨vp_in_nI (by omega) (by decide), ?_⟩
      conv => whnf
      simp only [hcm]
      refine HO _ _ _ _ _ (nI_1 p) (by have sp := hS0 p (b p); have e0 : (0 : Int32).toInt = 0 := rfl; rw [i_sub (by omega) (by omega), vl_s]; omega) (XI_ui x3 (show inr (-4) 39 (-4) by unfold inr; decide)) (fun a j h1 h2 => (m_ui_o (fun e => h1 e.1)).trans ((k3 a j (by omega)).trans (hF a j h2))) (fun s hs => (m_ui_o (fun e => hs e.2)).trans ((k3 204 s (by omega)).trans (hF 204 s (by omega)))) (by rw [m_ui_s, if_neg c1]) (fun k hk w hw => ?_)
      rw [m_ui_o (by omega), ← (tb_s (n := n)).2 c1 k w, h3 k w hk hw]
      by_cases e9 : k = p
      · rw [if_pos (Or.inl e9), if_pos e9]
        rfl
      · rw [if_neg (fun z9 => z9.elim e9 (nI_m4 (by omega))), if_neg e9]
        exact hTf k hk w hw
    · have bn := S_n hZ c1
      have hcb : (nI (40 * p + b p)).toNatClampNeg = 40 * p + b p := nI_clamp (by omega)
      have ow : (f 208 (40 * p + b p)).toInt = S p (b p) := (hTf p hp (b p) bn).trans (tb_own hZ hb.1 hp)
      have sb := hS0 p (b p)
      refine ⟨fun _ => ?_, fun y9 => absurd (show (0 : Int32) ≤ nI (b p) from nI_le (a := 0) (by omega) (by omega)) y9⟩
      conv => whnf
      simp only [nI_40m, nI_add]
      refine ⟨vp_in_nI (by omega) (by decide), ?_⟩
      conv => whnf
      simp only [hcb]
      refine smf_takeOut (n := n) (r := r) (p := p) (by omega) hX hr hn hp rb2 nb2 (Or.inr ⟨b p, by omega, rfl⟩) (fun f3 x3 k3 h3 => ?_)
      conv => whnf
      refine ⟨vp_in_nI (by omega) (by decide), ?_⟩
      conv => whnf
      simp only [hcp, (k3 207 p (by omega)).trans e207]
      refine ⟨vp_in_nI (by omega) (by decide), ?_⟩
      conv => whnf
      simp only [hcm]
      refine HO _ _ _ _ _ (nI_1 p) (by rw [i_sub (by omega) (by omega), ow, vl_s]; omega) (XI_ui x3 (show inr (-4) 39 _ from inr_j (by omega))) (fun a j h1 h2 => (m_ui_o (fun e => h1 e.1)).trans ((k3 a j (by omega)).trans (hF a j h2))) (fun s hs => (m_ui_o (fun e => hs e.2)).trans ((k3 204 s (by omega)).trans (hF 204 s (by omega)))) (by rw [m_ui_s, if_pos c1]) (fun k hk w hw => ?_)
      rw [m_ui_o (by omega), ← (tb_s (n := n)).1 c1 k w]
      exact tko_t hn bn hTf h3 k hk w hw
  | k + 1, i, x, fd, f, hi, hx, hX, hF, h8, hfd => by
    subst hx
    obtain ⟨l1, l2⟩ := hli p hp
    have hcp : (nI p).toNatClampNeg = p := nI_clamp (by omega)
    have hcm : (nI (li p)).toNatClampNeg = li p := nI_clamp (by omega)
    have rb2 : f 181 34 = nI r := (hF 181 34 (by omega)).trans hrb
    have nb2 : f 181 0 = nI n := (hF 181 0 (by omega)).trans hnb
    have e207 : f 207 p = nI (li p) := (hF 207 p (by omega)).trans l1
    have hTf : TBL f r n (tb S b p) := fun i hi w hw => by rw [h8 (40 * i + w) (by omega)]; exact hT i hi w hw
    have vb1 := vl_b (b := b) hS0 r
    have vb2 := vl_b (b := b) hS0 p
    refine at_X11_joinEvent ?_
    conv => whnf
    simp only [nb2]
    refine ⟨fun y9 => absurd y9 (nI_ge (by omega) (by omega)), fun _ => ?_⟩
    conv => whnf
    rcases hfd with ⟨rfl, c5⟩ | ⟨rfl, c1⟩
    · have hci : (nI (40 * p + i)).toNatClampNeg = 40 * p + i := nI_clamp (by omega)
      have tv := hTf p hp i (by omega)
      refine ⟨fun y9 => absurd y9 (by decide), fun _ => ?_⟩
      conv => whnf
      simp only [nI_40m, nI_add]
      refine ⟨vp_in_nI (by omega) (by decide), ?_⟩
      conv => whnf
      simp only [hci]
      by_cases c3 : 0 < tb S b p p i
      · have es := (tb_pos c3).2.2
        refine ⟨fun y9 => absurd (Int32.le_iff_toInt_le.mp y9) (by rw [tv]; have e0 : (0 : Int32).toInt = 0 := rfl; omega), fun _ => ?_⟩
        conv => whnf
        refine smf_canJoin (n := n) (r := r) (p := p) (v := i) (T := tb S b p) (by omega) hX hr hn hp (by omega) rb2 nb2 hTf (tb_b hS0) (tb_Z hS0 hZ) (fun f3 x3v x3 k3 h3 m3 => ?_)
        by_cases c4 : tb S b p p i + x3v = z.toInt
        · rw [if_pos c4]
          conv => whnf
          (first | refine ⟨fun z9 => absurd z9 (by decide), fun _ => ?_⟩ | refine ⟨fun z9 => False.elim z9, fun _ => ?_⟩)
          conv => whnf
          have gd := greedy_1 hn hr (fun i w => (hS0 i w).1) hZ hb hp c3 m3 (by omega)
          have e9 : i = b p := by
            have := c5 gd.1
            have := gd.2
            omega
          exact je2If_lp hd hn hm hr hp hrb hnb hli hS0 hZ hb hT hl HO k (i + 1) _ _ f3 (by omega) (nI_1 i) x3 (fun a j h1 => (k3 a j (by omega) (by omega) (by omega) (by omega)).trans (hF a j h1)) (fun s hs => (h3 s hs).trans (h8 s hs)) (Or.inr ⟨by rw [e9], gd.1⟩)
        · rw [if_neg c4]
          conv => whnf
          (first | refine ⟨fun _ => ?_, fun z9 => absurd rfl z9⟩ | refine ⟨fun _ => ?_, fun z9 => absurd True.intro z9⟩)
          conv => whnf
          exact je2If_lp hd hn hm hr hp hrb hnb hli hS0 hZ hb hT hl HO k (i + 1) _ _ f3 (by omega) (nI_1 i) x3 (fun a j h1 => (k3 a j (by omega) (by omega) (by omega) (by omega)).trans (hF a j h1)) (fun s hs => (h3 s hs).trans (h8 s hs)) (Or.inl ⟨rfl, fun c1 => by
            have c6 := c5 c1
            have ne : ¬ i = b p := fun e9 => by
              rw [e9] at m3 c4
              have gd := greedy_2 hn hr (fun i w => (hS0 i w).1) hZ hb hp c1 m3
              rw [tb_own hZ hb.1 hp] at c4
              omega
            omega⟩)
      · refine ⟨fun _ => ?_, fun y9 => absurd (Int32.le_iff_toInt_le.mpr (by rw [tv]; have e0 : (0 : Int32).toInt = 0 := rfl; omega)) y9⟩
        conv => whnf
        exact je2If_lp hd hn hm hr hp hrb hnb hli hS0 hZ hb hT hl HO k (i + 1) _ _ f (by omega) (nI_1 i) hX hF h8 (Or.inl ⟨rfl, fun c1 => by
          have c6 := c5 c1
          have ne : ¬ i = b p := fun e9 => by
            rw [e9, tb_own hZ hb.1 hp] at c3
            exact c3 c1
          omega⟩)
    · have bn := S_n hZ c1
      have hcb : (nI (40 * p + b p)).toNatClampNeg = 40 * p + b p := nI_clamp (by omega)
      have ow : (f 208 (40 * p + b p)).toInt = S p (b p) := (hTf p hp (b p) bn).trans (tb_own hZ hb.1 hp)
      have sb := hS0 p (b p)
      refine ⟨fun _ => ?_, fun y9 => absurd (show (0 : Int32) ≤ nI (b p) from nI_le (a := 0) (by omega) (by omega)) y9⟩
      conv => whnf
      refine ⟨fun _ => ?_, fun y9 => absurd (show (0 : Int32) ≤ nI (b p) from nI_le (a := 0) (by omega) (by omega)) y9⟩
      conv => whnf
      simp only [nI_40m, nI_add]
      refine ⟨vp_in_nI (by omega) (by decide), ?_⟩
      conv => whnf
      simp only [hcb]
      refine smf_takeOut (n := n) (r := r) (p := p) (by omega) hX hr hn hp rb2 nb2 (Or.inr ⟨b p, by omega, rfl⟩) (fun f3 x3 k3 h3 => ?_)
      conv => whnf
      refine ⟨vp_in_nI (by omega) (by decide), ?_⟩
      conv => whnf
      simp only [hcp, (k3 207 p (by omega)).trans e207]
      refine ⟨vp_in_nI (by omega) (by decide), ?_⟩
      conv => whnf
      simp only [hcm]
      refine HO _ _ _ _ _ (nI_1 p) (by rw [i_sub (by omega) (by omega), ow, vl_s]; omega) (XI_ui x3 (show inr (-4) 39 _ from inr_j (by omega))) (fun a j h1 h2 => (m_ui_o (fun e => h1 e.1)).trans ((k3 a j (by omega)).trans (hF a j h2))) (fun s hs => (m_ui_o (fun e => hs e.2)).trans ((k3 204 s (by omega)).trans (hF 204 s (by omega)))) (by rw [m_ui_s, if_pos c1]) (fun k hk w hw => ?_)
      rw [m_ui_o (by omega), ← (tb_s (n := n)).1 c1 k w]
      exact tko_t hn bn hTf h3 k hk w hw
set_option maxRecDepth 100000 in
set_option maxHeartbeats 4000000 in
theorem je2f_lp {d L n v h m r e : Nat} {li b : Nat → Nat} {S : Nat → Nat → Int} {f1 : Nat → Nat → Int32} {g : Nat → Nat → Int64} {R : Option Value → mH → Prop} {y : Int32} (hd : 6 ≤ d) (hS : SCo f1 n v h m) (hr : r ≤ 8) (hrb : f1 181 34 = nI r) (hli : ∀ q, q < r → f1 207 q = nI (li q) ∧ li q < m) (hin : ∀ q s, q < r → s < r → li q = li s → q = s) (hSc : ∀ p, p < r → ∀ w, w < n → (scM f1 v h (li p) w).toInt = S p w) (hS0 : ∀ p w, 0 ≤ S p w ∧ S p w ≤ 136) (hZ : Z0 n S) (hb : Opt r n (wt n S) b) (hy : y.toInt = vl S b r)
    (H : ∀ f, XI f → (∀ a i, ¬ a = 204 → ¬ a = 205 → ¬ (208 ≤ a ∧ a ≤ 211) → f a i = f1 a i) → (∀ s, (∀ q, q < r → ¬ s = li q) → f 204 s = f1 204 s ∧ f 205 s = f1 205 s) → (∀ q, q < r → f 204 (li q) = if 0 < S q (b q) then nI (b q) else -4) → (∀ q, q < r → 0 < S q (b q) → ∀ y, Mst r n (S0 S q (b q)) y → f 205 (li q) = if y < vl S b r then 1 else 0) → R none (shF L, f, g)) :
    ∀ (k i : Nat) (x z : Int32) (s5 s6 : Option Value) (f : Nat → Nat → Int32), i + k = r → x = nI i → z.toInt = vl S b r - vl S b i → XI f → (∀ a j, ¬ a = 204 → ¬ (208 ≤ a ∧ a ≤ 211) → f a j = f1 a j) → (∀ s, (∀ q, q < r → ¬ s = li q) → f 204 s = f1 204 s) → (∀ q, q < i → f 204 (li q) = if 0 < S q (b q) then nI (b q) else -4) → TBL f r n (tb S b i) → WPe pg_X11_joinEvent none (Run mtab d) R (m_drop pg_X11_joinEvent 51) [some (.ref 181), some (.int (nI e)), some (.int y), some (.int z), some (.int x), s5, s6] [] (shF L, f, g)
  | 0, i, x, z, s5, s6, f, hi, hx, hz, hX, hF, hU, hR, hT => by
    have e9 : i = r := by omega
    subst hx
    subst e9
    have hrb2 : f 181 34 = nI i := (hF 181 34 (by omega) (by omega)).trans hrb
    have kJ : FJ f1 f := fun a j h1 h2 => hF a j (by omega) (by omega)
    refine at_X11_joinEvent ?_
    conv => whnf
    simp only [hrb2]
    refine ⟨fun _ => ?_, fun y9 => absurd (nI_le (Nat.le_refl _) (by omega)) y9⟩
    conv => whnf
    exact je3f_lp (f1 := f) hd (SCo_q kJ hS) hr hrb2 (fun q hq => ⟨(hF 207 q (by omega) (by omega)).trans (hli q hq).1, (hli q hq).2⟩) hin (fun p hp w hw => by rw [scM_q kJ]; exact hSc p hp w hw) hS0 hZ hb hR hy (fun f' x' k' u' r' => H f' x' (fun a j h1 h2 h3 => (k' a j h2 h3).trans (hF a j h1 h3)) (fun s hs => ⟨(k' 204 s (by omega) (by omega)).trans (hU s hs), (u' s hs).trans (hF 205 s (by omega) (by omega))⟩) (fun q hq => (k' 204 (li q) (by omega) (by omega)).trans (hR q hq)) r') i 0 _ _ _ f (by omega) rfl hX (fun _ _ _ _ => rfl) (fun _ _ => rfl) (fun q hq => absurd hq (Nat.not_lt_zero _))
  | k + 1, i, x, z, s5, s6, f, hi, hx, hz, hX, hF, hU, hR, hT => by
    subst hx
    obtain ⟨a1, a2, a3, a4, a5, _⟩ := id hS
    have hrb2 : f 181 34 = nI r := (hF 181 34 (by omega) (by omega)).trans hrb
    have hnb2 : f 181 0 = nI n := (hF 181 0 (by omega) (by omega)).trans a5
    refine at_X11_joinEvent ?_
    conv => whnf
    simp only [hrb2]
    refine ⟨fun y9 => absurd y9 (nI_ge (by omega) (by omega)), fun _ => ?_⟩
    conv => whnf
    exact je2If_lp (f2 := f) (p := i) (z := z) (by omega) a1 a2 hr (by omega) hrb2 hnb2 (fun q hq => ⟨(hF 207 q (by omega) (by omega)).trans (hli q hq).1, (hli q hq).2⟩) hS0 hZ hb hT hz (fun x' z' s5 s6 f' hx' hz' hX' hF' hU' h4' hT' => je2f_lp hd hS hr hrb hli hin hSc hS0 hZ hb hy H k (i + 1) x' z' s5 s6 f' (by omega) hx' hz' hX' (fun a j h1 h2 => (hF' a j h1 h2).trans (hF a j h1 h2)) (fun s hs => (hU' s (hs i (by omega))).trans (hU s hs)) (fun q hq => by
      by_cases e9 : q = i
      · rw [e9]
        exact h4'
      · rw [hU' (li q) (fun z9 => e9 (hin q i (by omega) (by omega) z9))]
        exact hR q (by omega)) hT') n 0 _ _ f (by omega) rfl hX (fun _ _ _ => rfl) (fun _ _ => rfl) (Or.inl ⟨rfl, fun _ => Nat.zero_le _⟩)
set_option maxRecDepth 100000 in
set_option maxHeartbeats 8000000 in
theorem je1f_lp {d L n v h m r e : Nat} {E : Nat → Int32} {li b : Nat → Nat} {S : Nat → Nat → Int} {f0 : Nat → Nat → Int32} {g : Nat → Nat → Int64} {R : Option Value → mH → Prop} (hd : 7 ≤ d) (he : e < 16) (hS : SCo f0 n v h m) (hE : E = fun k => f0 203 (9 * k + 1)) (hrr : r = gr E (nI e) m) (hll : li = gl E (nI e) m) (hSc : ∀ p, p < r → ∀ w, w < n → (scM f0 v h (li p) w).toInt = S p w) (hS0 : ∀ p w, 0 ≤ S p w ∧ S p w ≤ 136) (hZ : Z0 n S) (hb : Opt r n (wt n S) b) (H : ∀ f, XI f → FJ f0 f → (∀ s, ¬ s = e → f 206 s = f0 206 s) → (∀ s, (∀ q, q < r → ¬ s = li q) → f 204 s = f0 204 s ∧ f 205 s = f0 205 s) → JEv f e n r li S b → R none (shF L, f, g)) :
    ∀ (k i : Nat) (x : Int32) (s3 s4 s5 s6 : Option Value) (f : Nat → Nat → Int32), i + k = m → x = nI i → XI f → (∀ a j, ¬ a = 207 → ¬ (a = 181 ∧ j = 34) → f a j = f0 a j) → f 181 34 = nI (gr E (nI e) i) → (∀ q, q < gr E (nI e) i → f 207 q = nI (gl E (nI e) i q)) → WPe pg_X11_joinEvent none (Run mtab d) R (m_drop pg_X11_joinEvent 5) [some (.ref 181), some (.int (nI e)), some (.int x), s3, s4, s5, s6] [] (shF L, f, g)
  | 0, i, x, s3, s4, s5, s6, f, hi, hx, hX, hF, h34, h207 => by
    have e9 : i = m := by omega
    subst hx
    subst e9
    obtain ⟨a1, a2, a3, a4, a5, a6, _⟩ := id hS
    obtain ⟨gl1, gl2, _⟩ := gl_all (E := E) (e := nI e) i
    have hr8 := gr_le E (nI e) i
    have hmb2 : f 181 27 = nI i := (hF 181 27 (by omega) (by omega)).trans a6
    have hce : (nI e).toNatClampNeg = e := nI_clamp (by omega)
    rw [← hrr] at h34 h207 gl1 gl2 hr8
    rw [← hll] at h207 gl1 gl2
    have rb := h34
    have l207 := h207
    refine at_X11_joinEvent ?_
    conv => whnf
    simp only [hmb2]
    refine ⟨fun _ => ?_, fun y9 => absurd (nI_le (Nat.le_refl _) (by omega)) y9⟩
    conv => whnf
    have kJ : FJ f0 f := fun a j h1 h2 => hF a j (by omega) (by omega)
    have sc := SCo_q kJ hS
    have hnb2 : f 181 0 = nI n := (hF 181 0 (by omega) (by omega)).trans a5
    refine smf_fillTable (n := n) (v := v) (h := h) (m := i) (r := r) (li := li) (by omega) hX sc hr8 rb (fun q hq => ⟨l207 q hq, (gl1 q hq).1⟩) (fun f2 x2 k2 t2 => ?_)
    conv => whnf
    refine smf_greatest (r := r) (n := n) (T := S) (by omega) x2 hr8 a1 ((k2 181 34 (by omega)).trans rb) ((k2 181 0 (by omega)).trans hnb2) (fun p hp w hw => by rw [t2 p w hp hw, scM_q kJ]; exact hSc p hp w hw) hS0 hZ (fun v3 f3 x3 k3 m3 p3 => ?_)
    have ev : v3.toInt = vl S b r := Mst_un m3 (Opt_mst (wt_opt a1 hr8 hb))
    conv => whnf
    refine ⟨vp_in_nI (by omega) (by decide), ?_⟩
    conv => whnf
    simp only [hce]
    have kk : ∀ a j, ¬ (208 ≤ a ∧ a ≤ 211) → ¬ a = 206 → m_ui f3 206 e v3 a j = f a j := fun a j h1 h2 => (m_ui_o (fun z9 => h2 z9.1)).trans ((k3 a j (by omega) (by omega)).trans (k2 a j (by omega)))
    have kJ2 : FJ f0 (m_ui f3 206 e v3) := fun a j h1 h2 => (kk a j (by omega) (by omega)).trans (kJ a j h1 h2)
    refine je2f_lp (f1 := m_ui f3 206 e v3) (b := b) (S := S) (li := li) (by omega) (SCo_q kJ2 hS) hr8 ((kk 181 34 (by omega) (by omega)).trans rb) (fun q hq => ⟨(kk 207 q (by omega) (by omega)).trans (l207 q hq), (gl1 q hq).1⟩) (fun q s hq hs e9 => ?_) (fun p hp w hw => by rw [scM_q kJ2]; exact hSc p hp w hw) hS0 hZ hb ev (fun f4 x4 k4 u4 j4 j5 => ?_) r 0 _ _ _ _ _ (by omega) rfl (by rw [ev]; show _ = _ - (0 : Int); omega) (XI_ui x3 True.intro) (fun _ _ _ _ => rfl) (fun _ _ => rfl) (fun q hq => absurd hq (Nat.not_lt_zero _)) (fun p hp w hw => ?_)
    · rcases Nat.lt_trichotomy q s with z9 | z9 | z9
      · have := gl2 q s z9 hs
        omega
      · exact z9
      · have := gl2 s q z9 hq
        omega
    · refine H f4 x4 (fun a j h1 h2 => (k4 a j (by omega) (by omega) (by omega)).trans (kJ2 a j h1 h2)) (fun s hs => (k4 206 s (by omega) (by omega) (by omega)).trans ((m_ui_o (fun z9 => hs z9.2)).trans ((k3 206 s (by omega) (by omega)).trans ((k2 206 s (by omega)).trans (hF 206 s (by omega) (by omega)))))) (fun s hs => ?_) ⟨by rw [k4 206 e (by omega) (by omega) (by omega), m_ui_s]; exact ev, j4, j5⟩
      exact ⟨(u4 s hs).1.trans ((kk 204 s (by omega) (by omega)).trans (hF 204 s (by omega) (by omega))), (u4 s hs).2.trans ((kk 205 s (by omega) (by omega)).trans (hF 205 s (by omega) (by omega)))⟩
    · rw [tb_0, m_ui_o (by omega), k3 208 _ (by omega) (by omega), t2 p w hp hw, scM_q kJ]
      exact hSc p hp w hw
  | k + 1, i, x, s3, s4, s5, s6, f, hi, hx, hX, hF, h34, h207 => by
    subst hx
    obtain ⟨a1, a2, a3, a4, a5, a6, _⟩ := id hS
    have hmb2 : f 181 27 = nI m := (hF 181 27 (by omega) (by omega)).trans a6
    have hce : (nI e).toNatClampNeg = e := nI_clamp (by omega)
    have hg8 := gr_le E (nI e) i
    have hcg : (nI (gr E (nI e) i)).toNatClampNeg = gr E (nI e) i := nI_clamp (by omega)
    have hc9 : (nI (9 * i + 1)).toNatClampNeg = 9 * i + 1 := nI_clamp (by omega)
    have e203 : f 203 (9 * i + 1) = E i := by rw [hE]; exact hF 203 (9 * i + 1) (by omega) (by omega)
    refine at_X11_joinEvent ?_
    conv => whnf
    simp only [hmb2]
    refine ⟨fun y9 => absurd y9 (nI_ge (by omega) (by omega)), fun _ => ?_⟩
    conv => whnf
    simp only [h34]
    by_cases q8 : gr E (nI e) i = 8
    · obtain ⟨s1, s2⟩ := gr_stop q8 m (by omega)
      obtain ⟨gl1, gl2, _⟩ := gl_all (E := E) (e := nI e) m
      have hr8 := gr_le E (nI e) m
      have rb : f 181 34 = nI r := by rw [h34, hrr, s1, q8]
      have l207 : ∀ q, q < r → f 207 q = nI (li q) := fun q hq => by
        rw [hrr] at hq
        rw [hll, s2 q]
        exact h207 q (by omega)
      rw [← hrr] at gl1 gl2 hr8
      rw [← hll] at gl1 gl2
      refine ⟨fun _ => ?_, fun y9 => absurd (show (8 : Int32) ≤ nI (gr E (nI e) i) by rw [q8]; decide) y9⟩
      conv => whnf
      have kJ : FJ f0 f := fun a j h1 h2 => hF a j (by omega) (by omega)
      have sc := SCo_q kJ hS
      have hnb2 : f 181 0 = nI n := (hF 181 0 (by omega) (by omega)).trans a5
      refine smf_fillTable (n := n) (v := v) (h := h) (m := m) (r := r) (li := li) (by omega) hX sc hr8 rb (fun q hq => ⟨l207 q hq, (gl1 q hq).1⟩) (fun f2 x2 k2 t2 => ?_)
      conv => whnf
      refine smf_greatest (r := r) (n := n) (T := S) (by omega) x2 hr8 a1 ((k2 181 34 (by omega)).trans rb) ((k2 181 0 (by omega)).trans hnb2) (fun p hp w hw => by rw [t2 p w hp hw, scM_q kJ]; exact hSc p hp w hw) hS0 hZ (fun v3 f3 x3 k3 m3 p3 => ?_)
      have ev : v3.toInt = vl S b r := Mst_un m3 (Opt_mst (wt_opt a1 hr8 hb))
      conv => whnf
      refine ⟨vp_in_nI (by omega) (by decide), ?_⟩
      conv => whnf
      simp only [hce]
      have kk : ∀ a j, ¬ (208 ≤ a ∧ a ≤ 211) → ¬ a = 206 → m_ui f3 206 e v3 a j = f a j := fun a j h1 h2 => (m_ui_o (fun z9 => h2 z9.1)).trans ((k3 a j (by omega) (by omega)).trans (k2 a j (by omega)))
      have kJ2 : FJ f0 (m_ui f3 206 e v3) := fun a j h1 h2 => (kk a j (by omega) (by omega)).trans (kJ a j h1 h2)
      refine je2f_lp (f1 := m_ui f3 206 e v3) (b := b) (S := S) (li := li) (by omega) (SCo_q kJ2 hS) hr8 ((kk 181 34 (by omega) (by omega)).trans rb) (fun q hq => ⟨(kk 207 q (by omega) (by omega)).trans (l207 q hq), (gl1 q hq).1⟩) (fun q s hq hs e9 => ?_) (fun p hp w hw => by rw [scM_q kJ2]; exact hSc p hp w hw) hS0 hZ hb ev (fun f4 x4 k4 u4 j4 j5 => ?_) r 0 _ _ _ _ _ (by omega) rfl (by rw [ev]; show _ = _ - (0 : Int); omega) (XI_ui x3 True.intro) (fun _ _ _ _ => rfl) (fun _ _ => rfl) (fun q hq => absurd hq (Nat.not_lt_zero _)) (fun p hp w hw => ?_)
      · rcases Nat.lt_trichotomy q s with z9 | z9 | z9
        · have := gl2 q s z9 hs
          omega
        · exact z9
        · have := gl2 s q z9 hq
          omega
      · refine H f4 x4 (fun a j h1 h2 => (k4 a j (by omega) (by omega) (by omega)).trans (kJ2 a j h1 h2)) (fun s hs => (k4 206 s (by omega) (by omega) (by omega)).trans ((m_ui_o (fun z9 => hs z9.2)).trans ((k3 206 s (by omega) (by omega)).trans ((k2 206 s (by omega)).trans (hF 206 s (by omega) (by omega)))))) (fun s hs => ?_) ⟨by rw [k4 206 e (by omega) (by omega) (by omega), m_ui_s]; exact ev, j4, j5⟩
        exact ⟨(u4 s hs).1.trans ((kk 204 s (by omega) (by omega)).trans (hF 204 s (by omega) (by omega))), (u4 s hs).2.trans ((kk 205 s (by omega) (by omega)).trans (hF 205 s (by omega) (by omega)))⟩
      · rw [tb_0, m_ui_o (by omega), k3 208 _ (by omega) (by omega), t2 p w hp hw, scM_q kJ]
        exact hSc p hp w hw
    · refine ⟨fun y9 => absurd (show nI 8 ≤ nI (gr E (nI e) i) from y9) (nI_ge (by omega) (by decide)), fun _ => ?_⟩
      conv => whnf
      simp only [nI_9m, show nI (9 * i) + 1 = nI (9 * i + 1) from nI_1 (9 * i)]
      refine ⟨vp_in_nI (by omega) (by decide), ?_⟩
      conv => whnf
      simp only [hc9, e203]
      by_cases c1 : E i = nI e
      · have g1 := gr_y (E := E) (e := nI e) (m := i) (by omega) c1
        refine ⟨fun y9 => absurd c1 y9, fun _ => ?_⟩
        conv => whnf
        simp only [h34]
        refine ⟨vp_in_nI (by omega) (by decide), ?_⟩
        conv => whnf
        simp only [hcg, show m_ui f 207 (gr E (nI e) i) (nI i) 181 34 = nI (gr E (nI e) i) from (m_ui_o (by omega)).trans h34]
        refine je1f_lp hd he hS hE hrr hll hSc hS0 hZ hb H k (i + 1) _ _ _ _ _ _ (by omega) (nI_1 i) (XI_ui (XI_ui hX (show inr 0 49 _ from inr_n (m := 49) (by omega) rfl (by decide))) (show inr 0 8 _ from by rw [nI_1]; exact inr_n (m := 8) (by omega) rfl (by decide))) (fun a j h1 h2 => (m_ui_o h2).trans ((m_ui_o (fun z9 => h1 z9.1)).trans (hF a j h1 h2))) (by rw [m_ui_s, g1]; exact nI_1 _) (fun q hq => ?_)
        rw [m_ui_o (by omega)]
        by_cases e9 : q = gr E (nI e) i
        · rw [e9, m_ui_s, gl_y (by omega) c1 rfl]
        · rw [m_ui_o (by omega), h207 q (by omega), gl_n (fun z9 => e9 z9.2)]
      · have g1 := gr_n (E := E) (e := nI e) (m := i) (fun z9 => c1 z9.2)
        refine ⟨fun _ => ?_, fun y9 => absurd y9 c1⟩
        conv => whnf
        exact je1f_lp hd he hS hE hrr hll hSc hS0 hZ hb H k (i + 1) _ _ _ _ _ f (by omega) (nI_1 i) hX hF (by rw [g1]; exact h34) (fun q hq => by rw [gl_n (fun z9 => c1 z9.1.2)]; exact h207 q (by rw [g1] at hq; exact hq))
set_option maxRecDepth 100000 in
set_option maxHeartbeats 4000000 in
theorem smf_joinEvent {d L : Nat} {f : Nat → Nat → Int32} {g : Nat → Nat → Int64} {n v h m r e : Nat} {E : Nat → Int32} {li b : Nat → Nat} {S : Nat → Nat → Int} {R : Option Value → mH → Prop} (hd : 8 ≤ d) (hX : XI f) (he : e < 16) (hS : SCo f n v h m) (hE : E = fun k => f 203 (9 * k + 1)) (hrr : r = gr E (nI e) m) (hll : li = gl E (nI e) m) (hSc : ∀ p, p < r → ∀ w, w < n → (scM f v h (li p) w).toInt = S p w) (hS0 : ∀ p w, 0 ≤ S p w ∧ S p w ≤ 136) (hZ : Z0 n S) (hb : Opt r n (wt n S) b) (H : ∀ f', XI f' → FJ f f' → (∀ s, ¬ s = e → f' 206 s = f 206 s) → (∀ s, (∀ q, q < r → ¬ s = li q) → f' 204 s = f 204 s ∧ f' 205 s = f 205 s) → JEv f' e n r li S b → R none (shF L, f', g)) : Run mtab d 204 [.ref 181, .int (nI e)] (shF L, f, g) R := by
  obtain ⟨d, rfl⟩ : ∃ e, d = e + 1 := ⟨d - 1, by omega⟩
  refine go_X11_joinEvent rfl ?_
  conv => whnf
  exact je1f_lp (f0 := f) (by omega) he hS hE hrr hll hSc hS0 hZ hb H m 0 _ _ _ _ _ _ (by omega) rfl (XI_ui hX (show inr 0 8 0 by unfold inr; decide)) (fun a j h1 h2 => m_ui_o h2) m_ui_s (fun q hq => absurd hq (Nat.not_lt_zero _))
theorem m_alls_and {P r : List mI} {X Y : List mI → mL → List Value → mH → Prop} : ∀ q : List (Option Prop × mN), m_alls P r X q → m_alls P r Y q → m_alls P r (fun c ls st h => X c ls st h ∧ Y c ls st h) q
  | [], _, _ => True.intro
  | [(none, (none, ls, st, g))], h, k => ⟨h, k⟩
  | [(none, (some t, ls, st, g))], h, k => ⟨h, k⟩
  | [(some c, (none, ls, st, g))], h, k => fun x => ⟨h x, k x⟩
  | [(some c, (some t, ls, st, g))], h, k => fun x => ⟨h x, k x⟩
  | (some c, (none, ls, st, g)) :: a :: q, h, k => ⟨fun x => ⟨h.1 x, k.1 x⟩, m_alls_and (a :: q) h.2 k.2⟩
  | (some c, (some t, ls, st, g)) :: a :: q, h, k => ⟨fun x => ⟨h.1 x, k.1 x⟩, m_alls_and (a :: q) h.2 k.2⟩
  | (none, (none, ls, st, g)) :: a :: q, h, k => ⟨⟨h.1, k.1⟩, m_alls_and (a :: q) h.2 k.2⟩
  | (none, (some t, ls, st, g)) :: a :: q, h, k => ⟨⟨h.1, k.1⟩, m_alls_and (a :: q) h.2 k.2⟩
theorem m_popn_and {F G : List Value → List Value → Prop} : ∀ (n : Nat) (st acc : List Value), m_popn st n acc F → m_popn st n acc G → m_popn st n acc (fun a b => F a b ∧ G a b)
  | 0, st, acc, h, k => by
    cases st <;> exact ⟨h, k⟩
  | n + 1, [], acc, h, _ => h.elim
  | n + 1, v :: st, acc, h, k => m_popn_and n st (v :: acc) h k
theorem m_end_and {B : Option (Nat × Nat)} {h : mH} {p q : Prop} (H : m_end B h p) (K : m_end B h q) : m_end B h (p ∧ q) := by
  cases B with
  | none => exact ⟨H, K⟩
  | some b => exact ⟨H.1, H.2, K.2⟩
theorem m_call_and {B : Option (Nat × Nat)} {mc ms : Nat} {h : mH} {p q : Prop} (H : m_call B mc ms h p) (K : m_call B mc ms h q) : m_call B mc ms h (p ∧ q) := by
  cases B with
  | none =>
    cases mc with
    | zero => cases ms with
      | zero => exact ⟨H, K⟩
      | succ _ => exact H.elim
    | succ _ => exact H.elim
  | some b => exact ⟨H.1, H.2, K.2⟩
theorem m_psh_and {st : List Value} {v : Option Value} {F G : List Value → Prop} (H : m_psh st v F) (K : m_psh st v G) : m_psh st v (fun a => F a ∧ G a) := by
  cases v with
  | none => exact ⟨H, K⟩
  | some x => exact ⟨H, K⟩
def m_conj (call : mC) : Prop := ∀ y as h (R S : Option Value → mH → Prop), call y as h R → call y as h S → call y as h (fun v g => R v g ∧ S v g)
theorem m_inv_and {B : Option (Nat × Nat)} {call : mC} (hm : m_mono call) (hc : m_conj call) {an : List Nat} {r : List mI} {ls : mL} {st : List Value} {h : mH} {X Y : List mI → mL → List Value → mH → Prop} (H : m_inv B call an r ls st h X) (K : m_inv B call an r ls st h Y) : m_inv B call an r ls st h (fun c ls st h => X c ls st h ∧ Y c ls st h) := by
  match an, H, K with
  | [y, n, mc, ms], H, K =>
    refine m_popn_mono (fun as s z => ?_) _ _ _ (m_popn_and _ _ _ H K)
    revert z
    cases m_fit s 8 with
    | true => exact fun z => m_call_mono (fun w => hm _ _ _ _ _ (fun v g u => m_psh_and u.1 u.2) (hc _ _ _ _ _ w.1 w.2)) (m_call_and z.1 z.2)
    | false => exact fun z => z.1
  | [], H, _ => exact H.elim
  | [_], H, _ => exact H.elim
  | [_, _], H, _ => exact H.elim
  | [_, _, _], H, _ => exact H.elim
  | _ :: _ :: _ :: _ :: _ :: _, H, _ => exact H.elim
def m_dfl (P : List mI) (X : List mI → mL → List Value → mH → Prop) (r : List mI) (a : mA) : Prop := match a with
  | some (none, q) => m_alls P r X q
  | some (some p, q) => p ∧ m_alls P r X q
  | none => False
theorem m_dfl_and {P : List mI} {X Y : List mI → mL → List Value → mH → Prop} {r : List mI} {a : mA} (H : m_dfl P X r a) (K : m_dfl P Y r a) : m_dfl P (fun c ls st h => X c ls st h ∧ Y c ls st h) r a := by
  cases a with
  | none => exact H.elim
  | some a =>
    obtain ⟨o, q⟩ := a
    cases o with
    | none => exact m_alls_and q H K
    | some p => exact ⟨H.1, m_alls_and q H.2 K.2⟩
def m_irt (B : Option (Nat × Nat)) (Q : Option Value → mH → Prop) (an : List Nat) (st : List Value) (h : mH) : Prop := match st, an with
  | [.int x], [] => m_end B h (Q (some (.int x)) h)
  | [.int x], _ => (x = 0 ∨ x = 1) ∧ m_end B h (Q (some (.int x)) h)
  | _, _ => False
theorem m_irt_and {B : Option (Nat × Nat)} {Q Q' : Option Value → mH → Prop} {an : List Nat} {st : List Value} {h : mH} (H : m_irt B Q an st h) (K : m_irt B Q' an st h) : m_irt B (fun v g => Q v g ∧ Q' v g) an st h := by
  cases st with
  | nil => exact H.elim
  | cons a t => cases t with
    | nil => cases an with
      | nil => cases a <;> first | exact m_end_and H K | exact H.elim
      | cons b u => cases a <;> first | exact ⟨H.1, m_end_and H.2 K.2⟩ | exact H.elim
    | cons b u => cases a <;> exact H.elim
def m_lrt (B : Option (Nat × Nat)) (Q : Option Value → mH → Prop) (st : List Value) (h : mH) : Prop := match st with | [.long x] => m_end B h (Q (some (.long x)) h) | _ => False
theorem m_lrt_and {B : Option (Nat × Nat)} {Q Q' : Option Value → mH → Prop} {st : List Value} {h : mH} (H : m_lrt B Q st h) (K : m_lrt B Q' st h) : m_lrt B (fun v g => Q v g ∧ Q' v g) st h := by
  cases st with
  | nil => exact H.elim
  | cons a t => cases t with
    | nil => cases a <;> first | exact m_end_and H K | exact H.elim
    | cons b u => cases a <;> exact H.elim
def m_vrt (B : Option (Nat × Nat)) (Q : Option Value → mH → Prop) (st : List Value) (h : mH) : Prop := match st with | [] => m_end B h (Q none h) | _ => False
theorem m_vrt_and {B : Option (Nat × Nat)} {Q Q' : Option Value → mH → Prop} {st : List Value} {h : mH} (H : m_vrt B Q st h) (K : m_vrt B Q' st h) : m_vrt B (fun v g => Q v g ∧ Q' v g) st h := by
  cases st with
  | nil => exact m_end_and H K
  | cons a t => exact H.elim
set_option maxHeartbeats 8000000 in
theorem m_stp_and {P : List mI} {B : Option (Nat × Nat)} {call : mC} (hm : m_mono call) (hc : m_conj call) {Q Q' : Option Value → mH → Prop} {X Y : List mI → mL → List Value → mH → Prop} {c : List mI} {ls : mL} {st : List Value} {h : mH} (H : m_stp P B call Q X c ls st h) (K : m_stp P B call Q' Y c ls st h) : m_stp P B call (fun v g => Q v g ∧ Q' v g) (fun c ls st h => X c ls st h ∧ Y c ls st h) c ls st h := by
  cases c with
  | nil => exact H
  | cons e r =>
    unfold m_stp at H K ⊢
    dsimp only at H K ⊢
    generalize e.2.2.2.1 = ins at H K ⊢
    cases ins <;> first
      | exact m_dfl_and (P := P) (X := X) (Y := Y) (r := r) (a := m_act B e ls st h) H K
      | exact m_inv_and hm hc (X := X) (Y := Y) H K
      | exact m_irt_and (Q := Q) (Q' := Q') (an := e.2.2.2.2.2.1) H K
      | exact m_lrt_and (Q := Q) (Q' := Q') H K
      | exact m_vrt_and (Q := Q) (Q' := Q') H K
theorem WPe_inv {P : List mI} {B : Option (Nat × Nat)} {call : mC} (hm : m_mono call) {Q : Option Value → mH → Prop} {c : List mI} {ls : mL} {st : List Value} {h : mH} (H : WPe P B call Q c ls st h) : m_stp P B call Q (WPe P B call Q) c ls st h :=
  H (fun c ls st h => m_stp P B call Q (WPe P B call Q) c ls st h) (fun _ _ _ _ w => m_stp_mono hm (fun _ _ q => q) (fun _ _ _ _ z => WPe.step hm z) w)
theorem WPe_and {P : List mI} {B : Option (Nat × Nat)} {call : mC} (hm : m_mono call) (hc : m_conj call) {Q Q' : Option Value → mH → Prop} {c : List mI} {ls : mL} {st : List Value} {h : mH} (H : WPe P B call Q c ls st h) : WPe P B call Q' c ls st h → WPe P B call (fun v g => Q v g ∧ Q' v g) c ls st h :=
  H (fun c ls st h => WPe P B call Q' c ls st h → WPe P B call (fun v g => Q v g ∧ Q' v g) c ls st h) (fun _ _ _ _ w K => WPe.step hm (m_stp_mono hm (fun _ _ q => q) (fun _ _ _ _ z => z.1 z.2) (m_stp_and hm hc w (WPe_inv hm K))))
theorem m_ent_out {M : mM} {as : List Value} {h : mH} {p : Prop} (H : m_ent M as h p) : p := by
  unfold m_ent at H
  split at H
  · split at H
    · exact H
    · split at H
      · split at H
        · split at H
          · exact H
          · exact H.elim
        · exact H.elim
      · exact H.elim
  · exact H.elim
theorem m_prim_and {y : Nat} {as : List Value} {h : mH} {R S : Option Value → mH → Prop} (H : m_prim y as h R) (K : m_prim y as h S) : m_prim y as h (fun v g => R v g ∧ S v g) := by
  unfold m_prim at H K ⊢
  split at H
  · exact ⟨H, K⟩
  · split at H
    · rename_i e1 e2
      simp only [e1, e2] at K ⊢
      split at H
      · rename_i e3
        simp only [e3] at K ⊢
        exact ⟨H.1, H.2, K.2⟩
      · exact H.elim
    · exact H.elim
  · exact ⟨H, K⟩
  · exact ⟨H, K⟩
  · exact H.elim
theorem Run_and (tab : List mM) : ∀ d, m_conj (Run tab d)
  | 0 => fun _ _ _ _ _ H _ => H.elim
  | d + 1 => by
    intro y as h R S H K
    have ih := Run_and tab d
    have im := Run_mono tab d
    match y, H, K with
    | k + 6, H, K =>
      revert H K
      show (match m_nth tab k with | some M => m_ent M as h (WPe M.2.2.2.2.2.2.2.2 (m_bud M h) (Run tab d) R M.2.2.2.2.2.2.2.2 (m_init M.2.2.1 as) [] h) | none => False) → (match m_nth tab k with | some M => m_ent M as h (WPe M.2.2.2.2.2.2.2.2 (m_bud M h) (Run tab d) S M.2.2.2.2.2.2.2.2 (m_init M.2.2.1 as) [] h) | none => False) → (match m_nth tab k with | some M => m_ent M as h (WPe M.2.2.2.2.2.2.2.2 (m_bud M h) (Run tab d) (fun v g => R v g ∧ S v g) M.2.2.2.2.2.2.2.2 (m_init M.2.2.1 as) [] h) | none => False)
      generalize m_nth tab k = o
      cases o with
      | none => exact fun H _ => H
      | some M => exact fun H K => m_ent_mono (fun w => WPe_and im ih w (m_ent_out K)) H
    | 0, H, K => exact m_prim_and (y := 0) H K
    | 1, H, K => exact m_prim_and (y := 1) H K
    | 2, H, K =>
      obtain ⟨x, rfl, h1, h2⟩ := m_ixc_spec H
      exact ⟨h1, h2, K.2⟩
    | 3, H, K => exact m_prim_and (y := 3) H K
    | 4, H, K => exact m_prim_and (y := 4) H K
    | 5, H, K => exact (show False from H).elim
/-- two contracts of a run -/
theorem Run_2 {tab : List mM} {d y : Nat} {as : List Value} {h : mH} {A B R : Option Value → mH → Prop} (H : Run tab d y as h A) (K : Run tab d y as h B) (hR : ∀ v g, A v g → B v g → R v g) : Run tab d y as h R := Run_mono tab d _ _ _ _ _ (fun v g z => hR v g z.1 z.2) (Run_and tab d _ _ _ _ _ H K)
/-- behind a run: the ints of the heap keep P -/
def hasP (L : Nat) (P : (Nat → Nat → Int32) → Prop) : Option Value → mH → Prop := fun _ h => ∃ f g, h = (shF L, f, g) ∧ P f
theorem gr_congr {E E' : Nat → Int32} {e : Int32} : ∀ m, (∀ k, k < m → E k = E' k) → gr E e m = gr E' e m ∧ ∀ i, gl E e m i = gl E' e m i
  | 0, _ => ⟨rfl, fun _ => rfl⟩
  | m + 1, h => by
    obtain ⟨a1, a2⟩ := gr_congr (e := e) m (fun k hk => h k (by omega))
    have a3 := h m (by omega)
    refine ⟨?_, fun i => ?_⟩
    · show (if gr E e m < 8 ∧ E m = e then gr E e m + 1 else gr E e m) = (if gr E' e m < 8 ∧ E' m = e then gr E' e m + 1 else gr E' e m)
      rw [a1, a3]
    · show (if (gr E e m < 8 ∧ E m = e) ∧ i = gr E e m then m else gl E e m i) = (if (gr E' e m < 8 ∧ E' m = e) ∧ i = gr E' e m then m else gl E' e m i)
      rw [a1, a2 i, a3]
theorem scC_b {f : Nat → Nat → Int32} {h j w : Nat} (hO : RO h f) (hb : inr 0 1073741823 (f 147 j)) : 0 ≤ (scC f h j w).toInt ∧ (scC f h j w).toInt ≤ 136 := by
  have hx := and_30 (y := titC f w (f 96 w).toNatClampNeg (f 142 j)) hb
  obtain ⟨q, hq, e⟩ := inr_nat (n := 1073741823) rfl hx
  unfold scC
  rw [bc_30 hx, ← scw_eq (own_r2 hO _), e]
  exact scw_b (popf_le 32 q) (onE_pop (by omega))
/-- what the class's joins want -/
def JH (f : Nat → Nat → Int32) (n h m : Nat) : Prop := n ≤ 40 ∧ f 6 13 = nI n ∧ m ≤ 50 ∧ f 139 13 = nI m ∧ (∀ j, j < m → RN f j) ∧ (∀ j, j < m → ∀ v, v < n → SZ1 f v (f 142 j)) ∧ (∀ w, w < n → ∃ q, 1 ≤ q ∧ q ≤ 4 ∧ f 96 w = nI q) ∧ f 100 6 = nI h ∧ h ≤ 60 ∧ ∀ j w, j < m → w < n → 0 ≤ (scC f h j w).toInt ∧ (scC f h j w).toInt ≤ 136
theorem JH_of {f f1 : Nat → Nat → Int32} {n c v h m : Nat} (hW : RW n f) (hO : RO h f) (hMm : RM m f) (hSz : SZ n f) (r1 : rkY f f1 n c v) : JH f1 n h m := by
  have k1 := kp_rkY r1
  have fr1 : ∀ a i, (a < 127 ∨ 137 < a) → f1 a i = f a i := fun a i z => r1.2.1 a i (by omega) (by omega) (by omega) (by omega) (by omega) (by omega) (by omega)
  have hW1 : RW n f1 := RW_kp k1 rfl rfl hW
  have hM1 : RM m f1 := RM_kp k1 rfl rfl hMm
  have hO1 : RO h f1 := RO_kp k1 rfl rfl hO
  have hS1 : SZ n f1 := SZ_q (fun a i z => fr1 a i (by omega)) hSz
  refine ⟨hW1.1, hW1.2.1, hM1.1, hM1.2.1, hM1.2.2.2, fun j hj w hw => ?_, RW_T hW1, hO1.2.1, hO1.1, fun j w hj _ => scC_b hO1 (hM1.2.2.2 j hj).2.2.2.2.2.2.2.2.2.1.2.2.2.1⟩
  obtain ⟨e1, e2⟩ := hC_hM (w := w) (y := f1 142 j) hW1 hw (hM1.2.2.2 j hj).2.2.2.2.2.2.2.2.2.1.1.2.2
  unfold SZ1
  rw [e1, e2]
  exact hM_in hS1 hw
theorem JH_q {f f' : Nat → Nat → Int32} {n h m : Nat} (k : fx 149 168 f f') (s : JH f n h m) : JH f' n h m := by
  obtain ⟨a1, a2, a3, a4, a5, a6, a7, a8, a9, a10⟩ := s
  refine ⟨a1, (k 6 13 (by omega)).trans a2, a3, (k 139 13 (by omega)).trans a4, fun j hj => RN_q k (a5 j hj), fun j hj v hv => ?_, fun w hw => ?_, (k 100 6 (by omega)).trans a8, a9, fun j w hj hw => ?_⟩
  · rw [k 142 j (by omega)]
    exact SZ1_q (fun a i ha => k a i (Or.inl ha)) (a6 j hj v hv)
  · obtain ⟨q, h1, h2, h3⟩ := a7 w hw
    exact ⟨q, h1, h2, (k 96 w (by omega)).trans h3⟩
  · rw [scC_fx (by omega) (fun a i ha => k a i (Or.inl ha))]
    exact a10 j w hj hw
/-- the class's scores of an event -/
noncomputable def Scv (f : Nat → Nat → Int32) (n h m e : Nat) : Nat → Nat → Int := fun p w => if p < gr (f 141) (nI e) m ∧ w < n then (scC f h (gl (f 141) (nI e) m p) w).toInt else 0
theorem Scv_b {f : Nat → Nat → Int32} {n h m e : Nat} (s : JH f n h m) : ∀ p w, 0 ≤ Scv f n h m e p w ∧ Scv f n h m e p w ≤ 136 := fun p w => by
  unfold Scv
  by_cases q : p < gr (f 141) (nI e) m ∧ w < n
  · rw [if_pos q]
    obtain ⟨gl1, _, _⟩ := gl_all (E := f 141) (e := nI e) m
    exact s.2.2.2.2.2.2.2.2.2 _ w (gl1 p q.1).1 q.2
  · rw [if_neg q]
    omega
theorem Scv_Z {f : Nat → Nat → Int32} {n h m e : Nat} : Z0 n (Scv f n h m e) := fun p w hw => by
  unfold Scv
  rw [if_neg (fun z => absurd z.2 (by omega))]
theorem Scv_q {f f' : Nat → Nat → Int32} {n h m e : Nat} (hn : n ≤ 40) (k : fx 149 168 f f') : Scv f' n h m e = Scv f n h m e := funext (fun p => funext (fun w => by
  have e141 : f' 141 = f 141 := funext (fun i => k 141 i (by omega))
  unfold Scv
  rw [e141]
  by_cases q : p < gr (f 141) (nI e) m ∧ w < n
  · rw [if_pos q, if_pos q, scC_fx (by have := q.2; omega) (fun a i ha => k a i (Or.inl ha))]
  · rw [if_neg q, if_neg q]))
theorem sf_jn {d L n h m e : Nat} {f : Nat → Nat → Int32} {g : Nat → Nat → Int64} {R : Option Value → mH → Prop} (hd : 8 ≤ d) (hX : XI f) (s : JH f n h m) (H : ∀ f' g' b, XI f' → fx 149 168 f f' → JS f' g' n (gr (f 141) (nI e) m) (gl (f 141) (nI e) m) (Scv f n h m e) b → R none (shF L, f', g')) : Run mtab d 19 [.ref 149, .int (nI e)] (shF L, f, g) R := by
  obtain ⟨a1, a2, a3, a4, a5, a6, a7, a8, a9, a10⟩ := id s
  exact sf_join (n := n) (h := h) (m := m) (S := Scv f n h m e) hd hX a1 a2 a3 a4 a5 a6 a7 a8 a9 (fun p hp w hw => by unfold Scv; rw [if_pos ⟨hp, hw⟩]) (Scv_b s) Scv_Z H
/-! the model's side -/
def evE (f : Nat → Nat → Int32) : Nat → Int32 := fun k => f 203 (9 * k + 1)
noncomputable def Sev (f : Nat → Nat → Int32) (n v h m e : Nat) : Nat → Nat → Int := fun p w => if p < gr (evE f) (nI e) m ∧ w < n then (scM f v h (gl (evE f) (nI e) m p) w).toInt else 0
theorem Sev_b {f : Nat → Nat → Int32} {n v h m e : Nat} (s : SCo f n v h m) : ∀ p w, 0 ≤ Sev f n v h m e p w ∧ Sev f n v h m e p w ≤ 136 := fun p w => by
  unfold Sev
  by_cases q : p < gr (evE f) (nI e) m ∧ w < n
  · rw [if_pos q]
    obtain ⟨gl1, _, _⟩ := gl_all (E := evE f) (e := nI e) m
    exact scM_b (s.2.2.2.2.2.2.2.2.2.2 _ (gl1 p q.1).1).2.2.2
  · rw [if_neg q]
    omega
theorem Sev_Z {f : Nat → Nat → Int32} {n v h m e : Nat} : Z0 n (Sev f n v h m e) := fun p w hw => by
  unfold Sev
  rw [if_neg (fun z => absurd z.2 (by omega))]
theorem Sev_q {f f' : Nat → Nat → Int32} {n v h m e : Nat} (h203 : ∀ i, f' 203 i = f 203 i) (hs : ∀ j w, w < n → scM f' v h j w = scM f v h j w) : evE f' = evE f ∧ Sev f' n v h m e = Sev f n v h m e := by
  have e1 : evE f' = evE f := funext (fun k => h203 _)
  refine ⟨e1, funext (fun p => funext (fun w => ?_))⟩
  unfold Sev
  rw [e1]
  by_cases q : p < gr (evE f) (nI e) m ∧ w < n
  · rw [if_pos q, if_pos q, hs _ w q.2]
  · rw [if_neg q, if_neg q]
/-- all events are joined -/
def JA (f : Nat → Nat → Int32) (n v h m : Nat) : Prop :=
  (∀ e, e < 16 → ∀ b, Opt (gr (evE f) (nI e) m) n (wt n (Sev f n v h m e)) b → JEv f e n (gr (evE f) (nI e) m) (gl (evE f) (nI e) m) (Sev f n v h m e) b) ∧
  ∀ s, s < m → (∀ e, e < 16 → ∀ q, q < gr (evE f) (nI e) m → ¬ s = gl (evE f) (nI e) m q) → f 204 s = -4 ∧ f 205 s = 0
theorem JEv_q {f f' : Nat → Nat → Int32} {e n r : Nat} {li b : Nat → Nat} {S : Nat → Nat → Int} (hc : ∀ a i, (a = 204 ∨ a = 205 ∨ a = 206) → f' a i = f a i) (j : JEv f e n r li S b) : JEv f' e n r li S b := by
  obtain ⟨j1, j2, j3⟩ := j
  refine ⟨by rw [hc 206 e (by omega)]; exact j1, fun q hq => by rw [hc 204 _ (by omega)]; exact j2 q hq, fun q hq c1 y hy => by rw [hc 205 _ (by omega)]; exact j3 q hq c1 y hy⟩
theorem JA_q {f f' : Nat → Nat → Int32} {n v h m : Nat} (h203 : ∀ i, f' 203 i = f 203 i) (hs : ∀ j w, w < n → scM f' v h j w = scM f v h j w) (hc : ∀ a i, (a = 204 ∨ a = 205 ∨ a = 206) → f' a i = f a i) (j : JA f n v h m) : JA f' n v h m := by
  refine ⟨fun e he b hb => ?_, fun s hs1 hs2 => ?_⟩
  · obtain ⟨e1, e2⟩ := Sev_q (e := e) (m := m) h203 hs
    rw [e1, e2] at hb ⊢
    exact JEv_q hc (j.1 e he b hb)
  · have e1 : evE f' = evE f := funext (fun k => h203 _)
    rw [e1] at hs2
    rw [hc 204 s (by omega), hc 205 s (by omega)]
    exact j.2 s hs1 hs2
theorem scM_w {f f' : Nat → Nat → Int32} {v h m w : Nat} (k : ∀ a i, (a = 185 ∨ a = 186 ∨ (189 ≤ a ∧ a ≤ 195) ∨ a = 203 ∨ a = 218) → f' a i = f a i) (k0 : f' 200 w = f 200 w) : scM f' v h m w = scM f v h m w := by
  have k' : ∀ a, (a = 185 ∨ a = 186 ∨ (189 ≤ a ∧ a ≤ 195) ∨ a = 203 ∨ a = 218) → f' a = f a := fun a h1 => funext (fun i => k a i h1)
  have eP : ∀ y, PM f' 3 4 (nI w) y = PM f 3 4 (nI w) y := fun y => funext (fun i => by
    unfold PM
    rw [k' 195 (by omega)])
  have eS := smp_kp (f := f) (f1 := f') (fun i => k 218 i (by omega)) 9999 (nI w) v
  unfold scM SFM hM wM titM
  rw [eS, eP, k0, k' 203 (by omega), k' 192 (by omega), k' 193 (by omega), k' 194 (by omega), k' 185 (by omega), k' 186 (by omega), k' 189 (by omega), k' 190 (by omega), k' 191 (by omega), k' 195 (by omega)]
theorem scM_g {f f' : Nat → Nat → Int32} {v h m w : Nat} (k : ∀ a i, (a = 185 ∨ a = 186 ∨ (189 ≤ a ∧ a ≤ 195) ∨ a = 200 ∨ a = 203 ∨ a = 218) → f' a i = f a i) : scM f' v h m w = scM f v h m w := scM_w (fun a i q => k a i (by omega)) (k 200 w (by omega))
theorem SCo_g {f f' : Nat → Nat → Int32} {n v h m : Nat} (k : ∀ a i, (a = 185 ∨ a = 186 ∨ (191 ≤ a ∧ a ≤ 194) ∨ a = 203) → f' a i = f a i) (k1 : ∀ i, (i = 0 ∨ i = 27 ∨ i = 48 ∨ i = 14) → f' 181 i = f 181 i) (s : SCo f n v h m) : SCo f' n v h m := by
  obtain ⟨a1, a2, a3, a4, a5, a6, a7, a8, a9, a10, a11⟩ := s
  refine ⟨a1, a2, a3, a4, (k1 0 (by omega)).trans a5, (k1 27 (by omega)).trans a6, (k1 48 (by omega)).trans a7, (k1 14 (by omega)).trans a8, SZ_q (fun a i q => k a i (by omega)) a9, fun w hw => ?_, fun j hj => ?_⟩
  · obtain ⟨q, h1, h2, h3⟩ := a10 w hw
    exact ⟨q, h1, h2, (k 191 w (by omega)).trans h3⟩
  · have k3 : f' 203 = f 203 := funext (fun i => k 203 i (by omega))
    rw [k3]
    exact a11 j hj
theorem SCo_o6 {f f' : Nat → Nat → Int32} {n v h m : Nat} (o : o6 f f') (s : SCo f n v h m) : SCo f' n v h m := SCo_g (fun a i q => o a i (by omega) (by omega) (by omega) (by omega) (by omega) (by omega)) (fun i q => o 181 i (by omega) (by omega) (by omega) (by omega) (by omega) (by omega)) s
/-- the model's scores may be asked -/
theorem SCo_of {f : Nat → Nat → Int32} {n v h m : Nat} (hW : RW n f) (hV : f 181 48 = nI v) (hv : v ≤ 60) (hO : RO h f) (hMm : RM m f) (hSz : SZ n f) : SCo f n v h m := by
  refine ⟨hW.1, hMm.1, hv, hO.1, hW.2.2.1, hMm.2.2.1, hV, hO.2.2.1, hSz, RW_M hW, fun j hj => ?_⟩
  obtain ⟨b0, b1, b2, b3, b4, b5, b6, b7, b8, bm, bf⟩ := hMm.2.2.2 j hj
  rw [← b5, ← b6, ← b3, ← b4, ← b7]
  exact ⟨c01 bm.2.2.1, bf, bm.2.1, bm.2.2.2.1⟩
/-- what the model keeps of the joins is right -/
def MJ (f : Nat → Nat → Int32) : Prop := ∀ n v h m, SCo f n v h m → ¬ f 181 29 = 0 → ¬ f 181 39 = 0 → JA f n v h m
def okJn (l : List Nat) : Bool := !hasN l 11 && (!hasN l 12 && (!hasN l 14 && (!hasN l 16 && (!hasN l 22 && !hasN l 23))))
theorem okJn_of {l : List Nat} (h : okJn l = true) : hasN l 11 = false ∧ hasN l 12 = false ∧ hasN l 14 = false ∧ hasN l 16 = false ∧ hasN l 22 = false ∧ hasN l 23 = false := by
  unfold okJn at h
  simp only [Bool.and_eq_true, Bool.not_eq_true'] at h
  exact h
theorem MJ_0 {f f1 : Nat → Nat → Int32} (h : MJ f) (z : f1 = f ∨ f1 181 29 = 0 ∨ f1 181 39 = 0) : MJ f1 := by
  rcases z with rfl | z | z
  · exact h
  · exact fun _ _ _ _ _ y _ => absurd z y
  · exact fun _ _ _ _ _ _ y => absurd z y
theorem MJ_q {f f' : Nat → Nat → Int32} (k : ∀ a i, (a = 185 ∨ a = 186 ∨ (189 ≤ a ∧ a ≤ 195) ∨ a = 200 ∨ (203 ≤ a ∧ a ≤ 206) ∨ a = 218) → f' a i = f a i) (k1 : ∀ i, (i = 0 ∨ i = 27 ∨ i = 48 ∨ i = 14 ∨ i = 29 ∨ i = 39) → f' 181 i = f 181 i) (h : MJ f) : MJ f' := fun n v hh m s z1 z2 => by
  rw [k1 29 (by omega)] at z1
  rw [k1 39 (by omega)] at z2
  exact JA_q (fun i => k 203 i (by omega)) (fun j w _ => scM_g (fun a i q => k a i (by omega))) (fun a i q => k a i (by omega)) (h n v hh m (SCo_g (fun a i q => (k a i (by omega)).symm) (fun i q => (k1 i (by omega)).symm) s) z1 z2)
theorem MJ_kp {l : List Nat} {f f' : Nat → Nat → Int32} (k : kp l f f') (hl : okJn l = true) (h : MJ f) : MJ f' := by
  obtain ⟨h11, h12, h14, h16, h22, h23⟩ := okJn_of hl
  refine MJ_q (fun a i q => ?_) (fun i q => ?_) h
  · have e : a = 185 ∨ a = 186 ∨ a = 189 ∨ a = 190 ∨ a = 191 ∨ a = 192 ∨ a = 193 ∨ a = 194 ∨ a = 195 ∨ a = 200 ∨ a = 203 ∨ a = 204 ∨ a = 205 ∨ a = 206 ∨ a = 218 := by omega
    rcases e with rfl | rfl | rfl | rfl | rfl | rfl | rfl | rfl | rfl | rfl | rfl | rfl | rfl | rfl | rfl
    · exact k 185 i (by exact h11)
    · exact k 186 i (by exact h11)
    · exact k 189 i (by exact h11)
    · exact k 190 i (by exact h11)
    · exact k 191 i (by exact h11)
    · exact k 192 i (by exact h11)
    · exact k 193 i (by exact h11)
    · exact k 194 i (by exact h11)
    · exact k 195 i (by exact h12)
    · exact k 200 i (by exact h22)
    · exact k 203 i (by exact h16)
    · exact k 204 i (by exact h23)
    · exact k 205 i (by exact h23)
    · exact k 206 i (by exact h23)
    · exact k 218 i (by exact h14)
  · rcases q with rfl | rfl | rfl | rfl | rfl | rfl
    · exact k 181 0 (by exact h11)
    · exact k 181 27 (by exact h16)
    · exact k 181 48 (by exact h14)
    · exact k 181 14 (by exact h12)
    · exact k 181 29 (by exact h22)
    · exact k 181 39 (by exact h23)
set_option maxRecDepth 100000 in
set_option maxHeartbeats 8000000 in
theorem smj_findYears {d L n c v : Nat} {f : Nat → Nat → Int32} {g : Nat → Nat → Int64} {R : Option Value → mH → Prop} (hd : 3 ≤ d) (hC : CM f n c) (hvb : f 181 48 = nI v) (hv : v ≤ 60) (H : ∀ f', o6 f f' → f' 181 29 = f 181 29 ∧ f' 181 39 = f 181 39 → YC f' n c v → R none (shF L, f', g)) : Run mtab d 181 [.ref 181] (shF L, f, g) R := by
  obtain ⟨d, rfl⟩ : ∃ e, d = e + 1 := ⟨d - 1, by omega⟩
  refine go_X11_findYears rfl ?_
  conv => whnf
  have hn := hC.1
  have hc := hC.2.1
  refine smf_findCounting (c := c) (v := v) (by omega) hC.2.2.2.1 hc hvb hv ?_
  conv => whnf
  have e21 : m_ui f 181 21 (mayl (PMc f v) (fun m => nI m) c 0 0) 181 21 = (mayl (PMc f v) (fun m => nI m) c 0 0) := m_ui_s
  (try simp only [e21])
  have oa : o6 f (m_ui f 181 21 (mayl (PMc f v) (fun m => nI m) c 0 0)) := fun a i h1 h2 h3 h4 h5 h6 => m_ui_o h3
  have hCa := CM_o oa hC
  have sS : ∀ X, Sol c (mA_ (mayl (PMc f v) (fun m => nI m) c 0 0)) (mU_ (m_ui f 181 21 (mayl (PMc f v) (fun m => nI m) c 0 0))) (mV_ (m_ui f 181 21 (mayl (PMc f v) (fun m => nI m) c 0 0))) (mD_ (m_ui f 181 21 (mayl (PMc f v) (fun m => nI m) c 0 0))) X ↔ SMc f v c X := fun X => sol_SM hc oa X
  have y187 : Yh (m_ui f 181 21 (mayl (PMc f v) (fun m => nI m) c 0 0)) 187 n = Yh f 187 n := Yh_eq (fun w hw => oa 187 w (by omega) (by omega) (by omega) (by omega) (by omega) (by omega))
  have y188 : Yh (m_ui f 181 21 (mayl (PMc f v) (fun m => nI m) c 0 0)) 188 n = Yh f 188 n := Yh_eq (fun w hw => oa 188 w (by omega) (by omega) (by omega) (by omega) (by omega) (by omega))
  refine smf_findLeast (n := n) (c := c) (bits := (mayl (PMc f v) (fun m => nI m) c 0 0)) (by omega) hCa (fun nf f1 h1 => ?_) (fun f1 h1 r1 L1 => ?_)
  · have fe : ¬ FEa (SMc f v c) f 187 188 n := fun ⟨X, x1, x2, x3⟩ => nf ⟨X, (sS X).mpr x1, by rw [y187]; exact x2, by rw [y188]; exact x3⟩
    have g1 : ∀ a i, ¬ a = 200 → ¬ (a = 181 ∧ i = 21) → ¬ (a = 181 ∧ i = 24) → m_ui f1 181 24 1 a i = f a i := fun a i h2 h3 h4 => ((m_ui_o h4).trans (h1 a i h2)).trans (m_ui_o h3)
    have e24 : m_ui f1 181 24 1 181 24 = 1 := m_ui_s
    conv => whnf
    (refine ⟨fun z9 => ?_, fun z9 => ?_⟩ <;> first | ((have c9 : (1 : Int32) = 0 := by with_reducible exact z9); exact absurd c9 (by decide)) | exact absurd (rfl : (0 : Int32) = 0) (by with_reducible exact z9) | exact absurd True.intro (by with_reducible exact z9) | exact False.elim (by with_reducible exact z9) | (conv => whnf))
    refine ⟨by first | exact Or.inr rfl | exact Or.inr True.intro, ?_⟩
    conv => whnf
    (try simp only [e24])
    (refine ⟨fun z9 => ?_, fun z9 => ?_⟩ <;> first | ((have c9 : (1 : Int32) = 0 := by with_reducible exact z9); exact absurd c9 (by decide)) | exact absurd (rfl : (0 : Int32) = 0) (by with_reducible exact z9) | exact absurd True.intro (by with_reducible exact z9) | exact False.elim (by with_reducible exact z9) | (conv => whnf))
    refine fy_lp (f0 := m_ui f1 181 24 1) hn ((g1 181 0 (by omega) (by omega) (by omega)).trans hC.2.2.1) (fun f2 h2 w2 => ?_) n 0 _ _ (by omega) rfl (fun a i _ _ => rfl) (fun w hw => absurd hw (by omega))
    refine H f2 (fun a i p1 p2 p3 p4 p5 p6 => (h2 a i p1 p2).trans (g1 a i p1 p3 p4)) ⟨((h2 181 29 (by omega) (by omega)).trans (g1 181 29 (by omega) (by omega) (by omega))), ((h2 181 39 (by omega) (by omega)).trans (g1 181 39 (by omega) (by omega) (by omega)))⟩ (YC_no (f := f) (fun a i p1 p2 p3 p4 p5 p6 => (h2 a i p1 p2).trans (g1 a i p1 p3 p4)) ?_ ?_ fe (fun w hw => ?_))
    · rw [h2 181 21 (by omega) (by omega), m_ui_o (by omega), h1 181 21 (by omega)]
      exact e21
    · rw [h2 181 24 (by omega) (by omega)]
      exact e24
    · obtain ⟨a1, a2⟩ := w2 w hw
      exact ⟨a1.trans (g1 187 w (by omega) (by omega) (by omega)), a2.trans (g1 188 w (by omega) (by omega) (by omega))⟩
  · have LS1 : LSs (SMc f v c) (Yh f 187 n) (Yh f1 200 n) := by
      have := LS_of sS L1
      rw [y187] at this
      exact this
    have g1 : ∀ a i, ¬ a = 200 → ¬ (a = 181 ∧ i = 21) → ¬ (a = 181 ∧ i = 24) → m_ui f1 181 24 0 a i = f a i := fun a i h2 h3 h4 => ((m_ui_o h4).trans (h1 a i h2)).trans (m_ui_o h3)
    have ob : o6 f (m_ui f1 181 24 0) := fun a i p1 p2 p3 p4 p5 p6 => g1 a i p1 p3 p4
    have hC1 := CM_o ob hC
    have e24 : m_ui f1 181 24 0 181 24 = 0 := m_ui_s
    have e21b : m_ui f1 181 24 0 181 21 = (mayl (PMc f v) (fun m => nI m) c 0 0) := by
      rw [m_ui_o (by omega), h1 181 21 (by omega)]
      exact e21
    have nY : ∀ w, Nh f1 200 n w = -(Yh f1 200 n w) := fun w => by
      unfold Nh Yh
      by_cases h : w < n
      · rw [if_pos h, if_pos h]
      · rw [if_neg h, if_neg h]
        rfl
    have hNs : NMc f v c (Nh f1 200 n) := fun k hk hp => by
      have := LS1.1 k hk hp
      rw [nY, nY]
      omega
    have sN : ∀ X, Sol c (mA_ (mayl (PMc f v) (fun m => nI m) c 0 0)) (mV_ (m_ui f1 181 24 0)) (mU_ (m_ui f1 181 24 0)) (mD_ (m_ui f1 181 24 0)) X ↔ NMc f v c X := fun X => sol_NM hc ob X
    have hX1 := (sN (Nh f1 200 n)).mpr hNs
    have n188 : Nh (m_ui f1 181 24 0) 188 n = Nh f 188 n := Nh_eq (fun w hw => g1 188 w (by omega) (by omega) (by omega))
    have r2 : ∀ w, w < n → f1 200 w ≤ f 188 w := fun w hw => by
      have := (r1 w hw).2
      rw [oa 188 w (by omega) (by omega) (by omega) (by omega) (by omega) (by omega)] at this
      exact this
    have hi1 : ∀ w, Nh (m_ui f1 181 24 0) 188 n w ≤ Nh f1 200 n w := fun w => by
      rw [n188]
      unfold Nh
      by_cases h : w < n
      · rw [if_pos h, if_pos h]
        have := Int32.le_iff_toInt_le.mp (r2 w h)
        omega
      · rw [if_neg h, if_neg h]
        exact Int.le_refl _
    conv => whnf
    (refine ⟨fun z9 => ?_, fun z9 => ?_⟩ <;> first | ((have c9 : (1 : Int32) = 0 := by with_reducible exact z9); exact absurd c9 (by decide)) | exact absurd (rfl : (0 : Int32) = 0) (by with_reducible exact z9) | exact absurd True.intro (by with_reducible exact z9) | exact False.elim (by with_reducible exact z9) | (conv => whnf))
    refine ⟨by first | exact Or.inl rfl | exact Or.inl True.intro, ?_⟩
    conv => whnf
    (try simp only [e24])
    (refine ⟨fun z9 => ?_, fun z9 => ?_⟩ <;> first | ((have c9 : (1 : Int32) = 0 := by with_reducible exact z9); exact absurd c9 (by decide)) | exact absurd (rfl : (0 : Int32) = 0) (by with_reducible exact z9) | exact absurd True.intro (by with_reducible exact z9) | exact False.elim (by with_reducible exact z9) | (conv => whnf))
    (try simp only [e21b])
    refine smf_findMost (n := n) (c := c) (bits := (mayl (PMc f v) (fun m => nI m) c 0 0)) (X0 := Nh f1 200 n) (by omega) hC1 hX1 (fun w hw => ?_) hi1 (fun f2 h2 q2 L2 => ?_)
    · rw [nY, Yh_t hw]
      have := i1800 (r1 w hw).1
      omega
    · conv => whnf
      have LN : LSs (NMc f v c) (Nh f 188 n) (Nh f2 201 n) := by
        have := LS_of sN L2
        rw [n188] at this
        exact this
      have eY : Yh f2 200 n = Yh f1 200 n := Yh_eq (fun w hw => (h2 200 w (by omega)).trans (m_ui_o (by omega)))
      refine H f2 (fun a i p1 p2 p3 p4 p5 p6 => (h2 a i p2).trans (g1 a i p1 p3 p4)) ⟨((h2 181 29 (by omega)).trans (g1 181 29 (by omega) (by omega) (by omega))), ((h2 181 39 (by omega)).trans (g1 181 39 (by omega) (by omega) (by omega)))⟩ (YC_yes (f := f) (fun a i p1 p2 p3 p4 p5 p6 => (h2 a i p2).trans (g1 a i p1 p3 p4)) ?_ ?_ ⟨Yh f1 200 n, LS1.1, LS1.2.1, fun w hw => ?_⟩ ?_ LN (fun w hw => ⟨?_, q2 w hw⟩))
      · rw [h2 181 21 (by omega)]
        exact e21b
      · rw [h2 181 24 (by omega)]
        exact e24
      · rw [Yh_t hw, Yh_t hw]
        exact Int32.le_iff_toInt_le.mp (r2 w hw)
      · rw [eY]
        exact LS1
      · rw [h2 200 w (by omega), m_ui_o (by omega)]
        exact (r1 w hw).1
set_option maxRecDepth 100000 in
set_option maxHeartbeats 4000000 in
theorem smj_refresh {d L : Nat} {f : Nat → Nat → Int32} {g : Nat → Nat → Int64} {n c v : Nat} {R : Option Value → mH → Prop} (hd : 6 ≤ d) (hX : XI f) (hY : MY n c v f) (hJ : MJ f) (H : ∀ f', XI f' → o6 f f' → kp [10, 22, 23] f f' → MY n c v f' → YC f' n c v → ¬ f' 181 29 = 0 → MJ f' → (f' = f ∨ f' 181 39 = 0) → R none (shF L, f', g)) : Run mtab d 206 [.ref 181] (shF L, f, g) R := by
  obtain ⟨d, rfl⟩ : ∃ e, d = e + 1 := ⟨d - 1, by omega⟩
  refine go_X11_refresh rfl ?_
  conv => whnf
  refine ⟨fun z => ?_, fun z => ?_⟩
  · conv => whnf
    exact H f hX (fun a i _ _ _ _ _ _ => rfl) (kp_refl _ _) hY (hY.2.2.2 z) z hJ (Or.inl rfl)
  · conv => whnf
    refine ⟨Or.inr rfl, ?_⟩
    conv => whnf
    refine ⟨Or.inl rfl, ?_⟩
    conv => whnf
    have o1 : ∀ a i, ¬ (a = 181 ∧ i = 29) → ¬ (a = 181 ∧ i = 39) → m_ui (m_ui f 181 29 1) 181 39 0 a i = f a i := fun a i p q => (m_ui_o q).trans (m_ui_o p)
    refine smj_findYears (f := m_ui (m_ui f 181 29 1) 181 39 0) (n := n) (c := c) (v := v) (by omega) (CM_o (fun a i _ _ _ _ p5 p6 => o1 a i p5 p6) hY.1) ((o1 181 48 (by omega) (by omega)).trans hY.2.1) hY.2.2.1 (fun f2 p2 e2 y2 => ?_)
    conv => whnf
    have o2 : o6 f f2 := fun a i p1 p2' p3 p4 p5 p6 => (p2 a i p1 p2' p3 p4 p5 p6).trans (o1 a i p5 p6)
    have e39 : f2 181 39 = 0 := by rw [e2.2, m_ui_s]
    refine H f2 (XI_o6 hX o2) o2 (kp_wd (kp_o6 o2) rfl) (MY_o6 o2 hY y2) y2 ?_ (MJ_0 hJ (Or.inr (Or.inr e39))) (Or.inr e39)
    rw [e2.1, m_ui_o (by omega), m_ui_s]
    decide
theorem vl_up {W : Nat → Nat → Int} {K : Int} {b : Nat → Nat} : ∀ r, (∀ p w, p < r → W p w ≤ K) → vl W b r ≤ K * (r : Int)
  | 0, _ => by
    show (0 : Int) ≤ K * ((0 : Nat) : Int)
    omega
  | r + 1, h => by
    have a := vl_up (b := b) r (fun p w hp => h p w (by omega))
    have c := h r (b r) (by omega)
    have e : K * ((r + 1 : Nat) : Int) = K * (r : Int) + K := by
      rw [Int.natCast_add, Int.mul_add]
      omega
    rw [vl_s, e]
    omega
theorem wt_ex {n r : Nat} {S : Nat → Nat → Int} (hn : n ≤ 40) (hr : r ≤ 8) (hS0 : ∀ p w, 0 ≤ S p w ∧ S p w ≤ 136) : ∃ b, Opt r n (wt n S) b := opt_ex (B := 1125899906842624 * (r : Int)) (fun b => vl_up r (fun p w hp => (wt_b hn (by omega) hS0).2))
theorem JA_e {f : Nat → Nat → Int32} {n v h m : Nat} {n' v' h' m' : Nat} (s : SCo f n v h m) (s' : SCo f n' v' h' m') : n' = n ∧ v' = v ∧ h' = h ∧ m' = m := by
  obtain ⟨a1, a2, a3, a4, a5, a6, a7, a8, _⟩ := s
  obtain ⟨b1, b2, b3, b4, b5, b6, b7, b8, _⟩ := s'
  exact ⟨(nI_eq (by omega) (by omega)).mp (b5.symm.trans a5), (nI_eq (by omega) (by omega)).mp (b7.symm.trans a7), (nI_eq (by omega) (by omega)).mp (b8.symm.trans a8), (nI_eq (by omega) (by omega)).mp (b6.symm.trans a6)⟩
theorem MJ_JA {f : Nat → Nat → Int32} {n v h m : Nat} (s : SCo f n v h m) (j : JA f n v h m) : MJ f := fun n' v' h' m' s' _ _ => by
  obtain ⟨e1, e2, e3, e4⟩ := JA_e s s'
  subst e1
  subst e2
  subst e3
  subst e4
  exact j
set_option maxRecDepth 100000 in
set_option maxHeartbeats 4000000 in
theorem ja2f_lp {d L n v h m : Nat} {f0 : Nat → Nat → Int32} {g : Nat → Nat → Int64} {R : Option Value → mH → Prop} (hd : 8 ≤ d) (hS : SCo f0 n v h m) (H : ∀ f, XI f → FJ f0 f → (∀ e', e' < 16 → ∀ b, Opt (gr (evE f0) (nI e') m) n (wt n (Sev f0 n v h m e')) b → JEv f e' n (gr (evE f0) (nI e') m) (gl (evE f0) (nI e') m) (Sev f0 n v h m e') b) → (∀ s, s < 50 → (∀ e', e' < 16 → ∀ q, q < gr (evE f0) (nI e') m → ¬ s = gl (evE f0) (nI e') m q) → f 204 s = -4 ∧ f 205 s = 0) → R none (shF L, f, g)) :
    ∀ (k e : Nat) (x : Int32) (f : Nat → Nat → Int32), e + k = 16 → x = nI e → XI f → FJ f0 f → (∀ e', e' < e → ∀ b, Opt (gr (evE f0) (nI e') m) n (wt n (Sev f0 n v h m e')) b → JEv f e' n (gr (evE f0) (nI e') m) (gl (evE f0) (nI e') m) (Sev f0 n v h m e') b) → (∀ s, s < 50 → (∀ e', e' < e → ∀ q, q < gr (evE f0) (nI e') m → ¬ s = gl (evE f0) (nI e') m q) → f 204 s = -4 ∧ f 205 s = 0) → WPe pg_X11_joinAll none (Run mtab d) R (m_drop pg_X11_joinAll 28) [some (.ref 181), some (.int x)] [] (shF L, f, g)
  | 0, e, x, f, he, hx, hX, hF, h1, h2 => by
    have e9 : e = 16 := by omega
    subst hx
    subst e9
    refine at_X11_joinAll ?_
    conv => whnf
    refine ⟨fun _ => ?_, fun y9 => absurd (show (16 : Int32) ≤ nI 16 by decide) y9⟩
    conv => whnf
    exact H f hX hF h1 h2
  | k + 1, e, x, f, he, hx, hX, hF, h1, h2 => by
    subst hx
    have hr8 := gr_le (evE f0) (nI e) m
    obtain ⟨b0, hb0⟩ := wt_ex (n := n) (S := Sev f0 n v h m e) hS.1 hr8 (Sev_b hS)
    obtain ⟨gl1, _, _⟩ := gl_all (E := evE f0) (e := nI e) m
    have oth : ∀ e', e' < 16 → ¬ e' = e → ∀ q', q' < gr (evE f0) (nI e') m → ∀ q, q < gr (evE f0) (nI e) m → ¬ gl (evE f0) (nI e') m q' = gl (evE f0) (nI e) m q := fun e' he' ne q' hq' q hq z9 => by
      obtain ⟨gl1', _, _⟩ := gl_all (E := evE f0) (e := nI e') m
      have a1 := (gl1' q' hq').2
      have a2 := (gl1 q hq).2
      rw [z9] at a1
      exact ne ((nI_eq (by omega) (by omega)).mp (a1.symm.trans a2))
    refine at_X11_joinAll ?_
    conv => whnf
    refine ⟨fun y9 => absurd (show nI 16 ≤ nI e from y9) (nI_ge (by omega) (by decide)), fun _ => ?_⟩
    conv => whnf
    refine smf_joinEvent (n := n) (v := v) (h := h) (m := m) (r := gr (evE f0) (nI e) m) (e := e) (E := evE f0) (li := gl (evE f0) (nI e) m) (b := b0) (S := Sev f0 n v h m e) (by omega) hX (by omega) (SCo_q hF hS) (funext (fun k => (hF 203 (9 * k + 1) (by omega) (by omega)).symm)) rfl rfl (fun p hp w hw => ?_) (Sev_b hS) Sev_Z hb0 (fun f' x' k' s' u' j' => ?_)
    · rw [scM_q hF]
      unfold Sev
      rw [if_pos ⟨hp, hw⟩]
    · conv => whnf
      refine ja2f_lp hd hS H k (e + 1) _ f' (by omega) (nI_1 e) x' (FJ_t hF k') (fun e' he' b hb => ?_) (fun s hs1 hs2 => ?_)
      · by_cases ee : e' = e
        · subst ee
          exact JEv_all hS.1 hr8 Sev_Z hb0 hb j'
        · obtain ⟨j1, j2, j3⟩ := h1 e' (by omega) b hb
          refine ⟨by rw [s' e' ee]; exact j1, fun q hq => ?_, fun q hq c1 y hy => ?_⟩
          · rw [(u' _ (fun q2 hq2 => oth e' (by omega) ee q hq q2 hq2)).1]
            exact j2 q hq
          · rw [(u' _ (fun q2 hq2 => oth e' (by omega) ee q hq q2 hq2)).2]
            exact j3 q hq c1 y hy
      · obtain ⟨w1, w2⟩ := u' s (fun q hq => hs2 e (by omega) q hq)
        rw [w1, w2]
        exact h2 s hs1 (fun e' he' q hq => hs2 e' (by omega) q hq)
set_option maxRecDepth 100000 in
theorem ja1f_lp {d L : Nat} {f0 : Nat → Nat → Int32} {g : Nat → Nat → Int64} {R : Option Value → mH → Prop} (H : ∀ f, XI f → (∀ a j, ¬ a = 204 → ¬ a = 205 → f a j = f0 a j) → (∀ s, s < 50 → f 204 s = -4 ∧ f 205 s = 0) → WPe pg_X11_joinAll none (Run mtab d) R (m_drop pg_X11_joinAll 28) [some (.ref 181), some (.int 0)] [] (shF L, f, g)) :
    ∀ (k i : Nat) (x : Int32) (f : Nat → Nat → Int32), i + k = 50 → x = nI i → XI f → (∀ a j, ¬ a = 204 → ¬ a = 205 → f a j = f0 a j) → (∀ s, s < i → f 204 s = -4 ∧ f 205 s = 0) → WPe pg_X11_joinAll none (Run mtab d) R (m_drop pg_X11_joinAll 11) [some (.ref 181), some (.int x)] [] (shF L, f, g)
  | 0, i, x, f, hi, hx, hX, hF, hR => by
    have e9 : i = 50 := by omega
    subst hx
    subst e9
    refine at_X11_joinAll ?_
    conv => whnf
    refine ⟨fun _ => ?_, fun y9 => absurd (show (50 : Int32) ≤ nI 50 by decide) y9⟩
    conv => whnf
    exact H f hX hF hR
  | k + 1, i, x, f, hi, hx, hX, hF, hR => by
    subst hx
    have hcl : (nI i).toNatClampNeg = i := nI_clamp (by omega)
    refine at_X11_joinAll ?_
    conv => whnf
    refine ⟨fun y9 => absurd (show nI 50 ≤ nI i from y9) (nI_ge (by omega) (by decide)), fun _ => ?_⟩
    conv => whnf
    refine ⟨vp_in_nI (by omega) (by decide), ?_⟩
    conv => whnf
    refine ⟨vp_in_nI (by omega) (by decide), ?_⟩
    conv => whnf
    simp only [hcl, show vp_nar .boolean 0 = 0 from rfl]
    refine ja1f_lp H k (i + 1) _ _ (by omega) (nI_1 i) (XI_ui (XI_ui hX (show inr (-4) 39 (-4) by unfold inr; decide)) True.intro) (fun a j h1 h2 => (m_ui_o (fun z9 => h2 z9.1)).trans ((m_ui_o (fun z9 => h1 z9.1)).trans (hF a j h1 h2))) (fun s hs => ?_)
    by_cases e9 : s = i
    · rw [e9, m_ui_o (by omega), m_ui_s, m_ui_s]
      exact ⟨rfl, rfl⟩
    · rw [m_ui_o (by omega), m_ui_o (by omega), m_ui_o (by omega), m_ui_o (by omega)]
      exact hR s (by omega)
theorem kp_FJ {f f1 : Nat → Nat → Int32} (k : FJ f f1) : kp [10, 22, 23] f f1 := fun a i h => by
  refine k a i (fun z9 => ?_) (fun z9 => ?_)
  · have e : a = 204 ∨ a = 205 ∨ a = 206 ∨ a = 207 ∨ a = 208 ∨ a = 209 ∨ a = 210 ∨ a = 211 := by omega
    rcases e with rfl | rfl | rfl | rfl | rfl | rfl | rfl | rfl <;> exact absurd (show true = false from h) (by decide)
  · obtain ⟨z1, z2⟩ := z9
    subst z1
    rcases z2 with rfl | rfl <;> exact absurd (show true = false from h) (by decide)
theorem MY_FJ {f f1 : Nat → Nat → Int32} {n c v : Nat} (k : FJ f f1) (m : MY n c v f) : MY n c v f1 := by
  refine ⟨CM_q (fun a i h => k a i (by omega) (by omega)) (k 181 0 (by omega) (by omega)) (k 181 16 (by omega) (by omega)) m.1, (k 181 48 (by omega) (by omega)).trans m.2.1, m.2.2.1, fun z => ?_⟩
  rw [k 181 29 (by omega) (by omega)] at z
  exact YC_k (fun a i h => k a i (by omega) (by omega)) (k 181 21 (by omega) (by omega)) (k 181 24 (by omega) (by omega)) (m.2.2.2 z)
set_option maxRecDepth 100000 in
set_option maxHeartbeats 4000000 in
theorem smf_joinAll {d L : Nat} {f : Nat → Nat → Int32} {g : Nat → Nat → Int64} {n c v h m : Nat} {R : Option Value → mH → Prop} (hd : 9 ≤ d) (hX : XI f) (hY : MY n c v f) (hJ : MJ f) (hS : SCo f n v h m) (H : ∀ f' fb, XI f' → kp [10, 22, 23] f f' → MY n c v f' → MJ f' → o6 f fb → YC fb n c v → FJ fb f' → JA f' n v h m → R none (shF L, f', g)) : Run mtab d 207 [.ref 181] (shF L, f, g) R := by
  obtain ⟨d, rfl⟩ : ∃ e, d = e + 1 := ⟨d - 1, by omega⟩
  refine go_X11_joinAll rfl ?_
  conv => whnf
  refine smj_refresh (n := n) (c := c) (v := v) (by omega) hX hY hJ (fun f1 h1 o1 k1 y1 yc1 z1 j1 w1 => ?_)
  conv => whnf
  have s1 := SCo_o6 o1 hS
  refine ⟨fun z => ?_, fun z => ?_⟩
  · conv => whnf
    refine ⟨Or.inr rfl, ?_⟩
    conv => whnf
    have kk : FJ f1 (m_ui f1 181 39 1) := fun a i p q => m_ui_o (by omega)
    refine ja1f_lp (f0 := m_ui f1 181 39 1) (fun f2 x2 k2 r2 => ?_) 50 0 _ _ (by omega) rfl (XI_ui h1 True.intro) (fun _ _ _ _ => rfl) (fun s hs => absurd hs (by omega))
    have kf : FJ f1 f2 := fun a i p q => (k2 a i (by omega) (by omega)).trans (kk a i p q)
    have s2 := SCo_q kf s1
    refine ja2f_lp (f0 := f2) (n := n) (v := v) (h := h) (m := m) (by omega) s2 (fun f3 x3 k3 a3 b3 => ?_) 16 0 _ f2 (by omega) rfl x2 (FJ_r f2) (fun e' he' => absurd he' (by omega)) (fun s hs _ => r2 s hs)
    have k13 := FJ_t kf k3
    have ja : JA f3 n v h m := by
      have hm0 : m ≤ 50 := hS.2.1
      have q := fun e => Sev_q (f := f2) (f' := f3) (n := n) (v := v) (h := h) (m := m) (e := e) (fun i => k3 203 i (by omega) (by omega)) (fun j w _ => scM_q k3)
      refine ⟨fun e he b hb => ?_, fun s hs1 hs2 => ?_⟩
      · rw [(q e).1, (q e).2] at hb ⊢
        exact a3 e he b hb
      · rw [(q 0).1] at hs2
        exact b3 s (by omega) hs2
    exact H f3 f1 x3 (kp_trans k1 (kp_FJ k13)) (MY_FJ k13 y1) (MJ_JA (SCo_q k13 s1) ja) o1 yc1 k13 ja
  · conv => whnf
    rcases w1 with rfl | w1
    · exact H f1 f1 h1 k1 y1 j1 o1 yc1 (FJ_r f1) (j1 n v h m s1 z1 z)
    · exact absurd w1 z
/-- both sides have the same scores of an event -/
theorem S_eq {f fa f1 fb f2 : Nat → Nat → Int32} {n c v h m e : Nat} (hW : RW n f) (hC : RC c f) (hV : RV v f) (hO : RO h f) (hMm : RM m f) (r1 : rkY f fa n c v) (k1 : fx 149 168 fa f1) (o : o6 f1 fb) (y : YC fb n c v) (k2 : FJ fb f2) : gr (evE f2) (nI e) m = gr (fa 141) (nI e) m ∧ (∀ i, gl (evE f2) (nI e) m i = gl (fa 141) (nI e) m i) ∧ Sev f2 n v h m e = Scv fa n h m e := by
  have fr1 : ∀ a i, (a < 127 ∨ 137 < a) → fa a i = f a i := fun a i z => r1.2.1 a i (by omega) (by omega) (by omega) (by omega) (by omega) (by omega) (by omega)
  have e203 : ∀ i, f2 203 i = f 203 i := fun i => (k2 203 i (by omega) (by omega)).trans ((o 203 i (by omega) (by omega) (by omega) (by omega) (by omega) (by omega)).trans ((k1 203 i (by omega)).trans (fr1 203 i (by omega))))
  have eE : ∀ k, k < m → evE f2 k = fa 141 k := fun k hk => by
    show f2 203 (9 * k + 1) = fa 141 k
    rw [e203, fr1 141 k (by omega)]
    exact (hMm.2.2.2 k hk).2.1.symm
  obtain ⟨g1, g2⟩ := gr_congr (e := nI e) m eE
  refine ⟨g1, g2, funext (fun p => funext (fun w => ?_))⟩
  unfold Sev Scv
  rw [g1, g2 p]
  by_cases q : p < gr (fa 141) (nI e) m ∧ w < n
  · rw [if_pos q, if_pos q]
    obtain ⟨gl1, _, _⟩ := gl_all (E := fa 141) (e := nI e) m
    have hj := (gl1 p q.1).1
    have ho : o6 fa (fun a i => if 181 ≤ a then fb a i else fa a i) := fun a i p1 p2 p3 p4 p5 p6 => by
      show (if 181 ≤ a then fb a i else fa a i) = fa a i
      by_cases z : 181 ≤ a
      · rw [if_pos z, o a i p1 p2 p3 p4 p5 p6]
        exact k1 a i (by omega)
      · rw [if_neg z]
    have hy : YC (fun a i => if 181 ≤ a then fb a i else fa a i) n c v := YC_f (fun a i h => if_pos h) y
    have es := sce_eq (h := h) hW hC hV hO hMm hj q.2 r1 ho hy
    have e1 : scM (fun a i => if 181 ≤ a then fb a i else fa a i) v h (gl (fa 141) (nI e) m p) w = scM fb v h (gl (fa 141) (nI e) m p) w := scM_g (fun a i z => if_pos (by omega))
    rw [es, e1, scM_q k2]
  · rw [if_neg q, if_neg q]
def SX_sum (n c v h m : Nat) (f f1 : Nat → Nat → Int32) (x r : Int32) : Prop := (¬ inr 0 15 x ∧ r = -1 ∧ f1 = f) ∨ (∃ e fa b, e < 16 ∧ x = nI e ∧ (rkY f fa n c v ∧ fx 149 168 fa f1 ∧ Opt (gr (fa 141) (nI e) m) n (wt n (Scv fa n h m e)) b) ∧ r.toInt = vl (Scv fa n h m e) b (gr (fa 141) (nI e) m))
def SX_joined (n c v h m : Nat) (f f1 : Nat → Nat → Int32) (x r : Int32) : Prop := (¬ hasw m x ∧ r = -1 ∧ f1 = f) ∨ (∃ j e fa b, j < m ∧ e < 16 ∧ x = nI j ∧ fa 141 j = nI e ∧ (rkY f fa n c v ∧ fx 149 168 fa f1 ∧ Opt (gr (fa 141) (nI e) m) n (wt n (Scv fa n h m e)) b) ∧ ((∃ q, q < gr (fa 141) (nI e) m ∧ gl (fa 141) (nI e) m q = j ∧ r = if 0 < Scv fa n h m e q (b q) then nI (b q) else -4) ∨ ((∀ q, q < gr (fa 141) (nI e) m → ¬ gl (fa 141) (nI e) m q = j) ∧ r = -4)))
def SX_sure (n c v h m : Nat) (f f1 : Nat → Nat → Int32) (x r : Int32) : Prop := (¬ hasw m x ∧ r = -1 ∧ f1 = f) ∨ (∃ j e fa b, j < m ∧ e < 16 ∧ x = nI j ∧ fa 141 j = nI e ∧ (rkY f fa n c v ∧ fx 149 168 fa f1 ∧ Opt (gr (fa 141) (nI e) m) n (wt n (Scv fa n h m e)) b) ∧ ((∃ q, q < gr (fa 141) (nI e) m ∧ gl (fa 141) (nI e) m q = j ∧ ((¬ 0 < Scv fa n h m e q (b q) ∧ r = -4) ∨ (0 < Scv fa n h m e q (b q) ∧ ∃ y, Mst (gr (fa 141) (nI e) m) n (S0 (Scv fa n h m e) q (b q)) y ∧ r = if y < vl (Scv fa n h m e) b (gr (fa 141) (nI e) m) then 1 else 0))) ∨ ((∀ q, q < gr (fa 141) (nI e) m → ¬ gl (fa 141) (nI e) m q = j) ∧ r = -4)))
/-- behind the model's joins -/
def JP (n c v h m : Nat) (f f2 : Nat → Nat → Int32) : Prop := (∃ fb, o6 f fb ∧ YC fb n c v ∧ FJ fb f2) ∧ JA f2 n v h m
def SM_sum (n c v h m : Nat) (f f2 : Nat → Nat → Int32) (x r : Int32) : Prop := (¬ inr 0 15 x ∧ r = -1 ∧ f2 = f) ∨ (∃ e, e < 16 ∧ x = nI e ∧ JP n c v h m f f2 ∧ r = f2 206 e)
def SM_joined (n c v h m : Nat) (f f2 : Nat → Nat → Int32) (x r : Int32) : Prop := (¬ hasw m x ∧ r = -1 ∧ f2 = f) ∨ (∃ j, j < m ∧ x = nI j ∧ JP n c v h m f f2 ∧ r = f2 204 j)
def SM_sure (n c v h m : Nat) (f f2 : Nat → Nat → Int32) (x r : Int32) : Prop := (¬ hasw m x ∧ r = -1 ∧ f2 = f) ∨ (∃ j, j < m ∧ x = nI j ∧ JP n c v h m f f2 ∧ r = if f2 204 j < 0 then -4 else if f2 205 j = 0 then 0 else 1)
set_option maxRecDepth 100000 in
set_option maxHeartbeats 4000000 in
theorem sf_sumQ {d L : Nat} {f : Nat → Nat → Int32} {g : Nat → Nat → Int64} {n c v h m : Nat} {x : Int32} {R : Option Value → mH → Prop} (hd : 9 ≤ d) (hX : XI f) (hW : RW n f) (hC : RC c f) (hV : RV v f) (hO : RO h f) (hMm : RM m f) (hSz : SZ n f) (hRY : RY n c v f) (H : ∀ r f1 g1, XI f1 → SX_sum n c v h m f f1 x r → R (some (.int r)) (shF L, f1, g1)) : Run mtab d 109 [.ref 5, .int x] (shF L, f, g) R := by
  obtain ⟨d, rfl⟩ : ∃ e, d = e + 1 := ⟨d - 1, by omega⟩
  refine go_X10_sum rfl ?_
  conv => whnf
  obtain ⟨hn, hnb, hvb, hv, hE, cy, hA0⟩ := YK_of hW hC hV hRY
  refine ct_isWithin (by omega) (fun q => ?_) (fun q => ?_)
  · obtain ⟨e, he, rfl⟩ := inr_nat (n := 15) rfl q
    conv => whnf
    (refine ⟨fun z9 => ?_, fun z9 => ?_⟩ <;> first | ((have c9 : (1 : Int32) = 0 := by with_reducible exact z9); exact absurd c9 (by decide)) | exact absurd (rfl : (0 : Int32) = 0) (by with_reducible exact z9) | exact absurd True.intro (by with_reducible exact z9) | exact False.elim (by with_reducible exact z9) | (conv => whnf))
    refine sf_reckon (n := n) (c := c) (v := v) (by omega) hX hn hnb hvb hv hE cy hA0 (fun fa r1 => ?_)
    conv => whnf
    have xa := XI_rkY hX r1
    refine sf_jn (n := n) (h := h) (m := m) (e := e) (by omega) xa (JH_of hW hO hMm hSz r1) (fun f1 g1 b x1 k1 js => ?_)
    conv => whnf
    exact H _ f1 g1 x1 (Or.inr ⟨e, fa, b, by omega, rfl, ⟨r1, k1, js.2.2.2.1⟩, js.2.2.2.2.1⟩)
  · conv => whnf
    (refine ⟨fun z9 => ?_, fun z9 => ?_⟩ <;> first | ((have c9 : (1 : Int32) = 0 := by with_reducible exact z9); exact absurd c9 (by decide)) | exact absurd (rfl : (0 : Int32) = 0) (by with_reducible exact z9) | exact absurd True.intro (by with_reducible exact z9) | exact False.elim (by with_reducible exact z9) | (conv => whnf))
    exact H _ f g hX (Or.inl ⟨q, rfl, rfl⟩)
set_option maxRecDepth 100000 in
set_option maxHeartbeats 4000000 in
theorem sf_joinedQ {d L : Nat} {f : Nat → Nat → Int32} {g : Nat → Nat → Int64} {n c v h m : Nat} {x : Int32} {R : Option Value → mH → Prop} (hd : 9 ≤ d) (hX : XI f) (hW : RW n f) (hC : RC c f) (hV : RV v f) (hO : RO h f) (hMm : RM m f) (hSz : SZ n f) (hRY : RY n c v f) (H : ∀ r f1 g1, XI f1 → SX_joined n c v h m f f1 x r → R (some (.int r)) (shF L, f1, g1)) : Run mtab d 107 [.ref 5, .int x] (shF L, f, g) R := by
  obtain ⟨d, rfl⟩ : ∃ e, d = e + 1 := ⟨d - 1, by omega⟩
  refine go_X10_joined rfl ?_
  conv => whnf
  obtain ⟨hn, hnb, hvb, hv, hE, cy, hA0⟩ := YK_of hW hC hV hRY
  have hm50 := hMm.1
  refine ct_shas (by omega) hMm.2.1 hMm.1 (fun j hj ej => ?_) (fun q => ?_)
  · subst ej
    have hcl : (nI j).toNatClampNeg = j := nI_clamp (by omega)
    conv => whnf
    (refine ⟨fun z9 => ?_, fun z9 => ?_⟩ <;> first | ((have c9 : (1 : Int32) = 0 := by with_reducible exact z9); exact absurd c9 (by decide)) | exact absurd (rfl : (0 : Int32) = 0) (by with_reducible exact z9) | exact absurd True.intro (by with_reducible exact z9) | exact False.elim (by with_reducible exact z9) | (conv => whnf))
    refine sf_reckon (n := n) (c := c) (v := v) (by omega) hX hn hnb hvb hv hE cy hA0 (fun fa r1 => ?_)
    conv => whnf
    have xa := XI_rkY hX r1
    have jh := JH_of hW hO hMm hSz r1
    obtain ⟨e, he, ee⟩ := inr_nat (n := 15) rfl (jh.2.2.2.2.1 j hj).2.2.2.2.2.2.2.2.2.1.1.2.1
    refine ⟨vp_in_nI (by omega) (by decide), ?_⟩
    conv => whnf
    simp only [hcl, ee]
    refine sf_jn (n := n) (h := h) (m := m) (e := e) (by omega) xa jh (fun f1 g1 b x1 k1 js => ?_)
    conv => whnf
    obtain ⟨rb, cb, l166, hO1, tot, h167, hg⟩ := id js
    have hr8 := gr_le (fa 141) (nI e) m
    have gl1 := (gl_all (E := fa 141) (e := nI e) m).1
    have inj : ∀ q, q < gr (fa 141) (nI e) m → f1 166 q = nI j → gl (fa 141) (nI e) m q = j := fun q hq z => (nI_eq (by have := (gl1 q hq).1; omega) (by omega)).mp ((l166 q hq).symm.trans z)
    refine sf_workFor (r := gr (fa 141) (nI e) m) (by omega) hr8 rb (fun q hq h1 h2 => ?_) (fun h1 => ?_)
    · conv => whnf
      exact H _ f1 g1 x1 (Or.inr ⟨j, e, fa, b, hj, by omega, rfl, ee, ⟨r1, k1, hO1⟩, Or.inl ⟨q, hq, inj q hq h1, h167 q hq⟩⟩)
    · conv => whnf
      exact H _ f1 g1 x1 (Or.inr ⟨j, e, fa, b, hj, by omega, rfl, ee, ⟨r1, k1, hO1⟩, Or.inr ⟨fun q hq z => h1 q hq (by rw [l166 q hq, z]), rfl⟩⟩)
  · conv => whnf
    (refine ⟨fun z9 => ?_, fun z9 => ?_⟩ <;> first | ((have c9 : (1 : Int32) = 0 := by with_reducible exact z9); exact absurd c9 (by decide)) | exact absurd (rfl : (0 : Int32) = 0) (by with_reducible exact z9) | exact absurd True.intro (by with_reducible exact z9) | exact False.elim (by with_reducible exact z9) | (conv => whnf))
    exact H _ f g hX (Or.inl ⟨nhasw q, rfl, rfl⟩)
set_option maxRecDepth 100000 in
set_option maxHeartbeats 4000000 in
theorem sf_sureQ {d L : Nat} {f : Nat → Nat → Int32} {g : Nat → Nat → Int64} {n c v h m : Nat} {x : Int32} {R : Option Value → mH → Prop} (hd : 9 ≤ d) (hX : XI f) (hW : RW n f) (hC : RC c f) (hV : RV v f) (hO : RO h f) (hMm : RM m f) (hSz : SZ n f) (hRY : RY n c v f) (H : ∀ r f1 g1, XI f1 → SX_sure n c v h m f f1 x r → R (some (.int r)) (shF L, f1, g1)) : Run mtab d 108 [.ref 5, .int x] (shF L, f, g) R := by
  obtain ⟨d, rfl⟩ : ∃ e, d = e + 1 := ⟨d - 1, by omega⟩
  refine go_X10_sure rfl ?_
  conv => whnf
  obtain ⟨hn, hnb, hvb, hv, hE, cy, hA0⟩ := YK_of hW hC hV hRY
  have hm50 := hMm.1
  refine ct_shas (by omega) hMm.2.1 hMm.1 (fun j hj ej => ?_) (fun q => ?_)
  · subst ej
    have hcl : (nI j).toNatClampNeg = j := nI_clamp (by omega)
    conv => whnf
    (refine ⟨fun z9 => ?_, fun z9 => ?_⟩ <;> first | ((have c9 : (1 : Int32) = 0 := by with_reducible exact z9); exact absurd c9 (by decide)) | exact absurd (rfl : (0 : Int32) = 0) (by with_reducible exact z9) | exact absurd True.intro (by with_reducible exact z9) | exact False.elim (by with_reducible exact z9) | (conv => whnf))
    refine sf_reckon (n := n) (c := c) (v := v) (by omega) hX hn hnb hvb hv hE cy hA0 (fun fa r1 => ?_)
    conv => whnf
    have xa := XI_rkY hX r1
    have jh := JH_of hW hO hMm hSz r1
    obtain ⟨e, he, ee⟩ := inr_nat (n := 15) rfl (jh.2.2.2.2.1 j hj).2.2.2.2.2.2.2.2.2.1.1.2.1
    refine ⟨vp_in_nI (by omega) (by decide), ?_⟩
    conv => whnf
    simp only [hcl, ee]
    refine sf_jn (n := n) (h := h) (m := m) (e := e) (by omega) xa jh (fun f1 g1 b x1 k1 js => ?_)
    conv => whnf
    obtain ⟨rb, cb, l166, hO1, tot, h167, hg⟩ := id js
    have hr8 := gr_le (fa 141) (nI e) m
    have gl1 := (gl_all (E := fa 141) (e := nI e) m).1
    have inj : ∀ q, q < gr (fa 141) (nI e) m → f1 166 q = nI j → gl (fa 141) (nI e) m q = j := fun q hq z => (nI_eq (by have := (gl1 q hq).1; omega) (by omega)).mp ((l166 q hq).symm.trans z)
    refine sf_workFor (r := gr (fa 141) (nI e) m) (by omega) hr8 rb (fun q hq h1 h2 => ?_) (fun h1 => ?_)
    · rw [h167 q hq]
      by_cases c1 : 0 < Scv fa n h m e q (b q)
      · have bn := S_n Scv_Z c1
        rw [if_pos c1]
        conv => whnf
        refine ⟨fun _ => ?_, fun y9 => absurd (show (0 : Int32) ≤ nI (b q) from nI_le (a := 0) (by omega) (by omega)) y9⟩
        conv => whnf
        refine sf_seatOf (r := gr (fa 141) (nI e) m) (by omega) hr8 rb (fun q2 hq2 h3 h4 => ?_) (fun h3 => absurd h1 (h3 q hq))
        have eq2 : q2 = q := by
          rcases Nat.lt_trichotomy q2 q with z | z | z
          · exact absurd h3 (h2 q2 z)
          · exact z
          · exact absurd h1 (h4 q z)
        subst eq2
        conv => whnf
        refine sf_isSure (n := n) (r := gr (fa 141) (nI e) m) (i := q2) (li := gl (fa 141) (nI e) m) (b := b) (S := Scv fa n h m e) (by omega) x1 hn hr8 js (Scv_b jh) Scv_Z hq (fun z => absurd c1 z) (fun _ f2 g2 y x2 k2 js2 my => ?_)
        have kk : fx 149 168 fa f2 := fun a i z => (k2 a i (by omega) (by omega) (by omega)).trans (k1 a i z)
        have G : R (some (.int (if y < vl (Scv fa n h m e) b (gr (fa 141) (nI e) m) then 1 else 0))) (shF L, f2, g2) := H _ f2 g2 x2 (Or.inr ⟨j, e, fa, b, hj, by omega, rfl, ee, ⟨r1, kk, hO1⟩, Or.inl ⟨q2, hq, inj q2 hq h1, Or.inr ⟨c1, y, my, rfl⟩⟩⟩)
        by_cases c2 : y < vl (Scv fa n h m e) b (gr (fa 141) (nI e) m)
        · rw [if_pos c2] at G ⊢
          conv => whnf
          refine ct_bit (by omega) (fun _ => ?_) (fun z => absurd z (by decide))
          conv => whnf
          exact G
        · rw [if_neg c2] at G ⊢
          conv => whnf
          refine ct_bit (by omega) (fun z => absurd rfl z) (fun _ => ?_)
          conv => whnf
          exact G
      · rw [if_neg c1]
        conv => whnf
        refine ⟨fun y9 => absurd y9 (by decide), fun _ => ?_⟩
        conv => whnf
        exact H _ f1 g1 x1 (Or.inr ⟨j, e, fa, b, hj, by omega, rfl, ee, ⟨r1, k1, hO1⟩, Or.inl ⟨q, hq, inj q hq h1, Or.inl ⟨c1, rfl⟩⟩⟩)
    · conv => whnf
      refine ⟨fun y9 => absurd y9 (by decide), fun _ => ?_⟩
      conv => whnf
      exact H _ f1 g1 x1 (Or.inr ⟨j, e, fa, b, hj, by omega, rfl, ee, ⟨r1, k1, hO1⟩, Or.inr ⟨fun q hq z => h1 q hq (by rw [l166 q hq, z]), rfl⟩⟩)
  · conv => whnf
    (refine ⟨fun z9 => ?_, fun z9 => ?_⟩ <;> first | ((have c9 : (1 : Int32) = 0 := by with_reducible exact z9); exact absurd c9 (by decide)) | exact absurd (rfl : (0 : Int32) = 0) (by with_reducible exact z9) | exact absurd True.intro (by with_reducible exact z9) | exact False.elim (by with_reducible exact z9) | (conv => whnf))
    exact H _ f g hX (Or.inl ⟨nhasw q, rfl, rfl⟩)
theorem kx_sum {n c v h m : Nat} {f f1 : Nat → Nat → Int32} {x r : Int32} (s : SX_sum n c v h m f f1 x r) : kp [0] f f1 := by
  rcases s with ⟨_, _, rfl⟩ | ⟨e, fa, b, _, _, ⟨r1, k1, _⟩, _⟩
  · exact kp_refl _ _
  · exact kp_trans (kp_rkY r1) (kp_fx k1 rfl)
theorem kx_joined {n c v h m : Nat} {f f1 : Nat → Nat → Int32} {x r : Int32} (s : SX_joined n c v h m f f1 x r) : kp [0] f f1 := by
  rcases s with ⟨_, _, rfl⟩ | ⟨j, e, fa, b, _, _, _, _, ⟨r1, k1, _⟩, _⟩
  · exact kp_refl _ _
  · exact kp_trans (kp_rkY r1) (kp_fx k1 rfl)
theorem kx_sure {n c v h m : Nat} {f f1 : Nat → Nat → Int32} {x r : Int32} (s : SX_sure n c v h m f f1 x r) : kp [0] f f1 := by
  rcases s with ⟨_, _, rfl⟩ | ⟨j, e, fa, b, _, _, _, _, ⟨r1, k1, _⟩, _⟩
  · exact kp_refl _ _
  · exact kp_trans (kp_rkY r1) (kp_fx k1 rfl)
set_option maxRecDepth 100000 in
set_option maxHeartbeats 4000000 in
theorem smf_sumQ {d L : Nat} {f : Nat → Nat → Int32} {g : Nat → Nat → Int64} {n c v h m : Nat} {x : Int32} {R : Option Value → mH → Prop} (hd : 10 ≤ d) (hX : XI f) (hY : MY n c v f) (hJ : MJ f) (hS : SCo f n v h m) (H : ∀ r f', XI f' → kp [10, 22, 23] f f' → MY n c v f' → MJ f' → SM_sum n c v h m f f' x r → R (some (.int r)) (shF L, f', g)) : Run mtab d 210 [.ref 181, .int x] (shF L, f, g) R := by
  obtain ⟨d, rfl⟩ : ∃ e, d = e + 1 := ⟨d - 1, by omega⟩
  refine go_X11_sum rfl ?_
  conv => whnf
  refine ct_i_0_15 (by omega) (fun q => ?_) (fun q => ?_)
  · obtain ⟨e, he, rfl⟩ := inr_nat (n := 15) rfl q
    have hce : (nI e).toNatClampNeg = e := nI_clamp (by omega)
    conv => whnf
    (refine ⟨fun z9 => ?_, fun z9 => ?_⟩ <;> first | ((have c9 : (1 : Int32) = 0 := by with_reducible exact z9); exact absurd c9 (by decide)) | exact absurd (rfl : (0 : Int32) = 0) (by with_reducible exact z9) | exact absurd True.intro (by with_reducible exact z9) | exact False.elim (by with_reducible exact z9) | (conv => whnf))
    refine smf_joinAll (n := n) (c := c) (v := v) (h := h) (m := m) (by omega) hX hY hJ hS (fun f' fb x' k' y' j' o' yc' fj' ja' => ?_)
    conv => whnf
    refine ⟨vp_in_nI (by omega) (by decide), ?_⟩
    conv => whnf
    simp only [hce]
    exact H _ f' x' k' y' j' (Or.inr ⟨e, by omega, rfl, ⟨⟨fb, o', yc', fj'⟩, ja'⟩, rfl⟩)
  · conv => whnf
    (refine ⟨fun z9 => ?_, fun z9 => ?_⟩ <;> first | ((have c9 : (1 : Int32) = 0 := by with_reducible exact z9); exact absurd c9 (by decide)) | exact absurd (rfl : (0 : Int32) = 0) (by with_reducible exact z9) | exact absurd True.intro (by with_reducible exact z9) | exact False.elim (by with_reducible exact z9) | (conv => whnf))
    exact H _ f hX (kp_refl _ _) hY hJ (Or.inl ⟨q, rfl, rfl⟩)
set_option maxRecDepth 100000 in
set_option maxHeartbeats 4000000 in
theorem smf_joinedQ {d L : Nat} {f : Nat → Nat → Int32} {g : Nat → Nat → Int64} {n c v h m : Nat} {x : Int32} {R : Option Value → mH → Prop} (hd : 10 ≤ d) (hX : XI f) (hY : MY n c v f) (hJ : MJ f) (hS : SCo f n v h m) (H : ∀ r f', XI f' → kp [10, 22, 23] f f' → MY n c v f' → MJ f' → SM_joined n c v h m f f' x r → R (some (.int r)) (shF L, f', g)) : Run mtab d 208 [.ref 181, .int x] (shF L, f, g) R := by
  obtain ⟨d, rfl⟩ : ∃ e, d = e + 1 := ⟨d - 1, by omega⟩
  refine go_X11_joined rfl ?_
  conv => whnf
  have hm50 := hS.2.1
  refine sm_isMention (by omega) hS.2.2.2.2.2.1 hS.2.1 (fun j hj ej => ?_) (fun q => ?_)
  · subst ej
    have hcl : (nI j).toNatClampNeg = j := nI_clamp (by omega)
    conv => whnf
    (refine ⟨fun z9 => ?_, fun z9 => ?_⟩ <;> first | ((have c9 : (1 : Int32) = 0 := by with_reducible exact z9); exact absurd c9 (by decide)) | exact absurd (rfl : (0 : Int32) = 0) (by with_reducible exact z9) | exact absurd True.intro (by with_reducible exact z9) | exact False.elim (by with_reducible exact z9) | (conv => whnf))
    refine smf_joinAll (n := n) (c := c) (v := v) (h := h) (m := m) (by omega) hX hY hJ hS (fun f' fb x' k' y' j' o' yc' fj' ja' => ?_)
    conv => whnf
    refine ⟨vp_in_nI (by omega) (by decide), ?_⟩
    conv => whnf
    simp only [hcl]
    exact H _ f' x' k' y' j' (Or.inr ⟨j, hj, rfl, ⟨⟨fb, o', yc', fj'⟩, ja'⟩, rfl⟩)
  · conv => whnf
    (refine ⟨fun z9 => ?_, fun z9 => ?_⟩ <;> first | ((have c9 : (1 : Int32) = 0 := by with_reducible exact z9); exact absurd c9 (by decide)) | exact absurd (rfl : (0 : Int32) = 0) (by with_reducible exact z9) | exact absurd True.intro (by with_reducible exact z9) | exact False.elim (by with_reducible exact z9) | (conv => whnf))
    exact H _ f hX (kp_refl _ _) hY hJ (Or.inl ⟨nhasw q, rfl, rfl⟩)
set_option maxRecDepth 100000 in
set_option maxHeartbeats 4000000 in
theorem smf_sureQ {d L : Nat} {f : Nat → Nat → Int32} {g : Nat → Nat → Int64} {n c v h m : Nat} {x : Int32} {R : Option Value → mH → Prop} (hd : 10 ≤ d) (hX : XI f) (hY : MY n c v f) (hJ : MJ f) (hS : SCo f n v h m) (H : ∀ r f', XI f' → kp [10, 22, 23] f f' → MY n c v f' → MJ f' → SM_sure n c v h m f f' x r → R (some (.int r)) (shF L, f', g)) : Run mtab d 209 [.ref 181, .int x] (shF L, f, g) R := by
  obtain ⟨d, rfl⟩ : ∃ e, d = e + 1 := ⟨d - 1, by omega⟩
  refine go_X11_sure rfl ?_
  conv => whnf
  have hm50 := hS.2.1
  refine sm_isMention (by omega) hS.2.2.2.2.2.1 hS.2.1 (fun j hj ej => ?_) (fun q => ?_)
  · subst ej
    have hcl : (nI j).toNatClampNeg = j := nI_clamp (by omega)
    conv => whnf
    (refine ⟨fun z9 => ?_, fun z9 => ?_⟩ <;> first | ((have c9 : (1 : Int32) = 0 := by with_reducible exact z9); exact absurd c9 (by decide)) | exact absurd (rfl : (0 : Int32) = 0) (by with_reducible exact z9) | exact absurd True.intro (by with_reducible exact z9) | exact False.elim (by with_reducible exact z9) | (conv => whnf))
    refine smf_joinAll (n := n) (c := c) (v := v) (h := h) (m := m) (by omega) hX hY hJ hS (fun f' fb x' k' y' j' o' yc' fj' ja' => ?_)
    conv => whnf
    refine ⟨vp_in_nI (by omega) (by decide), ?_⟩
    conv => whnf
    simp only [hcl]
    have G : R (some (.int (if f' 204 j < 0 then -4 else if f' 205 j = 0 then 0 else 1))) (shF L, f', g) := H _ f' x' k' y' j' (Or.inr ⟨j, hj, rfl, ⟨⟨fb, o', yc', fj'⟩, ja'⟩, rfl⟩)
    by_cases c1 : f' 204 j < 0
    · rw [if_pos c1] at G
      refine ⟨fun y9 => absurd c1 (i32_nlt.mpr y9), fun _ => ?_⟩
      conv => whnf
      exact G
    · rw [if_neg c1] at G
      refine ⟨fun _ => ?_, fun y9 => absurd (i32_nlt.mp c1) y9⟩
      conv => whnf
      refine ⟨vp_in_nI (by omega) (by decide), ?_⟩
      conv => whnf
      simp only [hcl]
      by_cases c2 : f' 205 j = 0
      · rw [if_pos c2] at G
        refine ⟨fun _ => ?_, fun y9 => absurd c2 y9⟩
        conv => whnf
        exact G
      · rw [if_neg c2] at G
        refine ⟨fun y9 => absurd y9 c2, fun _ => ?_⟩
        conv => whnf
        exact G
  · conv => whnf
    (refine ⟨fun z9 => ?_, fun z9 => ?_⟩ <;> first | ((have c9 : (1 : Int32) = 0 := by with_reducible exact z9); exact absurd c9 (by decide)) | exact absurd (rfl : (0 : Int32) = 0) (by with_reducible exact z9) | exact absurd True.intro (by with_reducible exact z9) | exact False.elim (by with_reducible exact z9) | (conv => whnf))
    exact H _ f hX (kp_refl _ _) hY hJ (Or.inl ⟨nhasw q, rfl, rfl⟩)
theorem fin_sum {f f1 f2 : Nat → Nat → Int32} {n c v h m : Nat} {x v1 v2 : Int32} (hW : RW n f) (hC : RC c f) (hV : RV v f) (hO : RO h f) (hMm : RM m f) (s1 : SX_sum n c v h m f f1 x v1) (s2 : SM_sum n c v h m f1 f2 x v2) : v1 = v2 := by
  rcases s1 with ⟨q1, rfl, rfl⟩ | ⟨e, fa, b, he, ex, ⟨r1, k1, hO1⟩, ev⟩
  · rcases s2 with ⟨_, rfl, _⟩ | ⟨e, he, rfl, _⟩
    · rfl
    · exact absurd (inr_n (m := 15) (by omega) rfl (by decide)) q1
  · rcases s2 with ⟨q2, _, _⟩ | ⟨e', he', ex', ⟨⟨fb, o, y, k2⟩, ja⟩, rfl⟩
    · exact absurd (by rw [ex]; exact inr_n (m := 15) (by omega) rfl (by decide)) q2
    · have ee : e = e' := (nI_eq (by omega) (by omega)).mp (ex.symm.trans ex')
      subst ee
      obtain ⟨g1, g2, g3⟩ := S_eq (e := e) hW hC hV hO hMm r1 k1 o y k2
      have j := ja.1 e he b (by rw [g1, g3]; exact hO1)
      rw [g1, g3] at j
      exact Int32.toInt_inj.mp (ev.trans j.1.symm)
/-- a mention's place in its event -/
theorem JA_at {f f1 f2 fa : Nat → Nat → Int32} {n c v h m j e : Nat} {b : Nat → Nat} (hW : RW n f) (hC : RC c f) (hV : RV v f) (hO : RO h f) (hMm : RM m f) (hj : j < m) (he : e < 16) (ee : fa 141 j = nI e) (r1 : rkY f fa n c v) (k1 : fx 149 168 fa f1) (hO1 : Opt (gr (fa 141) (nI e) m) n (wt n (Scv fa n h m e)) b) (jp : JP n c v h m f1 f2) :
    JEv f2 e n (gr (fa 141) (nI e) m) (gl (fa 141) (nI e) m) (Scv fa n h m e) b ∧ ((∀ q, q < gr (fa 141) (nI e) m → ¬ gl (fa 141) (nI e) m q = j) → f2 204 j = -4 ∧ f2 205 j = 0) := by
  obtain ⟨⟨fb, o, y, k2⟩, ja⟩ := jp
  obtain ⟨g1, g2, g3⟩ := S_eq (e := e) hW hC hV hO hMm r1 k1 o y k2
  have g2' : gl (evE f2) (nI e) m = gl (fa 141) (nI e) m := funext g2
  refine ⟨?_, fun no => ?_⟩
  · have j9 := ja.1 e he b (by rw [g1, g3]; exact hO1)
    rw [g1, g2', g3] at j9
    exact j9
  · refine ja.2 j hj (fun e' he' q hq z => ?_)
    have gl1 := (gl_all (E := evE f2) (e := nI e') m).1
    have a1 := (gl1 q hq).2
    rw [← z] at a1
    have a2 : evE f2 j = fa 141 j := by
      show f2 203 (9 * j + 1) = fa 141 j
      have fr1 : ∀ a i, (a < 127 ∨ 137 < a) → fa a i = f a i := fun a i z => r1.2.1 a i (by omega) (by omega) (by omega) (by omega) (by omega) (by omega) (by omega)
      rw [k2 203 _ (by omega) (by omega), o 203 _ (by omega) (by omega) (by omega) (by omega) (by omega) (by omega), k1 203 _ (by omega), fr1 203 _ (by omega), fr1 141 j (by omega)]
      exact (hMm.2.2.2 j hj).2.1.symm
    have e9 : e' = e := (nI_eq (by omega) (by omega)).mp (a1.symm.trans (a2.trans ee))
    subst e9
    rw [g1] at hq
    exact no q hq ((g2 q).symm.trans z.symm)
theorem fin_joined {f f1 f2 : Nat → Nat → Int32} {n c v h m : Nat} {x v1 v2 : Int32} (hW : RW n f) (hC : RC c f) (hV : RV v f) (hO : RO h f) (hMm : RM m f) (s1 : SX_joined n c v h m f f1 x v1) (s2 : SM_joined n c v h m f1 f2 x v2) : v1 = v2 := by
  rcases s1 with ⟨q1, rfl, rfl⟩ | ⟨j, e, fa, b, hj, he, ex, ee, ⟨r1, k1, hO1⟩, ev⟩
  · rcases s2 with ⟨_, rfl, _⟩ | ⟨j, hj, e, _⟩
    · rfl
    · exact absurd ⟨j, hj, e⟩ q1
  · rcases s2 with ⟨q2, _, _⟩ | ⟨j', hj', ex', jp, rfl⟩
    · exact absurd ⟨j, hj, ex⟩ q2
    · have hm50 := hMm.1
      have e9 : j = j' := (nI_eq (by omega) (by omega)).mp (ex.symm.trans ex')
      subst e9
      obtain ⟨jv, no⟩ := JA_at hW hC hV hO hMm hj he ee r1 k1 hO1 jp
      rcases ev with ⟨q, hq, hl, rfl⟩ | ⟨nl, rfl⟩
      · rw [← hl]
        exact (jv.2.1 q hq).symm
      · exact (no nl).1.symm
theorem fin_sure {f f1 f2 : Nat → Nat → Int32} {n c v h m : Nat} {x v1 v2 : Int32} (hW : RW n f) (hC : RC c f) (hV : RV v f) (hO : RO h f) (hMm : RM m f) (s1 : SX_sure n c v h m f f1 x v1) (s2 : SM_sure n c v h m f1 f2 x v2) : v1 = v2 := by
  rcases s1 with ⟨q1, rfl, rfl⟩ | ⟨j, e, fa, b, hj, he, ex, ee, ⟨r1, k1, hO1⟩, ev⟩
  · rcases s2 with ⟨_, rfl, _⟩ | ⟨j, hj, e, _⟩
    · rfl
    · exact absurd ⟨j, hj, e⟩ q1
  · rcases s2 with ⟨q2, _, _⟩ | ⟨j', hj', ex', jp, rfl⟩
    · exact absurd ⟨j, hj, ex⟩ q2
    · have hm50 := hMm.1
      have e9 : j = j' := (nI_eq (by omega) (by omega)).mp (ex.symm.trans ex')
      subst e9
      obtain ⟨jv, no⟩ := JA_at hW hC hV hO hMm hj he ee r1 k1 hO1 jp
      have m4 : (-4 : Int32) < 0 := by decide
      rcases ev with ⟨q, hq, hl, ev⟩ | ⟨nl, rfl⟩
      · have a1 := jv.2.1 q hq
        rw [hl] at a1
        rcases ev with ⟨c1, rfl⟩ | ⟨c1, y, my, rfl⟩
        · rw [if_neg c1] at a1
          rw [a1, if_pos m4]
        · have hn40 := hW.1
          have bn := S_n (n := n) Scv_Z c1
          rw [if_pos c1] at a1
          have a2 := jv.2.2 q hq c1 y my
          rw [hl] at a2
          have n0 : ¬ nI (b q) < 0 := nI_nlt (b := 0) (by omega) (by omega)
          rw [a1, if_neg n0, a2]
          by_cases c2 : y < vl (Scv fa n h m e) b (gr (fa 141) (nI e) m)
          · rw [if_pos c2, if_neg (by decide)]
          · rw [if_neg c2, if_pos rfl]
      · rw [(no nl).1, if_pos m4]
def MYJ (n c v : Nat) (f : Nat → Nat → Int32) : Prop := MY n c v f ∧ MJ f
theorem MYJ_kp {l : List Nat} {f f' : Nat → Nat → Int32} {n c v : Nat} (k : kp l f f') (hl : okm l = true) (hj : okJn l = true) (m : MYJ n c v f) : MYJ n c v f' := ⟨MY_kp k hl m.1, MJ_kp k hj m.2⟩
theorem YC_un {f f2 : Nat → Nat → Int32} {n c v : Nat} (h : ∀ a i, (a = 187 ∨ a = 188 ∨ (196 ≤ a ∧ a ≤ 199) ∨ a = 218) → f2 a i = f a i) (y : YC f n c v) (y2 : YC f2 n c v) : ∀ w, w < n → f2 200 w = f 200 w := by
  have h196 : ∀ i, f2 196 i = f 196 i := fun i => h 196 i (by omega)
  have h197 : ∀ i, f2 197 i = f 197 i := fun i => h 197 i (by omega)
  have h198 : ∀ i, f2 198 i = f 198 i := fun i => h 198 i (by omega)
  have hP : ∀ k, PMc f2 v k = PMc f v k := fun k => by
    unfold PMc
    rw [smp_kp (fun i => h 218 i (by omega)), smp_kp (fun i => h 218 i (by omega)), h 199 k (by omega), h196, h197]
  have eS : SMc f2 v c = SMc f v c := by
    funext X
    unfold SMc
    simp only [hP, h196, h197, h198]
  have y187 : Yh f2 187 n = Yh f 187 n := Yh_eq (fun w _ => h 187 w (by omega))
  have y188 : Yh f2 188 n = Yh f 188 n := Yh_eq (fun w _ => h 188 w (by omega))
  have fe : FEa (SMc f2 v c) f2 187 188 n ↔ FEa (SMc f v c) f 187 188 n := by
    unfold FEa
    rw [eS, y187, y188]
  intro w hw
  rcases y.2 with ⟨_, b2, b3⟩ | ⟨_, b2, b3, _, _⟩
  · rcases y2.2 with ⟨_, d2, d3⟩ | ⟨_, d2, d3, _, _⟩
    · rw [(d3 w hw).1, (b3 w hw).1]
      exact h 187 w (by omega)
    · exact absurd (fe.mp d2) b2
  · rcases y2.2 with ⟨_, d2, d3⟩ | ⟨_, d2, d3, _, _⟩
    · exact absurd (fe.mpr b2) d2
    · rw [eS, y187] at d3
      have e := LS_u (fun Z => Iff.rfl) d3 b3 w
      rw [Yh_t hw, Yh_t hw] at e
      exact Int32.toInt_inj.mp e
/-- years found anew are the same: the joins stay right -/
theorem MJ_again {f f2 : Nat → Nat → Int32} {n c v : Nat} (k : ∀ a i, (a = 185 ∨ a = 186 ∨ a = 187 ∨ a = 188 ∨ (189 ≤ a ∧ a ≤ 199) ∨ (203 ≤ a ∧ a ≤ 206) ∨ a = 218) → f2 a i = f a i) (k1 : ∀ i, (i = 0 ∨ i = 27 ∨ i = 48 ∨ i = 14 ∨ i = 39) → f2 181 i = f 181 i) (hn : f 181 0 = nI n) (hn40 : n ≤ 40) (z : ¬ f 181 29 = 0) (y : YC f n c v) (y2 : YC f2 n c v) (h : MJ f) : MJ f2 := fun n' v' hh m s z1 z2 => by
  rw [k1 39 (by omega)] at z2
  have s' := SCo_g (f := f2) (f' := f) (fun a i q => (k a i (by omega)).symm) (fun i q => (k1 i (by omega)).symm) s
  have e : n' = n := (nI_eq (by have := s'.1; omega) (by omega)).mp (s'.2.2.2.2.1.symm.trans hn)
  subst e
  have yw := YC_un (f := f) (f2 := f2) (fun a i q => k a i (by omega)) y y2
  exact JA_q (fun i => k 203 i (by omega)) (fun j w hw => scM_w (fun a i q => k a i (by omega)) (yw w hw)) (fun a i q => k a i (by omega)) (h n' v' hh m s' z z2)
set_option maxRecDepth 100000 in
set_option maxHeartbeats 4000000 in
theorem smr_refresh {d L : Nat} {f : Nat → Nat → Int32} {g : Nat → Nat → Int64} {n c v : Nat} {R : Option Value → mH → Prop} (hd : 6 ≤ d) (hX : XI f) (hY : MYJ n c v f) (H : ∀ f', XI f' → o6 f f' → kp [10, 22, 23] f f' → MYJ n c v f' → YC f' n c v → ¬ f' 181 29 = 0 → R none (shF L, f', g)) : Run mtab d 206 [.ref 181] (shF L, f, g) R :=
  smj_refresh (n := n) (c := c) (v := v) (by omega) hX hY.1 hY.2 (fun f1 h1 o1 k1 y1 yc1 z1 j1 _ => H f1 h1 o1 k1 ⟨y1, j1⟩ yc1 z1)
set_option maxRecDepth 100000 in
set_option maxHeartbeats 4000000 in
theorem smr_joinAll {d L : Nat} {f : Nat → Nat → Int32} {g : Nat → Nat → Int64} {n0 c0 v0 h0 m0 : Nat} {R : Option Value → mH → Prop} (hd : 9 ≤ d) (hX : XI f) (hY : MYJ n0 c0 v0 f) (hS : SCo f n0 v0 h0 m0) (H : ∀ f', XI f' → kp [10, 22, 23] f f' → MYJ n0 c0 v0 f' → R none (shF L, f', g)) : Run mtab d 207 [.ref 181] (shF L, f, g) R :=
  smf_joinAll (n := n0) (c := c0) (v := v0) (h := h0) (m := m0) (by omega) hX hY.1 hY.2 hS (fun f' fb x' k' y' j' _ _ _ _ => H f' x' k' ⟨y', j'⟩)
set_option maxRecDepth 100000 in
set_option maxHeartbeats 4000000 in
theorem smr_score {d L : Nat} {f : Nat → Nat → Int32} {g : Nat → Nat → Int64} {n0 c0 v0 : Nat}{x1 x2 : Int32} {R : Option Value → mH → Prop} (hd : 10 ≤ d) (hX : XI f) (hI : MI f) (hY : MYJ n0 c0 v0 f) (H : ∀ v f' g', XI f' → kp [10, 22, 23] f f' → MYJ n0 c0 v0 f' → R (some (.int v)) (shF L, f', g')) : Run mtab d 197 [.ref 181, .int x1, .int x2] (shF L, f, g) R := by
  obtain ⟨d, rfl⟩ : ∃ e, d = e + 1 := ⟨d - 1, by omega⟩
  refine go_X11_score rfl ?_
  conv => whnf
  obtain ⟨mn, hmm, hmb⟩ := inr_nat (n := 50) rfl (xi_181_27 hX)
  obtain ⟨n, hm, hb⟩ := inr_nat (n := 40) rfl (xi_181_0 hX)
  repeat' first
    | ((with_reducible refine ⟨vp_in_nI (by omega) (by decide), ?_⟩) <;> conv => whnf)
    | (refine ⟨Or.inl rfl, ?_⟩ <;> conv => whnf)
    | (refine ⟨Or.inr rfl, ?_⟩ <;> conv => whnf)
    | (refine ⟨Or.inl True.intro, ?_⟩ <;> conv => whnf)
    | (refine ⟨Or.inr True.intro, ?_⟩ <;> conv => whnf)
    | (refine ⟨fun c => ?_, fun c => ?_⟩ <;> first | ((have c9 : (1 : Int32) = 0 := by with_reducible exact c); exact absurd c9 (by decide)) | exact absurd (rfl : (0 : Int32) = 0) (by with_reducible exact c) | exact absurd True.intro (by with_reducible exact c) | exact False.elim (by with_reducible exact c) | (conv => whnf))
    | (refine sm_isMention (by omega) hmb hmm (fun mj hmj e => ?_) (fun q => ?_) <;> (try subst e) <;> conv => whnf)
    | (refine ct_mIsWork (by omega) hb hm (fun j hj e => ?_) (fun q => ?_) <;> (try subst e) <;> conv => whnf)
    | (refine smr_refresh (by omega) hX hY (fun f1 h1 o1 k1 y1 yc1 z1 => ?_) <;> conv => whnf)
    | ((obtain ⟨⟨t, ht1, ht4, ht⟩, _⟩ := MI_kp hI k1 rfl n hm ((k1 181 0 rfl).trans hb) j hj); refine sm_scoreOf (by omega) h1 (by omega) (by omega) ht ht1 ht4 (fun v => ?_) <;> conv => whnf)
    | (refine ⟨by unfold vp_in; decide, ?_⟩ <;> conv => whnf)
    | fail
  all_goals exact H _ _ _ (by repeat' first | (with_reducible assumption) | (with_reducible refine XI_ui ?_ ?_) | (with_reducible refine XI_fil ?_ (fun _ => ?_)) | (with_reducible refine XI_cpy ?_ (fun _ _ => ?_)) | exact True.intro | ((show inr _ _ _); first | (with_reducible assumption) | (unfold inr; decide)) | fail) (by repeat' first | (with_reducible exact kp_refl _ _) | (with_reducible assumption) | (with_reducible refine kp_ui ?_ ?_) | (with_reducible refine kp_fil ?_ ?_) | (with_reducible refine kp_cpy ?_ ?_) | (refine kp_trans ?_ (kp_wd k1 rfl)) | (refine kp_trans ?_ (kp_fx k1 rfl)) | rfl | fail) (by first | exact y1 | exact hY)
set_option maxRecDepth 100000 in
set_option maxHeartbeats 4000000 in
theorem smr_rivals {d L : Nat} {f : Nat → Nat → Int32} {g : Nat → Nat → Int64} {n0 c0 v0 : Nat}{x1 : Int32} {R : Option Value → mH → Prop} (hd : 10 ≤ d) (hX : XI f) (hI : MI f) (hY : MYJ n0 c0 v0 f) (H : ∀ v f' g', XI f' → kp [10, 22, 23] f f' → MYJ n0 c0 v0 f' → R (some (.int v)) (shF L, f', g')) : Run mtab d 199 [.ref 181, .int x1] (shF L, f, g) R := by
  obtain ⟨d, rfl⟩ : ∃ e, d = e + 1 := ⟨d - 1, by omega⟩
  refine go_X11_rivals rfl ?_
  conv => whnf
  obtain ⟨mn, hmm, hmb⟩ := inr_nat (n := 50) rfl (xi_181_27 hX)
  repeat' first
    | ((with_reducible refine ⟨vp_in_nI (by omega) (by decide), ?_⟩) <;> conv => whnf)
    | (refine ⟨Or.inl rfl, ?_⟩ <;> conv => whnf)
    | (refine ⟨Or.inr rfl, ?_⟩ <;> conv => whnf)
    | (refine ⟨Or.inl True.intro, ?_⟩ <;> conv => whnf)
    | (refine ⟨Or.inr True.intro, ?_⟩ <;> conv => whnf)
    | (refine ⟨fun c => ?_, fun c => ?_⟩ <;> first | ((have c9 : (1 : Int32) = 0 := by with_reducible exact c); exact absurd c9 (by decide)) | exact absurd (rfl : (0 : Int32) = 0) (by with_reducible exact c) | exact absurd True.intro (by with_reducible exact c) | exact False.elim (by with_reducible exact c) | (conv => whnf))
    | (refine sm_isMention (by omega) hmb hmm (fun mj hmj e => ?_) (fun q => ?_) <;> (try subst e) <;> conv => whnf)
    | (refine smr_refresh (by omega) hX hY (fun f1 h1 o1 k1 y1 yc1 z1 => ?_) <;> conv => whnf)
    | (refine sm_rivalsOf (by omega) h1 (MI_kp hI k1 rfl) (by omega) (fun v => ?_) <;> conv => whnf)
    | (refine ⟨by unfold vp_in; decide, ?_⟩ <;> conv => whnf)
    | fail
  all_goals exact H _ _ _ (by repeat' first | (with_reducible assumption) | (with_reducible refine XI_ui ?_ ?_) | (with_reducible refine XI_fil ?_ (fun _ => ?_)) | (with_reducible refine XI_cpy ?_ (fun _ _ => ?_)) | exact True.intro | ((show inr _ _ _); first | (with_reducible assumption) | (unfold inr; decide)) | fail) (by repeat' first | (with_reducible exact kp_refl _ _) | (with_reducible assumption) | (with_reducible refine kp_ui ?_ ?_) | (with_reducible refine kp_fil ?_ ?_) | (with_reducible refine kp_cpy ?_ ?_) | (refine kp_trans ?_ (kp_wd k1 rfl)) | (refine kp_trans ?_ (kp_fx k1 rfl)) | rfl | fail) (by first | exact y1 | exact hY)
set_option maxRecDepth 100000 in
set_option maxHeartbeats 4000000 in
theorem smr_mentions {d L : Nat} {f : Nat → Nat → Int32} {g : Nat → Nat → Int64} {n0 c0 v0 h0 m0 : Nat}{x1 : Int32} {R : Option Value → mH → Prop} (hd : 10 ≤ d) (hX : XI f) (hI : MI f) (hY : MYJ n0 c0 v0 f) (hS : SCo f n0 v0 h0 m0) (H : ∀ v f' g', XI f' → kp [10, 22, 23] f f' → MYJ n0 c0 v0 f' → R (some (.int v)) (shF L, f', g')) : Run mtab d 211 [.ref 181, .int x1] (shF L, f, g) R := by
  obtain ⟨d, rfl⟩ : ∃ e, d = e + 1 := ⟨d - 1, by omega⟩
  refine go_X11_mentions rfl ?_
  conv => whnf
  obtain ⟨mn, hmm, hmb⟩ := inr_nat (n := 50) rfl (xi_181_27 hX)
  repeat' first
    | exact sm_mns_lp (by omega) h1 ((k1 181 27 rfl).trans hmb) hmm (MI_kp hI k1 rfl) (fun v => H v _ _ h1 k1 y1) mn 0 _ _ (by omega) rfl
    | ((with_reducible refine ⟨vp_in_nI (by omega) (by decide), ?_⟩) <;> conv => whnf)
    | (refine ⟨Or.inl rfl, ?_⟩ <;> conv => whnf)
    | (refine ⟨Or.inr rfl, ?_⟩ <;> conv => whnf)
    | (refine ⟨Or.inl True.intro, ?_⟩ <;> conv => whnf)
    | (refine ⟨Or.inr True.intro, ?_⟩ <;> conv => whnf)
    | (refine ⟨fun c => ?_, fun c => ?_⟩ <;> first | ((have c9 : (1 : Int32) = 0 := by with_reducible exact c); exact absurd c9 (by decide)) | exact absurd (rfl : (0 : Int32) = 0) (by with_reducible exact c) | exact absurd True.intro (by with_reducible exact c) | exact False.elim (by with_reducible exact c) | (conv => whnf))
    | ((with_reducible refine ct_i_0_2 (by omega) (fun p => ?_) (fun p => ?_)) <;> conv => whnf)
    | (refine smr_joinAll (by omega) hX hY hS (fun f1 h1 k1 y1 => ?_) <;> conv => whnf)
    | (refine ⟨by unfold vp_in; decide, ?_⟩ <;> conv => whnf)
    | fail
  all_goals exact H _ _ _ (by repeat' first | (with_reducible assumption) | (with_reducible refine XI_ui ?_ ?_) | (with_reducible refine XI_fil ?_ (fun _ => ?_)) | (with_reducible refine XI_cpy ?_ (fun _ _ => ?_)) | exact True.intro | ((show inr _ _ _); first | (with_reducible assumption) | (unfold inr; decide)) | fail) (by repeat' first | (with_reducible exact kp_refl _ _) | (with_reducible assumption) | (with_reducible refine kp_ui ?_ ?_) | (with_reducible refine kp_fil ?_ ?_) | (with_reducible refine kp_cpy ?_ ?_) | (refine kp_trans ?_ (kp_wd k1 rfl)) | (refine kp_trans ?_ (kp_fx k1 rfl)) | rfl | fail) (by first | exact y1 | exact hY)
set_option maxRecDepth 100000 in
set_option maxHeartbeats 4000000 in
theorem smr_counted {d L : Nat} {f : Nat → Nat → Int32} {g : Nat → Nat → Int64} {n0 c0 v0 h0 m0 : Nat}{x1 x2 x3 : Int32} {R : Option Value → mH → Prop} (hd : 10 ≤ d) (hX : XI f) (hI : MI f) (hY : MYJ n0 c0 v0 f) (hS : SCo f n0 v0 h0 m0) (H : ∀ v f' g', XI f' → kp [10, 22, 23] f f' → MYJ n0 c0 v0 f' → R (some (.int v)) (shF L, f', g')) : Run mtab d 213 [.ref 181, .int x1, .int x2, .int x3] (shF L, f, g) R := by
  obtain ⟨d, rfl⟩ : ∃ e, d = e + 1 := ⟨d - 1, by omega⟩
  refine go_X11_counted rfl ?_
  conv => whnf
  obtain ⟨n, hm, hb⟩ := inr_nat (n := 40) rfl (xi_181_0 hX)
  repeat' first
    | exact sm_ctd_lp (by omega) h1 ((k1 181 0 rfl).trans hb) hm (fun v => H v _ _ h1 k1 y1) n 0 _ _ _ _ _ _ (by omega) rfl
    | ((with_reducible refine ⟨vp_in_nI (by omega) (by decide), ?_⟩) <;> conv => whnf)
    | (refine ⟨Or.inl rfl, ?_⟩ <;> conv => whnf)
    | (refine ⟨Or.inr rfl, ?_⟩ <;> conv => whnf)
    | (refine ⟨Or.inl True.intro, ?_⟩ <;> conv => whnf)
    | (refine ⟨Or.inr True.intro, ?_⟩ <;> conv => whnf)
    | (refine ⟨fun c => ?_, fun c => ?_⟩ <;> first | ((have c9 : (1 : Int32) = 0 := by with_reducible exact c); exact absurd c9 (by decide)) | exact absurd (rfl : (0 : Int32) = 0) (by with_reducible exact c) | exact absurd True.intro (by with_reducible exact c) | exact False.elim (by with_reducible exact c) | (conv => whnf))
    | ((with_reducible refine ct_i_0_2 (by omega) (fun p => ?_) (fun p => ?_)) <;> conv => whnf)
    | ((with_reducible refine ct_i_0_4 (by omega) (fun p => ?_) (fun p => ?_)) <;> conv => whnf)
    | (refine smr_joinAll (by omega) hX hY hS (fun f1 h1 k1 y1 => ?_) <;> conv => whnf)
    | (refine ⟨by unfold vp_in; decide, ?_⟩ <;> conv => whnf)
    | fail
  all_goals exact H _ _ _ (by repeat' first | (with_reducible assumption) | (with_reducible refine XI_ui ?_ ?_) | (with_reducible refine XI_fil ?_ (fun _ => ?_)) | (with_reducible refine XI_cpy ?_ (fun _ _ => ?_)) | exact True.intro | ((show inr _ _ _); first | (with_reducible assumption) | (unfold inr; decide)) | fail) (by repeat' first | (with_reducible exact kp_refl _ _) | (with_reducible assumption) | (with_reducible refine kp_ui ?_ ?_) | (with_reducible refine kp_fil ?_ ?_) | (with_reducible refine kp_cpy ?_ ?_) | (refine kp_trans ?_ (kp_wd k1 rfl)) | (refine kp_trans ?_ (kp_fx k1 rfl)) | rfl | fail) (by first | exact y1 | exact hY)
set_option maxRecDepth 100000 in
set_option maxHeartbeats 4000000 in
theorem smr_made {d L : Nat} {f : Nat → Nat → Int32} {g : Nat → Nat → Int64} {n0 c0 v0 : Nat}{x1 x2 : Int32} {R : Option Value → mH → Prop} (hd : 9 ≤ d) (hX : XI f) (hY : MYJ n0 c0 v0 f) (H : ∀ v f' g', XI f' → kp [10, 22, 23] f f' → MYJ n0 c0 v0 f' → R (some (.int v)) (shF L, f', g')) : Run mtab d 182 [.ref 181, .int x1, .int x2] (shF L, f, g) R := by
  obtain ⟨d, rfl⟩ : ∃ e, d = e + 1 := ⟨d - 1, by omega⟩
  refine go_X11_made rfl ?_
  conv => whnf
  obtain ⟨n, hm, hb⟩ := inr_nat (n := 40) rfl (xi_181_0 hX)
  repeat' first
    | ((with_reducible refine ⟨vp_in_nI (by omega) (by decide), ?_⟩) <;> conv => whnf)
    | (refine ⟨Or.inl rfl, ?_⟩ <;> conv => whnf)
    | (refine ⟨Or.inr rfl, ?_⟩ <;> conv => whnf)
    | (refine ⟨Or.inl True.intro, ?_⟩ <;> conv => whnf)
    | (refine ⟨Or.inr True.intro, ?_⟩ <;> conv => whnf)
    | (refine ⟨fun c => ?_, fun c => ?_⟩ <;> first | ((have c9 : (1 : Int32) = 0 := by with_reducible exact c); exact absurd c9 (by decide)) | exact absurd (rfl : (0 : Int32) = 0) (by with_reducible exact c) | exact absurd True.intro (by with_reducible exact c) | exact False.elim (by with_reducible exact c) | (conv => whnf))
    | (refine ct_mIsWork (by omega) hb hm (fun j hj e => ?_) (fun q => ?_) <;> (try subst e) <;> conv => whnf)
    | ((with_reducible refine ct_i_0_1 (by omega) (fun p => ?_) (fun p => ?_)) <;> conv => whnf)
    | (refine smr_refresh (by omega) hX hY (fun f1 h1 o1 k1 y1 yc1 z1 => ?_) <;> conv => whnf)
    | (refine ⟨by unfold vp_in; decide, ?_⟩ <;> conv => whnf)
    | fail
  all_goals exact H _ _ _ (by repeat' first | (with_reducible assumption) | (with_reducible refine XI_ui ?_ ?_) | (with_reducible refine XI_fil ?_ (fun _ => ?_)) | (with_reducible refine XI_cpy ?_ (fun _ _ => ?_)) | exact True.intro | ((show inr _ _ _); first | (with_reducible assumption) | (unfold inr; decide)) | fail) (by repeat' first | (with_reducible exact kp_refl _ _) | (with_reducible assumption) | (with_reducible refine kp_ui ?_ ?_) | (with_reducible refine kp_fil ?_ ?_) | (with_reducible refine kp_cpy ?_ ?_) | (refine kp_trans ?_ (kp_wd k1 rfl)) | (refine kp_trans ?_ (kp_fx k1 rfl)) | rfl | fail) (by first | exact y1 | exact hY)
set_option maxRecDepth 100000 in
set_option maxHeartbeats 4000000 in
theorem smr_quarrel {d L : Nat} {f : Nat → Nat → Int32} {g : Nat → Nat → Int64} {n0 c0 v0 : Nat} {R : Option Value → mH → Prop} (hd : 9 ≤ d) (hX : XI f) (hY : MYJ n0 c0 v0 f) (H : ∀ v f' g', XI f' → kp [10, 22, 23] f f' → MYJ n0 c0 v0 f' → R (some (.int v)) (shF L, f', g')) : Run mtab d 183 [.ref 181] (shF L, f, g) R := by
  obtain ⟨d, rfl⟩ : ∃ e, d = e + 1 := ⟨d - 1, by omega⟩
  refine go_X11_quarrel rfl ?_
  conv => whnf
  repeat' first
    | ((with_reducible refine ⟨vp_in_nI (by omega) (by decide), ?_⟩) <;> conv => whnf)
    | (refine ⟨Or.inl rfl, ?_⟩ <;> conv => whnf)
    | (refine ⟨Or.inr rfl, ?_⟩ <;> conv => whnf)
    | (refine ⟨Or.inl True.intro, ?_⟩ <;> conv => whnf)
    | (refine ⟨Or.inr True.intro, ?_⟩ <;> conv => whnf)
    | (refine ⟨fun c => ?_, fun c => ?_⟩ <;> first | ((have c9 : (1 : Int32) = 0 := by with_reducible exact c); exact absurd c9 (by decide)) | exact absurd (rfl : (0 : Int32) = 0) (by with_reducible exact c) | exact absurd True.intro (by with_reducible exact c) | exact False.elim (by with_reducible exact c) | (conv => whnf))
    | (refine smr_refresh (by omega) hX hY (fun f1 h1 o1 k1 y1 yc1 z1 => ?_) <;> conv => whnf)
    | (refine ⟨by unfold vp_in; decide, ?_⟩ <;> conv => whnf)
    | fail
  all_goals exact H _ _ _ (by repeat' first | (with_reducible assumption) | (with_reducible refine XI_ui ?_ ?_) | (with_reducible refine XI_fil ?_ (fun _ => ?_)) | (with_reducible refine XI_cpy ?_ (fun _ _ => ?_)) | exact True.intro | ((show inr _ _ _); first | (with_reducible assumption) | (unfold inr; decide)) | fail) (by repeat' first | (with_reducible exact kp_refl _ _) | (with_reducible assumption) | (with_reducible refine kp_ui ?_ ?_) | (with_reducible refine kp_fil ?_ ?_) | (with_reducible refine kp_cpy ?_ ?_) | (refine kp_trans ?_ (kp_wd k1 rfl)) | (refine kp_trans ?_ (kp_fx k1 rfl)) | rfl | fail) (by first | exact y1 | exact hY)
set_option maxRecDepth 100000 in
set_option maxHeartbeats 4000000 in
theorem smr_lookAside {d L : Nat} {f : Nat → Nat → Int32} {g : Nat → Nat → Int64} {n0 c0 v0 : Nat} {R : Option Value → mH → Prop} (hd : 7 ≤ d) (hX : XI f) (hY : MYJ n0 c0 v0 f) (H : ∀ v f' g', (v = -4 ∨ ∃ s, s ≤ 3 ∧ v = nI s) → XI f' → kp [10, 22, 23] f f' → MYJ n0 c0 v0 f' → R (some (.int v)) (shF L, f', g')) : Run mtab d 187 [.ref 181] (shF L, f, g) R := by
  obtain ⟨d, rfl⟩ : ∃ e, d = e + 1 := ⟨d - 1, by omega⟩
  refine go_X11_lookAside rfl ?_
  conv => whnf
  refine smr_refresh (by omega) hX hY (fun f1 h1 o1 k1 y1 yc1 z1 => ?_)
  conv => whnf
  refine sm_findAsides (by omega) h1 (fun v f2 g2 hv h2 k2 => ?_)
  conv => whnf
  have c2 : CM f2 n0 c0 := CM_q (fun a i q => k2 a i (by omega)) (k2 181 0 (by omega)) (k2 181 16 (by omega)) y1.1.1
  refine smj_findYears (n := n0) (c := c0) (v := v0) (by omega) c2 ((k2 181 48 (by omega)).trans y1.1.2.1) y1.1.2.2.1 (fun f3 o3 e3 y3 => ?_)
  conv => whnf
  have m2 : MY n0 c0 v0 f3 := ⟨CM_o o3 c2, (o3 181 48 (by omega) (by omega) (by omega) (by omega) (by omega) (by omega)).trans ((k2 181 48 (by omega)).trans y1.1.2.1), y1.1.2.2.1, fun _ => y3⟩
  have hn40 := y1.1.1.1
  have j3 : MJ f3 := MJ_again (f := f1) (n := n0) (c := c0) (v := v0) (fun a i q => (o3 a i (by omega) (by omega) (by omega) (by omega) (by omega) (by omega)).trans (k2 a i (by omega))) (fun i q => by
    rcases q with rfl | rfl | rfl | rfl | rfl
    · exact (o3 181 0 (by omega) (by omega) (by omega) (by omega) (by omega) (by omega)).trans (k2 181 0 (by omega))
    · exact (o3 181 27 (by omega) (by omega) (by omega) (by omega) (by omega) (by omega)).trans (k2 181 27 (by omega))
    · exact (o3 181 48 (by omega) (by omega) (by omega) (by omega) (by omega) (by omega)).trans (k2 181 48 (by omega))
    · exact (o3 181 14 (by omega) (by omega) (by omega) (by omega) (by omega) (by omega)).trans (k2 181 14 (by omega))
    · exact e3.2.trans (k2 181 39 (by omega))) y1.1.1.2.2.1 hn40 z1 yc1 y3 y1.2
  exact H _ _ _ hv (XI_o6 h2 o3) (kp_trans k1 (kp_trans (kp_fx k2 rfl) (kp_wd (kp_o6 o3) rfl))) ⟨m2, j3⟩
set_option maxRecDepth 100000 in
set_option maxHeartbeats 4000000 in
theorem smr_asides {d L : Nat} {f : Nat → Nat → Int32} {g : Nat → Nat → Int64} {n0 c0 v0 : Nat} {R : Option Value → mH → Prop} (hd : 8 ≤ d) (hX : XI f) (hY : MYJ n0 c0 v0 f) (H : ∀ v f' g', XI f' → kp [10, 22, 23] f f' → MYJ n0 c0 v0 f' → R (some (.int v)) (shF L, f', g')) : Run mtab d 188 [.ref 181] (shF L, f, g) R := by
  obtain ⟨d, rfl⟩ : ∃ e, d = e + 1 := ⟨d - 1, by omega⟩
  refine go_X11_asides rfl ?_
  conv => whnf
  refine smr_lookAside (by omega) hX hY (fun v f1 g1 hv h1 k1 y1 => ?_)
  conv => whnf
  exact H _ _ _ h1 k1 y1
set_option maxRecDepth 100000 in
set_option maxHeartbeats 4000000 in
theorem smr_aside {d L : Nat} {f : Nat → Nat → Int32} {g : Nat → Nat → Int64} {n0 c0 v0 : Nat}{x1 : Int32} {R : Option Value → mH → Prop} (hd : 8 ≤ d) (hX : XI f) (hY : MYJ n0 c0 v0 f) (H : ∀ v f' g', XI f' → kp [10, 22, 23] f f' → MYJ n0 c0 v0 f' → R (some (.int v)) (shF L, f', g')) : Run mtab d 189 [.ref 181, .int x1] (shF L, f, g) R := by
  obtain ⟨d, rfl⟩ : ∃ e, d = e + 1 := ⟨d - 1, by omega⟩
  refine go_X11_aside rfl ?_
  conv => whnf
  refine ⟨fun c0 => ?_, fun c => ?_⟩
  · conv => whnf
    refine smr_lookAside (by omega) hX hY (fun v f1 g1 hv h1 k1 y1 => ?_)
    conv => whnf
    refine ⟨fun c => ?_, fun c => ?_⟩
    · conv => whnf
      refine ⟨fun c2 => ?_, fun c2 => ?_⟩
      · conv => whnf
        exact H _ _ _ h1 k1 y1
      · rcases hv with rfl | ⟨s, hs, rfl⟩
        · exact absurd c (by decide)
        · obtain ⟨a, ha, rfl⟩ := nI_of (i32_nlt.mpr c0)
          rw [nI_leI (by omega) ha] at c2
          conv => whnf
          refine ⟨vp_in_nI (by omega) (by decide), ?_⟩
          conv => whnf
          exact H _ _ _ h1 k1 y1
    · conv => whnf
      exact H _ _ _ h1 k1 y1
  · conv => whnf
    exact H _ _ _ hX (kp_refl _ _) hY
set_option maxRecDepth 100000 in
set_option maxHeartbeats 4000000 in
theorem smr_edition {d L : Nat} {f : Nat → Nat → Int32} {g : Nat → Nat → Int64} {n0 c0 v0 : Nat} {R : Option Value → mH → Prop} (hd : 9 ≤ d) (hX : XI f) (hY : MYJ n0 c0 v0 f) (H : ∀ v f' g', MYJ n0 c0 v0 f' → R (some (.int v)) (shF L, f', g')) : Run mtab d 233 [.ref 181] (shF L, f, g) R := by
  obtain ⟨d, rfl⟩ : ∃ e, d = e + 1 := ⟨d - 1, by omega⟩
  refine go_X11_edition rfl ?_
  conv => whnf
  refine ⟨fun z => ?_, fun z => ?_⟩
  · conv => whnf
    refine smr_refresh (by omega) hX hY (fun f1 h1 o1 k1 y1 yc1 z1 => ?_)
    obtain ⟨n, hm, hb⟩ := inr_nat (n := 40) rfl (xi_181_0 h1)
    obtain ⟨vn, hvm, hvb⟩ := inr_nat (n := 60) rfl (xi_181_48 h1)
    conv => whnf
    exact smf_ed1_lp (f0 := f1) (fz := f1) (ev := f 181 50) (by omega) hm hb hvb hvm (kp_refl _ _) (k1 181 50 rfl) (fun v f' g' a b e => H v f' g' (MYJ_kp b rfl rfl y1)) n 0 _ _ _ _ _ _ _ _ _ (by omega) rfl h1 (fx_refl _ _ _) ⟨0, by omega, rfl⟩
  · conv => whnf
    exact H _ _ _ hY
theorem sh_inj {L : Nat} {f f' : Nat → Nat → Int32} {g g' : Nat → Nat → Int64} (e : ((shF L, f, g) : mH) = (shF L, f', g')) : f = f' := congrArg (fun q : mH => q.2.1) e
theorem Run_j {L d y : Nat} {as : List Value} {h : mH} {g : Nat → Nat → Int64} {S : Int32 → (Nat → Nat → Int32) → Prop} {J : (Nat → Nat → Int32) → Prop} {R : Option Value → mH → Prop} (H1 : Run mtab d y as h (fun o h9 => ∃ r f2, o = some (.int r) ∧ h9 = (shF L, f2, g) ∧ S r f2)) (H2 : Run mtab d y as h (hasP L J)) (H : ∀ r f2, S r f2 → J f2 → R (some (.int r)) (shF L, f2, g)) : Run mtab d y as h R := Run_2 H1 H2 (fun o h9 z1 z2 => by
  obtain ⟨r, f2, e1, e2, s⟩ := z1
  obtain ⟨f3, g3, e3, j⟩ := z2
  have e := sh_inj (e2.symm.trans e3)
  rw [e1, e2]
  rw [← e] at j
  exact H r f2 s j)
/-! how many below k -/
noncomputable def cN (P : Nat → Prop) : Nat → Nat
  | 0 => 0
  | k + 1 => cN P k + @ite Nat (P k) (Classical.propDecidable _) 1 0
theorem cN_y {P : Nat → Prop} {k : Nat} (h : P k) : cN P (k + 1) = cN P k + 1 := congrArg (fun z => cN P k + z) (@if_pos (P k) (Classical.propDecidable _) h Nat 1 0)
theorem cN_n {P : Nat → Prop} {k : Nat} (h : ¬ P k) : cN P (k + 1) = cN P k := congrArg (fun z => cN P k + z) (@if_neg (P k) (Classical.propDecidable _) h Nat 1 0)
theorem cN_congr {P Q : Nat → Prop} : ∀ k, (∀ i, i < k → (P i ↔ Q i)) → cN P k = cN Q k
  | 0, _ => rfl
  | k + 1, h => by
    have ih := cN_congr k (fun i hi => h i (by omega))
    by_cases q : P k
    · rw [cN_y q, cN_y ((h k (by omega)).mp q), ih]
    · rw [cN_n q, cN_n (fun z => q ((h k (by omega)).mpr z)), ih]
theorem cN_0 {P : Nat → Prop} : ∀ k, (∀ i, i < k → ¬ P i) → cN P k = 0
  | 0, _ => rfl
  | k + 1, h => by
    rw [cN_n (h k (by omega)), cN_0 k (fun i hi => h i (by omega))]
theorem cN_le {P : Nat → Prop} : ∀ k, cN P k ≤ k
  | 0 => Nat.le_refl _
  | k + 1 => by
    have ih := cN_le (P := P) k
    by_cases q : P k
    · rw [cN_y q]
      omega
    · rw [cN_n q]
      omega
theorem cN_more {P : Nat → Prop} {n : Nat} : ∀ k, n ≤ k → (∀ i, n ≤ i → i < k → ¬ P i) → cN P k = cN P n
  | 0, h, _ => by
    have e : n = 0 := by omega
    rw [e]
  | k + 1, h, hP => by
    by_cases e : n = k + 1
    · rw [e]
    · rw [cN_n (hP k (by omega) (by omega)), cN_more k (by omega) (fun i h1 h2 => hP i h1 (by omega))]
theorem cN_or {P Q S : Nat → Prop} : ∀ k, (∀ i, i < k → (S i ↔ (P i ∨ Q i))) → (∀ i, i < k → P i → ¬ Q i) → cN S k = cN P k + cN Q k
  | 0, _, _ => rfl
  | k + 1, h, hd => by
    have ih := cN_or k (fun i hi => h i (by omega)) (fun i hi => hd i (by omega))
    by_cases p : P k
    · rw [cN_y p, cN_n (hd k (by omega) p), cN_y ((h k (by omega)).mpr (Or.inl p)), ih]
      omega
    · by_cases q : Q k
      · rw [cN_n p, cN_y q, cN_y ((h k (by omega)).mpr (Or.inr q)), ih]
        omega
      · rw [cN_n p, cN_n q, cN_n (fun z => ((h k (by omega)).mp z).elim p q), ih]
theorem cN_low {P : Nat → Prop} : ∀ k, cN P (k + 1) = cN P 1 + cN (fun w => P (w + 1)) k
  | 0 => rfl
  | k + 1 => by
    have ih := cN_low (P := P) k
    by_cases q : P (k + 1)
    · rw [cN_y q, cN_y (P := fun w => P (w + 1)) q, ih]
      omega
    · rw [cN_n q, cN_n (P := fun w => P (w + 1)) q, ih]
def sN (c : Nat → Nat) : Nat → Nat
  | 0 => 0
  | e + 1 => sN c e + c e
theorem sN_s (c : Nat → Nat) (e : Nat) : sN c (e + 1) = sN c e + c e := rfl
theorem sN_congr {c c' : Nat → Nat} : ∀ k, (∀ e, e < k → c e = c' e) → sN c k = sN c' k
  | 0, _ => rfl
  | k + 1, h => by
    rw [sN_s, sN_s, sN_congr k (fun e he => h e (by omega)), h k (by omega)]
theorem sN_le {c : Nat → Nat} {b : Nat} : ∀ k, (∀ e, e < k → c e ≤ b) → sN c k ≤ k * b
  | 0, _ => Nat.zero_le _
  | k + 1, h => by
    have ih := sN_le k (fun e he => h e (by omega))
    have := h k (by omega)
    rw [sN_s, Nat.succ_mul]
    omega
/-- a count by events -/
theorem cN_ev {P : Nat → Prop} {E : Nat → Int32} {m : Nat} : ∀ k, k ≤ 16 → sN (fun e => cN (fun j => P j ∧ E j = nI e) m) k = cN (fun j => P j ∧ ∃ e, e < k ∧ E j = nI e) m
  | 0, _ => (cN_0 m (fun i _ z => by
    obtain ⟨_, e, h, _⟩ := z
    omega)).symm
  | k + 1, h => by
    rw [sN_s, cN_ev k (by omega)]
    refine (cN_or m (fun i _ => ⟨fun z => ?_, fun z => ?_⟩) (fun i _ z1 z2 => ?_)).symm
    · obtain ⟨p, e, h1, h2⟩ := z
      by_cases c1 : e = k
      · exact Or.inr ⟨p, by rw [← c1]; exact h2⟩
      · exact Or.inl ⟨p, e, by omega, h2⟩
    · rcases z with ⟨p, e, h1, h2⟩ | ⟨p, h2⟩
      · exact ⟨p, e, by omega, h2⟩
      · exact ⟨p, k, by omega, h2⟩
    · obtain ⟨_, e, h1, h2⟩ := z1
      have := (nI_eq (by omega) (by omega)).mp (h2.symm.trans z2.2)
      omega
/-- of one event: by places in the list -/
theorem cN_gl {P : Nat → Prop} {E : Nat → Int32} {e : Int32} : ∀ m, (∀ j, j < m → P j → E j = e → gr E e j < 8) → cN (fun j => P j ∧ E j = e) m = cN (fun q => P (gl E e m q)) (gr E e m)
  | 0, _ => rfl
  | m + 1, h => by
    have ih := cN_gl m (fun j hj => h j (by omega))
    by_cases c1 : E m = e
    · by_cases c2 : gr E e m < 8
      · have a1 : cN (fun q => P (gl E e (m + 1) q)) (gr E e m) = cN (fun q => P (gl E e m q)) (gr E e m) := cN_congr _ (fun i hi => by
          have e1 : gl E e (m + 1) i = gl E e m i := gl_n (fun z => absurd z.2 (by omega))
          rw [e1])
        have a2 : gl E e (m + 1) (gr E e m) = m := gl_y c2 c1 rfl
        rw [gr_y c2 c1]
        by_cases c3 : P m
        · rw [cN_y (P := fun j => P j ∧ E j = e) ⟨c3, c1⟩, cN_y (P := fun q => P (gl E e (m + 1) q)) (by show P (gl E e (m + 1) (gr E e m)); rw [a2]; exact c3), a1, ih]
        · rw [cN_n (P := fun j => P j ∧ E j = e) (fun z => c3 z.1), cN_n (P := fun q => P (gl E e (m + 1) q)) (by show ¬ P (gl E e (m + 1) (gr E e m)); rw [a2]; exact c3), a1, ih]
      · have c3 : ¬ P m := fun p => c2 (h m (by omega) p c1)
        rw [cN_n (P := fun j => P j ∧ E j = e) (fun z => c3 z.1), gr_n (fun z => c2 z.1), ih]
        exact cN_congr _ (fun i _ => by
          have e1 : gl E e (m + 1) i = gl E e m i := gl_n (fun z => c2 z.1.1)
          rw [e1])
    · rw [cN_n (P := fun j => P j ∧ E j = e) (fun z => c1 z.2), gr_n (fun z => c1 z.2), ih]
      exact cN_congr _ (fun i _ => by
        have e1 : gl E e (m + 1) i = gl E e m i := gl_n (fun z => c1 z.1.2)
        rw [e1])
/-- who is in the list had room -/
theorem gl_room {E : Nat → Int32} {e : Int32} {m q : Nat} (hq : q < gr E e m) : gr E e (gl E e m q) < 8 := by
  have h8 := gr_le E e (gl E e m q)
  have a1 := (gl_all (E := E) (e := e) m).1 q hq
  have hm8 := gr_le E e m
  apply Classical.byContradiction
  intro no
  obtain ⟨_, s2⟩ := gr_stop (E := E) (e := e) (i := gl E e m q) (by omega) m (by omega)
  have a2 := (gl_all (E := E) (e := e) (gl E e m q)).1 q (by omega)
  rw [← s2 q] at a2
  omega
/-- all events together -/
theorem cN_all {P : Nat → Prop} {E : Nat → Int32} {m : Nat} {c : Nat → Nat → Prop} (hE : ∀ j, j < m → ∃ e, e < 16 ∧ E j = nI e) (hP : ∀ j e, j < m → P j → E j = nI e → ∃ q, q < gr E (nI e) m ∧ gl E (nI e) m q = j) (hc : ∀ e q, e < 16 → q < gr E (nI e) m → (c e q ↔ P (gl E (nI e) m q))) :
    sN (fun e => cN (c e) (gr E (nI e) m)) 16 = cN P m := by
  have a1 : sN (fun e => cN (c e) (gr E (nI e) m)) 16 = sN (fun e => cN (fun j => P j ∧ E j = nI e) m) 16 := sN_congr 16 (fun e he => by
    have b1 : cN (c e) (gr E (nI e) m) = cN (fun q => P (gl E (nI e) m q)) (gr E (nI e) m) := cN_congr _ (fun q hq => hc e q he hq)
    rw [b1]
    exact (cN_gl (P := P) (E := E) (e := nI e) m (fun j hj p ej => by
      obtain ⟨q, h1, h2⟩ := hP j e hj p ej
      have := gl_room h1
      rw [h2] at this
      exact this)).symm)
  rw [a1, cN_ev 16 (Nat.le_refl _)]
  exact cN_congr m (fun j hj => ⟨fun z => z.1, fun z => ⟨z, hE j hj⟩⟩)
/-! bits -/
theorem popf_cN : ∀ k x, popf k x = cN (fun w => x.testBit w = true) k
  | 0, _ => rfl
  | k + 1, x => by
    have ih := popf_cN k (x / 2)
    have e1 : cN (fun w => x.testBit (w + 1) = true) k = cN (fun w => (x / 2).testBit w = true) k := cN_congr k (fun w _ => by rw [Nat.testBit_succ])
    rw [cN_low k, e1, ← ih]
    show x % 2 + popf k (x / 2) = _
    have t : x.testBit 0 = decide (x % 2 = 1) := Nat.testBit_zero x
    by_cases c1 : x % 2 = 1
    · have q1 : cN (fun w => x.testBit w = true) (0 + 1) = cN (fun w => x.testBit w = true) 0 + 1 := cN_y (P := fun w => x.testBit w = true) (by show x.testBit 0 = true; rw [t, decide_eq_true c1])
      have q0 : cN (fun w => x.testBit w = true) 0 = 0 := rfl
      have q2 : cN (fun w => x.testBit w = true) 1 = cN (fun w => x.testBit w = true) (0 + 1) := rfl
      omega
    · have q1 : cN (fun w => x.testBit w = true) (0 + 1) = cN (fun w => x.testBit w = true) 0 := cN_n (P := fun w => x.testBit w = true) (by show ¬ x.testBit 0 = true; rw [t, decide_eq_false c1]; decide)
      have q0 : cN (fun w => x.testBit w = true) 0 = 0 := rfl
      have q2 : cN (fun w => x.testBit w = true) 1 = cN (fun w => x.testBit w = true) (0 + 1) := rfl
      omega
def nL (n : Nat) : Int64 := Int64.ofNat n
theorem nL_bv {j : Nat} (h : j < 2 ^ 63) : (nL j).toBitVec.toNat = j := by
  show (BitVec.ofNat 64 j).toNat = j
  rw [BitVec.toNat_ofNat]
  exact Nat.mod_eq_of_lt (by omega)
theorem bv_nL (x : Int64) : x = nL x.toBitVec.toNat := by
  apply Int64.toBitVec_inj.mp
  show x.toBitVec = BitVec.ofNat 64 x.toBitVec.toNat
  rw [BitVec.ofNat_toNat, BitVec.setWidth_eq]
theorem and_nL {a b : Nat} (ha : a < 2 ^ 63) (hb : b < 2 ^ 63) : nL a &&& nL b = nL (a &&& b) := by
  rw [bv_nL (nL a &&& nL b)]
  show nL ((nL a).toBitVec &&& (nL b).toBitVec).toNat = _
  rw [BitVec.toNat_and, nL_bv ha, nL_bv hb]
theorem or_nL {a b : Nat} (ha : a < 2 ^ 63) (hb : b < 2 ^ 63) : nL a ||| nL b = nL (a ||| b) := by
  rw [bv_nL (nL a ||| nL b)]
  show nL ((nL a).toBitVec ||| (nL b).toBitVec).toNat = _
  rw [BitVec.toNat_or, nL_bv ha, nL_bv hb]
theorem nL_add (a b : Nat) : nL a + nL b = nL (a + b) := (Int64.ofNat_add a b).symm
theorem nL_sub {a b : Nat} (h : b ≤ a) : nL a - nL b = nL (a - b) := (Int64.ofNat_sub a b h).symm
theorem lsh1 : ∀ w, w < 40 → (1 : Int64) <<< ((nI w).toInt64 &&& 63) = nL (2 ^ w) := by decide +kernel
def lus (x : Int64) (k : Int32) : Int64 := (x.toUInt64 >>> (k.toInt64.toUInt64 &&& Int64.toUInt64 63)).toInt64

theorem lus_1 {j : Nat} (h : j < 2 ^ 63) : lus (nL j) 1 = nL (j / 2) := by
  have s : ((1 : Int32).toInt64.toUInt64 &&& Int64.toUInt64 63) = 1 := by decide +kernel
  have e : (((nL j).toUInt64 >>> (1 : UInt64)).toInt64).toBitVec = (nL j).toBitVec >>> 1 := rfl
  unfold lus
  rw [s, bv_nL (((nL j).toUInt64 >>> (1 : UInt64)).toInt64), e, BitVec.toNat_ushiftRight, nL_bv h, Nat.shiftRight_eq_div_pow]
theorem lus_2 {j : Nat} (h : j < 2 ^ 63) : lus (nL j) 2 = nL (j / 4) := by
  have s : ((2 : Int32).toInt64.toUInt64 &&& Int64.toUInt64 63) = 2 := by decide +kernel
  have e : (((nL j).toUInt64 >>> (2 : UInt64)).toInt64).toBitVec = (nL j).toBitVec >>> 2 := rfl
  unfold lus
  rw [s, bv_nL (((nL j).toUInt64 >>> (2 : UInt64)).toInt64), e, BitVec.toNat_ushiftRight, nL_bv h, Nat.shiftRight_eq_div_pow]
theorem lus_4 {j : Nat} (h : j < 2 ^ 63) : lus (nL j) 4 = nL (j / 16) := by
  have s : ((4 : Int32).toInt64.toUInt64 &&& Int64.toUInt64 63) = 4 := by decide +kernel
  have e : (((nL j).toUInt64 >>> (4 : UInt64)).toInt64).toBitVec = (nL j).toBitVec >>> 4 := rfl
  unfold lus
  rw [s, bv_nL (((nL j).toUInt64 >>> (4 : UInt64)).toInt64), e, BitVec.toNat_ushiftRight, nL_bv h, Nat.shiftRight_eq_div_pow]
theorem lus_8 {j : Nat} (h : j < 2 ^ 63) : lus (nL j) 8 = nL (j / 256) := by
  have s : ((8 : Int32).toInt64.toUInt64 &&& Int64.toUInt64 63) = 8 := by decide +kernel
  have e : (((nL j).toUInt64 >>> (8 : UInt64)).toInt64).toBitVec = (nL j).toBitVec >>> 8 := rfl
  unfold lus
  rw [s, bv_nL (((nL j).toUInt64 >>> (8 : UInt64)).toInt64), e, BitVec.toNat_ushiftRight, nL_bv h, Nat.shiftRight_eq_div_pow]
theorem lus_16 {j : Nat} (h : j < 2 ^ 63) : lus (nL j) 16 = nL (j / 65536) := by
  have s : ((16 : Int32).toInt64.toUInt64 &&& Int64.toUInt64 63) = 16 := by decide +kernel
  have e : (((nL j).toUInt64 >>> (16 : UInt64)).toInt64).toBitVec = (nL j).toBitVec >>> 16 := rfl
  unfold lus
  rw [s, bv_nL (((nL j).toUInt64 >>> (16 : UInt64)).toInt64), e, BitVec.toNat_ushiftRight, nL_bv h, Nat.shiftRight_eq_div_pow]
theorem lus_32 {j : Nat} (h : j < 2 ^ 63) : lus (nL j) 32 = nL (j / 4294967296) := by
  have s : ((32 : Int32).toInt64.toUInt64 &&& Int64.toUInt64 63) = 32 := by decide +kernel
  have e : (((nL j).toUInt64 >>> (32 : UInt64)).toInt64).toBitVec = (nL j).toBitVec >>> 32 := rfl
  unfold lus
  rw [s, bv_nL (((nL j).toUInt64 >>> (32 : UInt64)).toInt64), e, BitVec.toNat_ushiftRight, nL_bv h, Nat.shiftRight_eq_div_pow]
def lb1 (x : Int64) : Int64 := x - (lus x 1 &&& 6148914691236517205)
def lb2 (x : Int64) : Int64 := (x &&& 3689348814741910323) + (lus x 2 &&& 3689348814741910323)
def lb3 (x : Int64) : Int64 := (x + lus x 4) &&& 1085102592571150095
def lb4 (x : Int64) : Int64 := x + lus x 8
def lb5 (x : Int64) : Int64 := x + lus x 16
def lb6 (x : Int64) : Int64 := x + lus x 32
/-- how many bits of a long are set, as the library counts -/
def lbE (x : Int64) : Int32 := (lb6 (lb5 (lb4 (lb3 (lb2 (lb1 x)))))).toInt32 &&& 127
set_option maxRecDepth 100000 in
theorem sf_bitCountL {d : Nat} {x : Int64} {h : mH} {R : Option Value → mH → Prop} (hd : 1 ≤ d) (H : R (some (.int (lbE x))) h) : Run mtab d 242 [.long x] h R := by
  obtain ⟨d, rfl⟩ : ∃ e, d = e + 1 := ⟨d - 1, by omega⟩
  refine go_J13_bitCount_95d88 rfl ?_
  conv => whnf
  exact H
theorem n127 (z : Nat) : nI z &&& 127 = nI (z % 128) := by
  rw [bv_nI (nI z &&& 127)]
  show nI ((nI z).toBitVec &&& (BitVec.ofNat 32 127)).toNat = _
  have e1 : (nI z).toBitVec.toNat = z % 2 ^ 32 := by
    show (BitVec.ofNat 32 z).toNat = _
    rw [BitVec.toNat_ofNat]
  have e2 : (BitVec.ofNat 32 127).toNat = 127 := by decide
  have e3 : (z % 2 ^ 32) &&& 127 = z % 2 ^ 32 % 128 := Nat.and_two_pow_sub_one_eq_mod (z % 2 ^ 32) 7
  rw [BitVec.toNat_and, e1, e2, e3]
  exact congrArg nI (by omega)
theorem z3_fin {pa pb pc pd pe z2 z3 : Nat} (la : pa ≤ 8) (lb : pb ≤ 8) (lc : pc ≤ 8) (ld : pd ≤ 8) (le : pe ≤ 8) (e2 : z2 = (pa + pb + pc + pd) + 256 * (pb + pc + pd + pe) + 65536 * (pc + pd + pe) + 16777216 * (pd + pe) + 4294967296 * pe) (hz3 : z3 = z2 + z2 / 4294967296) : z3 % 128 = pa + pb + pc + pd + pe := by
  have d : z2 / 4294967296 = pe := by omega
  rw [d, e2] at hz3
  have e : z3 = (pa + pb + pc + pd + pe) + 128 * (2 * (pb + pc + pd + pe) + 512 * (pc + pd + pe) + 131072 * (pd + pe) + 33554432 * pe) := by omega
  rw [e, Nat.add_mul_mod_self_left]
  exact Nat.mod_eq_of_lt (by omega)
theorem lbE_pop {j : Nat} (h : j < 2 ^ 40) : lbE (nL j) = nI (popf 40 j) := by
  have k1 : (6148914691236517205 : Int64) = nL (m55 8) := by decide +kernel
  have k2 : (3689348814741910323 : Int64) = nL (m33 8) := by decide +kernel
  have k3 : (1085102592571150095 : Int64) = nL (m0f 8) := by decide +kernel
  have v1 : m55 8 = 6148914691236517205 := by decide +kernel
  have v2 : m33 8 = 3689348814741910323 := by decide +kernel
  have v3 : m0f 8 = 1085102592571150095 := by decide +kernel
  have p63 : (2 : Nat) ^ 63 = 9223372036854775808 := by decide +kernel
  have p40 : (2 : Nat) ^ 40 = 1099511627776 := by decide +kernel
  rw [p40] at h
  have c1 : lb1 (nL j) = nL (sw1 8 j) := by
    unfold lb1 sw1
    rw [lus_1 (by omega), k1, and_nL (by omega) (by omega)]
    exact nL_sub (Nat.le_trans Nat.and_le_left (by omega))
  have r1 : sw1 8 j ≤ j := by
    unfold sw1
    omega
  have q1 : sw1 8 j &&& m33 8 ≤ m33 8 := Nat.and_le_right
  have q2 : sw1 8 j / 4 &&& m33 8 ≤ m33 8 := Nat.and_le_right
  have c2 : lb2 (nL (sw1 8 j)) = nL (sw2 8 (sw1 8 j)) := by
    unfold lb2 sw2
    rw [lus_2 (by omega), k2, and_nL (by omega) (by omega), and_nL (by omega) (by omega), nL_add]
  have r2 : sw2 8 (sw1 8 j) ≤ 7378697629483820646 := by
    unfold sw2
    omega
  have c3 : lb3 (nL (sw2 8 (sw1 8 j))) = nL (sw 8 j) := by
    unfold lb3 sw sw3
    rw [lus_4 (by omega), nL_add, k3, and_nL (by omega) (by omega)]
  obtain ⟨a, b, c, d, e, ea⟩ : ∃ a b c d e, (a < 256 ∧ b < 256 ∧ c < 256 ∧ d < 256 ∧ e < 256) ∧ j = 256 * (256 * (256 * (256 * (256 * 0 + e) + d) + c) + b) + a := ⟨j % 256, j / 256 % 256, j / 65536 % 256, j / 16777216 % 256, j / 4294967296, ⟨by omega, by omega, by omega, by omega, by omega⟩, by omega⟩
  obtain ⟨⟨ha, hb, hc, hd, he⟩, ej⟩ := ea
  have s0 : sw 3 0 = 0 := by decide +kernel
  have es : sw 8 j = 256 * (256 * (256 * (256 * (256 * 0 + popf 8 e) + popf 8 d) + popf 8 c) + popf 8 b) + popf 8 a := by
    rw [ej, sw_s ha, sw_s hb, sw_s hc, sw_s hd, sw_s he, s0]
  have la := popf8_le a ha
  have lb := popf8_le b hb
  have lc := popf8_le c hc
  have ld := popf8_le d hd
  have le := popf8_le e he
  have ep : popf 40 j = popf 8 a + popf 8 b + popf 8 c + popf 8 d + popf 8 e := by
    have t1 := popf_8 32 j
    have t2 := popf_8 24 (j / 256)
    have t3 := popf_8 16 (j / 256 / 256)
    have t4 := popf_8 8 (j / 256 / 256 / 256)
    have t5 := popf_8 0 (j / 256 / 256 / 256 / 256)
    rw [show j % 256 = a by omega] at t1
    rw [show j / 256 % 256 = b by omega] at t2
    rw [show j / 256 / 256 % 256 = c by omega] at t3
    rw [show j / 256 / 256 / 256 % 256 = d by omega] at t4
    rw [show j / 256 / 256 / 256 / 256 % 256 = e by omega] at t5
    have u0 : popf 0 (j / 256 / 256 / 256 / 256 / 256) = 0 := rfl
    have u1 : popf (32 + 8) j = popf 40 j := rfl
    have u2 : popf (24 + 8) (j / 256) = popf 32 (j / 256) := rfl
    have u3 : popf (16 + 8) (j / 256 / 256) = popf 24 (j / 256 / 256) := rfl
    have u4 : popf (8 + 8) (j / 256 / 256 / 256) = popf 16 (j / 256 / 256 / 256) := rfl
    have u5 : popf (0 + 8) (j / 256 / 256 / 256 / 256) = popf 8 (j / 256 / 256 / 256 / 256) := rfl
    omega
  generalize popf 8 a = pa at *
  generalize popf 8 b = pb at *
  generalize popf 8 c = pc at *
  generalize popf 8 d = pd at *
  generalize popf 8 e = pe at *
  generalize hy : sw 8 j = y at *
  obtain ⟨z1, hz1⟩ : ∃ z, z = y + y / 256 := ⟨_, rfl⟩
  have e1 : z1 = (pa + pb) + 256 * (pb + pc) + 65536 * (pc + pd) + 16777216 * (pd + pe) + 4294967296 * pe := by omega
  obtain ⟨z2, hz2⟩ : ∃ z, z = z1 + z1 / 65536 := ⟨_, rfl⟩
  have e2 : z2 = (pa + pb + pc + pd) + 256 * (pb + pc + pd + pe) + 65536 * (pc + pd + pe) + 16777216 * (pd + pe) + 4294967296 * pe := by omega
  obtain ⟨z3, hz3⟩ : ∃ z, z = z2 + z2 / 4294967296 := ⟨_, rfl⟩
  have e3 : z3 % 128 = pa + pb + pc + pd + pe := z3_fin la lb lc ld le e2 hz3
  have c4 : lb4 (nL y) = nL z1 := by
    unfold lb4
    rw [lus_8 (by omega), nL_add, hz1]
  have c5 : lb5 (nL z1) = nL z2 := by
    unfold lb5
    rw [lus_16 (by omega), nL_add, hz2]
  have c6 : lb6 (nL z2) = nL z3 := by
    unfold lb6
    rw [lus_32 (by omega), nL_add, hz3]
  unfold lbE
  rw [c1, c2, c3, c4, c5, c6]
  show (Int64.ofNat z3).toInt32 &&& 127 = _
  rw [Int64.toInt32_ofNat', ep, ← e3]
  exact n127 z3
/-- of a long with bits below 40 -/
theorem lbE_cN {j : Nat} (h : j < 2 ^ 40) : lbE (nL j) = nI (cN (fun w => j.testBit w = true) 40) := by
  rw [lbE_pop h, popf_cN]
theorem JS_all {f : Nat → Nat → Int32} {g : Nat → Nat → Int64} {n r : Nat} {li : Nat → Nat} {S : Nat → Nat → Int} {b b' : Nat → Nat} (hn : n ≤ 40) (hr : r ≤ 8) (hZ : Z0 n S) (h' : Opt r n (wt n S) b') (j : JS f g n r li S b) : JS f g n r li S b' := by
  obtain ⟨j1, j2, j3, h, j5, j6, j7⟩ := j
  obtain ⟨u1, u2⟩ := opt_un hn hr hZ h h'
  refine ⟨j1, j2, j3, h', by rw [u1]; exact j5, fun i hi => ?_, j7⟩
  obtain ⟨w1, w2⟩ := u2 i hi
  rw [j6 i hi]
  by_cases c1 : 0 < S i (b i)
  · rw [if_pos c1, if_pos (w1.mpr c1), w2 c1]
  · rw [if_neg c1, if_neg (fun z => c1 (w1.mp z))]
/-- a best way for each event -/
def BO (f : Nat → Nat → Int32) (n h m : Nat) (B : Nat → Nat → Nat) : Prop := ∀ e, e < 16 → Opt (gr (f 141) (nI e) m) n (wt n (Scv f n h m e)) (B e)
theorem BO_ex {f : Nat → Nat → Int32} {n h m : Nat} (s : JH f n h m) : ∃ B, BO f n h m B := by
  have h0 : ∀ e, ∃ b, Opt (gr (f 141) (nI e) m) n (wt n (Scv f n h m e)) b := fun e => wt_ex s.1 (gr_le _ _ _) (Scv_b s)
  exact ⟨fun e => Classical.choose (h0 e), fun e _ => Classical.choose_spec (h0 e)⟩
/-- a row is joined and sure -/
def Su (r n : Nat) (S : Nat → Nat → Int) (b : Nat → Nat) (q : Nat) : Prop := 0 < S q (b q) ∧ ∃ y, Mst r n (S0 S q (b q)) y ∧ y < vl S b r
def cjP (x : Int32) (r n : Nat) (S : Nat → Nat → Int) (b : Nat → Nat) (q : Nat) : Prop := 0 < S q (b q) ∧ (x = 0 ∨ Su r n S b q)
theorem sf_jB {d L n h m e : Nat} {f f0 : Nat → Nat → Int32} {g : Nat → Nat → Int64} {B : Nat → Nat → Nat} {R : Option Value → mH → Prop} (hd : 8 ≤ d) (hX : XI f) (k0 : fx 149 168 f0 f) (s : JH f0 n h m) (hB : BO f0 n h m B) (he : e < 16) (H : ∀ f' g', XI f' → fx 149 168 f0 f' → JS f' g' n (gr (f0 141) (nI e) m) (gl (f0 141) (nI e) m) (Scv f0 n h m e) (B e) → R none (shF L, f', g')) : Run mtab d 19 [.ref 149, .int (nI e)] (shF L, f, g) R := by
  have s1 := JH_q k0 s
  have e141 : f 141 = f0 141 := funext (fun i => k0 141 i (by omega))
  refine sf_jn (n := n) (h := h) (m := m) (e := e) hd hX s1 (fun f' g' b x' k' j' => ?_)
  rw [e141, Scv_q s.1 k0] at j'
  exact H f' g' x' (fx_trans k0 k') (JS_all s.1 (gr_le _ _ _) Scv_Z (hB e he) j')
set_option maxRecDepth 100000 in
theorem clo_lp {d L n h m : Nat} {f : Nat → Nat → Int32} {g : Nat → Nat → Int64} {R : Option Value → mH → Prop} (hd : 5 ≤ d) (s : JH f n h m) (H : R (some (.int (nI (cN (fun j => cntl (fun i => 0 < scC f h j i) n 0 0 = 0) m)))) (shF L, f, g)) :
    ∀ (k i : Nat) (x a : Int32), i + k = m → x = nI i → a = nI (cN (fun j => cntl (fun i => 0 < scC f h j i) n 0 0 = 0) i) → WPe pg_X4_countLost none (Run mtab d) R (m_drop pg_X4_countLost 4) [some (.ref 139), some (.int a), some (.int x)] [] (shF L, f, g)
  | 0, i, x, a, hi, hx, ha => by
    obtain ⟨a1, a2, a3, a4, a5, a6, a7, a8, a9, a10⟩ := id s
    have e : i = m := by omega
    subst hx
    subst ha
    subst e
    refine at_X4_countLost ?_
    conv => whnf
    simp only [a4]
    refine ⟨fun _ => ?_, fun y9 => absurd (nI_le (Nat.le_refl _) (by omega)) y9⟩
    conv => whnf
    exact H
  | k + 1, i, x, a, hi, hx, ha => by
    obtain ⟨a1, a2, a3, a4, a5, a6, a7, a8, a9, a10⟩ := id s
    subst hx
    subst ha
    refine at_X4_countLost ?_
    conv => whnf
    simp only [a4]
    refine ⟨fun y9 => absurd y9 (nI_ge (by omega) (by omega)), fun _ => ?_⟩
    conv => whnf
    refine sf_countFits (n := n) (h := h) (j := i) (by omega) (by omega) (a5 i (by omega)) (a6 i (by omega)) a7 a2 a1 a8 a9 ?_
    conv => whnf
    by_cases c1 : cntl (fun w => 0 < scC f h i w) n 0 0 = 0
    · refine ⟨fun y9 => absurd c1 y9, fun _ => ?_⟩
      conv => whnf
      exact clo_lp hd s H k (i + 1) _ _ (by omega) (nI_1 i) (by rw [nI_1, cN_y (P := (fun j => cntl (fun i => 0 < scC f h j i) n 0 0 = 0)) c1])
    · refine ⟨fun _ => ?_, fun y9 => absurd y9 c1⟩
      conv => whnf
      exact clo_lp hd s H k (i + 1) _ _ (by omega) (nI_1 i) (by rw [cN_n (P := (fun j => cntl (fun i => 0 < scC f h j i) n 0 0 = 0)) c1])
set_option maxRecDepth 100000 in
set_option maxHeartbeats 4000000 in
theorem sf_countLost {d L : Nat} {f : Nat → Nat → Int32} {g : Nat → Nat → Int64} {n h m : Nat} {R : Option Value → mH → Prop} (hd : 6 ≤ d) (s : JH f n h m) (H : R (some (.int (nI (cN (fun j => cntl (fun i => 0 < scC f h j i) n 0 0 = 0) m)))) (shF L, f, g)) : Run mtab d 39 [.ref 139] (shF L, f, g) R := by
  obtain ⟨d, rfl⟩ : ∃ e, d = e + 1 := ⟨d - 1, by omega⟩
  refine go_X4_countLost rfl ?_
  conv => whnf
  exact clo_lp (by omega) s H m 0 _ _ (by omega) rfl rfl
set_option maxRecDepth 100000 in
set_option maxHeartbeats 4000000 in
theorem cjI_lp {d L n r e c0 : Nat} {z : Int32} {f0 : Nat → Nat → Int32} {li b : Nat → Nat} {S : Nat → Nat → Int} {R : Option Value → mH → Prop} (hd : 7 ≤ d) (hn : n ≤ 40) (hr : r ≤ 8) (hS0 : ∀ p w, 0 ≤ S p w ∧ S p w ≤ 136) (hZ : Z0 n S)
    (HO : ∀ (x' a' : Int32) (s : Option Value) (f' : Nat → Nat → Int32) (g' : Nat → Nat → Int64), x' = nI (e + 1) → a' = nI (c0 + cN (cjP z r n S b) r) → XI f' → fx 149 168 f0 f' → WPe pg_X2_countJoined none (Run mtab d) R (m_drop pg_X2_countJoined 4) [some (.ref 149), some (.int z), some (.int a'), some (.int x'), s] [] (shF L, f', g')) :
    ∀ (k i : Nat) (x a : Int32) (f : Nat → Nat → Int32) (g : Nat → Nat → Int64), i + k = r → x = nI i → a = nI (c0 + cN (cjP z r n S b) i) → XI f → fx 149 168 f0 f → JS f g n r li S b → WPe pg_X2_countJoined none (Run mtab d) R (m_drop pg_X2_countJoined 12) [some (.ref 149), some (.int z), some (.int a), some (.int (nI e)), some (.int x)] [] (shF L, f, g)
  | 0, i, x, a, f, g, hi, hx, ha, hX, hF, js => by
    have e9 : i = r := by omega
    subst hx
    subst ha
    subst e9
    have rb := js.1
    refine at_X2_countJoined ?_
    conv => whnf
    simp only [rb]
    refine ⟨fun _ => ?_, fun y9 => absurd (nI_le (Nat.le_refl _) (by omega)) y9⟩
    conv => whnf
    exact HO _ _ _ _ _ (nI_1 e) rfl hX hF
  | k + 1, i, x, a, f, g, hi, hx, ha, hX, hF, js => by
    subst hx
    subst ha
    obtain ⟨rb, cb, l166, hO, tot, h167, hg⟩ := id js
    have hcl : (nI i).toNatClampNeg = i := nI_clamp (by omega)
    refine at_X2_countJoined ?_
    conv => whnf
    simp only [rb]
    refine ⟨fun y9 => absurd y9 (nI_ge (by omega) (by omega)), fun _ => ?_⟩
    conv => whnf
    refine ⟨vp_in_nI (by omega) (by decide), ?_⟩
    conv => whnf
    simp only [hcl]
    by_cases c1 : 0 < S i (b i)
    · have bn := S_n hZ c1
      have e167 : f 167 i = nI (b i) := by rw [h167 i (by omega), if_pos c1]
      simp only [e167]
      refine ⟨fun y9 => absurd (show nI (b i) < nI 0 from y9) (nI_nlt (by omega) (by omega)), fun _ => ?_⟩
      conv => whnf
      by_cases c2 : z = 0
      · refine ⟨fun _ => ?_, fun y9 => absurd c2 y9⟩
        conv => whnf
        exact cjI_lp hd hn hr hS0 hZ HO k (i + 1) _ _ f g (by omega) (nI_1 i) (by rw [nI_1, cN_y (P := cjP z r n S b) ⟨c1, Or.inl c2⟩, Nat.add_assoc]) hX hF js
      · refine ⟨fun y9 => absurd y9 c2, fun _ => ?_⟩
        conv => whnf
        refine sf_isSure (n := n) (r := r) (i := i) (li := li) (b := b) (S := S) (by omega) hX hn hr js hS0 hZ (by omega) (fun y9 => absurd c1 y9) (fun _ f2 g2 y x2 k2 js2 my => ?_)
        have kk : fx 149 168 f0 f2 := fun a j y9 => (k2 a j (by omega) (by omega) (by omega)).trans (hF a j y9)
        by_cases c3 : y < vl S b r
        · rw [if_pos c3]
          conv => whnf
          (first | refine ⟨fun z9 => absurd z9 (by decide), fun _ => ?_⟩ | refine ⟨fun z9 => False.elim z9, fun _ => ?_⟩)
          conv => whnf
          exact cjI_lp hd hn hr hS0 hZ HO k (i + 1) _ _ f2 g2 (by omega) (nI_1 i) (by rw [nI_1, cN_y (P := cjP z r n S b) ⟨c1, Or.inr ⟨c1, y, my, c3⟩⟩, Nat.add_assoc]) x2 kk js2
        · rw [if_neg c3]
          conv => whnf
          (first | refine ⟨fun _ => ?_, fun z9 => absurd rfl z9⟩ | refine ⟨fun _ => ?_, fun z9 => absurd True.intro z9⟩)
          conv => whnf
          exact cjI_lp hd hn hr hS0 hZ HO k (i + 1) _ _ f2 g2 (by omega) (nI_1 i) (by rw [cN_n (P := cjP z r n S b) (fun y9 => y9.2.elim c2 (fun ⟨_, y8, m8, l8⟩ => c3 (by rw [Mst_un my m8]; exact l8)))]) x2 kk js2
    · have e167 : f 167 i = -4 := by rw [h167 i (by omega), if_neg c1]
      simp only [e167]
      refine ⟨fun _ => ?_, fun y9 => absurd (by decide) y9⟩
      conv => whnf
      exact cjI_lp hd hn hr hS0 hZ HO k (i + 1) _ _ f g (by omega) (nI_1 i) (by rw [cN_n (P := cjP z r n S b) (fun y9 => c1 y9.1)]) hX hF js
set_option maxRecDepth 100000 in
theorem cjO_lp {d L n h m : Nat} {z : Int32} {f0 : Nat → Nat → Int32} {B : Nat → Nat → Nat} {R : Option Value → mH → Prop} (hd : 8 ≤ d) (s : JH f0 n h m) (hB : BO f0 n h m B) (H : ∀ f' g', XI f' → fx 149 168 f0 f' → R (some (.int (nI (sN (fun e => cN (cjP z (gr (f0 141) (nI e) m) n (Scv f0 n h m e) (B e)) (gr (f0 141) (nI e) m)) 16)))) (shF L, f', g')) :
    ∀ (k e : Nat) (x a : Int32) (s4 : Option Value) (f : Nat → Nat → Int32) (g : Nat → Nat → Int64), e + k = 16 → x = nI e → a = nI (sN (fun e => cN (cjP z (gr (f0 141) (nI e) m) n (Scv f0 n h m e) (B e)) (gr (f0 141) (nI e) m)) e) → XI f → fx 149 168 f0 f → WPe pg_X2_countJoined none (Run mtab d) R (m_drop pg_X2_countJoined 4) [some (.ref 149), some (.int z), some (.int a), some (.int x), s4] [] (shF L, f, g)
  | 0, e, x, a, s4, f, g, he, hx, ha, hX, hF => by
    have e9 : e = 16 := by omega
    subst hx
    subst ha
    subst e9
    refine at_X2_countJoined ?_
    conv => whnf
    refine ⟨fun _ => ?_, fun y9 => absurd (show (16 : Int32) ≤ nI 16 by decide) y9⟩
    conv => whnf
    exact H f g hX hF
  | k + 1, e, x, a, s4, f, g, he, hx, ha, hX, hF => by
    subst hx
    subst ha
    refine at_X2_countJoined ?_
    conv => whnf
    refine ⟨fun y9 => absurd (show nI 16 ≤ nI e from y9) (nI_ge (by omega) (by decide)), fun _ => ?_⟩
    conv => whnf
    refine sf_jB (n := n) (h := h) (m := m) (e := e) (B := B) (by omega) hX hF s hB (by omega) (fun f' g' x' k' j' => ?_)
    conv => whnf
    exact cjI_lp (e := e) (c0 := sN (fun e => cN (cjP z (gr (f0 141) (nI e) m) n (Scv f0 n h m e) (B e)) (gr (f0 141) (nI e) m)) e) (z := z) (by omega) s.1 (gr_le (f0 141) (nI e) m) (Scv_b s) Scv_Z (fun x2 a2 s2 f2 g2 hx2 ha2 h2 k2 => cjO_lp hd s hB H k (e + 1) x2 a2 s2 f2 g2 (by omega) hx2 ha2 h2 k2) (gr (f0 141) (nI e) m) 0 _ _ f' g' (by omega) rfl rfl x' k' j'
set_option maxRecDepth 100000 in
set_option maxHeartbeats 4000000 in
theorem sf_countJoined {d L : Nat} {f : Nat → Nat → Int32} {g : Nat → Nat → Int64} {n h m : Nat} {z : Int32} {B : Nat → Nat → Nat} {R : Option Value → mH → Prop} (hd : 9 ≤ d) (hX : XI f) (s : JH f n h m) (hB : BO f n h m B) (H : ∀ f' g', XI f' → fx 149 168 f f' → R (some (.int (nI (sN (fun e => cN (cjP z (gr (f 141) (nI e) m) n (Scv f n h m e) (B e)) (gr (f 141) (nI e) m)) 16)))) (shF L, f', g')) : Run mtab d 25 [.ref 149, .int z] (shF L, f, g) R := by
  obtain ⟨d, rfl⟩ : ∃ e, d = e + 1 := ⟨d - 1, by omega⟩
  refine go_X2_countJoined rfl ?_
  conv => whnf
  exact cjO_lp (by omega) s hB H 16 0 _ _ _ _ _ (by omega) rfl rfl hX (fx_refl _ _ _)
/-- a work that a mention of a kind is sure of, among the first ones -/
def SWp (y : Int32) (n : Nat) (K : Nat → Int32) (rr : Nat → Nat) (ll : Nat → Nat → Nat) (SS : Nat → Nat → Nat → Int) (B : Nat → Nat → Nat) (e i w : Nat) : Prop := ∃ e' q, (e' < e ∨ (e' = e ∧ q < i)) ∧ q < rr e' ∧ K (ll e' q) = y ∧ Su (rr e') n (SS e') (B e') q ∧ B e' q = w
def SWb (y : Int32) (n : Nat) (K : Nat → Int32) (rr : Nat → Nat) (ll : Nat → Nat → Nat) (SS : Nat → Nat → Nat → Int) (B : Nat → Nat → Nat) (e i b : Nat) : Prop := b < 2 ^ 40 ∧ ∀ w, w < 40 → (b.testBit w = true ↔ SWp y n K rr ll SS B e i w)
theorem SWb_0 {y : Int32} {n : Nat} {K : Nat → Int32} {rr : Nat → Nat} {ll : Nat → Nat → Nat} {SS : Nat → Nat → Nat → Int} {B : Nat → Nat → Nat} : SWb y n K rr ll SS B 0 0 0 := ⟨Nat.pow_pos (by decide), fun w _ => by
  rw [Nat.zero_testBit]
  exact ⟨fun z => absurd z (by decide), fun ⟨e', q, h, _⟩ => by omega⟩⟩
theorem SWb_n {y : Int32} {n : Nat} {K : Nat → Int32} {rr : Nat → Nat} {ll : Nat → Nat → Nat} {SS : Nat → Nat → Nat → Int} {B : Nat → Nat → Nat} {e i b : Nat} (h : SWb y n K rr ll SS B e i b) (no : ¬ (K (ll e i) = y ∧ Su (rr e) n (SS e) (B e) i)) : SWb y n K rr ll SS B e (i + 1) b := ⟨h.1, fun w hw => by
  rw [h.2 w hw]
  refine ⟨fun ⟨e', q, h1, h2⟩ => ⟨e', q, by omega, h2⟩, fun ⟨e', q, h1, h2, h3, h4, h5⟩ => ⟨e', q, ?_, h2, h3, h4, h5⟩⟩
  by_cases c : e' = e ∧ q = i
  · obtain ⟨c1, c2⟩ := c
    subst c1
    subst c2
    exact absurd ⟨h3, h4⟩ no
  · omega⟩
theorem SWb_y {y : Int32} {n : Nat} {K : Nat → Int32} {rr : Nat → Nat} {ll : Nat → Nat → Nat} {SS : Nat → Nat → Nat → Int} {B : Nat → Nat → Nat} {e i b : Nat} (h : SWb y n K rr ll SS B e i b) (hi : i < rr e) (y1 : K (ll e i) = y) (y2 : Su (rr e) n (SS e) (B e) i) (hb : B e i < 40) : SWb y n K rr ll SS B e (i + 1) (b ||| 2 ^ B e i) := ⟨Nat.or_lt_two_pow h.1 (Nat.pow_lt_pow_right (by decide) hb), fun w hw => by
  rw [Nat.testBit_or, Nat.testBit_two_pow, Bool.or_eq_true, h.2 w hw, decide_eq_true_iff]
  refine ⟨fun z => ?_, fun ⟨e', q, h1, h2, h3, h4, h5⟩ => ?_⟩
  · rcases z with ⟨e', q, h1, h2⟩ | z
    · exact ⟨e', q, by omega, h2⟩
    · exact ⟨e, i, by omega, hi, y1, y2, z⟩
  · by_cases c : e' = e ∧ q = i
    · obtain ⟨c1, c2⟩ := c
      subst c1
      subst c2
      exact Or.inr h5
    · exact Or.inl ⟨e', q, by omega, h2, h3, h4, h5⟩⟩
theorem SWb_e {y : Int32} {n : Nat} {K : Nat → Int32} {rr : Nat → Nat} {ll : Nat → Nat → Nat} {SS : Nat → Nat → Nat → Int} {B : Nat → Nat → Nat} {e b : Nat} (h : SWb y n K rr ll SS B e (rr e) b) : SWb y n K rr ll SS B (e + 1) 0 b := ⟨h.1, fun w hw => by
  rw [h.2 w hw]
  refine ⟨fun ⟨e', q, h1, h2⟩ => ⟨e', q, by omega, h2⟩, fun ⟨e', q, h1, h2, h3⟩ => ⟨e', q, ?_, h2, h3⟩⟩
  by_cases c : e' = e
  · subst c
    omega
  · omega⟩
set_option maxRecDepth 100000 in
set_option maxHeartbeats 4000000 in
theorem swI_lp {d L n e : Nat} {y : Int32} {f0 : Nat → Nat → Int32} {K : Nat → Int32} {rr : Nat → Nat} {ll : Nat → Nat → Nat} {SS : Nat → Nat → Nat → Int} {B : Nat → Nat → Nat} {R : Option Value → mH → Prop} (hd : 7 ≤ d) (hn : n ≤ 40) (hr : rr e ≤ 8) (hS0 : ∀ p w, 0 ≤ SS e p w ∧ SS e p w ≤ 136) (hZ : Z0 n (SS e)) (hl : ∀ q, q < rr e → ll e q < 50) (hK : K = f0 140)
    (HO : ∀ (x' : Int32) (a' : Int64) (s : Option Value) (b' : Nat) (f' : Nat → Nat → Int32) (g' : Nat → Nat → Int64), x' = nI (e + 1) → a' = nL b' → SWb y n K rr ll SS B (e + 1) 0 b' → XI f' → fx 149 168 f0 f' → WPe pg_X2_sureWorks none (Run mtab d) R (m_drop pg_X2_sureWorks 4) [some (.ref 149), some (.int y), some (.long a'), none, some (.int x'), s] [] (shF L, f', g')) :
    ∀ (k i : Nat) (x : Int32) (a : Int64) (b : Nat) (f : Nat → Nat → Int32) (g : Nat → Nat → Int64), i + k = rr e → x = nI i → a = nL b → SWb y n K rr ll SS B e i b → XI f → fx 149 168 f0 f → JS f g n (rr e) (ll e) (SS e) (B e) → WPe pg_X2_sureWorks none (Run mtab d) R (m_drop pg_X2_sureWorks 12) [some (.ref 149), some (.int y), some (.long a), none, some (.int (nI e)), some (.int x)] [] (shF L, f, g)
  | 0, i, x, a, b, f, g, hi, hx, ha, hb, hX, hF, js => by
    have e9 : i = rr e := by omega
    subst hx
    subst ha
    rw [e9] at hb ⊢
    have rb := js.1
    refine at_X2_sureWorks ?_
    conv => whnf
    simp only [rb]
    refine ⟨fun _ => ?_, fun y9 => absurd (nI_le (Nat.le_refl _) (by omega)) y9⟩
    conv => whnf
    exact HO _ _ _ b _ _ (nI_1 e) rfl (SWb_e hb) hX hF
  | k + 1, i, x, a, b, f, g, hi, hx, ha, hb, hX, hF, js => by
    subst hx
    subst ha
    obtain ⟨rb, cb, l166, hO, tot, h167, hg⟩ := id js
    have hcl : (nI i).toNatClampNeg = i := nI_clamp (by omega)
    have l50 := hl i (by omega)
    have hcll : (nI (ll e i)).toNatClampNeg = ll e i := nI_clamp (by omega)
    have e166 := l166 i (by omega)
    have e140 : f 140 (ll e i) = K (ll e i) := by rw [hK]; exact hF 140 _ (by omega)
    refine at_X2_sureWorks ?_
    conv => whnf
    simp only [rb]
    refine ⟨fun y9 => absurd y9 (nI_ge (by omega) (by omega)), fun _ => ?_⟩
    conv => whnf
    refine ⟨vp_in_nI (by omega) (by decide), ?_⟩
    conv => whnf
    simp only [hcl, e166]
    refine ⟨vp_in_nI (by omega) (by decide), ?_⟩
    conv => whnf
    simp only [hcll, e140]
    by_cases c0 : K (ll e i) = y
    · refine ⟨fun y9 => absurd c0 y9, fun _ => ?_⟩
      conv => whnf
      refine sf_isSure (n := n) (r := rr e) (i := i) (li := ll e) (b := B e) (S := SS e) (by omega) hX hn hr js hS0 hZ (by omega) (fun c1 => ?_) (fun c1 f2 g2 y2 x2 k2 js2 my => ?_)
      · conv => whnf
        (first | refine ⟨fun _ => ?_, fun z9 => absurd rfl z9⟩ | refine ⟨fun _ => ?_, fun z9 => absurd True.intro z9⟩)
        conv => whnf
        exact swI_lp hd hn hr hS0 hZ hl hK HO k (i + 1) _ _ b f g (by omega) (nI_1 i) rfl (SWb_n hb (fun z9 => c1 z9.2.1)) hX hF js
      · have kk : fx 149 168 f0 f2 := fun a j y9 => (k2 a j (by omega) (by omega) (by omega)).trans (hF a j y9)
        have bn := S_n hZ c1
        by_cases c3 : y2 < vl (SS e) (B e) (rr e)
        · rw [if_pos c3]
          conv => whnf
          (first | refine ⟨fun z9 => absurd z9 (by decide), fun _ => ?_⟩ | refine ⟨fun z9 => False.elim z9, fun _ => ?_⟩)
          conv => whnf
          refine ⟨vp_in_nI (by omega) (by decide), ?_⟩
          conv => whnf
          have e167 : f2 167 i = nI (B e i) := by rw [js2.2.2.2.2.2.1 i (by omega), if_pos c1]
          simp only [hcl, e167]
          have b63 : b < 2 ^ 63 := Nat.lt_of_lt_of_le hb.1 (by decide +kernel)
          have w63 : 2 ^ B e i < 2 ^ 63 := Nat.pow_lt_pow_right (by decide) (by omega)
          exact swI_lp hd hn hr hS0 hZ hl hK HO k (i + 1) _ _ (b ||| 2 ^ B e i) f2 g2 (by omega) (nI_1 i) ((congrArg (fun z9 => nL b ||| z9) (lsh1 (B e i) (by omega))).trans (or_nL b63 w63)) (SWb_y hb (by omega) c0 ⟨c1, y2, my, c3⟩ (by omega)) x2 kk js2
        · rw [if_neg c3]
          conv => whnf
          (first | refine ⟨fun _ => ?_, fun z9 => absurd rfl z9⟩ | refine ⟨fun _ => ?_, fun z9 => absurd True.intro z9⟩)
          conv => whnf
          exact swI_lp hd hn hr hS0 hZ hl hK HO k (i + 1) _ _ b f2 g2 (by omega) (nI_1 i) rfl (SWb_n hb (fun ⟨_, _, y8, m8, l8⟩ => c3 (by rw [Mst_un my m8]; exact l8))) x2 kk js2
    · refine ⟨fun _ => ?_, fun y9 => absurd y9 c0⟩
      conv => whnf
      exact swI_lp hd hn hr hS0 hZ hl hK HO k (i + 1) _ _ b f g (by omega) (nI_1 i) rfl (SWb_n hb (fun z9 => c0 z9.1)) hX hF js
set_option maxRecDepth 100000 in
theorem swO_lp {d L n h m : Nat} {y : Int32} {f0 : Nat → Nat → Int32} {B : Nat → Nat → Nat} {R : Option Value → mH → Prop} (hd : 8 ≤ d) (s : JH f0 n h m) (hB : BO f0 n h m B) (H : ∀ b f' g', SWb y n (f0 140) (fun e => gr (f0 141) (nI e) m) (fun e => gl (f0 141) (nI e) m) (fun e => Scv f0 n h m e) B 16 0 b → XI f' → fx 149 168 f0 f' → R (some (.long (nL b))) (shF L, f', g')) :
    ∀ (k e : Nat) (x : Int32) (a : Int64) (s4 : Option Value) (b : Nat) (f : Nat → Nat → Int32) (g : Nat → Nat → Int64), e + k = 16 → x = nI e → a = nL b → SWb y n (f0 140) (fun e => gr (f0 141) (nI e) m) (fun e => gl (f0 141) (nI e) m) (fun e => Scv f0 n h m e) B e 0 b → XI f → fx 149 168 f0 f → WPe pg_X2_sureWorks none (Run mtab d) R (m_drop pg_X2_sureWorks 4) [some (.ref 149), some (.int y), some (.long a), none, some (.int x), s4] [] (shF L, f, g)
  | 0, e, x, a, s4, b, f, g, he, hx, ha, hb, hX, hF => by
    have e9 : e = 16 := by omega
    subst hx
    subst ha
    subst e9
    refine at_X2_sureWorks ?_
    conv => whnf
    refine ⟨fun _ => ?_, fun y9 => absurd (show (16 : Int32) ≤ nI 16 by decide) y9⟩
    conv => whnf
    exact H b f g hb hX hF
  | k + 1, e, x, a, s4, b, f, g, he, hx, ha, hb, hX, hF => by
    subst hx
    subst ha
    have hm50 := s.2.2.1
    refine at_X2_sureWorks ?_
    conv => whnf
    refine ⟨fun y9 => absurd (show nI 16 ≤ nI e from y9) (nI_ge (by omega) (by decide)), fun _ => ?_⟩
    conv => whnf
    refine sf_jB (n := n) (h := h) (m := m) (e := e) (B := B) (by omega) hX hF s hB (by omega) (fun f' g' x' k' j' => ?_)
    conv => whnf
    exact swI_lp (e := e) (y := y) (f0 := f0) (K := f0 140) (rr := fun e => gr (f0 141) (nI e) m) (ll := fun e => gl (f0 141) (nI e) m) (SS := fun e => Scv f0 n h m e) (B := B) (by omega) s.1 (gr_le (f0 141) (nI e) m) (Scv_b s) Scv_Z (fun q hq => by
      have := ((gl_all (E := f0 141) (e := nI e) m).1 q hq).1
      show gl (f0 141) (nI e) m q < 50
      omega) rfl (fun x2 a2 s2 b2 f2 g2 hx2 ha2 hb2 h2 k2 => swO_lp hd s hB H k (e + 1) x2 a2 s2 b2 f2 g2 (by omega) hx2 ha2 hb2 h2 k2) (gr (f0 141) (nI e) m) 0 _ _ b f' g' (Nat.zero_add _) rfl rfl hb x' k' j'
set_option maxRecDepth 100000 in
set_option maxHeartbeats 4000000 in
theorem sf_sureWorks {d L : Nat} {f : Nat → Nat → Int32} {g : Nat → Nat → Int64} {n h m : Nat} {y : Int32} {B : Nat → Nat → Nat} {R : Option Value → mH → Prop} (hd : 9 ≤ d) (hX : XI f) (s : JH f n h m) (hB : BO f n h m B) (H : ∀ b f' g', SWb y n (f 140) (fun e => gr (f 141) (nI e) m) (fun e => gl (f 141) (nI e) m) (fun e => Scv f n h m e) B 16 0 b → XI f' → fx 149 168 f f' → R (some (.long (nL b))) (shF L, f', g')) : Run mtab d 26 [.ref 149, .int y] (shF L, f, g) R := by
  obtain ⟨d, rfl⟩ : ∃ e, d = e + 1 := ⟨d - 1, by omega⟩
  refine go_X2_sureWorks rfl ?_
  conv => whnf
  exact swO_lp (by omega) s hB H 16 0 _ _ _ 0 _ _ (by omega) rfl rfl SWb_0 hX (fx_refl _ _ _)
def ctw (x1 x2 x3 : Int32) : Prop := inr 0 2 x1 ∧ inr 0 2 x2 ∧ ¬ x1 = x2 ∧ inr 0 4 x3
def ctv (x3 X Y Z : Int32) : Int32 := if x3 = 0 then X else if x3 = 1 then Y else if x3 = 2 then Z else if x3 = 3 then (if Z = 0 then -4 else X * Y / Z) else X + Y - Z
theorem ctv_0 {x3 X Y Z : Int32} (h : x3 = 0) : ctv x3 X Y Z = X := if_pos h
theorem ctv_1 {x3 X Y Z : Int32} (h : x3 = 1) : ctv x3 X Y Z = Y := by
  subst h
  rfl
theorem ctv_2 {x3 X Y Z : Int32} (h : x3 = 2) : ctv x3 X Y Z = Z := by
  subst h
  rfl
theorem ctv_30 {x3 X Y Z : Int32} (h : x3 = 3) (z : Z = 0) : ctv x3 X Y Z = -4 := by
  subst h
  exact if_pos z
theorem ctv_3 {x3 X Y Z : Int32} (h : x3 = 3) (z : ¬ Z = 0) : ctv x3 X Y Z = X * Y / Z := by
  subst h
  exact if_neg z
theorem ctv_4 {x3 X Y Z : Int32} (h0 : ¬ x3 = 0) (h1 : ¬ x3 = 1) (h2 : ¬ x3 = 2) (h3 : ¬ x3 = 3) : ctv x3 X Y Z = X + Y - Z := by
  unfold ctv
  rw [if_neg h0, if_neg h1, if_neg h2, if_neg h3]
theorem i04 {x : Int32} (h : inr 0 4 x) (h0 : ¬ x = 0) (h1 : ¬ x = 1) (h2 : ¬ x = 2) (h4 : ¬ x = 4) : x = 3 := by
  obtain ⟨k, hk, rfl⟩ := inr_nat (n := 4) rfl h
  have e : k = 0 ∨ k = 1 ∨ k = 2 ∨ k = 3 ∨ k = 4 := by omega
  rcases e with rfl | rfl | rfl | rfl | rfl
  · exact absurd rfl h0
  · exact absurd rfl h1
  · exact absurd rfl h2
  · rfl
  · exact absurd rfl h4
def SX_mentions (n c v h m : Nat) (f f1 : Nat → Nat → Int32) (x r : Int32) : Prop := (¬ inr 0 2 x ∧ r = -1 ∧ f1 = f) ∨ (inr 0 2 x ∧ x = 0 ∧ rkY f f1 n c v ∧ r = nI (cN (fun j => cntl (fun i => 0 < scC f1 h j i) n 0 0 = 0) m)) ∨ (inr 0 2 x ∧ ¬ x = 0 ∧ ∃ fa B z, rkY f fa n c v ∧ fx 149 168 fa f1 ∧ BO fa n h m B ∧ ((x = 2 ∧ z = (1 : Int32)) ∨ (¬ x = 2 ∧ z = 0)) ∧ r = nI (sN (fun e => cN (cjP z (gr (fa 141) (nI e) m) n (Scv fa n h m e) (B e)) (gr (fa 141) (nI e) m)) 16))
def SX_counted (n c v h m : Nat) (f f1 : Nat → Nat → Int32) (x1 x2 x3 r : Int32) : Prop := (¬ ctw x1 x2 x3 ∧ r = -1 ∧ f1 = f) ∨ (ctw x1 x2 x3 ∧ ∃ fa B, rkY f fa n c v ∧ fx 149 168 fa f1 ∧ BO fa n h m B ∧ r = ctv x3 (nI (cN (SWp x1 n (fa 140) (fun e => gr (fa 141) (nI e) m) (fun e => gl (fa 141) (nI e) m) (fun e => Scv fa n h m e) B 16 0) 40)) (nI (cN (SWp x2 n (fa 140) (fun e => gr (fa 141) (nI e) m) (fun e => gl (fa 141) (nI e) m) (fun e => Scv fa n h m e) B 16 0) 40)) (nI (cN (fun w => (SWp x1 n (fa 140) (fun e => gr (fa 141) (nI e) m) (fun e => gl (fa 141) (nI e) m) (fun e => Scv fa n h m e) B 16 0) w ∧ (SWp x2 n (fa 140) (fun e => gr (fa 141) (nI e) m) (fun e => gl (fa 141) (nI e) m) (fun e => Scv fa n h m e) B 16 0) w) 40)))
set_option maxRecDepth 100000 in
set_option maxHeartbeats 4000000 in
theorem sf_mentionsQ {d L : Nat} {f : Nat → Nat → Int32} {g : Nat → Nat → Int64} {n c v h m : Nat} {x : Int32} {R : Option Value → mH → Prop} (hd : 10 ≤ d) (hX : XI f) (hW : RW n f) (hC : RC c f) (hV : RV v f) (hO : RO h f) (hMm : RM m f) (hSz : SZ n f) (hRY : RY n c v f) (H : ∀ r f1 g1, XI f1 → SX_mentions n c v h m f f1 x r → R (some (.int r)) (shF L, f1, g1)) : Run mtab d 110 [.ref 5, .int x] (shF L, f, g) R := by
  obtain ⟨d, rfl⟩ : ∃ e, d = e + 1 := ⟨d - 1, by omega⟩
  refine go_X10_mentions rfl ?_
  conv => whnf
  obtain ⟨hn, hnb, hvb, hv, hE, cy, hA0⟩ := YK_of hW hC hV hRY
  refine ct_isWithin (by omega) (fun q => ?_) (fun q => ?_)
  · conv => whnf
    (refine ⟨fun z9 => ?_, fun z9 => ?_⟩ <;> first | ((have c9 : (1 : Int32) = 0 := by with_reducible exact z9); exact absurd c9 (by decide)) | exact absurd (rfl : (0 : Int32) = 0) (by with_reducible exact z9) | exact absurd True.intro (by with_reducible exact z9) | exact False.elim (by with_reducible exact z9) | (conv => whnf))
    refine sf_reckon (n := n) (c := c) (v := v) (by omega) hX hn hnb hvb hv hE cy hA0 (fun fa r1 => ?_)
    conv => whnf
    have xa := XI_rkY hX r1
    have jh := JH_of hW hO hMm hSz r1
    by_cases c1 : x = 0
    · refine ⟨fun y9 => absurd c1 y9, fun _ => ?_⟩
      conv => whnf
      refine sf_countLost (n := n) (h := h) (m := m) (by omega) jh ?_
      conv => whnf
      exact H _ fa _ xa (Or.inr (Or.inl ⟨q, c1, r1, rfl⟩))
    · refine ⟨fun _ => ?_, fun y9 => absurd y9 c1⟩
      conv => whnf
      obtain ⟨B, hB⟩ := BO_ex jh
      by_cases c2 : x = 2
      · refine ⟨fun y9 => absurd c2 y9, fun _ => ?_⟩
        conv => whnf
        refine sf_countJoined (n := n) (h := h) (m := m) (B := B) (by omega) xa jh hB (fun f' g' x' k' => ?_)
        conv => whnf
        exact H _ f' g' x' (Or.inr (Or.inr ⟨q, c1, fa, B, 1, r1, k', hB, Or.inl ⟨c2, rfl⟩, rfl⟩))
      · refine ⟨fun _ => ?_, fun y9 => absurd y9 c2⟩
        conv => whnf
        refine sf_countJoined (n := n) (h := h) (m := m) (B := B) (by omega) xa jh hB (fun f' g' x' k' => ?_)
        conv => whnf
        exact H _ f' g' x' (Or.inr (Or.inr ⟨q, c1, fa, B, 0, r1, k', hB, Or.inr ⟨c2, rfl⟩, rfl⟩))
  · conv => whnf
    (refine ⟨fun z9 => ?_, fun z9 => ?_⟩ <;> first | ((have c9 : (1 : Int32) = 0 := by with_reducible exact z9); exact absurd c9 (by decide)) | exact absurd (rfl : (0 : Int32) = 0) (by with_reducible exact z9) | exact absurd True.intro (by with_reducible exact z9) | exact False.elim (by with_reducible exact z9) | (conv => whnf))
    exact H _ f g hX (Or.inl ⟨q, rfl, rfl⟩)
set_option maxRecDepth 100000 in
set_option maxHeartbeats 4000000 in
theorem sf_countedQ {d L : Nat} {f : Nat → Nat → Int32} {g : Nat → Nat → Int64} {n c v h m : Nat} {x1 x2 x3 : Int32} {R : Option Value → mH → Prop} (hd : 10 ≤ d) (hX : XI f) (hW : RW n f) (hC : RC c f) (hV : RV v f) (hO : RO h f) (hMm : RM m f) (hSz : SZ n f) (hRY : RY n c v f) (H : ∀ r f1 g1, XI f1 → SX_counted n c v h m f f1 x1 x2 x3 r → R (some (.int r)) (shF L, f1, g1)) : Run mtab d 111 [.ref 5, .int x1, .int x2, .int x3] (shF L, f, g) R := by
  obtain ⟨d, rfl⟩ : ∃ e, d = e + 1 := ⟨d - 1, by omega⟩
  refine go_X10_counted rfl ?_
  conv => whnf
  obtain ⟨hn, hnb, hvb, hv, hE, cy, hA0⟩ := YK_of hW hC hV hRY
  refine ct_isWithin (by omega) (fun q1 => ?_) (fun q1 => ?_)
  · conv => whnf
    (refine ⟨fun z9 => ?_, fun z9 => ?_⟩ <;> first | ((have c9 : (1 : Int32) = 0 := by with_reducible exact z9); exact absurd c9 (by decide)) | exact absurd (rfl : (0 : Int32) = 0) (by with_reducible exact z9) | exact absurd True.intro (by with_reducible exact z9) | exact False.elim (by with_reducible exact z9) | (conv => whnf))
    refine ct_isWithin (by omega) (fun q2 => ?_) (fun q2 => ?_)
    · conv => whnf
      (refine ⟨fun z9 => ?_, fun z9 => ?_⟩ <;> first | ((have c9 : (1 : Int32) = 0 := by with_reducible exact z9); exact absurd c9 (by decide)) | exact absurd (rfl : (0 : Int32) = 0) (by with_reducible exact z9) | exact absurd True.intro (by with_reducible exact z9) | exact False.elim (by with_reducible exact z9) | (conv => whnf))
      (refine ⟨fun z9 => ?_, fun z9 => ?_⟩ <;> first | ((have c9 : (1 : Int32) = 0 := by with_reducible exact z9); exact absurd c9 (by decide)) | exact absurd (rfl : (0 : Int32) = 0) (by with_reducible exact z9) | exact absurd True.intro (by with_reducible exact z9) | exact False.elim (by with_reducible exact z9) | (conv => whnf))
      by_cases q3 : x1 = x2
      · refine ⟨fun _ => ?_, fun y9 => absurd q3 y9⟩
        conv => whnf
        exact H _ f g hX (Or.inl ⟨fun hh => absurd q3 hh.2.2.1, rfl, rfl⟩)
      · refine ⟨fun y9 => absurd y9 q3, fun _ => ?_⟩
        conv => whnf
        refine ct_isWithin (by omega) (fun q4 => ?_) (fun q4 => ?_)
        · conv => whnf
          (refine ⟨fun z9 => ?_, fun z9 => ?_⟩ <;> first | ((have c9 : (1 : Int32) = 0 := by with_reducible exact z9); exact absurd c9 (by decide)) | exact absurd (rfl : (0 : Int32) = 0) (by with_reducible exact z9) | exact absurd True.intro (by with_reducible exact z9) | exact False.elim (by with_reducible exact z9) | (conv => whnf))
          refine sf_reckon (n := n) (c := c) (v := v) (by omega) hX hn hnb hvb hv hE cy hA0 (fun fa r1 => ?_)
          conv => whnf
          have xa := XI_rkY hX r1
          have jh := JH_of hW hO hMm hSz r1
          obtain ⟨B, hB⟩ := BO_ex jh
          refine sf_sureWorks (n := n) (h := h) (m := m) (y := x1) (B := B) (by omega) xa jh hB (fun b1 f2 g2 w1 h2 k2 => ?_)
          conv => whnf
          have e140 : f2 140 = fa 140 := funext (fun i => k2 140 i (by omega))
          have e141 : f2 141 = fa 141 := funext (fun i => k2 141 i (by omega))
          have eS : ∀ e, Scv f2 n h m e = Scv fa n h m e := fun e => Scv_q jh.1 k2
          have jh2 := JH_q k2 jh
          have hB2 : BO f2 n h m B := fun e he => by
            rw [e141, eS e]
            exact hB e he
          refine sf_sureWorks (n := n) (h := h) (m := m) (y := x2) (B := B) (by omega) h2 jh2 hB2 (fun b2 f3 g3 w2 h3 k3 => ?_)
          rw [e140, e141, show (fun e => Scv f2 n h m e) = (fun e => Scv fa n h m e) from funext eS] at w2
          conv => whnf
          refine sf_bitCountL (by omega) ?_
          conv => whnf
          refine sf_bitCountL (by omega) ?_
          conv => whnf
          refine sf_bitCountL (by omega) ?_
          have p1 := lbE_cN w1.1
          have p2 := lbE_cN w2.1
          have b63 : b1 < 2 ^ 63 := Nat.lt_of_lt_of_le w1.1 (by decide +kernel)
          have b63' : b2 < 2 ^ 63 := Nat.lt_of_lt_of_le w2.1 (by decide +kernel)
          have p3 : lbE (nL b1 &&& nL b2) = nI (cN (fun w => (b1 &&& b2).testBit w = true) 40) := by
            rw [and_nL b63 b63']
            exact lbE_cN (Nat.lt_of_le_of_lt Nat.and_le_left w1.1)
          have t1 : cN (fun w => b1.testBit w = true) 40 = cN (SWp x1 n (fa 140) (fun e => gr (fa 141) (nI e) m) (fun e => gl (fa 141) (nI e) m) (fun e => Scv fa n h m e) B 16 0) 40 := cN_congr 40 (fun w hw => w1.2 w hw)
          have t2 : cN (fun w => b2.testBit w = true) 40 = cN (SWp x2 n (fa 140) (fun e => gr (fa 141) (nI e) m) (fun e => gl (fa 141) (nI e) m) (fun e => Scv fa n h m e) B 16 0) 40 := cN_congr 40 (fun w hw => w2.2 w hw)
          have t3 : cN (fun w => (b1 &&& b2).testBit w = true) 40 = cN (fun w => (SWp x1 n (fa 140) (fun e => gr (fa 141) (nI e) m) (fun e => gl (fa 141) (nI e) m) (fun e => Scv fa n h m e) B 16 0) w ∧ (SWp x2 n (fa 140) (fun e => gr (fa 141) (nI e) m) (fun e => gl (fa 141) (nI e) m) (fun e => Scv fa n h m e) B 16 0) w) 40 := cN_congr 40 (fun w hw => by
            rw [Nat.testBit_and, Bool.and_eq_true, w1.2 w hw, w2.2 w hw])
          rw [t1] at p1
          rw [t2] at p2
          rw [t3] at p3
          simp only [p1, p2, p3]
          have G : ∀ r, r = ctv x3 (nI (cN (SWp x1 n (fa 140) (fun e => gr (fa 141) (nI e) m) (fun e => gl (fa 141) (nI e) m) (fun e => Scv fa n h m e) B 16 0) 40)) (nI (cN (SWp x2 n (fa 140) (fun e => gr (fa 141) (nI e) m) (fun e => gl (fa 141) (nI e) m) (fun e => Scv fa n h m e) B 16 0) 40)) (nI (cN (fun w => (SWp x1 n (fa 140) (fun e => gr (fa 141) (nI e) m) (fun e => gl (fa 141) (nI e) m) (fun e => Scv fa n h m e) B 16 0) w ∧ (SWp x2 n (fa 140) (fun e => gr (fa 141) (nI e) m) (fun e => gl (fa 141) (nI e) m) (fun e => Scv fa n h m e) B 16 0) w) 40)) → R (some (.int r)) (shF L, f3, g3) := fun r er => H r f3 g3 h3 (Or.inr ⟨⟨q1, q2, q3, q4⟩, fa, B, r1, fx_trans k2 k3, hB, er⟩)
          generalize nI (cN (SWp x1 n (fa 140) (fun e => gr (fa 141) (nI e) m) (fun e => gl (fa 141) (nI e) m) (fun e => Scv fa n h m e) B 16 0) 40) = X at G ⊢
          generalize nI (cN (SWp x2 n (fa 140) (fun e => gr (fa 141) (nI e) m) (fun e => gl (fa 141) (nI e) m) (fun e => Scv fa n h m e) B 16 0) 40) = Y at G ⊢
          generalize nI (cN (fun w => (SWp x1 n (fa 140) (fun e => gr (fa 141) (nI e) m) (fun e => gl (fa 141) (nI e) m) (fun e => Scv fa n h m e) B 16 0) w ∧ (SWp x2 n (fa 140) (fun e => gr (fa 141) (nI e) m) (fun e => gl (fa 141) (nI e) m) (fun e => Scv fa n h m e) B 16 0) w) 40) = Z at G ⊢
          conv => whnf
          refine ⟨fun t0 => ?_, ?_⟩
          · conv => whnf
            exact G _ (ctv_0 t0).symm
          · conv => whnf
            refine ⟨fun t1 => ?_, ?_⟩
            · conv => whnf
              exact G _ (ctv_1 t1).symm
            · conv => whnf
              refine ⟨fun t2 => ?_, ?_⟩
              · conv => whnf
                exact G _ (ctv_2 t2).symm
              · conv => whnf
                refine ⟨fun t3 => ?_, ?_⟩
                · conv => whnf
                  by_cases z0 : Z = 0
                  · refine ⟨fun y9 => absurd z0 y9, fun _ => ?_⟩
                    conv => whnf
                    exact G _ (ctv_30 t3 z0).symm
                  · refine ⟨fun _ => ?_, fun y9 => absurd y9 z0⟩
                    conv => whnf
                    refine ⟨z0, ?_⟩
                    conv => whnf
                    exact G _ (ctv_3 t3 z0).symm
                · conv => whnf
                  intro t9
                  conv => whnf
                  exact G _ (ctv_4 t9.1.1.1 t9.1.1.2 t9.1.2 t9.2).symm
        · conv => whnf
          (refine ⟨fun z9 => ?_, fun z9 => ?_⟩ <;> first | ((have c9 : (1 : Int32) = 0 := by with_reducible exact z9); exact absurd c9 (by decide)) | exact absurd (rfl : (0 : Int32) = 0) (by with_reducible exact z9) | exact absurd True.intro (by with_reducible exact z9) | exact False.elim (by with_reducible exact z9) | (conv => whnf))
          exact H _ f g hX (Or.inl ⟨fun hh => absurd hh.2.2.2 q4, rfl, rfl⟩)
    · conv => whnf
      (refine ⟨fun z9 => ?_, fun z9 => ?_⟩ <;> first | ((have c9 : (1 : Int32) = 0 := by with_reducible exact z9); exact absurd c9 (by decide)) | exact absurd (rfl : (0 : Int32) = 0) (by with_reducible exact z9) | exact absurd True.intro (by with_reducible exact z9) | exact False.elim (by with_reducible exact z9) | (conv => whnf))
      (refine ⟨fun z9 => ?_, fun z9 => ?_⟩ <;> first | ((have c9 : (1 : Int32) = 0 := by with_reducible exact z9); exact absurd c9 (by decide)) | exact absurd (rfl : (0 : Int32) = 0) (by with_reducible exact z9) | exact absurd True.intro (by with_reducible exact z9) | exact False.elim (by with_reducible exact z9) | (conv => whnf))
      exact H _ f g hX (Or.inl ⟨fun hh => absurd hh.2.1 q2, rfl, rfl⟩)
  · conv => whnf
    (refine ⟨fun z9 => ?_, fun z9 => ?_⟩ <;> first | ((have c9 : (1 : Int32) = 0 := by with_reducible exact z9); exact absurd c9 (by decide)) | exact absurd (rfl : (0 : Int32) = 0) (by with_reducible exact z9) | exact absurd True.intro (by with_reducible exact z9) | exact False.elim (by with_reducible exact z9) | (conv => whnf))
    (refine ⟨fun z9 => ?_, fun z9 => ?_⟩ <;> first | ((have c9 : (1 : Int32) = 0 := by with_reducible exact z9); exact absurd c9 (by decide)) | exact absurd (rfl : (0 : Int32) = 0) (by with_reducible exact z9) | exact absurd True.intro (by with_reducible exact z9) | exact False.elim (by with_reducible exact z9) | (conv => whnf))
    exact H _ f g hX (Or.inl ⟨fun hh => absurd hh.1 q1, rfl, rfl⟩)
theorem kx_mentions {n c v h m : Nat} {f f1 : Nat → Nat → Int32} {x r : Int32} (s : SX_mentions n c v h m f f1 x r) : kp [0] f f1 := by
  rcases s with ⟨_, _, rfl⟩ | ⟨_, _, r1, _⟩ | ⟨_, _, fa, B, z, r1, k1, _⟩
  · exact kp_refl _ _
  · exact kp_rkY r1
  · exact kp_trans (kp_rkY r1) (kp_fx k1 rfl)
theorem kx_counted {n c v h m : Nat} {f f1 : Nat → Nat → Int32} {x1 x2 x3 r : Int32} (s : SX_counted n c v h m f f1 x1 x2 x3 r) : kp [0] f f1 := by
  rcases s with ⟨_, _, rfl⟩ | ⟨_, fa, B, r1, k1, _⟩
  · exact kp_refl _ _
  · exact kp_trans (kp_rkY r1) (kp_fx k1 rfl)
