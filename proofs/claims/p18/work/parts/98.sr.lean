/-- the clues whose bits are set -/
def mA_ (bits : Int32) : Nat → Bool := fun k => decide ((bits >>> (nI k &&& 31)) &&& 1 = 1)
def mU_ (f : Nat → Nat → Int32) : Nat → Nat := fun k => (f 196 k).toNatClampNeg
def mV_ (f : Nat → Nat → Int32) : Nat → Nat := fun k => (f 197 k).toNatClampNeg
def mD_ (f : Nat → Nat → Int32) : Nat → Int := fun k => (f 198 k).toInt
def CM (f : Nat → Nat → Int32) (n c : Nat) : Prop := n ≤ 40 ∧ c ≤ 20 ∧ f 181 0 = nI n ∧ f 181 16 = nI c ∧ (∀ k, k < c → (∃ x, x < n ∧ f 196 k = nI x) ∧ (∃ y, y < n ∧ f 197 k = nI y) ∧ inr (-30) 30 (f 198 k)) ∧ (∀ j, j < n → inr 1800 1999 (f 187 j) ∧ inr 1800 1999 (f 188 j) ∧ f 187 j ≤ f 188 j)
def o200 (f0 f : Nat → Nat → Int32) : Prop := ∀ a i, ¬ a = 200 → f a i = f0 a i
set_option maxRecDepth 100000 in
set_option maxHeartbeats 8000000 in
theorem fl_in {d L n c M : Nat} {f0 : Nat → Nat → Int32} {g : Nat → Nat → Int64} {bits : Int32} {R : Option Value → mH → Prop} (hC : CM f0 n c) (H0 : ¬ (∃ X, Sol c (mA_ bits) (mU_ f0) (mV_ f0) (mD_ f0) X ∧ (∀ w, Yh f0 187 n w ≤ X w) ∧ ∀ w, w < n → X w ≤ Yh f0 188 n w) → ∀ f, o200 f0 f → R (some (.int 0)) (shF L, f, g))
    (HO : ∀ (f : Nat → Nat → Int32) (mo : Int32) (s3 s4 : Option Value), o200 f0 f → (∀ w, w < n → inr 1800 1999 (f 200 w) ∧ f 200 w ≤ f0 188 w) → (∀ w, Yh f0 187 n w ≤ Yh f 200 n w) → (∀ X, Sol c (mA_ bits) (mU_ f0) (mV_ f0) (mD_ f0) X → (∀ w, Yh f0 187 n w ≤ X w) → ∀ w, Yh f 200 n w ≤ X w) → ((mo = 0 ∧ (∀ k, k < c → mA_ bits k = true → Yh f 200 n (mU_ f0 k) + mD_ f0 k ≤ Yh f 200 n (mV_ f0 k))) ∨ (mo = 1 ∧ mu f < M)) → WPe pg_X11_findLeast none (Run mtab d) R (m_drop pg_X11_findLeast 18) [some (.ref 181), some (.int bits), some (.int mo), s3, s4] [] (shF L, f, g)) :
    ∀ (k i : Nat) (x mo : Int32) (s4 : Option Value) (f : Nat → Nat → Int32), i + k = c → x = nI i → o200 f0 f → (∀ w, w < n → inr 1800 1999 (f 200 w) ∧ f 200 w ≤ f0 188 w) → (∀ w, Yh f0 187 n w ≤ Yh f 200 n w) → (∀ X, Sol c (mA_ bits) (mU_ f0) (mV_ f0) (mD_ f0) X → (∀ w, Yh f0 187 n w ≤ X w) → ∀ w, Yh f 200 n w ≤ X w) → mu f ≤ M → ((mo = 0 ∧ (∀ k, k < i → mA_ bits k = true → Yh f 200 n (mU_ f0 k) + mD_ f0 k ≤ Yh f 200 n (mV_ f0 k))) ∨ (mo = 1 ∧ mu f < M)) → WPe pg_X11_findLeast none (Run mtab d) R (m_drop pg_X11_findLeast 24) [some (.ref 181), some (.int bits), some (.int mo), some (.int x), s4] [] (shF L, f, g)
  | 0, i, x, mo, s4, f, hi, hx, hF, hr, hlo, hle, hM, hch => by
    have e : i = c := by omega
    subst e
    subst hx
    have g16 : f 181 16 = nI i := (hF 181 16 (by omega)).trans hC.2.2.2.1
    have hc := hC.2.1
    refine at_X11_findLeast ?_
    conv => whnf
    simp only [g16]
    refine ⟨fun q => ?_, fun q => absurd (nI_le (Nat.le_refl _) (by omega)) q⟩
    conv => whnf
    exact HO f mo _ _ hF hr hlo hle hch
  | k + 1, i, x, mo, s4, f, hi, hx, hF, hr, hlo, hle, hM, hch => by
    subst hx
    obtain ⟨hn, hc, c0, c16, ce, cy⟩ := id hC
    obtain ⟨⟨xu, hxu, e196⟩, ⟨yv, hyv, e197⟩, e198⟩ := ce i (by omega)
    have hcl : (nI i).toNatClampNeg = i := nI_clamp (by omega)
    have hcx : (nI xu).toNatClampNeg = xu := nI_clamp (by omega)
    have hcy : (nI yv).toNatClampNeg = yv := nI_clamp (by omega)
    have g16 : f 181 16 = nI c := (hF 181 16 (by omega)).trans c16
    have g196 : f 196 i = nI xu := (hF 196 _ (by omega)).trans e196
    have g197 : f 197 i = nI yv := (hF 197 _ (by omega)).trans e197
    have g198 : f 198 i = f0 198 i := hF 198 _ (by omega)
    have g188 : f 188 yv = f0 188 yv := hF 188 _ (by omega)
    have hU : mU_ f0 i = xu := by
      show (f0 196 i).toNatClampNeg = xu
      rw [e196]
      exact hcx
    have hV : mV_ f0 i = yv := by
      show (f0 197 i).toNatClampNeg = yv
      rw [e197]
      exact hcy
    have r1 := i1800 (hr xu hxu).1
    have r2 := i30 e198
    have r3 := i1800 (hr yv hyv).1
    have es : (f 200 xu + f0 198 i).toInt = (f 200 xu).toInt + (f0 198 i).toInt := add_int (by omega) (by omega) r2.1 r2.2
    have e9 : mD_ f0 i = (f0 198 i).toInt := rfl
    have hiv : ¬ ¬ f 200 yv ≤ f0 188 yv := fun z => z (hr yv hyv).2
    have on : ∀ s4 : Option Value, (mA_ bits i = true → (f 200 xu).toInt + (f0 198 i).toInt ≤ (f 200 yv).toInt) → WPe pg_X11_findLeast none (Run mtab d) R (m_drop pg_X11_findLeast 24) [some (.ref 181), some (.int bits), some (.int mo), some (.int (nI i + 1)), s4] [] (shF L, f, g) := fun s4 z => fl_in hC H0 HO k (i + 1) _ mo s4 f (by omega) (nI_1 i) hF hr hlo hle hM (hch.imp (fun w => ⟨w.1, fun k' hk' hA => by
      by_cases e : k' = i
      · subst e
        rw [hU, hV, Yh_t hxu, Yh_t hyv, e9]
        exact z hA
      · exact w.2 k' (by omega) hA⟩) id)
    refine at_X11_findLeast ?_
    conv => whnf
    simp only [g16]
    refine ⟨fun q => absurd q (nI_ge (b := c) (by omega) (by omega)), fun q => ?_⟩
    conv => whnf
    refine ⟨fun cA => ?_, fun cA => ?_⟩
    · have hA : mA_ bits i = false := decide_eq_false cA
      conv => whnf
      refine ⟨vp_in_nI (by omega) (by decide), ?_⟩
      conv => whnf
      simp only [hcl, g197]
      refine ⟨vp_in_nI (by omega) (by decide), ?_⟩
      conv => whnf
      simp only [hcy]
      refine ⟨fun c2 => ?_, fun c2 => absurd (Int32.le_iff_toInt_le.mpr (show (1800 : Int32).toInt ≤ _ from by have e1 : (1800 : Int32).toInt = 1800 := rfl; omega)) c2⟩
      conv => whnf
      refine ⟨vp_in_nI (by omega) (by decide), ?_⟩
      conv => whnf
      simp only [hcl, g197]
      refine ⟨vp_in_nI (by omega) (by decide), ?_⟩
      conv => whnf
      refine ⟨vp_in_nI (by omega) (by decide), ?_⟩
      conv => whnf
      simp only [hcl, g197]
      refine ⟨vp_in_nI (by omega) (by decide), ?_⟩
      conv => whnf
      simp only [hcy, g188]
      refine ⟨fun c4 => ?_, fun c4 => absurd c4 hiv⟩
      conv => whnf
      exact on _ (fun z => by rw [hA] at z; cases z)
    · have hA : mA_ bits i = true := decide_eq_true cA
      conv => whnf
      refine ⟨vp_in_nI (by omega) (by decide), ?_⟩
      conv => whnf
      simp only [hcl, g196]
      refine ⟨vp_in_nI (by omega) (by decide), ?_⟩
      conv => whnf
      refine ⟨vp_in_nI (by omega) (by decide), ?_⟩
      conv => whnf
      simp only [hcl, hcx, g198]
      refine ⟨vp_in_nI (by omega) (by decide), ?_⟩
      conv => whnf
      simp only [hcl, g197]
      refine ⟨vp_in_nI (by omega) (by decide), ?_⟩
      conv => whnf
      simp only [hcy]
      refine ⟨fun c2 => ?_, fun c2 => ?_⟩
      · conv => whnf
        refine ⟨vp_in_nI (by omega) (by decide), ?_⟩
        conv => whnf
        simp only [hcl, g197]
        refine ⟨vp_in_nI (by omega) (by decide), ?_⟩
        conv => whnf
        refine ⟨vp_in_nI (by omega) (by decide), ?_⟩
        conv => whnf
        simp only [hcl, g197]
        refine ⟨vp_in_nI (by omega) (by decide), ?_⟩
        conv => whnf
        simp only [hcy, g188]
        refine ⟨fun c4 => ?_, fun c4 => absurd c4 hiv⟩
        conv => whnf
        refine on _ (fun _ => ?_)
        have c3 := Int32.le_iff_toInt_le.mp c2
        rw [es] at c3
        exact c3
      · have c3 : (f 200 yv).toInt < (f 200 xu).toInt + (f0 198 i).toInt := by
          have := Int32.lt_iff_toInt_lt.mp (i32_nle.mp c2)
          rw [es] at this
          exact this
        have hmu : mu (m_ui f 200 yv (f 200 xu + f0 198 i)) < mu f := mu_up (by omega) c2
        have hF2 : o200 f0 (m_ui f 200 yv (f 200 xu + f0 198 i)) := fun a b h1 => by
          rw [m_ui_o (by omega)]
          exact hF a b h1
        have w197 : m_ui f 200 yv (f 200 xu + f0 198 i) 197 i = nI yv := (m_ui_o (by omega)).trans g197
        have w188 : m_ui f 200 yv (f 200 xu + f0 198 i) 188 yv = f0 188 yv := (m_ui_o (by omega)).trans g188
        have w200 : m_ui f 200 yv (f 200 xu + f0 198 i) 200 yv = f 200 xu + f0 198 i := m_ui_s
        conv => whnf
        refine ⟨vp_in_nI (by omega) (by decide), ?_⟩
        conv => whnf
        simp only [hcl, g197]
        refine ⟨vp_in_nI (by omega) (by decide), ?_⟩
        conv => whnf
        simp only [hcy]
        refine ⟨vp_in_nI (by omega) (by decide), ?_⟩
        conv => whnf
        simp only [hcl, g197, w197]
        refine ⟨vp_in_nI (by omega) (by decide), ?_⟩
        conv => whnf
        refine ⟨vp_in_nI (by omega) (by decide), ?_⟩
        conv => whnf
        simp only [hcl, g197, w197]
        refine ⟨vp_in_nI (by omega) (by decide), ?_⟩
        conv => whnf
        simp only [hcy, g188, w188, w200]
        refine ⟨fun c4 => ?_, fun c4 => ?_⟩
        · have c5 := Int32.le_iff_toInt_le.mp c4
          rw [es] at c5
          have b12 := i1800 (cy yv hyv).2.1
          conv => whnf
          refine fl_in hC H0 HO k (i + 1) _ _ _ _ (by omega) (nI_1 i) hF2 (fun w hw => ?_) (fun w => ?_) (fun X x1 x2 w => ?_) (by omega) (Or.inr ⟨rfl, by omega⟩)
          · by_cases e : w = yv
            · subst e
              rw [m_ui_s]
              refine ⟨⟨?_, ?_⟩, c4⟩
              · rw [Int32.le_iff_toInt_le, es]
                have e1 : (1800 : Int32).toInt = 1800 := rfl
                omega
              · rw [Int32.le_iff_toInt_le, es]
                have e1 : (1999 : Int32).toInt = 1999 := rfl
                omega
            · rw [m_ui_o (by omega)]
              exact hr w hw
          · rw [Yh_ui hyv]
            have h1 := hlo w
            show _ ≤ (if w = yv then (f 200 xu + f0 198 i).toInt else Yh f 200 n w)
            by_cases e : w = yv
            · subst e
              rw [if_pos rfl, es]
              rw [Yh_t hyv (f := f)] at h1
              omega
            · rw [if_neg e]
              exact h1
          · rw [Yh_ui hyv]
            show (if w = yv then (f 200 xu + f0 198 i).toInt else Yh f 200 n w) ≤ X w
            by_cases e : w = yv
            · subst e
              rw [if_pos rfl, es]
              have l1 := x1 i (by omega) hA
              have l2 := hle X x1 x2 xu
              rw [hU, hV] at l1
              rw [Yh_t hxu] at l2
              omega
            · rw [if_neg e]
              exact hle X x1 x2 w
        · have c5 := Int32.lt_iff_toInt_lt.mp (i32_nle.mp c4)
          rw [es] at c5
          conv => whnf
          refine ⟨Or.inl rfl, H0 (fun hX => ?_) _ hF2⟩
          obtain ⟨X, x1, x2, x3⟩ := hX
          have l1 := x1 i (by omega) hA
          have l2 := hle X x1 x2 xu
          rw [hU, hV] at l1
          rw [Yh_t hxu] at l2
          have l4 := x3 yv hyv
          rw [Yh_t hyv] at l4
          omega
set_option maxRecDepth 100000 in
set_option maxHeartbeats 8000000 in
theorem fl_out {d L n c : Nat} {f0 : Nat → Nat → Int32} {g : Nat → Nat → Int64} {bits : Int32} {R : Option Value → mH → Prop} (hC : CM f0 n c) (H0 : ¬ (∃ X, Sol c (mA_ bits) (mU_ f0) (mV_ f0) (mD_ f0) X ∧ (∀ w, Yh f0 187 n w ≤ X w) ∧ ∀ w, w < n → X w ≤ Yh f0 188 n w) → ∀ f, o200 f0 f → R (some (.int 0)) (shF L, f, g))
    (H1 : ∀ f, o200 f0 f → (∀ w, w < n → inr 1800 1999 (f 200 w) ∧ f 200 w ≤ f0 188 w) → Lst c (mA_ bits) (mU_ f0) (mV_ f0) (mD_ f0) (Yh f0 187 n) (Yh f 200 n) → R (some (.int 1)) (shF L, f, g)) :
    ∀ (N : Nat) (mo : Int32) (s3 s4 : Option Value) (f : Nat → Nat → Int32), o200 f0 f → (∀ w, w < n → inr 1800 1999 (f 200 w) ∧ f 200 w ≤ f0 188 w) → (∀ w, Yh f0 187 n w ≤ Yh f 200 n w) → (∀ X, Sol c (mA_ bits) (mU_ f0) (mV_ f0) (mD_ f0) X → (∀ w, Yh f0 187 n w ≤ X w) → ∀ w, Yh f 200 n w ≤ X w) → ((mo = 0 ∧ (∀ k, k < c → mA_ bits k = true → Yh f 200 n (mU_ f0 k) + mD_ f0 k ≤ Yh f 200 n (mV_ f0 k))) ∨ (mo = 1 ∧ mu f < N)) → WPe pg_X11_findLeast none (Run mtab d) R (m_drop pg_X11_findLeast 18) [some (.ref 181), some (.int bits), some (.int mo), s3, s4] [] (shF L, f, g) := by
  intro N
  induction N with
  | zero =>
    intro mo s3 s4 f hF hr hlo hle hch
    rcases hch with ⟨rfl, hS⟩ | ⟨_, h⟩
    · refine at_X11_findLeast ?_
      conv => whnf
      refine ⟨fun _ => ?_, fun q => absurd rfl q⟩
      conv => whnf
      exact ⟨Or.inr rfl, H1 f hF hr ⟨hS, hlo, hle⟩⟩
    · omega
  | succ N ih =>
    intro mo s3 s4 f hF hr hlo hle hch
    rcases hch with ⟨rfl, hS⟩ | ⟨rfl, h⟩
    · refine at_X11_findLeast ?_
      conv => whnf
      refine ⟨fun _ => ?_, fun q => absurd rfl q⟩
      conv => whnf
      exact ⟨Or.inr rfl, H1 f hF hr ⟨hS, hlo, hle⟩⟩
    · refine at_X11_findLeast ?_
      conv => whnf
      refine ⟨fun q => absurd q (by decide), fun _ => ?_⟩
      conv => whnf
      exact fl_in (M := mu f) hC H0 (fun f1 mo s3 s4 a1 a2 a3 a4 a5 => ih mo s3 s4 f1 a1 a2 a3 a4 (a5.imp id (fun z => ⟨z.1, by omega⟩))) c 0 _ _ _ f (by omega) rfl hF hr hlo hle (Nat.le_refl _) (Or.inl ⟨rfl, fun k hk => absurd hk (by omega)⟩)
set_option maxRecDepth 100000 in
theorem fl_cp {d L n c : Nat} {f0 : Nat → Nat → Int32} {g : Nat → Nat → Int64} {bits : Int32} {R : Option Value → mH → Prop} (hC : CM f0 n c) (H : ∀ (f : Nat → Nat → Int32) (s3 s4 : Option Value), o200 f0 f → (∀ w, w < n → f 200 w = f0 187 w) → WPe pg_X11_findLeast none (Run mtab d) R (m_drop pg_X11_findLeast 18) [some (.ref 181), some (.int bits), some (.int 1), s3, s4] [] (shF L, f, g)) :
    ∀ (k i : Nat) (x : Int32) (s3 s4 : Option Value) (f : Nat → Nat → Int32), i + k = n → x = nI i → o200 f0 f → (∀ w, w < i → f 200 w = f0 187 w) → WPe pg_X11_findLeast none (Run mtab d) R (m_drop pg_X11_findLeast 2) [some (.ref 181), some (.int bits), some (.int x), s3, s4] [] (shF L, f, g)
  | 0, i, x, s3, s4, f, hi, hx, hF, hw => by
    have e : i = n := by omega
    subst e
    subst hx
    have hn := hC.1
    have g0 : f 181 0 = nI i := (hF 181 0 (by omega)).trans hC.2.2.1
    refine at_X11_findLeast ?_
    conv => whnf
    simp only [g0]
    refine ⟨fun q => ?_, fun q => absurd (nI_le (Nat.le_refl _) (by omega)) q⟩
    conv => whnf
    exact H f _ _ hF hw
  | k + 1, i, x, s3, s4, f, hi, hx, hF, hw => by
    subst hx
    have hn := hC.1
    have hcl : (nI i).toNatClampNeg = i := nI_clamp (by omega)
    have g0 : f 181 0 = nI n := (hF 181 0 (by omega)).trans hC.2.2.1
    have g187 : f 187 i = f0 187 i := hF 187 i (by omega)
    refine at_X11_findLeast ?_
    conv => whnf
    simp only [g0]
    refine ⟨fun q => absurd q (nI_ge (b := n) (by omega) (by omega)), fun q => ?_⟩
    conv => whnf
    refine ⟨vp_in_nI (by omega) (by decide), ?_⟩
    conv => whnf
    refine ⟨vp_in_nI (by omega) (by decide), ?_⟩
    conv => whnf
    simp only [hcl, g187]
    refine fl_cp hC H k (i + 1) _ _ _ _ (by omega) (nI_1 i) (fun a b h1 => ?_) (fun w hw2 => ?_)
    · rw [m_ui_o (by omega)]
      exact hF a b h1
    · by_cases e : w = i
      · subst e
        rw [m_ui_s]
      · rw [m_ui_o (by omega)]
        exact hw w (by omega)
set_option maxRecDepth 100000 in
set_option maxHeartbeats 4000000 in
theorem smf_findLeast {d L : Nat} {f : Nat → Nat → Int32} {g : Nat → Nat → Int64} {n c : Nat} {bits : Int32} {R : Option Value → mH → Prop} (hd : 1 ≤ d) (hC : CM f n c) (H0 : ¬ (∃ X, Sol c (mA_ bits) (mU_ f) (mV_ f) (mD_ f) X ∧ (∀ w, Yh f 187 n w ≤ X w) ∧ ∀ w, w < n → X w ≤ Yh f 188 n w) → ∀ f', o200 f f' → R (some (.int 0)) (shF L, f', g)) (H1 : ∀ f', o200 f f' → (∀ w, w < n → inr 1800 1999 (f' 200 w) ∧ f' 200 w ≤ f 188 w) → Lst c (mA_ bits) (mU_ f) (mV_ f) (mD_ f) (Yh f 187 n) (Yh f' 200 n) → R (some (.int 1)) (shF L, f', g)) : Run mtab d 179 [.ref 181, .int bits] (shF L, f, g) R := by
  obtain ⟨d, rfl⟩ : ∃ e, d = e + 1 := ⟨d - 1, by omega⟩
  refine go_X11_findLeast rfl ?_
  conv => whnf
  refine fl_cp hC (fun f1 s3 s4 hF hw => ?_) n 0 _ _ _ _ (by omega) rfl (fun a b _ => rfl) (fun w hw => absurd hw (by omega))
  have eY : ∀ w, Yh f1 200 n w = Yh f 187 n w := fun w => by
    unfold Yh
    by_cases h : w < n
    · rw [if_pos h, if_pos h, hw w h]
    · rw [if_neg h, if_neg h]
  refine fl_out hC H0 H1 (mu f1 + 1) _ _ _ f1 hF (fun w h => ?_) (fun w => ?_) (fun X x1 x2 w => ?_) (Or.inr ⟨rfl, by omega⟩)
  · rw [hw w h]
    exact ⟨(hC.2.2.2.2.2 w h).1, (hC.2.2.2.2.2 w h).2.2⟩
  · rw [eY w]
    exact Int.le_refl _
  · rw [eY w]
    exact x2 w
