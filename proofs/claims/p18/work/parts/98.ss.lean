/-- years turned round -/
def Nh (f : Nat → Nat → Int32) (p n : Nat) : Nat → Int := fun w => if w < n then -(f p w).toInt else 0
theorem Nh_t {f : Nat → Nat → Int32} {p n w : Nat} (h : w < n) : Nh f p n w = -(f p w).toInt := if_pos h
theorem Nh_ui {f : Nat → Nat → Int32} {p n y : Nat} {v : Int32} (hy : y < n) : Nh (m_ui f p y v) p n = fun w => if w = y then -v.toInt else Nh f p n w := by
  funext w
  unfold Nh
  by_cases h : w < n
  · rw [if_pos h, if_pos h]
    by_cases e : w = y
    · subst e
      rw [m_ui_s, if_pos rfl]
    · rw [m_ui_o (by omega), if_neg e]
  · rw [if_neg h, if_neg h, if_neg (by omega)]
/-- all edges count -/
def aT : Nat → Bool := fun _ => true
def o135 (f0 f : Nat → Nat → Int32) : Prop := ∀ a i, ¬ a = 135 → f a i = f0 a i
theorem rnds_le {m : Nat} {A : Nat → Bool} {u v : Nat → Nat} {a : Nat → Int} {lo X : Nat → Int} (x1 : Sol m A u v a X) (x2 : ∀ w, lo w ≤ X w) : ∀ r w, rnds m A u v a r lo w ≤ X w
  | 0, w => x2 w
  | r + 1, w => rnd_le x1 (rnds_le x1 x2 r) m (Nat.le_refl m) w
set_option maxRecDepth 100000 in
set_option maxHeartbeats 8000000 in
theorem lh_in {d L n m r : Nat} {f0 : Nat → Nat → Int32} {g : Nat → Nat → Int64} {q : Nat → Nat} {X : Nat → Int} {R : Option Value → mH → Prop} (hd : 1 ≤ d) (hC : CT f0 n m q) (hX : Sol m aT (eV f0 q) (eU f0 q) (eD f0 q) X) (hx : ∀ w, w < n → 1800 ≤ -X w) (hi : ∀ w, Nh f0 12 n w ≤ X w)
    (HO : ∀ (f : Nat → Nat → Int32) (x : Int32) (s3 s4 : Option Value), x = nI m → o135 f0 f → (∀ w, w < n → inr 1800 1999 (f 135 w)) → Nh f 135 n = rnds m aT (eV f0 q) (eU f0 q) (eD f0 q) (r + 1) (Nh f0 12 n) → WPe pg_X9_lowerHighs none (Run mtab d) R (m_drop pg_X9_lowerHighs 8) [some (.ref 129), some (.int (nI r)), some (.int x), s3, s4] [] (shF L, f, g)) :
    ∀ (k i : Nat) (x : Int32) (s3 s4 : Option Value) (f : Nat → Nat → Int32), i + k = m → x = nI i → o135 f0 f → (∀ w, w < n → inr 1800 1999 (f 135 w)) → Nh f 135 n = rnd_ aT (eV f0 q) (eU f0 q) (eD f0 q) i (rnds m aT (eV f0 q) (eU f0 q) (eD f0 q) r (Nh f0 12 n)) → WPe pg_X9_lowerHighs none (Run mtab d) R (m_drop pg_X9_lowerHighs 8) [some (.ref 129), some (.int (nI r)), some (.int x), s3, s4] [] (shF L, f, g)
  | 0, i, x, s3, s4, f, hk, hxx, hF, hr, hL => by
    have e : i = m := by omega
    subst e
    exact HO f x s3 s4 hxx hF hr hL
  | k + 1, i, x, s3, s4, f, hk, hxx, hF, hr, hL => by
    subst hxx
    obtain ⟨hn, hm, c6, c129, ce, cy⟩ := id hC
    obtain ⟨hq, e136, ⟨xu, hxu, e130⟩, ⟨yv, hyv, e131⟩, e132⟩ := ce i (by omega)
    have hcl : (nI i).toNatClampNeg = i := nI_clamp (by omega)
    have hcq : (nI (q i)).toNatClampNeg = q i := nI_clamp (by omega)
    have hcx : (nI xu).toNatClampNeg = xu := nI_clamp (by omega)
    have hcy : (nI yv).toNatClampNeg = yv := nI_clamp (by omega)
    have g129 : f 129 11 = nI m := (hF 129 11 (by omega)).trans c129
    have g136 : f 136 i = nI (q i) := (hF 136 i (by omega)).trans e136
    have g130 : f 130 (q i) = nI xu := (hF 130 _ (by omega)).trans e130
    have g131 : f 131 (q i) = nI yv := (hF 131 _ (by omega)).trans e131
    have g132 : f 132 (q i) = f0 132 (q i) := hF 132 _ (by omega)
    have hU : eU f0 q i = xu := by
      show (f0 130 (q i)).toNatClampNeg = xu
      rw [e130]
      exact hcx
    have hV : eV f0 q i = yv := by
      show (f0 131 (q i)).toNatClampNeg = yv
      rw [e131]
      exact hcy
    have r1 := i1800 (hr xu hxu)
    have r2 := i30 e132
    have r3 := i1800 (hr yv hyv)
    have es : (f 135 yv - f0 132 (q i)).toInt = (f 135 yv).toInt - (f0 132 (q i)).toInt := sub_int (by omega) (by omega) r2.1 r2.2
    have e9 : eD f0 q i = (f0 132 (q i)).toInt := rfl
    have hb := rnd_le hX (rnds_le hX hi r) (i + 1) (by omega) xu
    have hL2 : Nh (m_ui f 135 xu (if f 135 yv - f0 132 (q i) < f 135 xu then f 135 yv - f0 132 (q i) else f 135 xu)) 135 n = rnd_ aT (eV f0 q) (eU f0 q) (eD f0 q) (i + 1) (rnds m aT (eV f0 q) (eU f0 q) (eD f0 q) r (Nh f0 12 n)) := by
      show _ = rlx aT (eV f0 q) (eU f0 q) (eD f0 q) i (rnd_ aT (eV f0 q) (eU f0 q) (eD f0 q) i (rnds m aT (eV f0 q) (eU f0 q) (eD f0 q) r (Nh f0 12 n)))
      rw [← hL, Nh_ui hxu]
      funext w
      unfold rlx
      rw [hU, hV]
      by_cases e : w = xu
      · subst e
        rw [if_pos rfl]
        by_cases z : f 135 yv - f0 132 (q i) < f 135 w
        · have z2 := Int32.lt_iff_toInt_lt.mp z
          rw [es] at z2
          rw [if_pos z, if_pos ⟨rfl, rfl, by rw [Nh_t hxu, Nh_t hyv, e9]; omega⟩, es, Nh_t hyv, e9]
          omega
        · have z2 : ¬ (f 135 yv - f0 132 (q i)).toInt < (f 135 w).toInt := fun y => z (Int32.lt_iff_toInt_lt.mpr y)
          rw [es] at z2
          rw [if_neg z, if_neg (fun y => by have := y.2.2; rw [Nh_t hxu, Nh_t hyv, e9] at this; omega), Nh_t hxu]
      · rw [if_neg e, if_neg (fun y => e y.1)]
    have hb2 : 1800 ≤ (if f 135 yv - f0 132 (q i) < f 135 xu then f 135 yv - f0 132 (q i) else f 135 xu).toInt := by
      rw [← hL2, Nh_ui hxu] at hb
      have hb3 : (if xu = xu then -(if f 135 yv - f0 132 (q i) < f 135 xu then f 135 yv - f0 132 (q i) else f 135 xu).toInt else Nh f 135 n xu) ≤ X xu := hb
      rw [if_pos rfl] at hb3
      have := hx xu hxu
      omega
    refine at_X9_lowerHighs ?_
    conv => whnf
    simp only [g129]
    refine ⟨fun c => absurd c (nI_ge (b := m) (by omega) (by omega)), fun c => ?_⟩
    conv => whnf
    refine ⟨vp_in_nI (by omega) (by decide), ?_⟩
    conv => whnf
    simp only [hcl, g136]
    refine ⟨vp_in_nI (by omega) (by decide), ?_⟩
    conv => whnf
    simp only [hcq, g130]
    refine ⟨vp_in_nI (by omega) (by decide), ?_⟩
    conv => whnf
    refine ⟨vp_in_nI (by omega) (by decide), ?_⟩
    conv => whnf
    simp only [hcq, g131]
    refine ⟨vp_in_nI (by omega) (by decide), ?_⟩
    conv => whnf
    refine ⟨vp_in_nI (by omega) (by decide), ?_⟩
    conv => whnf
    simp only [hcq, hcx, hcy, g132]
    refine rp_min (by omega) ?_
    conv => whnf
    refine ⟨vp_in_nI (by omega) (by decide), ?_⟩
    conv => whnf
    simp only [hcx]
    refine lh_in hd hC hX hx hi HO k (i + 1) _ _ _ _ (by omega) (nI_1 i) (fun a b h1 => by rw [m_ui_o (by omega)]; exact hF a b h1) (fun w hw => ?_) hL2
    by_cases e : w = xu
    · subst e
      rw [m_ui_s]
      refine ⟨Int32.le_iff_toInt_le.mpr (show (1800 : Int32).toInt ≤ _ from hb2), Int32.le_iff_toInt_le.mpr ?_⟩
      show _ ≤ (1999 : Int32).toInt
      have e1 : (1999 : Int32).toInt = 1999 := rfl
      rw [e1]
      by_cases z : f 135 yv - f0 132 (q i) < f 135 w
      · have z2 := Int32.lt_iff_toInt_lt.mp z
        rw [if_pos z]
        omega
      · rw [if_neg z]
        omega
    · rw [m_ui_o (by omega)]
      exact hr w hw
set_option maxRecDepth 100000 in
set_option maxHeartbeats 8000000 in
theorem lh_out {d L n m : Nat} {f0 : Nat → Nat → Int32} {g : Nat → Nat → Int64} {q : Nat → Nat} {X : Nat → Int} {R : Option Value → mH → Prop} (hd : 1 ≤ d) (hC : CT f0 n m q) (hX : Sol m aT (eV f0 q) (eU f0 q) (eD f0 q) X) (hx : ∀ w, w < n → 1800 ≤ -X w) (hi : ∀ w, Nh f0 12 n w ≤ X w)
    (H : ∀ f, o135 f0 f → (∀ w, w < n → inr 1800 1999 (f 135 w)) → Nh f 135 n = rnds m aT (eV f0 q) (eU f0 q) (eD f0 q) m (Nh f0 12 n) → R none (shF L, f, g)) :
    ∀ (k r : Nat) (x : Int32) (s2 s3 s4 : Option Value) (f : Nat → Nat → Int32), r + k = m → x = nI r → o135 f0 f → (∀ w, w < n → inr 1800 1999 (f 135 w)) → Nh f 135 n = (rnds m aT (eV f0 q) (eU f0 q) (eD f0 q) r (Nh f0 12 n)) → WPe pg_X9_lowerHighs none (Run mtab d) R (m_drop pg_X9_lowerHighs 2) [some (.ref 129), some (.int x), s2, s3, s4] [] (shF L, f, g)
  | 0, r, x, s2, s3, s4, f, hk, hxx, hF, hr, hL => by
    have e : r = m := by omega
    subst e
    subst hxx
    have g129 : f 129 11 = nI r := (hF 129 11 (by omega)).trans hC.2.2.2.1
    have hm := hC.2.1
    refine at_X9_lowerHighs ?_
    conv => whnf
    simp only [g129]
    refine ⟨fun c => ?_, fun c => absurd (nI_le (Nat.le_refl _) (by omega)) c⟩
    conv => whnf
    exact H f hF hr hL
  | k + 1, r, x, s2, s3, s4, f, hk, hxx, hF, hr, hL => by
    subst hxx
    have g129 : f 129 11 = nI m := (hF 129 11 (by omega)).trans hC.2.2.2.1
    have hm := hC.2.1
    refine at_X9_lowerHighs ?_
    conv => whnf
    simp only [g129]
    refine ⟨fun c => absurd c (nI_ge (b := m) (by omega) (by omega)), fun c => ?_⟩
    conv => whnf
    refine lh_in hd hC hX hx hi (fun f1 x s3 s4 hx1 hF1 hr1 hL1 => ?_) m 0 _ _ _ f (by omega) rfl hF hr hL
    subst hx1
    have k129 : f1 129 11 = nI m := (hF1 129 11 (by omega)).trans hC.2.2.2.1
    refine at_X9_lowerHighs ?_
    conv => whnf
    simp only [k129]
    refine ⟨fun c => ?_, fun c => absurd (nI_le (Nat.le_refl _) (by omega)) c⟩
    conv => whnf
    exact lh_out hd hC hX hx hi H k (r + 1) _ _ _ _ f1 (by omega) (nI_1 r) hF1 hr1 hL1
set_option maxRecDepth 100000 in
set_option maxHeartbeats 4000000 in
theorem sf_lowerHighs {d L : Nat} {f : Nat → Nat → Int32} {g : Nat → Nat → Int64} {n m : Nat} {q : Nat → Nat} {X : Nat → Int} {R : Option Value → mH → Prop} (hd : 2 ≤ d) (hC : CT f n m q) (hX : Sol m aT (eV f q) (eU f q) (eD f q) X) (hx : ∀ w, w < n → 1800 ≤ -X w) (hi : ∀ w, Nh f 12 n w ≤ X w) (hs : ∀ w, w < n → f 135 w = f 12 w) (H : ∀ f', o135 f f' → (∀ w, w < n → inr 1800 1999 (f' 135 w)) → Nh f' 135 n = rnds m aT (eV f q) (eU f q) (eD f q) m (Nh f 12 n) → R none (shF L, f', g)) : Run mtab d 82 [.ref 129] (shF L, f, g) R := by
  obtain ⟨d, rfl⟩ : ∃ e, d = e + 1 := ⟨d - 1, by omega⟩
  refine go_X9_lowerHighs rfl ?_
  conv => whnf
  refine lh_out (by omega) hC hX hx hi H m 0 _ _ _ _ f (by omega) rfl (fun a i _ => rfl) (fun w hw => ?_) ?_
  · rw [hs w hw]
    exact (hC.2.2.2.2.2 w hw).2.1
  · funext w
    unfold Nh
    by_cases h : w < n
    · rw [if_pos h, hs w h]
      exact (if_pos h).symm
    · rw [if_neg h]
      exact (if_neg h).symm
def o201 (f0 f : Nat → Nat → Int32) : Prop := ∀ a i, ¬ a = 201 → f a i = f0 a i
set_option maxRecDepth 100000 in
set_option maxHeartbeats 8000000 in
theorem fm_in {d L n c M : Nat} {f0 : Nat → Nat → Int32} {g : Nat → Nat → Int64} {bits : Int32} {X0 : Nat → Int} {R : Option Value → mH → Prop} (hC : CM f0 n c) (hX : Sol c (mA_ bits) (mV_ f0) (mU_ f0) (mD_ f0) X0) (hx : ∀ w, w < n → 1800 ≤ -X0 w) (hi : ∀ w, Nh f0 188 n w ≤ X0 w)
    (HO : ∀ (f : Nat → Nat → Int32) (mo : Int32) (s3 s4 : Option Value), o201 f0 f → (∀ w, w < n → inr 1800 1999 (f 201 w)) → (∀ w, Nh f0 188 n w ≤ Nh f 201 n w) → (∀ X, Sol c (mA_ bits) (mV_ f0) (mU_ f0) (mD_ f0) X → (∀ w, Nh f0 188 n w ≤ X w) → ∀ w, Nh f 201 n w ≤ X w) → ((mo = 0 ∧ (∀ k, k < c → mA_ bits k = true → Nh f 201 n (mV_ f0 k) + mD_ f0 k ≤ Nh f 201 n (mU_ f0 k))) ∨ (mo = 1 ∧ md f < M)) → WPe pg_X11_findMost none (Run mtab d) R (m_drop pg_X11_findMost 18) [some (.ref 181), some (.int bits), some (.int mo), s3, s4] [] (shF L, f, g)) :
    ∀ (k i : Nat) (x mo : Int32) (s4 : Option Value) (f : Nat → Nat → Int32), i + k = c → x = nI i → o201 f0 f → (∀ w, w < n → inr 1800 1999 (f 201 w)) → (∀ w, Nh f0 188 n w ≤ Nh f 201 n w) → (∀ X, Sol c (mA_ bits) (mV_ f0) (mU_ f0) (mD_ f0) X → (∀ w, Nh f0 188 n w ≤ X w) → ∀ w, Nh f 201 n w ≤ X w) → md f ≤ M → ((mo = 0 ∧ (∀ k, k < i → mA_ bits k = true → Nh f 201 n (mV_ f0 k) + mD_ f0 k ≤ Nh f 201 n (mU_ f0 k))) ∨ (mo = 1 ∧ md f < M)) → WPe pg_X11_findMost none (Run mtab d) R (m_drop pg_X11_findMost 24) [some (.ref 181), some (.int bits), some (.int mo), some (.int x), s4] [] (shF L, f, g)
  | 0, i, x, mo, s4, f, hk, hxx, hF, hr, hlo, hle, hM, hch => by
    have e : i = c := by omega
    subst e
    subst hxx
    have g16 : f 181 16 = nI i := (hF 181 16 (by omega)).trans hC.2.2.2.1
    have hc := hC.2.1
    refine at_X11_findMost ?_
    conv => whnf
    simp only [g16]
    refine ⟨fun q => ?_, fun q => absurd (nI_le (Nat.le_refl _) (by omega)) q⟩
    conv => whnf
    exact HO f mo _ _ hF hr hlo hle hch
  | k + 1, i, x, mo, s4, f, hk, hxx, hF, hr, hlo, hle, hM, hch => by
    subst hxx
    obtain ⟨hn, hc, c0, c16, ce, cy⟩ := id hC
    obtain ⟨⟨xu, hxu, e196⟩, ⟨yv, hyv, e197⟩, e198⟩ := ce i (by omega)
    have hcl : (nI i).toNatClampNeg = i := nI_clamp (by omega)
    have hcx : (nI xu).toNatClampNeg = xu := nI_clamp (by omega)
    have hcy : (nI yv).toNatClampNeg = yv := nI_clamp (by omega)
    have g16 : f 181 16 = nI c := (hF 181 16 (by omega)).trans c16
    have g196 : f 196 i = nI xu := (hF 196 _ (by omega)).trans e196
    have g197 : f 197 i = nI yv := (hF 197 _ (by omega)).trans e197
    have g198 : f 198 i = f0 198 i := hF 198 _ (by omega)
    have hU : mU_ f0 i = xu := by
      show (f0 196 i).toNatClampNeg = xu
      rw [e196]
      exact hcx
    have hV : mV_ f0 i = yv := by
      show (f0 197 i).toNatClampNeg = yv
      rw [e197]
      exact hcy
    have r1 := i1800 (hr xu hxu)
    have r2 := i30 e198
    have r3 := i1800 (hr yv hyv)
    have es : (f 201 yv - f0 198 i).toInt = (f 201 yv).toInt - (f0 198 i).toInt := sub_int (by omega) (by omega) r2.1 r2.2
    have e9 : mD_ f0 i = (f0 198 i).toInt := rfl
    have on : ∀ s4 : Option Value, (mA_ bits i = true → (f 201 xu).toInt ≤ (f 201 yv).toInt - (f0 198 i).toInt) → WPe pg_X11_findMost none (Run mtab d) R (m_drop pg_X11_findMost 24) [some (.ref 181), some (.int bits), some (.int mo), some (.int (nI i + 1)), s4] [] (shF L, f, g) := fun s4 z => fm_in hC hX hx hi HO k (i + 1) _ mo s4 f (by omega) (nI_1 i) hF hr hlo hle hM (hch.imp (fun w => ⟨w.1, fun k' hk' hA => by
      by_cases e : k' = i
      · subst e
        rw [hU, hV, Nh_t hxu, Nh_t hyv, e9]
        have := z hA
        omega
      · exact w.2 k' (by omega) hA⟩) id)
    refine at_X11_findMost ?_
    conv => whnf
    simp only [g16]
    refine ⟨fun q => absurd q (nI_ge (b := c) (by omega) (by omega)), fun q => ?_⟩
    conv => whnf
    refine ⟨fun cA => ?_, fun cA => ?_⟩
    · have hA : mA_ bits i = false := decide_eq_false cA
      conv => whnf
      refine ⟨vp_in_nI (by omega) (by decide), ?_⟩
      conv => whnf
      simp only [hcl, g196]
      refine ⟨vp_in_nI (by omega) (by decide), ?_⟩
      conv => whnf
      simp only [hcx]
      refine ⟨fun c2 => ?_, fun c2 => absurd (Int32.le_iff_toInt_le.mpr (show _ ≤ (1999 : Int32).toInt from by have e1 : (1999 : Int32).toInt = 1999 := rfl; omega)) c2⟩
      conv => whnf
      exact on _ (fun z => by rw [hA] at z; cases z)
    · have hA : mA_ bits i = true := decide_eq_true cA
      conv => whnf
      refine ⟨vp_in_nI (by omega) (by decide), ?_⟩
      conv => whnf
      simp only [hcl, g197]
      refine ⟨vp_in_nI (by omega) (by decide), ?_⟩
      conv => whnf
      refine ⟨vp_in_nI (by omega) (by decide), ?_⟩
      conv => whnf
      simp only [hcl, hcy, g198]
      refine ⟨vp_in_nI (by omega) (by decide), ?_⟩
      conv => whnf
      simp only [hcl, g196]
      refine ⟨vp_in_nI (by omega) (by decide), ?_⟩
      conv => whnf
      simp only [hcx]
      refine ⟨fun c2 => ?_, fun c2 => ?_⟩
      · conv => whnf
        refine on _ (fun _ => ?_)
        have c3 := Int32.le_iff_toInt_le.mp c2
        rw [es] at c3
        exact c3
      · have c3 : (f 201 yv).toInt - (f0 198 i).toInt < (f 201 xu).toInt := by
          have := Int32.lt_iff_toInt_lt.mp (i32_nle.mp c2)
          rw [es] at this
          exact this
        have hmu : md (m_ui f 201 xu (f 201 yv - f0 198 i)) < md f := md_up (by omega) c2
        have hF2 : o201 f0 (m_ui f 201 xu (f 201 yv - f0 198 i)) := fun a b h1 => by
          rw [m_ui_o (by omega)]
          exact hF a b h1
        have bx : 1800 ≤ (f 201 yv).toInt - (f0 198 i).toInt := by
          have l1 := hX i (by omega) hA
          have l2 := hle X0 hX hi yv
          have l3 := hx xu hxu
          rw [hU, hV] at l1
          rw [Nh_t hyv] at l2
          omega
        conv => whnf
        refine ⟨vp_in_nI (by omega) (by decide), ?_⟩
        conv => whnf
        simp only [hcl, g196]
        refine ⟨vp_in_nI (by omega) (by decide), ?_⟩
        conv => whnf
        simp only [hcx]
        refine fm_in hC hX hx hi HO k (i + 1) _ _ _ _ (by omega) (nI_1 i) hF2 (fun w hw => ?_) (fun w => ?_) (fun X x1 x2 w => ?_) (by omega) (Or.inr ⟨rfl, by omega⟩)
        · by_cases e : w = xu
          · subst e
            rw [m_ui_s]
            refine ⟨?_, ?_⟩
            · rw [Int32.le_iff_toInt_le, es]
              have e1 : (1800 : Int32).toInt = 1800 := rfl
              omega
            · rw [Int32.le_iff_toInt_le, es]
              have e1 : (1999 : Int32).toInt = 1999 := rfl
              omega
          · rw [m_ui_o (by omega)]
            exact hr w hw
        · rw [Nh_ui hxu]
          have h1 := hlo w
          show _ ≤ (if w = xu then -(f 201 yv - f0 198 i).toInt else Nh f 201 n w)
          by_cases e : w = xu
          · subst e
            rw [if_pos rfl, es]
            rw [Nh_t hxu (f := f)] at h1
            omega
          · rw [if_neg e]
            exact h1
        · rw [Nh_ui hxu]
          show (if w = xu then -(f 201 yv - f0 198 i).toInt else Nh f 201 n w) ≤ X w
          by_cases e : w = xu
          · subst e
            rw [if_pos rfl, es]
            have l1 := x1 i (by omega) hA
            have l2 := hle X x1 x2 yv
            rw [hU, hV] at l1
            rw [Nh_t hyv] at l2
            omega
          · rw [if_neg e]
            exact hle X x1 x2 w
set_option maxRecDepth 100000 in
set_option maxHeartbeats 8000000 in
theorem fm_out {d L n c : Nat} {f0 : Nat → Nat → Int32} {g : Nat → Nat → Int64} {bits : Int32} {X0 : Nat → Int} {R : Option Value → mH → Prop} (hC : CM f0 n c) (hX : Sol c (mA_ bits) (mV_ f0) (mU_ f0) (mD_ f0) X0) (hx : ∀ w, w < n → 1800 ≤ -X0 w) (hi : ∀ w, Nh f0 188 n w ≤ X0 w)
    (H1 : ∀ f, o201 f0 f → (∀ w, w < n → inr 1800 1999 (f 201 w)) → Lst c (mA_ bits) (mV_ f0) (mU_ f0) (mD_ f0) (Nh f0 188 n) (Nh f 201 n) → R none (shF L, f, g)) :
    ∀ (N : Nat) (mo : Int32) (s3 s4 : Option Value) (f : Nat → Nat → Int32), o201 f0 f → (∀ w, w < n → inr 1800 1999 (f 201 w)) → (∀ w, Nh f0 188 n w ≤ Nh f 201 n w) → (∀ X, Sol c (mA_ bits) (mV_ f0) (mU_ f0) (mD_ f0) X → (∀ w, Nh f0 188 n w ≤ X w) → ∀ w, Nh f 201 n w ≤ X w) → ((mo = 0 ∧ (∀ k, k < c → mA_ bits k = true → Nh f 201 n (mV_ f0 k) + mD_ f0 k ≤ Nh f 201 n (mU_ f0 k))) ∨ (mo = 1 ∧ md f < N)) → WPe pg_X11_findMost none (Run mtab d) R (m_drop pg_X11_findMost 18) [some (.ref 181), some (.int bits), some (.int mo), s3, s4] [] (shF L, f, g) := by
  intro N
  induction N with
  | zero =>
    intro mo s3 s4 f hF hr hlo hle hch
    rcases hch with ⟨rfl, hS⟩ | ⟨_, h⟩
    · refine at_X11_findMost ?_
      conv => whnf
      refine ⟨fun _ => ?_, fun q => absurd rfl q⟩
      conv => whnf
      exact H1 f hF hr ⟨hS, hlo, hle⟩
    · omega
  | succ N ih =>
    intro mo s3 s4 f hF hr hlo hle hch
    rcases hch with ⟨rfl, hS⟩ | ⟨rfl, h⟩
    · refine at_X11_findMost ?_
      conv => whnf
      refine ⟨fun _ => ?_, fun q => absurd rfl q⟩
      conv => whnf
      exact H1 f hF hr ⟨hS, hlo, hle⟩
    · refine at_X11_findMost ?_
      conv => whnf
      refine ⟨fun q => absurd q (by decide), fun _ => ?_⟩
      conv => whnf
      exact fm_in (M := md f) hC hX hx hi (fun f1 mo s3 s4 a1 a2 a3 a4 a5 => ih mo s3 s4 f1 a1 a2 a3 a4 (a5.imp id (fun z => ⟨z.1, by omega⟩))) c 0 _ _ _ f (by omega) rfl hF hr hlo hle (Nat.le_refl _) (Or.inl ⟨rfl, fun k hk => absurd hk (by omega)⟩)
set_option maxRecDepth 100000 in
theorem fm_cp {d L n c : Nat} {f0 : Nat → Nat → Int32} {g : Nat → Nat → Int64} {bits : Int32} {R : Option Value → mH → Prop} (hC : CM f0 n c) (H : ∀ (f : Nat → Nat → Int32) (s3 s4 : Option Value), o201 f0 f → (∀ w, w < n → f 201 w = f0 188 w) → WPe pg_X11_findMost none (Run mtab d) R (m_drop pg_X11_findMost 18) [some (.ref 181), some (.int bits), some (.int 1), s3, s4] [] (shF L, f, g)) :
    ∀ (k i : Nat) (x : Int32) (s3 s4 : Option Value) (f : Nat → Nat → Int32), i + k = n → x = nI i → o201 f0 f → (∀ w, w < i → f 201 w = f0 188 w) → WPe pg_X11_findMost none (Run mtab d) R (m_drop pg_X11_findMost 2) [some (.ref 181), some (.int bits), some (.int x), s3, s4] [] (shF L, f, g)
  | 0, i, x, s3, s4, f, hi, hx, hF, hw => by
    have e : i = n := by omega
    subst e
    subst hx
    have hn := hC.1
    have g0 : f 181 0 = nI i := (hF 181 0 (by omega)).trans hC.2.2.1
    refine at_X11_findMost ?_
    conv => whnf
    simp only [g0]
    refine ⟨fun q => ?_, fun q => absurd (nI_le (Nat.le_refl _) (by omega)) q⟩
    conv => whnf
    exact H f _ _ hF hw
  | k + 1, i, x, s3, s4, f, hi, hx, hF, hw => by
    subst hx
    have hn := hC.1
    have hcl : (nI i).toNatClampNeg = i := nI_clamp (by omega)
    have g0 : f 181 0 = nI n := (hF 181 0 (by omega)).trans hC.2.2.1
    have g188 : f 188 i = f0 188 i := hF 188 i (by omega)
    refine at_X11_findMost ?_
    conv => whnf
    simp only [g0]
    refine ⟨fun q => absurd q (nI_ge (b := n) (by omega) (by omega)), fun q => ?_⟩
    conv => whnf
    refine ⟨vp_in_nI (by omega) (by decide), ?_⟩
    conv => whnf
    refine ⟨vp_in_nI (by omega) (by decide), ?_⟩
    conv => whnf
    simp only [hcl, g188]
    refine fm_cp hC H k (i + 1) _ _ _ _ (by omega) (nI_1 i) (fun a b h1 => ?_) (fun w hw2 => ?_)
    · rw [m_ui_o (by omega)]
      exact hF a b h1
    · by_cases e : w = i
      · subst e
        rw [m_ui_s]
      · rw [m_ui_o (by omega)]
        exact hw w (by omega)
set_option maxRecDepth 100000 in
set_option maxHeartbeats 4000000 in
theorem smf_findMost {d L : Nat} {f : Nat → Nat → Int32} {g : Nat → Nat → Int64} {n c : Nat} {bits : Int32} {X0 : Nat → Int} {R : Option Value → mH → Prop} (hd : 1 ≤ d) (hC : CM f n c) (hX : Sol c (mA_ bits) (mV_ f) (mU_ f) (mD_ f) X0) (hx : ∀ w, w < n → 1800 ≤ -X0 w) (hi : ∀ w, Nh f 188 n w ≤ X0 w) (H1 : ∀ f', o201 f f' → (∀ w, w < n → inr 1800 1999 (f' 201 w)) → Lst c (mA_ bits) (mV_ f) (mU_ f) (mD_ f) (Nh f 188 n) (Nh f' 201 n) → R none (shF L, f', g)) : Run mtab d 180 [.ref 181, .int bits] (shF L, f, g) R := by
  obtain ⟨d, rfl⟩ : ∃ e, d = e + 1 := ⟨d - 1, by omega⟩
  refine go_X11_findMost rfl ?_
  conv => whnf
  refine fm_cp hC (fun f1 s3 s4 hF hw => ?_) n 0 _ _ _ _ (by omega) rfl (fun a b _ => rfl) (fun w hw => absurd hw (by omega))
  have eY : ∀ w, Nh f1 201 n w = Nh f 188 n w := fun w => by
    unfold Nh
    by_cases h : w < n
    · rw [if_pos h, if_pos h, hw w h]
    · rw [if_neg h, if_neg h]
  refine fm_out hC hX hx hi H1 (md f1 + 1) _ _ _ f1 hF (fun w h => ?_) (fun w => ?_) (fun X x1 x2 w => ?_) (Or.inr ⟨rfl, by omega⟩)
  · rw [hw w h]
    exact (hC.2.2.2.2.2 w h).2.1
  · rw [eY w]
    exact Int.le_refl _
  · rw [eY w]
    exact x2 w
