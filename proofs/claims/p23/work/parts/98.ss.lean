/-- years turned round -/
def Nh (f : Nat → Nat → Int32) (p n : Nat) : Nat → Int := fun w => if w < n then -(f p w).toInt else 0
theorem Nh_t {f : Nat → Nat → Int32} {p n w : Nat} (h : w < n) : Nh f p n w = -(f p w).toInt := if_pos h
theorem Nh_ui {f : Nat → Nat → Int32} {p n y : Nat} {v : Int32} (hy : y < n) : Nh (m_ui f p y v) p n = fun w => if w = y then -v.toInt else Nh f p n w := by
  funext w
  unfold Nh
  by_cases h : w < n
  · rw [if_pos h, if_pos h]
    by_cases e : w = y
    · subst e
      rw [m_ui_s, if_pos rfl]
    · rw [m_ui_o (by omega), if_neg e]
  · rw [if_neg h, if_neg h, if_neg (by omega)]
/-- all edges count -/
def aT : Nat → Bool := fun _ => true
def o135 (f0 f : Nat → Nat → Int32) : Prop := ∀ a i, ¬ a = 135 → f a i = f0 a i
theorem rnds_le {m : Nat} {A : Nat → Bool} {u v : Nat → Nat} {a : Nat → Int} {lo X : Nat → Int} (x1 : Sol m A u v a X) (x2 : ∀ w, lo w ≤ X w) : ∀ r w, rnds m A u v a r lo w ≤ X w
  | 0, w => x2 w
  | r + 1, w => rnd_le x1 (rnds_le x1 x2 r) m (Nat.le_refl m) w
set_option maxRecDepth 100000 in
set_option maxHeartbeats 8000000 in
theorem lh_in {d L n m r : Nat} {f0 : Nat → Nat → Int32} {g : Nat → Nat → Int64} {q : Nat → Nat} {X : Nat → Int} {R : Option Value → mH → Prop} (hd : 1 ≤ d) (hC : CT f0 n m q) (hX : Sol m aT (eV f0 q) (eU f0 q) (eD f0 q) X) (hx : ∀ w, w < n → 1800 ≤ -X w) (hi : ∀ w, Nh f0 12 n w ≤ X w)
    (HO : ∀ (f : Nat → Nat → Int32) (x : Int32) (s3 s4 : Option Value), x = nI m → o135 f0 f → (∀ w, w < n → inr 1800 1999 (f 135 w)) → Nh f 135 n = rnds m aT (eV f0 q) (eU f0 q) (eD f0 q) (r + 1) (Nh f0 12 n) → WPe pg_X9_lowerHighs none (Run mtab d) R (m_drop pg_X9_lowerHighs 8) [some (.ref 129), some (.int (nI r)), some (.int x), s3, s4] [] (shF L, f, g)) :
    ∀ (k i : Nat) (x : Int32) (s3 s4 : Option Value) (f : Nat → Nat → Int32), i + k = m → x = nI i → o135 f0 f → (∀ w, w < n → inr 1800 1999 (f 135 w)) → Nh f 135 n = rnd_ aT (eV f0 q) (eU f0 q) (eD f0 q) i (rnds m aT (eV f0 q) (eU f0 q) (eD f0 q) r (Nh f0 12 n)) → WPe pg_X9_lowerHighs none (Run mtab d) R (m_drop pg_X9_lowerHighs 8) [some (.ref 129), some (.int (nI r)), some (.int x), s3, s4] [] (shF L, f, g)
  | 0, i, x, s3, s4, f, hk, hxx, hF, hr, hL => by
    have e : i = m := by omega
    subst e
    exact HO f x s3 s4 hxx hF hr hL
  | k + 1, i, x, s3, s4, f, hk, hxx, hF, hr, hL => by
    subst hxx
    obtain ⟨hn, hm, c6, c129, ce, cy⟩ := id hC
    obtain ⟨hq, e136, ⟨xu, hxu, e130⟩, ⟨yv, hyv, e131⟩, e132⟩ := ce i (by omega)
    have hcl : (nI i).toNatClampNeg = i := nI_clamp (by omega)
    have hcq : (nI (q i)).toNatClampNeg = q i := nI_clamp (by omega)
    have hcx : (nI xu).toNatClampNeg = xu := nI_clamp (by omega)
    have hcy : (nI yv).toNatClampNeg = yv := nI_clamp (by omega)
    have g129 : f 129 11 = nI m := (hF 129 11 (by omega)).trans c129
    have g136 : f 136 i = nI (q i) := (hF 136 i (by omega)).trans e136
    have g130 : f 130 (q i) = nI xu := (hF 130 _ (by omega)).trans e130
    have g131 : f 131 (q i) = nI yv := (hF 131 _ (by omega)).trans e131
    have g132 : f 132 (q i) = f0 132 (q i) := hF 132 _ (by omega)
    have hU : eU f0 q i = xu := by
      show (f0 130 (q i)).toNatClampNeg = xu
      rw [e130]
      exact hcx
    have hV : eV f0 q i = yv := by
      show (f0 131 (q i)).toNatClampNeg = yv
      rw [e131]
      exact hcy
    have r1 := i1800 (hr xu hxu)
    have r2 := i30 e132
    have r3 := i1800 (hr yv hyv)
    have es : (f 135 yv - f0 132 (q i)).toInt = (f 135 yv).toInt - (f0 132 (q i)).toInt := sub_int (by omega) (by omega) r2.1 r2.2
    have e9 : eD f0 q i = (f0 132 (q i)).toInt := rfl
    have hb := rnd_le hX (rnds_le hX hi r) (i + 1) (by omega) xu
    have hL2 : Nh (m_ui f 135 xu (if f 135 yv - f0 132 (q i) < f 135 xu then f 135 yv - f0 132 (q i) else f 135 xu)) 135 n = rnd_ aT (eV f0 q) (eU f0 q) (eD f0 q) (i + 1) (rnds m aT (eV f0 q) (eU f0 q) (eD f0 q) r (Nh f0 12 n)) := by
      show _ = rlx aT (eV f0 q) (eU f0 q) (eD f0 q) i (rnd_ aT (eV f0 q) (eU f0 q) (eD f0 q) i (rnds m aT (eV f0 q) (eU f0 q) (eD f0 q) r (Nh f0 12 n)))
      rw [← hL, Nh_ui hxu]
      funext w
      unfold rlx
      rw [hU, hV]
      by_cases e : w = xu
      · subst e
        rw [if_pos rfl]
        by_cases z : f 135 yv - f0 132 (q i) < f 135 w
        · have z2 := Int32.lt_iff_toInt_lt.mp z
          rw [es] at z2
          rw [if_pos z, if_pos ⟨rfl, rfl, by rw [Nh_t hxu, Nh_t hyv, e9]; omega⟩, es, Nh_t hyv, e9]
          omega
        · have z2 : ¬ (f 135 yv - f0 132 (q i)).toInt < (f 135 w).toInt := fun y => z (Int32.lt_iff_toInt_lt.mpr y)
          rw [es] at z2
          rw [if_neg z, if_neg (fun y => by have := y.2.2; rw [Nh_t hxu, Nh_t hyv, e9] at this; omega), Nh_t hxu]
      · rw [if_neg e, if_neg (fun y => e y.1)]
    have hb2 : 1800 ≤ (if f 135 yv - f0 132 (q i) < f 135 xu then f 135 yv - f0 132 (q i) else f 135 xu).toInt := by
      rw [← hL2, Nh_ui hxu] at hb
      have hb3 : (if xu = xu then -(if f 135 yv - f0 132 (q i) < f 135 xu then f 135 yv - f0 132 (q i) else f 135 xu).toInt else Nh f 135 n xu) ≤ X xu := hb
      rw [if_pos rfl] at hb3
      have := hx xu hxu
      omega
    refine at_X9_lowerHighs ?_
    conv => whnf
    simp only [g129]
    refine ⟨fun c => absurd c (nI_ge (b := m) (by omega) (by omega)), fun c => ?_⟩
    conv => whnf
    refine ⟨vp_in_nI (by omega) (by decide), ?_⟩
    conv => whnf
    simp only [hcl, g136]
    refine ⟨vp_in_nI (by omega) (by decide), ?_⟩
    conv => whnf
    simp only [hcq, g130]
    refine ⟨vp_in_nI (by omega) (by decide), ?_⟩
    conv => whnf
    refine ⟨vp_in_nI (by omega) (by decide), ?_⟩
    conv => whnf
    simp only [hcq, g131]
    refine ⟨vp_in_nI (by omega) (by decide), ?_⟩
    conv => whnf
    refine ⟨vp_in_nI (by omega) (by decide), ?_⟩
    conv => whnf
    simp only [hcq, hcx, hcy, g132]
    refine rp_min (by omega) ?_
    conv => whnf
    refine ⟨vp_in_nI (by omega) (by decide), ?_⟩
    conv => whnf
    simp only [hcx]
    refine lh_in hd hC hX hx hi HO k (i + 1) _ _ _ _ (by omega) (nI_1 i) (fun a b h1 => by rw [m_ui_o (by omega)]; exact hF a b h1) (fun w hw => ?_) hL2
    by_cases e : w = xu
    · subst e
      rw [m_ui_s]
      refine ⟨Int32.le_iff_toInt_le.mpr (show (1800 : Int32).toInt ≤ _ from hb2), Int32.le_iff_toInt_le.mpr ?_⟩
      show _ ≤ (1999 : Int32).toInt
      have e1 : (1999 : Int32).toInt = 1999 := rfl
      rw [e1]
      by_cases z : f 135 yv - f0 132 (q i) < f 135 w
      · have z2 := Int32.lt_iff_toInt_lt.mp z
        rw [if_pos z]
        omega
      · rw [if_neg z]
        omega
    · rw [m_ui_o (by omega)]
      exact hr w hw
set_option maxRecDepth 100000 in
set_option maxHeartbeats 8000000 in
theorem lh_out {d L n m : Nat} {f0 : Nat → Nat → Int32} {g : Nat → Nat → Int64} {q : Nat → Nat} {X : Nat → Int} {R : Option Value → mH → Prop} (hd : 1 ≤ d) (hC : CT f0 n m q) (hX : Sol m aT (eV f0 q) (eU f0 q) (eD f0 q) X) (hx : ∀ w, w < n → 1800 ≤ -X w) (hi : ∀ w, Nh f0 12 n w ≤ X w)
    (H : ∀ f, o135 f0 f → (∀ w, w < n → inr 1800 1999 (f 135 w)) → Nh f 135 n = rnds m aT (eV f0 q) (eU f0 q) (eD f0 q) m (Nh f0 12 n) → R none (shF L, f, g)) :
    ∀ (k r : Nat) (x : Int32) (s2 s3 s4 : Option Value) (f : Nat → Nat → Int32), r + k = m → x = nI r → o135 f0 f → (∀ w, w < n → inr 1800 1999 (f 135 w)) → Nh f 135 n = (rnds m aT (eV f0 q) (eU f0 q) (eD f0 q) r (Nh f0 12 n)) → WPe pg_X9_lowerHighs none (Run mtab d) R (m_drop pg_X9_lowerHighs 2) [some (.ref 129), some (.int x), s2, s3, s4] [] (shF L, f, g)
  | 0, r, x, s2, s3, s4, f, hk, hxx, hF, hr, hL => by
    have e : r = m := by omega
    subst e
    subst hxx
    have g129 : f 129 11 = nI r := (hF 129 11 (by omega)).trans hC.2.2.2.1
    have hm := hC.2.1
    refine at_X9_lowerHighs ?_
    conv => whnf
    simp only [g129]
    refine ⟨fun c => ?_, fun c => absurd (nI_le (Nat.le_refl _) (by omega)) c⟩
    conv => whnf
    exact H f hF hr hL
  | k + 1, r, x, s2, s3, s4, f, hk, hxx, hF, hr, hL => by
    subst hxx
    have g129 : f 129 11 = nI m := (hF 129 11 (by omega)).trans hC.2.2.2.1
    have hm := hC.2.1
    refine at_X9_lowerHighs ?_
    conv => whnf
    simp only [g129]
    refine ⟨fun c => absurd c (nI_ge (b := m) (by omega) (by omega)), fun c => ?_⟩
    conv => whnf
    refine lh_in hd hC hX hx hi (fun f1 x s3 s4 hx1 hF1 hr1 hL1 => ?_) m 0 _ _ _ f (by omega) rfl hF hr hL
    subst hx1
    have k129 : f1 129 11 = nI m := (hF1 129 11 (by omega)).trans hC.2.2.2.1
    refine at_X9_lowerHighs ?_
    conv => whnf
    simp only [k129]
    refine ⟨fun c => ?_, fun c => absurd (nI_le (Nat.le_refl _) (by omega)) c⟩
    conv => whnf
    exact lh_out hd hC hX hx hi H k (r + 1) _ _ _ _ f1 (by omega) (nI_1 r) hF1 hr1 hL1
set_option maxRecDepth 100000 in
set_option maxHeartbeats 4000000 in
theorem sf_lowerHighs {d L : Nat} {f : Nat → Nat → Int32} {g : Nat → Nat → Int64} {n m : Nat} {q : Nat → Nat} {X : Nat → Int} {R : Option Value → mH → Prop} (hd : 2 ≤ d) (hC : CT f n m q) (hX : Sol m aT (eV f q) (eU f q) (eD f q) X) (hx : ∀ w, w < n → 1800 ≤ -X w) (hi : ∀ w, Nh f 12 n w ≤ X w) (hs : ∀ w, w < n → f 135 w = f 12 w) (H : ∀ f', o135 f f' → (∀ w, w < n → inr 1800 1999 (f' 135 w)) → Nh f' 135 n = rnds m aT (eV f q) (eU f q) (eD f q) m (Nh f 12 n) → R none (shF L, f', g)) : Run mtab d 82 [.ref 129] (shF L, f, g) R := by
  obtain ⟨d, rfl⟩ : ∃ e, d = e + 1 := ⟨d - 1, by omega⟩
  refine go_X9_lowerHighs rfl ?_
  conv => whnf
  refine lh_out (by omega) hC hX hx hi H m 0 _ _ _ _ f (by omega) rfl (fun a i _ => rfl) (fun w hw => ?_) ?_
  · rw [hs w hw]
    exact (hC.2.2.2.2.2 w hw).2.1
  · funext w
    unfold Nh
    by_cases h : w < n
    · rw [if_pos h, hs w h]
      exact (if_pos h).symm
    · rw [if_neg h]
      exact (if_neg h).symm
def o201 (f0 f : Nat → Nat → Int32) : Prop := ∀ a i, ¬ a = 201 → f a i = f0 a i
set_option maxRecDepth 100000 in
set_option maxHeartbeats 8000000 in
theorem fm_in {d L n c M : Nat} {f0 : Nat → Nat → Int32} {g : Nat → Nat → Int64} {bits : Int32} {X0 : Nat → Int} {R : Option Value → mH → Prop} (hC : CM f0 n c) (hX : Sol c (mA_ bits) (mV_ f0) (mU_ f0) (mD_ f0) X0) (hx : ∀ w, w < n → 1800 ≤ -X0 w) (hi : ∀ w, Nh f0 188 n w ≤ X0 w)
    (HO : ∀ (f : Nat → Nat → Int32) (mo : Int32) (s3 s4 : Option Value), o201 f0 f → (∀ w, w < n → inr 1800 1999 (f 201 w)) → (∀ w, Nh f0 188 n w ≤ Nh f 201 n w) → (∀ X, Sol c (mA_ bits) (mV_ f0) (mU_ f0) (mD_ f0) X → (∀ w, Nh f0 188 n w ≤ X w) → ∀ w, Nh f 201 n w ≤ X w) → ((mo = 0 ∧ (∀ k, k < c → mA_ bits k = true → Nh f 201 n (mV_ f0 k) + mD_ f0 k ≤ Nh f 201 n (mU_ f0 k))) ∨ (mo = 1 ∧ md f < M)) → WPe pg_X11_findMost none (Run mtab d) R (m_drop pg_X11_findMost 18) [some (.ref 181), some (.int bits), some (.int mo), s3, s4] [] (shF L, f, g)) :
    ∀ (k i : Nat) (x mo : Int32) (s4 : Option Value) (f : Nat → Nat → Int32), i + k = c → x = nI i → o201 f0 f → (∀ w, w < n → inr 1800 1999 (f 201 w)) → (∀ w, Nh f0 188 n w ≤ Nh f 201 n w) → (∀ X, Sol c (mA_ bits) (mV_ f0) (mU_ f0) (mD_ f0) X → (∀ w, Nh f0 188 n w ≤ X w) → ∀ w, Nh f 201 n w ≤ X w) → md f ≤ M → ((mo = 0 ∧ (∀ k, k < i → mA_ bits k = true → Nh f 201 n (mV_ f0 k) + mD_ f0 k ≤ Nh f 201 n (mU_ f0 k))) ∨ (mo = 1 ∧ md f < M)) → WPe pg_X11_findMost none (Run mtab d) R (m_drop pg_X11_findMost 24) [some (.ref 181), some (.int bits), some (.int mo), some (.int x), s4] [] (shF L, f, g)
  | 0, i, x, mo, s4, f, hk, hxx, hF, hr, hlo, hle, hM, hch => by
    have e : i = c := by omega
    subst e
    subst hxx
    have g16 : f 181 16 = nI i := (hF 181 16 (by omega)).trans hC.2.2.2.1
    have hc := hC.2.1
    refine at_X11_findMost ?_
    conv => whnf
    simp only [g16]
    refine ⟨fun q => ?_, fun q => absurd (nI_le (Nat.le_refl _) (by omega)) q⟩
    conv => whnf
    exact HO f mo _ _ hF hr hlo hle hch
  | k + 1, i, x, mo, s4, f, hk, hxx, hF, hr, hlo, hle, hM, hch => by
    subst hxx
    obtain ⟨hn, hc, c0, c16, ce, cy⟩ := id hC
    obtain ⟨⟨xu, hxu, e196⟩, ⟨yv, hyv, e197⟩, e198⟩ := ce i (by omega)
    have hcl : (nI i).toNatClampNeg = i := nI_clamp (by omega)
    have hcx : (nI xu).toNatClampNeg = xu := nI_clamp (by omega)
    have hcy : (nI yv).toNatClampNeg = yv := nI_clamp (by omega)
    have g16 : f 181 16 = nI c := (hF 181 16 (by omega)).trans c16
    have g196 : f 196 i = nI xu := (hF 196 _ (by omega)).trans e196
    have g197 : f 197 i = nI yv := (hF 197 _ (by omega)).trans e197
    have g198 : f 198 i = f0 198 i := hF 198 _ (by omega)
    have hU : mU_ f0 i = xu := by
      show (f0 196 i).toNatClampNeg = xu
      rw [e196]
      exact hcx
    have hV : mV_ f0 i = yv := by
      show (f0 197 i).toNatClampNeg = yv
      rw [e197]
      exact hcy
    have r1 := i1800 (hr xu hxu)
    have r2 := i30 e198
    have r3 := i1800 (hr yv hyv)
    have es : (f 201 yv - f0 198 i).toInt = (f 201 yv).toInt - (f0 198 i).toInt := sub_int (by omega) (by omega) r2.1 r2.2
    have e9 : mD_ f0 i = (f0 198 i).toInt := rfl
    have on : ∀ s4 : Option Value, (mA_ bits i = true → (f 201 xu).toInt ≤ (f 201 yv).toInt - (f0 198 i).toInt) → WPe pg_X11_findMost none (Run mtab d) R (m_drop pg_X11_findMost 24) [some (.ref 181), some (.int bits), some (.int mo), some (.int (nI i + 1)), s4] [] (shF L, f, g) := fun s4 z => fm_in hC hX hx hi HO k (i + 1) _ mo s4 f (by omega) (nI_1 i) hF hr hlo hle hM (hch.imp (fun w => ⟨w.1, fun k' hk' hA => by
      by_cases e : k' = i
      · subst e
        rw [hU, hV, Nh_t hxu, Nh_t hyv, e9]
        have := z hA
        omega
      · exact w.2 k' (by omega) hA⟩) id)
    refine at_X11_findMost ?_
    conv => whnf
    simp only [g16]
    refine ⟨fun q => absurd q (nI_ge (b := c) (by omega) (by omega)), fun q => ?_⟩
    conv => whnf
    refine ⟨fun cA => ?_, fun cA => ?_⟩
    · have hA : mA_ bits i = false := decide_eq_false cA
      conv => whnf
      refine ⟨vp_in_nI (by omega) (by decide), ?_⟩
      conv => whnf
      simp only [hcl, g196]
      refine ⟨vp_in_nI (by omega) (by decide), ?_⟩
      conv => whnf
      simp only [hcx]
      refine ⟨fun c2 => ?_, fun c2 => absurd (Int32.le_iff_toInt_le.mpr (show _ ≤ (1999 : Int32).toInt from by have e1 : (1999 : Int32).toInt = 1999 := rfl; omega)) c2⟩
      conv => whnf
      exact on _ (fun z => by rw [hA] at z; cases z)
    · have hA : mA_ bits i = true := decide_eq_true cA
      conv => whnf
      refine ⟨vp_in_nI (by omega) (by decide), ?_⟩
      conv => whnf
      simp only [hcl, g197]
      refine ⟨vp_in_nI (by omega) (by decide), ?_⟩
      conv => whnf
      refine ⟨vp_in_nI (by omega) (by decide), ?_⟩
      conv => whnf
      simp only [hcl, hcy, g198]
      refine ⟨vp_in_nI (by omega) (by decide), ?_⟩
      conv => whnf
      simp only [hcl, g196]
      refine ⟨vp_in_nI (by omega) (by decide), ?_⟩
      conv => whnf
      simp only [hcx]
      refine ⟨fun c2 => ?_, fun c2 => ?_⟩
      · conv => whnf
        refine on _ (fun _ => ?_)
        have c3 := Int32.le_iff_toInt_le.mp c2
        rw [es] at c3
        exact c3
      · have c3 : (f 201 yv).toInt - (f0 198 i).toInt < (f 201 xu).toInt := by
          have := Int32.lt_iff_toInt_lt.mp (i32_nle.mp c2)
          rw [es] at this
          exact this
        have hmu : md (m_ui f 201 xu (f 201 yv - f0 198 i)) < md f := md_up (by omega) c2
        have hF2 : o201 f0 (m_ui f 201 xu (f 201 yv - f0 198 i)) := fun a b h1 => by
          rw [m_ui_o (by omega)]
          exact hF a b h1
        have bx : 1800 ≤ (f 201 yv).toInt - (f0 198 i).toInt := by
          have l1 := hX i (by omega) hA
          have l2 := hle X0 hX hi yv
          have l3 := hx xu hxu
          rw [hU, hV] at l1
          rw [Nh_t hyv] at l2
          omega
        conv => whnf
        refine ⟨vp_in_nI (by omega) (by decide), ?_⟩
        conv => whnf
        simp only [hcl, g196]
        refine ⟨vp_in_nI (by omega) (by decide), ?_⟩
        conv => whnf
        simp only [hcx]
        refine fm_in hC hX hx hi HO k (i + 1) _ _ _ _ (by omega) (nI_1 i) hF2 (fun w hw => ?_) (fun w => ?_) (fun X x1 x2 w => ?_) (by omega) (Or.inr ⟨rfl, by omega⟩)
        · by_cases e : w = xu
          · subst e
            rw [m_ui_s]
            refine ⟨?_, ?_⟩
            · rw [Int32.le_iff_toInt_le, es]
              have e1 : (1800 : Int32).toInt = 1800 := rfl
              omega
            · rw [Int32.le_iff_toInt_le, es]
              have e1 : (1999 : Int32).toInt = 1999 := rfl
              omega
          · rw [m_ui_o (by omega)]
            exact hr w hw
        · rw [Nh_ui hxu]
          have h1 := hlo w
          show _ ≤ (if w = xu then -(f 201 yv - f0 198 i).toInt else Nh f 201 n w)
          by_cases e : w = xu
          · subst e
            rw [if_pos rfl, es]
            rw [Nh_t hxu (f := f)] at h1
            omega
          · rw [if_neg e]
            exact h1
        · rw [Nh_ui hxu]
          show (if w = xu then -(f 201 yv - f0 198 i).toInt else Nh f 201 n w) ≤ X w
          by_cases e : w = xu
          · subst e
            rw [if_pos rfl, es]
            have l1 := x1 i (by omega) hA
            have l2 := hle X x1 x2 yv
            rw [hU, hV] at l1
            rw [Nh_t hyv] at l2
            omega
          · rw [if_neg e]
            exact hle X x1 x2 w
set_option maxRecDepth 100000 in
set_option maxHeartbeats 8000000 in
theorem fm_out {d L n c : Nat} {f0 : Nat → Nat → Int32} {g : Nat → Nat → Int64} {bits : Int32} {X0 : Nat → Int} {R : Option Value → mH → Prop} (hC : CM f0 n c) (hX : Sol c (mA_ bits) (mV_ f0) (mU_ f0) (mD_ f0) X0) (hx : ∀ w, w < n → 1800 ≤ -X0 w) (hi : ∀ w, Nh f0 188 n w ≤ X0 w)
    (H1 : ∀ f, o201 f0 f → (∀ w, w < n → inr 1800 1999 (f 201 w)) → Lst c (mA_ bits) (mV_ f0) (mU_ f0) (mD_ f0) (Nh f0 188 n) (Nh f 201 n) → R none (shF L, f, g)) :
    ∀ (N : Nat) (mo : Int32) (s3 s4 : Option Value) (f : Nat → Nat → Int32), o201 f0 f → (∀ w, w < n → inr 1800 1999 (f 201 w)) → (∀ w, Nh f0 188 n w ≤ Nh f 201 n w) → (∀ X, Sol c (mA_ bits) (mV_ f0) (mU_ f0) (mD_ f0) X → (∀ w, Nh f0 188 n w ≤ X w) → ∀ w, Nh f 201 n w ≤ X w) → ((mo = 0 ∧ (∀ k, k < c → mA_ bits k = true → Nh f 201 n (mV_ f0 k) + mD_ f0 k ≤ Nh f 201 n (mU_ f0 k))) ∨ (mo = 1 ∧ md f < N)) → WPe pg_X11_findMost none (Run mtab d) R (m_drop pg_X11_findMost 18) [some (.ref 181), some (.int bits), some (.int mo), s3, s4] [] (shF L, f, g) := by
  intro N
  induction N with
  | zero =>
    intro mo s3 s4 f hF hr hlo hle hch
    rcases hch with ⟨rfl, hS⟩ | ⟨_, h⟩
    · refine at_X11_findMost ?_
      conv => whnf
      refine ⟨fun _ => ?_, fun q => absurd rfl q⟩
      conv => whnf
      exact H1 f hF hr ⟨hS, hlo, hle⟩
    · omega
  | succ N ih =>
    intro mo s3 s4 f hF hr hlo hle hch
    rcases hch with ⟨rfl, hS⟩ | ⟨rfl, h⟩
    · refine at_X11_findMost ?_
      conv => whnf
      refine ⟨fun _ => ?_, fun q => absurd rfl q⟩
      conv => whnf
      exact H1 f hF hr ⟨hS, hlo, hle⟩
    · refine at_X11_findMost ?_
      conv => whnf
      refine ⟨fun q => absurd q (by decide), fun _ => ?_⟩
      conv => whnf
      exact fm_in (M := md f) hC hX hx hi (fun f1 mo s3 s4 a1 a2 a3 a4 a5 => ih mo s3 s4 f1 a1 a2 a3 a4 (a5.imp id (fun z => ⟨z.1, by omega⟩))) c 0 _ _ _ f (by omega) rfl hF hr hlo hle (Nat.le_refl _) (Or.inl ⟨rfl, fun k hk => absurd hk (by omega)⟩)
set_option maxRecDepth 100000 in
theorem fm_cp {d L n c : Nat} {f0 : Nat → Nat → Int32} {g : Nat → Nat → Int64} {bits : Int32} {R : Option Value → mH → Prop} (hC : CM f0 n c) (H : ∀ (f : Nat → Nat → Int32) (s3 s4 : Option Value), o201 f0 f → (∀ w, w < n → f 201 w = f0 188 w) → WPe pg_X11_findMost none (Run mtab d) R (m_drop pg_X11_findMost 18) [some (.ref 181), some (.int bits), some (.int 1), s3, s4] [] (shF L, f, g)) :
    ∀ (k i : Nat) (x : Int32) (s3 s4 : Option Value) (f : Nat → Nat → Int32), i + k = n → x = nI i → o201 f0 f → (∀ w, w < i → f 201 w = f0 188 w) → WPe pg_X11_findMost none (Run mtab d) R (m_drop pg_X11_findMost 2) [some (.ref 181), some (.int bits), some (.int x), s3, s4] [] (shF L, f, g)
  | 0, i, x, s3, s4, f, hi, hx, hF, hw => by
    have e : i = n := by omega
    subst e
    subst hx
    have hn := hC.1
    have g0 : f 181 0 = nI i := (hF 181 0 (by omega)).trans hC.2.2.1
    refine at_X11_findMost ?_
    conv => whnf
    simp only [g0]
    refine ⟨fun q => ?_, fun q => absurd (nI_le (Nat.le_refl _) (by omega)) q⟩
    conv => whnf
    exact H f _ _ hF hw
  | k + 1, i, x, s3, s4, f, hi, hx, hF, hw => by
    subst hx
    have hn := hC.1
    have hcl : (nI i).toNatClampNeg = i := nI_clamp (by omega)
    have g0 : f 181 0 = nI n := (hF 181 0 (by omega)).trans hC.2.2.1
    have g188 : f 188 i = f0 188 i := hF 188 i (by omega)
    refine at_X11_findMost ?_
    conv => whnf
    simp only [g0]
    refine ⟨fun q => absurd q (nI_ge (b := n) (by omega) (by omega)), fun q => ?_⟩
    conv => whnf
    refine ⟨vp_in_nI (by omega) (by decide), ?_⟩
    conv => whnf
    refine ⟨vp_in_nI (by omega) (by decide), ?_⟩
    conv => whnf
    simp only [hcl, g188]
    refine fm_cp hC H k (i + 1) _ _ _ _ (by omega) (nI_1 i) (fun a b h1 => ?_) (fun w hw2 => ?_)
    · rw [m_ui_o (by omega)]
      exact hF a b h1
    · by_cases e : w = i
      · subst e
        rw [m_ui_s]
      · rw [m_ui_o (by omega)]
        exact hw w (by omega)
set_option maxRecDepth 100000 in
set_option maxHeartbeats 4000000 in
theorem smf_findMost {d L : Nat} {f : Nat → Nat → Int32} {g : Nat → Nat → Int64} {n c : Nat} {bits : Int32} {X0 : Nat → Int} {R : Option Value → mH → Prop} (hd : 1 ≤ d) (hC : CM f n c) (hX : Sol c (mA_ bits) (mV_ f) (mU_ f) (mD_ f) X0) (hx : ∀ w, w < n → 1800 ≤ -X0 w) (hi : ∀ w, Nh f 188 n w ≤ X0 w) (H1 : ∀ f', o201 f f' → (∀ w, w < n → inr 1800 1999 (f' 201 w)) → Lst c (mA_ bits) (mV_ f) (mU_ f) (mD_ f) (Nh f 188 n) (Nh f' 201 n) → R none (shF L, f', g)) : Run mtab d 180 [.ref 181, .int bits] (shF L, f, g) R := by
  obtain ⟨d, rfl⟩ : ∃ e, d = e + 1 := ⟨d - 1, by omega⟩
  refine go_X11_findMost rfl ?_
  conv => whnf
  refine fm_cp hC (fun f1 s3 s4 hF hw => ?_) n 0 _ _ _ _ (by omega) rfl (fun a b _ => rfl) (fun w hw => absurd hw (by omega))
  have eY : ∀ w, Nh f1 201 n w = Nh f 188 n w := fun w => by
    unfold Nh
    by_cases h : w < n
    · rw [if_pos h, if_pos h, hw w h]
    · rw [if_neg h, if_neg h]
  refine fm_out hC hX hx hi H1 (md f1 + 1) _ _ _ f1 hF (fun w h => ?_) (fun w => ?_) (fun X x1 x2 w => ?_) (Or.inr ⟨rfl, by omega⟩)
  · rw [hw w h]
    exact (hC.2.2.2.2.2 w h).2.1
  · rw [eY w]
    exact Int.le_refl _
  · rw [eY w]
    exact x2 w
/-! bits -/
theorem and31 {k : Nat} (hk : k < 32) : nI k &&& 31 = nI k := by
  have key : ∀ k : Nat, k < 32 → nI k &&& 31 = nI k := by decide +kernel
  exact key k hk
theorem smod32 {k : Nat} (hk : k < 32) : ((nI k).toBitVec.smod 32).toNat = k := by
  have key : ∀ k : Nat, k < 32 → ((nI k).toBitVec.smod 32).toNat = k := by decide +kernel
  exact key k hk
theorem bit_at (x : Int32) {k : Nat} (hk : k < 32) : ((x >>> (nI k &&& 31)) &&& 1 = 1) ↔ x.toBitVec.getLsbD k = true := by
  rw [and31 hk, ← Int32.toBitVec_inj]
  have e : ((x >>> nI k) &&& 1).toBitVec = (x.toBitVec.sshiftRight k) &&& 1#32 := by
    show (x >>> nI k).toBitVec &&& 1#32 = _
    rw [Int32.toBitVec_shiftRight, BitVec.sshiftRight_eq', smod32 hk]
  rw [e]
  show x.toBitVec.sshiftRight k &&& 1#32 = 1#32 ↔ _
  have g : (x.toBitVec.sshiftRight k).getLsbD 0 = x.toBitVec.getLsbD k := by
    rw [BitVec.getLsbD_sshiftRight]
    simp [hk]
  rw [← g]
  constructor
  · intro h
    have := congrArg (fun b => b.getLsbD 0) h
    simpa [BitVec.getLsbD_and] using this
  · intro h
    apply BitVec.eq_of_getLsbD_eq
    intro i hi
    rw [BitVec.getLsbD_and]
    cases i with
    | zero => rw [h]; rfl
    | succ i =>
      have : (1#32).getLsbD (i + 1) = false := by
        rw [BitVec.getLsbD_one]
        simp
      rw [this, Bool.and_false]
theorem bit_or (a : Int32) {j k : Nat} (hj : j < 32) (hk : k < 32) : (a ||| (1 <<< (nI j &&& 31))).toBitVec.getLsbD k = (a.toBitVec.getLsbD k || decide (k = j)) := by
  have key : ∀ j : Nat, j < 32 → ∀ k : Nat, k < 32 → ((1 : Int32) <<< (nI j &&& 31)).toBitVec.getLsbD k = decide (k = j) := by decide +kernel
  show (a.toBitVec ||| ((1 : Int32) <<< (nI j &&& 31)).toBitVec).getLsbD k = _
  rw [BitVec.getLsbD_or, key j hj k hk]
theorem may_bit {P : Nat → Prop} : ∀ (k i : Nat) (a : Int32), i + k ≤ 32 → ∀ b, b < 32 → ((mayl P (fun m => nI m) k i a).toBitVec.getLsbD b = true ↔ (a.toBitVec.getLsbD b = true ∨ (i ≤ b ∧ b < i + k ∧ P b)))
  | 0, i, a, h, b, hb => ⟨fun z => Or.inl z, fun z => z.elim id (fun w => absurd w.2.1 (by omega))⟩
  | k + 1, i, a, h, b, hb => by
    by_cases q : P i
    · rw [may_y q, may_bit k (i + 1) _ (by omega) b hb, bit_or a (by omega) hb, Bool.or_eq_true, decide_eq_true_eq]
      constructor
      · rintro ((z | z) | ⟨z1, z2, z3⟩)
        · exact Or.inl z
        · subst z
          exact Or.inr ⟨Nat.le_refl _, by omega, q⟩
        · exact Or.inr ⟨by omega, by omega, z3⟩
      · rintro (z | ⟨z1, z2, z3⟩)
        · exact Or.inl (Or.inl z)
        · by_cases e : b = i
          · exact Or.inl (Or.inr e)
          · exact Or.inr ⟨by omega, by omega, z3⟩
    · rw [may_n q, may_bit k (i + 1) _ (by omega) b hb]
      constructor
      · rintro (z | ⟨z1, z2, z3⟩)
        · exact Or.inl z
        · exact Or.inr ⟨by omega, by omega, z3⟩
      · rintro (z | ⟨z1, z2, z3⟩)
        · exact Or.inl z
        · by_cases e : b = i
          · subst e
            exact absurd z3 q
          · exact Or.inr ⟨by omega, by omega, z3⟩
theorem zero_bit (b : Nat) : ¬ (0 : Int32).toBitVec.getLsbD b = true := by
  show ¬ (0#32).getLsbD b = true
  rw [BitVec.getLsbD_zero]
  exact fun z => by cases z
/-- the model's bits: those that count -/
def PMc (f : Nat → Nat → Int32) (v k : Nat) : Prop := ¬ f 199 k = 0 ∧ ¬ (smp f 9999 (f 196 k) v).1 = 2 ∧ ¬ (smp f 9999 (f 197 k) v).1 = 2
theorem bits_P {f : Nat → Nat → Int32} {v c k : Nat} (hc : c ≤ 20) (hk : k < c) : mA_ (mayl (PMc f v) (fun m => nI m) c 0 0) k = true ↔ PMc f v k := by
  unfold mA_
  rw [decide_eq_true_eq, bit_at _ (by omega), may_bit c 0 0 (by omega) k (by omega)]
  exact ⟨fun z => z.elim (fun w => absurd w (zero_bit k)) (fun w => w.2.2), fun z => Or.inr ⟨Nat.zero_le _, by omega, z⟩⟩
set_option maxRecDepth 100000 in
set_option maxHeartbeats 4000000 in
theorem fc_lp {d L c v : Nat} {f : Nat → Nat → Int32} {g : Nat → Nat → Int64} {R : Option Value → mH → Prop} (hd : 1 ≤ d) (hcb : f 181 16 = nI c) (hc : c ≤ 20) (hvb : f 181 48 = nI v) (hv : v ≤ 60) :
    ∀ (k i : Nat) (x a : Int32) (s3 : Option Value), i + k = c → x = nI i → R (some (.int (mayl (PMc f v) (fun m => nI m) k i a))) (shF L, f, g) → WPe pg_X11_findCounting none (Run mtab d) R (m_drop pg_X11_findCounting 4) [some (.ref 181), some (.int a), some (.int x), s3] [] (shF L, f, g)
  | 0, i, x, a, s3, hi, hx, H => by
    have e : i = c := by omega
    subst hx
    subst e
    refine at_X11_findCounting ?_
    conv => whnf
    simp only [hcb]
    refine ⟨fun q => ?_, fun q => absurd (nI_le (Nat.le_refl _) (by omega)) q⟩
    conv => whnf
    exact H
  | k + 1, i, x, a, s3, hi, hx, H => by
    subst hx
    have hcl : (nI i).toNatClampNeg = i := nI_clamp (by omega)
    refine at_X11_findCounting ?_
    conv => whnf
    simp only [hcb]
    refine ⟨fun q => absurd q (nI_ge (b := c) (by omega) (by omega)), fun q => ?_⟩
    conv => whnf
    refine ⟨vp_in_nI (by omega) (by decide), ?_⟩
    conv => whnf
    simp only [hcl]
    refine ⟨fun c1 => ?_, fun c1 => ?_⟩
    · conv => whnf
      (refine ⟨fun z9 => ?_, fun z9 => ?_⟩ <;> first | ((have c9 : (1 : Int32) = 0 := by with_reducible exact z9); exact absurd c9 (by decide)) | exact absurd (rfl : (0 : Int32) = 0) (by with_reducible exact z9) | exact absurd True.intro (by with_reducible exact z9) | exact False.elim (by with_reducible exact z9) | (conv => whnf))
      exact fc_lp hd hcb hc hvb hv k (i + 1) _ _ _ (by omega) (nI_1 i) (by rw [may_n (P := PMc f v) (D := fun m => nI m) (k := k) (i := i) (a := a) (fun z => z.1 c1), ← or_0 a] at H; exact H)
    · conv => whnf
      refine ⟨vp_in_nI (by omega) (by decide), ?_⟩
      conv => whnf
      simp only [hcl, hvb]
      refine smf_stateOf (by omega) hv ?_
      conv => whnf
      refine ⟨fun c2 => ?_, fun c2 => ?_⟩
      · conv => whnf
        (refine ⟨fun z9 => ?_, fun z9 => ?_⟩ <;> first | ((have c9 : (1 : Int32) = 0 := by with_reducible exact z9); exact absurd c9 (by decide)) | exact absurd (rfl : (0 : Int32) = 0) (by with_reducible exact z9) | exact absurd True.intro (by with_reducible exact z9) | exact False.elim (by with_reducible exact z9) | (conv => whnf))
        exact fc_lp hd hcb hc hvb hv k (i + 1) _ _ _ (by omega) (nI_1 i) (by rw [may_n (P := PMc f v) (D := fun m => nI m) (k := k) (i := i) (a := a) (fun z => z.2.1 c2), ← or_0 a] at H; exact H)
      · conv => whnf
        refine ⟨vp_in_nI (by omega) (by decide), ?_⟩
        conv => whnf
        simp only [hcl, hvb]
        refine smf_stateOf (by omega) hv ?_
        conv => whnf
        refine ⟨fun c3 => ?_, fun c3 => ?_⟩
        · conv => whnf
          (refine ⟨fun z9 => ?_, fun z9 => ?_⟩ <;> first | ((have c9 : (1 : Int32) = 0 := by with_reducible exact z9); exact absurd c9 (by decide)) | exact absurd (rfl : (0 : Int32) = 0) (by with_reducible exact z9) | exact absurd True.intro (by with_reducible exact z9) | exact False.elim (by with_reducible exact z9) | (conv => whnf))
          exact fc_lp hd hcb hc hvb hv k (i + 1) _ _ _ (by omega) (nI_1 i) (by rw [may_n (P := PMc f v) (D := fun m => nI m) (k := k) (i := i) (a := a) (fun z => z.2.2 c3), ← or_0 a] at H; exact H)
        · conv => whnf
          (refine ⟨fun z9 => ?_, fun z9 => ?_⟩ <;> first | ((have c9 : (1 : Int32) = 0 := by with_reducible exact z9); exact absurd c9 (by decide)) | exact absurd (rfl : (0 : Int32) = 0) (by with_reducible exact z9) | exact absurd True.intro (by with_reducible exact z9) | exact False.elim (by with_reducible exact z9) | (conv => whnf))
          exact fc_lp hd hcb hc hvb hv k (i + 1) _ _ _ (by omega) (nI_1 i) (by rw [may_y (P := PMc f v) (D := fun m => nI m) (k := k) (i := i) (a := a) (⟨c1, c2, c3⟩)] at H; exact H)
set_option maxRecDepth 100000 in
set_option maxHeartbeats 4000000 in
theorem smf_findCounting {d L : Nat} {f : Nat → Nat → Int32} {g : Nat → Nat → Int64} {c v : Nat} {R : Option Value → mH → Prop} (hd : 2 ≤ d) (hcb : f 181 16 = nI c) (hc : c ≤ 20) (hvb : f 181 48 = nI v) (hv : v ≤ 60) (H : R (some (.int (mayl (PMc f v) (fun m => nI m) c 0 0))) (shF L, f, g)) : Run mtab d 178 [.ref 181] (shF L, f, g) R := by
  obtain ⟨d, rfl⟩ : ∃ e, d = e + 1 := ⟨d - 1, by omega⟩
  refine go_X11_findCounting rfl ?_
  conv => whnf
  exact fc_lp (by omega) hcb hc hvb hv c 0 _ _ _ (by omega) rfl H
/-- the class's list, over the first i clues -/
def PCc (f : Nat → Nat → Int32) (k : Nat) : Prop := ¬ f 133 k = 0 ∧ ¬ f 127 (f 130 k).toNatClampNeg = 2 ∧ ¬ f 127 (f 131 k).toNatClampNeg = 2
def lst (f0 f : Nat → Nat → Int32) (i m : Nat) (q : Nat → Nat) : Prop := m ≤ i ∧ f 129 11 = nI m ∧ (∀ j, j < m → f 136 j = nI (q j) ∧ q j < i ∧ PCc f0 (q j)) ∧ (∀ k, k < i → PCc f0 k → ∃ j, j < m ∧ q j = k) ∧ (∀ j j', j < j' → j' < m → q j < q j') ∧ (∀ a b, ¬ (a = 129 ∧ b = 11) → ¬ a = 136 → f a b = f0 a b) ∧ ∀ j, inr 0 19 (f 136 j)
theorem lst_no {f0 f : Nat → Nat → Int32} {i m : Nat} {q : Nat → Nat} (h : lst f0 f i m q) (hn : ¬ PCc f0 i) : lst f0 f (i + 1) m q := by
  obtain ⟨a, b, c, d, e, g, w⟩ := h
  refine ⟨by omega, b, fun j hj => ⟨(c j hj).1, by have := (c j hj).2.1; omega, (c j hj).2.2⟩, fun k hk hp => ?_, e, g, w⟩
  by_cases z : k = i
  · subst z
    exact absurd hp hn
  · exact d k (by omega) hp
theorem lst_yes {f0 f : Nat → Nat → Int32} {i m : Nat} {q : Nat → Nat} (h : lst f0 f i m q) (hp : PCc f0 i) (hi : i < 20) : lst f0 (m_ui (m_ui f 136 m (nI i)) 129 11 (nI (m + 1))) (i + 1) (m + 1) (fun j => if j = m then i else q j) := by
  obtain ⟨a, b, c, d, e, g, w⟩ := h
  refine ⟨by omega, m_ui_s, fun j hj => ?_, fun k hk hk2 => ?_, fun j j' h1 h2 => ?_, fun x y h1 h2 => ?_, fun j => ?_⟩
  · rw [m_ui_o (by omega)]
    by_cases z : j = m
    · subst z
      have eq : (fun j1 => if j1 = j then i else q j1) j = i := if_pos rfl
      rw [m_ui_s, eq]
      exact ⟨rfl, by omega, hp⟩
    · have eq : (fun j1 => if j1 = m then i else q j1) j = q j := if_neg z
      rw [m_ui_o (by omega), eq]
      have := c j (by omega)
      exact ⟨this.1, by omega, this.2.2⟩
  · by_cases z : k = i
    · exact ⟨m, by omega, (show (if m = m then i else q m) = k by rw [if_pos rfl]; exact z.symm)⟩
    · obtain ⟨j, hj, ej⟩ := d k (by omega) hk2
      exact ⟨j, by omega, (show (if j = m then i else q j) = k by rw [if_neg (by omega)]; exact ej)⟩
  · show (if j = m then i else q j) < (if j' = m then i else q j')
    rw [if_neg (by omega)]
    by_cases z : j' = m
    · rw [if_pos z]
      exact (c j (by omega)).2.1
    · rw [if_neg z]
      exact e j j' h1 (by omega)
  · rw [m_ui_o (by omega), m_ui_o (by omega)]
    exact g x y h1 h2
  · rw [m_ui_o (by omega)]
    by_cases z : j = m
    · subst z
      rw [m_ui_s]
      exact inr_n (m := 19) (by omega) rfl (by decide)
    · rw [m_ui_o (by omega)]
      exact w j
set_option maxRecDepth 100000 in
set_option maxHeartbeats 4000000 in
theorem sf_isStruck {d L : Nat} {f : Nat → Nat → Int32} {g : Nat → Nat → Int64} {w : Nat} {R : Option Value → mH → Prop} (hd : 1 ≤ d) (hw : w < 40) (H1 : f 127 w = 2 → R (some (.int 1)) (shF L, f, g)) (H0 : ¬ f 127 w = 2 → R (some (.int 0)) (shF L, f, g)) : Run mtab d 80 [.ref 129, .int (nI w)] (shF L, f, g) R := by
  obtain ⟨d, rfl⟩ : ∃ e, d = e + 1 := ⟨d - 1, by omega⟩
  refine go_X9_isStruck rfl ?_
  conv => whnf
  have hcl : (nI w).toNatClampNeg = w := nI_clamp (by omega)
  refine ⟨vp_in_nI (by omega) (by decide), ?_⟩
  conv => whnf
  simp only [hcl]
  refine ⟨fun c => ?_, fun c => ?_⟩
  · conv => whnf
    first | exact ⟨Or.inl rfl, H0 c⟩ | exact ⟨Or.inr rfl, H1 c⟩
  · conv => whnf
    first | exact ⟨Or.inr rfl, H1 c⟩ | exact ⟨Or.inl rfl, H0 c⟩
/-- the ends of the clues are works -/
def CE (f : Nat → Nat → Int32) (n c : Nat) : Prop := c ≤ 20 ∧ f 129 6 = nI c ∧ ∀ k, k < c → (∃ x, x < n ∧ f 130 k = nI x) ∧ (∃ y, y < n ∧ f 131 k = nI y) ∧ inr (-30) 30 (f 132 k)
set_option maxRecDepth 100000 in
set_option maxHeartbeats 4000000 in
theorem cl_lp {d L n c : Nat} {f0 : Nat → Nat → Int32} {g : Nat → Nat → Int64} {R : Option Value → mH → Prop} (hd : 1 ≤ d) (hn : n ≤ 40) (hE : CE f0 n c) (H : ∀ (f : Nat → Nat → Int32) (m : Nat) (q : Nat → Nat) (x : Int32), x = nI c → lst f0 f c m q → WPe pg_X9_reckon none (Run mtab d) R (m_drop pg_X9_reckon 8) [some (.ref 129), some (.int x)] [] (shF L, f, g)) :
    ∀ (k i : Nat) (x : Int32) (m : Nat) (q : Nat → Nat) (f : Nat → Nat → Int32), i + k = c → x = nI i → lst f0 f i m q → WPe pg_X9_reckon none (Run mtab d) R (m_drop pg_X9_reckon 8) [some (.ref 129), some (.int x)] [] (shF L, f, g)
  | 0, i, x, m, q, f, hi, hx, hl => by
    have e : i = c := by omega
    subst e
    exact H f m q x hx hl
  | k + 1, i, x, m, q, f, hi, hx, hl => by
    subst hx
    obtain ⟨hc, c129, ce⟩ := id hE
    obtain ⟨⟨xu, hxu, e130⟩, ⟨yv, hyv, e131⟩, _⟩ := ce i (by omega)
    have fr := hl.2.2.2.2.2.1
    have hmi := hl.1
    have hcl : (nI i).toNatClampNeg = i := nI_clamp (by omega)
    have hcm : (nI m).toNatClampNeg = m := nI_clamp (by omega)
    have hcx : (nI xu).toNatClampNeg = xu := nI_clamp (by omega)
    have hcy : (nI yv).toNatClampNeg = yv := nI_clamp (by omega)
    have g6 : f 129 6 = nI c := (fr 129 6 (by omega) (by omega)).trans c129
    have g11 : f 129 11 = nI m := hl.2.1
    have g133 : f 133 i = f0 133 i := fr 133 i (by omega) (by omega)
    have g130 : f 130 i = nI xu := (fr 130 i (by omega) (by omega)).trans e130
    have g131 : f 131 i = nI yv := (fr 131 i (by omega) (by omega)).trans e131
    have u127 : f 127 xu = f0 127 (f0 130 i).toNatClampNeg := by
      rw [e130, hcx]
      exact fr 127 xu (by omega) (by omega)
    have v127 : f 127 yv = f0 127 (f0 131 i).toNatClampNeg := by
      rw [e131, hcy]
      exact fr 127 yv (by omega) (by omega)
    have no : ¬ PCc f0 i → WPe pg_X9_reckon none (Run mtab d) R (m_drop pg_X9_reckon 8) [some (.ref 129), some (.int (nI i + 1))] [] (shF L, f, g) := fun z => cl_lp hd hn hE H k (i + 1) _ m q f (by omega) (nI_1 i) (lst_no hl z)
    refine at_X9_reckon ?_
    conv => whnf
    simp only [g6]
    refine ⟨fun q9 => absurd q9 (nI_ge (b := c) (by omega) (by omega)), fun q9 => ?_⟩
    conv => whnf
    refine ⟨vp_in_nI (by omega) (by decide), ?_⟩
    conv => whnf
    simp only [hcl, g133]
    refine ⟨fun c1 => ?_, fun c1 => ?_⟩
    · conv => whnf
      exact no (fun z => z.1 c1)
    · conv => whnf
      refine ⟨vp_in_nI (by omega) (by decide), ?_⟩
      conv => whnf
      simp only [hcl, g130]
      refine sf_isStruck (by omega) (by omega) (fun s1 => ?_) (fun s1 => ?_)
      · conv => whnf
        (refine ⟨fun z9 => ?_, fun z9 => ?_⟩ <;> first | ((have c9 : (1 : Int32) = 0 := by with_reducible exact z9); exact absurd c9 (by decide)) | exact absurd (rfl : (0 : Int32) = 0) (by with_reducible exact z9) | exact absurd True.intro (by with_reducible exact z9) | exact False.elim (by with_reducible exact z9) | (conv => whnf))
        exact no (fun z => z.2.1 (by rw [← u127]; exact s1))
      · conv => whnf
        (refine ⟨fun z9 => ?_, fun z9 => ?_⟩ <;> first | ((have c9 : (1 : Int32) = 0 := by with_reducible exact z9); exact absurd c9 (by decide)) | exact absurd (rfl : (0 : Int32) = 0) (by with_reducible exact z9) | exact absurd True.intro (by with_reducible exact z9) | exact False.elim (by with_reducible exact z9) | (conv => whnf))
        refine ⟨vp_in_nI (by omega) (by decide), ?_⟩
        conv => whnf
        simp only [hcl, g131]
        refine sf_isStruck (by omega) (by omega) (fun s2 => ?_) (fun s2 => ?_)
        · conv => whnf
          (refine ⟨fun z9 => ?_, fun z9 => ?_⟩ <;> first | ((have c9 : (1 : Int32) = 0 := by with_reducible exact z9); exact absurd c9 (by decide)) | exact absurd (rfl : (0 : Int32) = 0) (by with_reducible exact z9) | exact absurd True.intro (by with_reducible exact z9) | exact False.elim (by with_reducible exact z9) | (conv => whnf))
          exact no (fun z => z.2.2 (by rw [← v127]; exact s2))
        · conv => whnf
          (refine ⟨fun z9 => ?_, fun z9 => ?_⟩ <;> first | ((have c9 : (1 : Int32) = 0 := by with_reducible exact z9); exact absurd c9 (by decide)) | exact absurd (rfl : (0 : Int32) = 0) (by with_reducible exact z9) | exact absurd True.intro (by with_reducible exact z9) | exact False.elim (by with_reducible exact z9) | (conv => whnf))
          simp only [g11]
          refine ⟨vp_in_nI (by omega) (by decide), ?_⟩
          conv => whnf
          simp only [g11, hcm, nI_1, m_ui_ap, m_fil_ap, m_cpy_ap, Nat.reduceEqDiff, Nat.reduceLT, Nat.reduceLeDiff, eq_self, ↓reduceIte, false_and, and_false, true_and, and_true, and_self]
          exact cl_lp hd hn hE H k (i + 1) _ (m + 1) _ _ (by omega) (by first | rfl | exact nI_1 i) (lst_yes hl ⟨c1, by rw [← u127]; exact s1, by rw [← v127]; exact s2⟩ (by omega))
/-- a clue counts, by the class's tables -/
def Pc (f : Nat → Nat → Int32) (v k : Nat) : Prop := ¬ f 133 k = 0 ∧ ¬ (stp f 9999 (f 130 k) v).1 = 2 ∧ ¬ (stp f 9999 (f 131 k) v).1 = 2
/-- years that keep to the clues that count -/
def SC (f : Nat → Nat → Int32) (v c : Nat) (X : Nat → Int) : Prop := ∀ k, k < c → Pc f v k → X (f 130 k).toNatClampNeg + (f 132 k).toInt ≤ X (f 131 k).toNatClampNeg
def NC (f : Nat → Nat → Int32) (v c : Nat) (X : Nat → Int) : Prop := ∀ k, k < c → Pc f v k → X (f 131 k).toNatClampNeg + (f 132 k).toInt ≤ X (f 130 k).toNatClampNeg
def LSs (S : (Nat → Int) → Prop) (lo X : Nat → Int) : Prop := S X ∧ (∀ w, lo w ≤ X w) ∧ ∀ Y, S Y → (∀ w, lo w ≤ Y w) → ∀ w, X w ≤ Y w
theorem LS_u {S S' : (Nat → Int) → Prop} {lo X Y : Nat → Int} (e : ∀ Z, S Z ↔ S' Z) (h1 : LSs S lo X) (h2 : LSs S' lo Y) (w : Nat) : X w = Y w := by
  have a1 := h1.2.2 Y ((e Y).mpr h2.1) h2.2.1 w
  have a2 := h2.2.2 X ((e X).mp h1.1) h1.2.1 w
  omega
def FEa (S : (Nat → Int) → Prop) (f : Nat → Nat → Int32) (p q n : Nat) : Prop := ∃ X, S X ∧ (∀ w, Yh f p n w ≤ X w) ∧ ∀ w, w < n → X w ≤ Yh f q n w
/-- the list of the clues that count -/
def rkL (f f' : Nat → Nat → Int32) (c v : Nat) : Prop := ∃ (m : Nat) (q : Nat → Nat), m ≤ 20 ∧ f' 129 11 = nI m ∧ (∀ j, inr 0 19 (f' 136 j)) ∧ (∀ j, j < m → f' 136 j = nI (q j) ∧ q j < c ∧ Pc f v (q j)) ∧ (∀ k, k < c → Pc f v k → ∃ j, j < m ∧ q j = k) ∧ ∀ j j', j < j' → j' < m → q j < q j'
/-- what the class's reckoning leaves -/
def rkY (f f' : Nat → Nat → Int32) (n c v : Nat) : Prop :=
  (∀ w, w < 40 → f' 127 w = (stp f 9999 (nI w) v).1) ∧ (∀ a i, ¬ a = 127 → ¬ a = 128 → ¬ (a = 129 ∧ i = 9) → ¬ (a = 129 ∧ i = 11) → ¬ a = 134 → ¬ a = 135 → ¬ a = 136 → f' a i = f a i) ∧ rkL f f' c v ∧
  ((f' 129 9 = 1 ∧ ¬ FEa (SC f v c) f 11 12 n ∧ ∀ w, w < n → f' 134 w = f 11 w ∧ f' 135 w = f 12 w) ∨ (f' 129 9 = 0 ∧ FEa (SC f v c) f 11 12 n ∧ LSs (SC f v c) (Yh f 11 n) (Yh f' 134 n) ∧ LSs (NC f v c) (Nh f 12 n) (Nh f' 135 n) ∧ ∀ w, w < n → inr 1800 1999 (f' 134 w) ∧ inr 1800 1999 (f' 135 w)))
theorem Yh_eq {f f' : Nat → Nat → Int32} {p p' n : Nat} (h : ∀ w, w < n → f p w = f' p' w) : Yh f p n = Yh f' p' n := by
  funext w
  unfold Yh
  by_cases q : w < n
  · rw [if_pos q, if_pos q, h w q]
  · rw [if_neg q, if_neg q]
theorem Nh_eq {f f' : Nat → Nat → Int32} {p p' n : Nat} (h : ∀ w, w < n → f p w = f' p' w) : Nh f p n = Nh f' p' n := by
  funext w
  unfold Nh
  by_cases q : w < n
  · rw [if_pos q, if_pos q, h w q]
  · rw [if_neg q, if_neg q]
theorem LS_of {m : Nat} {A : Nat → Bool} {u v : Nat → Nat} {a : Nat → Int} {S : (Nat → Int) → Prop} {lo X : Nat → Int} (e : ∀ Z, Sol m A u v a Z ↔ S Z) (h : Lst m A u v a lo X) : LSs S lo X := ⟨(e X).mp h.1, h.2.1, fun Y y1 y2 => h.2.2 Y ((e Y).mpr y1) y2⟩
/-- the list has the clues that count -/
theorem sol_SC {f f0 f3 : Nat → Nat → Int32} {n c v m : Nat} {q : Nat → Nat} (hP : ∀ k, k < c → (PCc f0 k ↔ Pc f v k)) (hl : ∀ j, j < m → q j < c ∧ PCc f0 (q j)) (ha : ∀ k, k < c → PCc f0 k → ∃ j, j < m ∧ q j = k) (h130 : ∀ k, f3 130 k = f 130 k) (h131 : ∀ k, f3 131 k = f 131 k) (h132 : ∀ k, f3 132 k = f 132 k) (h137 : ∀ k, f3 137 k = 0) (X : Nat → Int) : Sol m (eA f3 q) (eU f3 q) (eV f3 q) (eD f3 q) X ↔ SC f v c X := by
  constructor
  · intro h k hk hp
    obtain ⟨j, hj, e⟩ := ha k hk ((hP k hk).mpr hp)
    have := h j hj (decide_eq_true (h137 (q j)))
    unfold eU eV eD at this
    rw [h130, h131, h132, e] at this
    exact this
  · intro h j hj _
    obtain ⟨a, b⟩ := hl j hj
    have := h (q j) a ((hP _ a).mp b)
    unfold eU eV eD
    rw [h130, h131, h132]
    exact this
theorem sol_NC {f f0 f3 : Nat → Nat → Int32} {n c v m : Nat} {q : Nat → Nat} (hP : ∀ k, k < c → (PCc f0 k ↔ Pc f v k)) (hl : ∀ j, j < m → q j < c ∧ PCc f0 (q j)) (ha : ∀ k, k < c → PCc f0 k → ∃ j, j < m ∧ q j = k) (h130 : ∀ k, f3 130 k = f 130 k) (h131 : ∀ k, f3 131 k = f 131 k) (h132 : ∀ k, f3 132 k = f 132 k) (X : Nat → Int) : Sol m aT (eV f3 q) (eU f3 q) (eD f3 q) X ↔ NC f v c X := by
  constructor
  · intro h k hk hp
    obtain ⟨j, hj, e⟩ := ha k hk ((hP k hk).mpr hp)
    have := h j hj rfl
    unfold eU eV eD at this
    rw [h130, h131, h132, e] at this
    exact this
  · intro h j hj _
    obtain ⟨a, b⟩ := hl j hj
    have := h (q j) a ((hP _ a).mp b)
    unfold eU eV eD
    rw [h130, h131, h132]
    exact this
theorem PCc_Pc {f f1 f0 : Nat → Nat → Int32} {n c v : Nat} (hn : n ≤ 40) (hE : CE f n c) (h1 : stF f f1 9999 v) (h0 : ∀ a i, ¬ a = 129 → f0 a i = f1 a i) : ∀ k, k < c → (PCc f0 k ↔ Pc f v k) := fun k hk => by
  obtain ⟨⟨x, hx, e130⟩, ⟨y, hy, e131⟩, _⟩ := hE.2.2 k hk
  have hcx : (nI x).toNatClampNeg = x := nI_clamp (by omega)
  have hcy : (nI y).toNatClampNeg = y := nI_clamp (by omega)
  unfold PCc Pc
  rw [h0 133 k (by omega), h0 130 k (by omega), h0 131 k (by omega), h1.2 133 k (by omega) (by omega), h1.2 130 k (by omega) (by omega), h1.2 131 k (by omega) (by omega), e130, e131, hcx, hcy, h0 127 x (by omega), h0 127 y (by omega), (h1.1 x (by omega)).1, (h1.1 y (by omega)).1]
theorem m_cpy_o {f : Nat → Nat → Int32} {x y s d n a i : Nat} (h : ¬ a = y) : m_cpy f x y s d n a i = f a i := by
  rw [m_cpy_ap, if_neg h]
theorem m_cpy_in {f : Nat → Nat → Int32} {x y n i : Nat} (h : i < n) : m_cpy f x y 0 0 n y i = f x i := by
  rw [m_cpy_ap, if_pos rfl, if_pos (by omega), show 0 + (i - 0) = i by omega]
set_option maxRecDepth 100000 in
set_option maxHeartbeats 8000000 in
theorem sf_reckon {d L n c v : Nat} {f : Nat → Nat → Int32} {g : Nat → Nat → Int64} {R : Option Value → mH → Prop} (hd : 5 ≤ d) (hX : XI f) (hn : n ≤ 40) (hnb : f 6 13 = nI n) (hvb : f 119 7 = nI v) (hv : v ≤ 60) (hE : CE f n c) (cy : ∀ j, j < n → inr 1800 1999 (f 11 j) ∧ inr 1800 1999 (f 12 j) ∧ f 11 j ≤ f 12 j) (hA0 : ∀ k, f 137 k = 0) (H : ∀ f', rkY f f' n c v → R none (shF L, f', g)) : Run mtab d 79 [.ref 129] (shF L, f, g) R := by
  obtain ⟨d, rfl⟩ : ∃ e, d = e + 1 := ⟨d - 1, by omega⟩
  refine go_X9_reckon rfl ?_
  conv => whnf
  refine sf_reckonAll (by omega) hX hvb hv (fun f1 h1 => ?_)
  conv => whnf
  have hc := hE.1
  have fr0 : ∀ a i, ¬ a = 129 → m_ui f1 129 11 0 a i = f1 a i := fun a i h => m_ui_o (fun z => h z.1)
  have fr1 : ∀ a i, ¬ (a = 129 ∧ i = 11) → ¬ a = 127 → ¬ a = 128 → m_ui f1 129 11 0 a i = f a i := fun a i h2 h3 h4 => (m_ui_o h2).trans (h1.2 a i h3 h4)
  have hE0 : CE (m_ui f1 129 11 0) n c := by
    refine ⟨hc, (fr1 129 6 (by omega) (by omega) (by omega)).trans hE.2.1, fun k hk => ?_⟩
    rw [fr1 130 k (by omega) (by omega) (by omega), fr1 131 k (by omega) (by omega) (by omega), fr1 132 k (by omega) (by omega) (by omega)]
    exact hE.2.2 k hk
  have hP := PCc_Pc (f0 := m_ui f1 129 11 0) hn hE h1 fr0
  refine cl_lp (f0 := m_ui f1 129 11 0) (by omega) hn hE0 (fun f2 m q x hx hl => ?_) c 0 _ 0 (fun _ => 0) _ (by omega) rfl ⟨by omega, m_ui_s, fun j hj => absurd hj (by omega), fun k hk => absurd hk (by omega), fun j j' h2 h3 => absurd h3 (by omega), fun a b _ _ => rfl, fun j => by rw [fr1 136 j (by omega) (by omega) (by omega)]; exact xi_136 hX j⟩
  subst hx
  obtain ⟨l1, l2, l3, l4, l5, l6, l7⟩ := id hl
  have fr2 : ∀ a i, ¬ (a = 129 ∧ i = 11) → ¬ a = 127 → ¬ a = 128 → ¬ a = 136 → f2 a i = f a i := fun a i h2 h3 h4 h5 => (l6 a i h2 h5).trans (fr1 a i h2 h3 h4)
  have k6 : f2 129 6 = nI c := (fr2 129 6 (by omega) (by omega) (by omega) (by omega)).trans hE.2.1
  have kn : f2 6 13 = nI n := (fr2 6 13 (by omega) (by omega) (by omega) (by omega)).trans hnb
  have hcn := cp_n hn
  refine at_X9_reckon ?_
  conv => whnf
  simp only [k6]
  refine ⟨fun z => ?_, fun z => absurd (nI_le (Nat.le_refl _) (by omega)) z⟩
  conv => whnf
  simp only [kn]
  refine rp_cpy (a := 12) (b := 135) (by omega) rfl rfl rfl (cp_ok hn) ?_
  conv => whnf
  simp only [hcn]
  have e0 : (0 : Int32).toNatClampNeg = 0 := rfl
  simp only [e0]
  have fr3 : ∀ a i, ¬ a = 135 → m_cpy f2 12 135 0 0 n a i = f2 a i := fun a i h => m_cpy_o h
  have fr4 : ∀ a i, ¬ (a = 129 ∧ i = 11) → ¬ a = 127 → ¬ a = 128 → ¬ a = 136 → ¬ a = 135 → m_cpy f2 12 135 0 0 n a i = f a i := fun a i h2 h3 h4 h5 h6 => (fr3 a i h6).trans (fr2 a i h2 h3 h4 h5)
  have hC : CT (m_cpy f2 12 135 0 0 n) n m q := by
    refine ⟨hn, by omega, (fr3 6 13 (by omega)).trans kn, (fr3 129 11 (by omega)).trans l2, fun i hi => ?_, fun j hj => ?_⟩
    · obtain ⟨a1, a2, a3⟩ := l3 i hi
      rw [fr3 136 i (by omega), fr4 130 _ (by omega) (by omega) (by omega) (by omega) (by omega), fr4 131 _ (by omega) (by omega) (by omega) (by omega) (by omega), fr4 132 _ (by omega) (by omega) (by omega) (by omega) (by omega)]
      obtain ⟨b1, b2, b3⟩ := hE.2.2 (q i) a2
      exact ⟨by omega, a1, b1, b2, b3⟩
    · rw [fr4 11 _ (by omega) (by omega) (by omega) (by omega) (by omega), fr4 12 _ (by omega) (by omega) (by omega) (by omega) (by omega)]
      exact cy j hj
  have hsol : ∀ f3 : Nat → Nat → Int32, (∀ a i, ¬ (a = 129 ∧ i = 11) → ¬ (a = 129 ∧ i = 9) → ¬ a = 127 → ¬ a = 128 → ¬ a = 136 → ¬ a = 135 → ¬ a = 134 → f3 a i = f a i) → (∀ X, Sol m (eA f3 q) (eU f3 q) (eV f3 q) (eD f3 q) X ↔ SC f v c X) ∧ (∀ X, Sol m aT (eV f3 q) (eU f3 q) (eD f3 q) X ↔ NC f v c X) := fun f3 h3 => by
    have a1 : ∀ k, f3 130 k = f 130 k := fun k => h3 130 k (by omega) (by omega) (by omega) (by omega) (by omega) (by omega) (by omega)
    have a2 : ∀ k, f3 131 k = f 131 k := fun k => h3 131 k (by omega) (by omega) (by omega) (by omega) (by omega) (by omega) (by omega)
    have a3 : ∀ k, f3 132 k = f 132 k := fun k => h3 132 k (by omega) (by omega) (by omega) (by omega) (by omega) (by omega) (by omega)
    have a4 : ∀ k, f3 137 k = 0 := fun k => (h3 137 k (by omega) (by omega) (by omega) (by omega) (by omega) (by omega) (by omega)).trans (hA0 k)
    exact ⟨fun X => sol_SC (n := n) hP (fun j hj => ⟨(l3 j hj).2.1, (l3 j hj).2.2⟩) l4 a1 a2 a3 a4 X, fun X => sol_NC (n := n) hP (fun j hj => ⟨(l3 j hj).2.1, (l3 j hj).2.2⟩) l4 a1 a2 a3 X⟩
  have eY11 : Yh (m_cpy f2 12 135 0 0 n) 11 n = Yh f 11 n := Yh_eq (fun w hw => fr4 11 w (by omega) (by omega) (by omega) (by omega) (by omega))
  have eY12 : Yh (m_cpy f2 12 135 0 0 n) 12 n = Yh f 12 n := Yh_eq (fun w hw => fr4 12 w (by omega) (by omega) (by omega) (by omega) (by omega))
  have hS3 := hsol (m_cpy f2 12 135 0 0 n) (fun a i h2 h3 h4 h5 h6 h7 h8 => fr4 a i h2 h4 h5 h6 h7)
  have st : ∀ f' : Nat → Nat → Int32, (∀ w, f' 127 w = f2 127 w) → ∀ w, w < 40 → f' 127 w = (stp f 9999 (nI w) v).1 := fun f' h w hw => by
    rw [h w, l6 127 w (by omega) (by omega), fr0 127 w (by omega)]
    exact (h1.1 w hw).1
  refine sf_raiseLows (n := n) (m := m) (q := q) (by omega) hC (fun nf f4 o4 => ?_) (fun f4 o4 r4 L4 => ?_)
  · have fe : ¬ FEa (SC f v c) f 11 12 n := fun ⟨X, x1, x2, x3⟩ => nf ⟨X, (hS3.1 X).mpr x1, by rw [eY11]; exact x2, by rw [eY12]; exact x3⟩
    have g4 : ∀ a i, ¬ a = 134 → ¬ a = 135 → f4 a i = f2 a i := fun a i h2 h3 => (o4 a i h2).trans (fr3 a i h3)
    have kn4 : m_ui f4 129 9 1 6 13 = nI n := ((m_ui_o (by omega)).trans (g4 6 13 (by omega) (by omega))).trans kn
    have k4 : f4 6 13 = nI n := (g4 6 13 (by omega) (by omega)).trans kn
    conv => whnf
    (refine ⟨fun z9 => ?_, fun z9 => ?_⟩ <;> first | ((have c9 : (1 : Int32) = 0 := by with_reducible exact z9); exact absurd c9 (by decide)) | exact absurd (rfl : (0 : Int32) = 0) (by with_reducible exact z9) | exact absurd True.intro (by with_reducible exact z9) | exact False.elim (by with_reducible exact z9) | (conv => whnf))
    refine ⟨by first | exact Or.inr rfl | exact Or.inr True.intro, ?_⟩
    conv => whnf
    (try simp only [show m_ui f4 129 9 1 129 9 = 1 from m_ui_s])
    (refine ⟨fun z9 => ?_, fun z9 => ?_⟩ <;> first | ((have c9 : (1 : Int32) = 0 := by with_reducible exact z9); exact absurd c9 (by decide)) | exact absurd (rfl : (0 : Int32) = 0) (by with_reducible exact z9) | exact absurd True.intro (by with_reducible exact z9) | exact False.elim (by with_reducible exact z9) | (conv => whnf))
    simp only [kn4, k4]
    refine rp_cpy (a := 11) (b := 134) (by omega) rfl rfl rfl (cp_ok hn) ?_
    conv => whnf
    simp only [hcn, e0]
    have q6 : ∀ a i, ¬ a = 134 → m_cpy (m_ui f4 129 9 1) 11 134 0 0 n a i = m_ui f4 129 9 1 a i := fun a i h => m_cpy_o h
    refine H _ ⟨st _ (fun w => ?_), fun a i h2 h3 h4 h5 h6 h7 h8 => ?_, ⟨m, q, by omega, ?_, fun j => ?_, fun j hj => ⟨?_, (l3 j hj).2.1, (hP _ (l3 j hj).2.1).mp (l3 j hj).2.2⟩, fun k hk hp => l4 k hk ((hP k hk).mpr hp), l5⟩, Or.inl ⟨?_, fe, fun w hw => ⟨?_, ?_⟩⟩⟩
    · rw [q6 127 w (by omega), m_ui_o (by omega)]
      exact g4 127 w (by omega) (by omega)
    · rw [q6 a i h6, m_ui_o h4, g4 a i h6 h7]
      exact fr2 a i h5 h2 h3 h8
    · rw [q6 129 11 (by omega), m_ui_o (by omega), g4 129 11 (by omega) (by omega)]
      exact l2
    · rw [q6 136 j (by omega), m_ui_o (by omega), g4 136 j (by omega) (by omega)]
      exact l7 j
    · rw [q6 136 j (by omega), m_ui_o (by omega), g4 136 j (by omega) (by omega)]
      exact (l3 j hj).1
    · rw [q6 129 9 (by omega), m_ui_s]
    · rw [m_cpy_in hw, m_ui_o (by omega), g4 11 w (by omega) (by omega)]
      exact fr2 11 w (by omega) (by omega) (by omega) (by omega)
    · rw [q6 135 w (by omega), m_ui_o (by omega), o4 135 w (by omega), m_cpy_in hw]
      exact fr2 12 w (by omega) (by omega) (by omega) (by omega)
  · have g4 : ∀ a i, ¬ a = 134 → ¬ a = 135 → f4 a i = f2 a i := fun a i h2 h3 => (o4 a i h2).trans (fr3 a i h3)
    have g5 : ∀ a i, ¬ a = 134 → ¬ a = 135 → ¬ (a = 129 ∧ i = 9) → m_ui f4 129 9 0 a i = f2 a i := fun a i h2 h3 h4 => (m_ui_o h4).trans (g4 a i h2 h3)
    have g6 : ∀ a i, ¬ a = 134 → ¬ a = 135 → ¬ (a = 129 ∧ i = 9) → ¬ (a = 129 ∧ i = 11) → ¬ a = 127 → ¬ a = 128 → ¬ a = 136 → m_ui f4 129 9 0 a i = f a i := fun a i h2 h3 h4 h5 h6 h7 h8 => (g5 a i h2 h3 h4).trans (fr2 a i h5 h6 h7 h8)
    have hC5 : CT (m_ui f4 129 9 0) n m q := by
      refine ⟨hn, by omega, (g5 6 13 (by omega) (by omega) (by omega)).trans kn, (g5 129 11 (by omega) (by omega) (by omega)).trans l2, fun i hi => ?_, fun j hj => ?_⟩
      · obtain ⟨a1, a2, a3⟩ := l3 i hi
        rw [g5 136 i (by omega) (by omega) (by omega), g6 130 _ (by omega) (by omega) (by omega) (by omega) (by omega) (by omega) (by omega), g6 131 _ (by omega) (by omega) (by omega) (by omega) (by omega) (by omega) (by omega), g6 132 _ (by omega) (by omega) (by omega) (by omega) (by omega) (by omega) (by omega)]
        obtain ⟨b1, b2, b3⟩ := hE.2.2 (q i) a2
        exact ⟨by omega, a1, b1, b2, b3⟩
      · rw [g6 11 _ (by omega) (by omega) (by omega) (by omega) (by omega) (by omega) (by omega), g6 12 _ (by omega) (by omega) (by omega) (by omega) (by omega) (by omega) (by omega)]
        exact cy j hj
    have hS5 := hsol (m_ui f4 129 9 0) (fun a i h2 h3 h4 h5 h6 h7 h8 => g6 a i h8 h7 h3 h2 h4 h5 h6)
    have LS4 : LSs (SC f v c) (Yh f 11 n) (Yh f4 134 n) := by
      have := LS_of hS3.1 L4
      rw [eY11] at this
      exact this
    have nY : ∀ w, Nh f4 134 n w = -(Yh f4 134 n w) := fun w => by
      unfold Nh Yh
      by_cases h : w < n
      · rw [if_pos h, if_pos h]
      · rw [if_neg h, if_neg h]
        rfl
    have hNs : NC f v c (Nh f4 134 n) := fun k hk hp => by
      have := LS4.1 k hk hp
      rw [nY, nY]
      omega
    have hX5 := (hS5.2 (Nh f4 134 n)).mpr hNs
    have n12 : Nh (m_ui f4 129 9 0) 12 n = Nh f 12 n := Nh_eq (fun w hw => g6 12 w (by omega) (by omega) (by omega) (by omega) (by omega) (by omega) (by omega))
    have hi5 : ∀ w, Nh (m_ui f4 129 9 0) 12 n w ≤ Nh f4 134 n w := fun w => by
      rw [n12]
      unfold Nh
      by_cases h : w < n
      · rw [if_pos h, if_pos h]
        have h2 := (r4 w h).2
        rw [fr4 12 w (by omega) (by omega) (by omega) (by omega) (by omega)] at h2
        have := Int32.le_iff_toInt_le.mp h2
        omega
      · rw [if_neg h, if_neg h]
        exact Int.le_refl _
    conv => whnf
    (refine ⟨fun z9 => ?_, fun z9 => ?_⟩ <;> first | ((have c9 : (1 : Int32) = 0 := by with_reducible exact z9); exact absurd c9 (by decide)) | exact absurd (rfl : (0 : Int32) = 0) (by with_reducible exact z9) | exact absurd True.intro (by with_reducible exact z9) | exact False.elim (by with_reducible exact z9) | (conv => whnf))
    refine ⟨by first | exact Or.inl rfl | exact Or.inl True.intro, ?_⟩
    conv => whnf
    (try simp only [show m_ui f4 129 9 0 129 9 = 0 from m_ui_s])
    (refine ⟨fun z9 => ?_, fun z9 => ?_⟩ <;> first | ((have c9 : (1 : Int32) = 0 := by with_reducible exact z9); exact absurd c9 (by decide)) | exact absurd (rfl : (0 : Int32) = 0) (by with_reducible exact z9) | exact absurd True.intro (by with_reducible exact z9) | exact False.elim (by with_reducible exact z9) | (conv => whnf))
    refine sf_lowerHighs (by omega) hC5 hX5 (fun w hw => ?_) hi5 (fun w hw => ?_) (fun f6 o6 r6 e6 => ?_)
    · rw [nY, Yh_t hw]
      have := i1800 (r4 w hw).1
      omega
    · rw [m_ui_o (by omega), o4 135 w (by omega), m_cpy_in hw, m_ui_o (by omega), g4 12 w (by omega) (by omega)]
    · conv => whnf
      obtain ⟨Z, hZ⟩ := Lst_ex hX5 hi5
      have eZ : Nh f6 135 n = Z := by
        rw [e6]
        funext w
        exact rnds_m hZ (Nat.le_refl m) w
      have LN : LSs (NC f v c) (Nh f 12 n) (Nh f6 135 n) := by
        rw [← eZ] at hZ
        have := LS_of hS5.2 hZ
        rw [n12] at this
        exact this
      have eY4 : Yh f6 134 n = Yh f4 134 n := Yh_eq (fun w hw => (o6 134 w (by omega)).trans (m_ui_o (by omega)))
      refine H _ ⟨st _ (fun w => ?_), fun a i h2 h3 h4 h5 h6 h7 h8 => ?_, ⟨m, q, by omega, ?_, fun j => ?_, fun j hj => ⟨?_, (l3 j hj).2.1, (hP _ (l3 j hj).2.1).mp (l3 j hj).2.2⟩, fun k hk hp => l4 k hk ((hP k hk).mpr hp), l5⟩, Or.inr ⟨?_, ⟨Yh f4 134 n, LS4.1, LS4.2.1, fun w hw => ?_⟩, ?_, LN, fun w hw => ⟨?_, r6 w hw⟩⟩⟩
      · rw [o6 127 w (by omega)]
        exact g5 127 w (by omega) (by omega) (by omega)
      · rw [o6 a i h7]
        exact g6 a i h6 h7 h4 h5 h2 h3 h8
      · rw [o6 129 11 (by omega)]
        exact (g5 129 11 (by omega) (by omega) (by omega)).trans l2
      · rw [o6 136 j (by omega), g5 136 j (by omega) (by omega) (by omega)]
        exact l7 j
      · rw [o6 136 j (by omega), g5 136 j (by omega) (by omega) (by omega)]
        exact (l3 j hj).1
      · rw [o6 129 9 (by omega), m_ui_s]
      · have h2 := (r4 w hw).2
        rw [fr4 12 w (by omega) (by omega) (by omega) (by omega) (by omega)] at h2
        rw [Yh_t hw, Yh_t hw]
        exact Int32.le_iff_toInt_le.mp h2
      · rw [eY4]
        exact LS4
      · rw [o6 134 w (by omega), m_ui_o (by omega)]
        exact (r4 w hw).1
def SMc (f : Nat → Nat → Int32) (v c : Nat) (X : Nat → Int) : Prop := ∀ k, k < c → PMc f v k → X (f 196 k).toNatClampNeg + (f 198 k).toInt ≤ X (f 197 k).toNatClampNeg
def NMc (f : Nat → Nat → Int32) (v c : Nat) (X : Nat → Int) : Prop := ∀ k, k < c → PMc f v k → X (f 197 k).toNatClampNeg + (f 198 k).toInt ≤ X (f 196 k).toNatClampNeg
/-- the model's years are found -/
def YC (f : Nat → Nat → Int32) (n c v : Nat) : Prop := f 181 21 = mayl (PMc f v) (fun m => nI m) c 0 0 ∧ ((f 181 24 = 1 ∧ ¬ FEa (SMc f v c) f 187 188 n ∧ ∀ w, w < n → f 200 w = f 187 w ∧ f 201 w = f 188 w) ∨ (f 181 24 = 0 ∧ FEa (SMc f v c) f 187 188 n ∧ LSs (SMc f v c) (Yh f 187 n) (Yh f 200 n) ∧ LSs (NMc f v c) (Nh f 188 n) (Nh f 201 n) ∧ ∀ w, w < n → inr 1800 1999 (f 200 w) ∧ inr 1800 1999 (f 201 w)))
def o6 (f f' : Nat → Nat → Int32) : Prop := ∀ a i, ¬ a = 200 → ¬ a = 201 → ¬ (a = 181 ∧ i = 21) → ¬ (a = 181 ∧ i = 24) → ¬ (a = 181 ∧ i = 29) → ¬ (a = 181 ∧ i = 39) → f' a i = f a i
theorem PMc_eq {f f' : Nat → Nat → Int32} (h : o6 f f') (v k : Nat) : PMc f' v k ↔ PMc f v k := by
  unfold PMc
  rw [smp_kp (fun i => h 218 i (by omega) (by omega) (by omega) (by omega) (by omega) (by omega)), smp_kp (fun i => h 218 i (by omega) (by omega) (by omega) (by omega) (by omega) (by omega)), h 199 k (by omega) (by omega) (by omega) (by omega) (by omega) (by omega), h 196 k (by omega) (by omega) (by omega) (by omega) (by omega) (by omega), h 197 k (by omega) (by omega) (by omega) (by omega) (by omega) (by omega)]
theorem SMc_eq {f f' : Nat → Nat → Int32} (h : o6 f f') (v c : Nat) (X : Nat → Int) : SMc f' v c X ↔ SMc f v c X := by
  unfold SMc
  constructor
  · intro z k hk hp
    have := z k hk ((PMc_eq h v k).mpr hp)
    rw [h 196 k (by omega) (by omega) (by omega) (by omega) (by omega) (by omega), h 197 k (by omega) (by omega) (by omega) (by omega) (by omega) (by omega), h 198 k (by omega) (by omega) (by omega) (by omega) (by omega) (by omega)] at this
    exact this
  · intro z k hk hp
    have := z k hk ((PMc_eq h v k).mp hp)
    rw [h 196 k (by omega) (by omega) (by omega) (by omega) (by omega) (by omega), h 197 k (by omega) (by omega) (by omega) (by omega) (by omega) (by omega), h 198 k (by omega) (by omega) (by omega) (by omega) (by omega) (by omega)]
    exact this
theorem NMc_eq {f f' : Nat → Nat → Int32} (h : o6 f f') (v c : Nat) (X : Nat → Int) : NMc f' v c X ↔ NMc f v c X := by
  unfold NMc
  constructor
  · intro z k hk hp
    have := z k hk ((PMc_eq h v k).mpr hp)
    rw [h 196 k (by omega) (by omega) (by omega) (by omega) (by omega) (by omega), h 197 k (by omega) (by omega) (by omega) (by omega) (by omega) (by omega), h 198 k (by omega) (by omega) (by omega) (by omega) (by omega) (by omega)] at this
    exact this
  · intro z k hk hp
    have := z k hk ((PMc_eq h v k).mp hp)
    rw [h 196 k (by omega) (by omega) (by omega) (by omega) (by omega) (by omega), h 197 k (by omega) (by omega) (by omega) (by omega) (by omega) (by omega), h 198 k (by omega) (by omega) (by omega) (by omega) (by omega) (by omega)]
    exact this
theorem LSs_c {S S' : (Nat → Int) → Prop} {lo X : Nat → Int} (e : ∀ Z, S Z ↔ S' Z) (h : LSs S lo X) : LSs S' lo X := ⟨(e X).mp h.1, h.2.1, fun Y y1 y2 => h.2.2 Y ((e Y).mpr y1) y2⟩
theorem sol_SM {f f0 : Nat → Nat → Int32} {v c : Nat} (hc : c ≤ 20) (h : o6 f f0) (X : Nat → Int) : Sol c (mA_ (mayl (PMc f v) (fun m => nI m) c 0 0)) (mU_ f0) (mV_ f0) (mD_ f0) X ↔ SMc f v c X := by
  constructor
  · intro z k hk hp
    have := z k hk ((bits_P hc hk).mpr hp)
    unfold mU_ mV_ mD_ at this
    rw [h 196 k (by omega) (by omega) (by omega) (by omega) (by omega) (by omega), h 197 k (by omega) (by omega) (by omega) (by omega) (by omega) (by omega), h 198 k (by omega) (by omega) (by omega) (by omega) (by omega) (by omega)] at this
    exact this
  · intro z k hk hA
    have := z k hk ((bits_P hc hk).mp hA)
    unfold mU_ mV_ mD_
    rw [h 196 k (by omega) (by omega) (by omega) (by omega) (by omega) (by omega), h 197 k (by omega) (by omega) (by omega) (by omega) (by omega) (by omega), h 198 k (by omega) (by omega) (by omega) (by omega) (by omega) (by omega)]
    exact this
theorem sol_NM {f f0 : Nat → Nat → Int32} {v c : Nat} (hc : c ≤ 20) (h : o6 f f0) (X : Nat → Int) : Sol c (mA_ (mayl (PMc f v) (fun m => nI m) c 0 0)) (mV_ f0) (mU_ f0) (mD_ f0) X ↔ NMc f v c X := by
  constructor
  · intro z k hk hp
    have := z k hk ((bits_P hc hk).mpr hp)
    unfold mU_ mV_ mD_ at this
    rw [h 196 k (by omega) (by omega) (by omega) (by omega) (by omega) (by omega), h 197 k (by omega) (by omega) (by omega) (by omega) (by omega) (by omega), h 198 k (by omega) (by omega) (by omega) (by omega) (by omega) (by omega)] at this
    exact this
  · intro z k hk hA
    have := z k hk ((bits_P hc hk).mp hA)
    unfold mU_ mV_ mD_
    rw [h 196 k (by omega) (by omega) (by omega) (by omega) (by omega) (by omega), h 197 k (by omega) (by omega) (by omega) (by omega) (by omega) (by omega), h 198 k (by omega) (by omega) (by omega) (by omega) (by omega) (by omega)]
    exact this
theorem CM_o {f f' : Nat → Nat → Int32} {n c : Nat} (h : o6 f f') (hC : CM f n c) : CM f' n c := by
  obtain ⟨a, b, c1, d, e, g⟩ := hC
  refine ⟨a, b, (h 181 0 (by omega) (by omega) (by omega) (by omega) (by omega) (by omega)).trans c1, (h 181 16 (by omega) (by omega) (by omega) (by omega) (by omega) (by omega)).trans d, fun k hk => ?_, fun j hj => ?_⟩
  · rw [h 196 k (by omega) (by omega) (by omega) (by omega) (by omega) (by omega), h 197 k (by omega) (by omega) (by omega) (by omega) (by omega) (by omega), h 198 k (by omega) (by omega) (by omega) (by omega) (by omega) (by omega)]
    exact e k hk
  · rw [h 187 j (by omega) (by omega) (by omega) (by omega) (by omega) (by omega), h 188 j (by omega) (by omega) (by omega) (by omega) (by omega) (by omega)]
    exact g j hj
set_option maxRecDepth 100000 in
set_option maxHeartbeats 4000000 in
theorem fy_lp {d L n : Nat} {f0 : Nat → Nat → Int32} {g : Nat → Nat → Int64} {R : Option Value → mH → Prop} (hn : n ≤ 40) (h0 : f0 181 0 = nI n) (H : ∀ f : Nat → Nat → Int32, (∀ a i, ¬ a = 200 → ¬ a = 201 → f a i = f0 a i) → (∀ w, w < n → f 200 w = f0 187 w ∧ f 201 w = f0 188 w) → R none (shF L, f, g)) :
    ∀ (k i : Nat) (x : Int32) (f : Nat → Nat → Int32), i + k = n → x = nI i → (∀ a i, ¬ a = 200 → ¬ a = 201 → f a i = f0 a i) → (∀ w, w < i → f 200 w = f0 187 w ∧ f 201 w = f0 188 w) → WPe pg_X11_findYears none (Run mtab d) R (m_drop pg_X11_findYears 24) [some (.ref 181), some (.int x)] [] (shF L, f, g)
  | 0, i, x, f, hi, hx, hF, hw => by
    have e : i = n := by omega
    subst e
    subst hx
    have g0 : f 181 0 = nI i := (hF 181 0 (by omega) (by omega)).trans h0
    refine at_X11_findYears ?_
    conv => whnf
    simp only [g0]
    refine ⟨fun q => ?_, fun q => absurd (nI_le (Nat.le_refl _) (by omega)) q⟩
    conv => whnf
    exact H f hF hw
  | k + 1, i, x, f, hi, hx, hF, hw => by
    subst hx
    have hcl : (nI i).toNatClampNeg = i := nI_clamp (by omega)
    have g0 : f 181 0 = nI n := (hF 181 0 (by omega) (by omega)).trans h0
    have g187 : f 187 i = f0 187 i := hF 187 i (by omega) (by omega)
    have g188 : ∀ v, m_ui f 200 i v 188 i = f0 188 i := fun v => (m_ui_o (by omega)).trans (hF 188 i (by omega) (by omega))
    refine at_X11_findYears ?_
    conv => whnf
    simp only [g0]
    refine ⟨fun q => absurd q (nI_ge (b := n) (by omega) (by omega)), fun q => ?_⟩
    conv => whnf
    refine ⟨vp_in_nI (by omega) (by decide), ?_⟩
    conv => whnf
    refine ⟨vp_in_nI (by omega) (by decide), ?_⟩
    conv => whnf
    refine ⟨vp_in_nI (by omega) (by decide), ?_⟩
    conv => whnf
    refine ⟨vp_in_nI (by omega) (by decide), ?_⟩
    conv => whnf
    simp only [hcl, g187, g188]
    refine fy_lp hn h0 H k (i + 1) _ _ (by omega) (nI_1 i) (fun a b h1 h2 => ?_) (fun w hw2 => ?_)
    · rw [m_ui_o (by omega), m_ui_o (by omega)]
      exact hF a b h1 h2
    · by_cases e : w = i
      · subst e
        exact ⟨(m_ui_o (by omega)).trans m_ui_s, m_ui_s⟩
      · rw [m_ui_o (by omega), m_ui_o (by omega), m_ui_o (by omega), m_ui_o (by omega)]
        exact hw w (by omega)
theorem YC_no {f f2 : Nat → Nat → Int32} {n c v : Nat} (o : o6 f f2) (h21 : f2 181 21 = (mayl (PMc f v) (fun m => nI m) c 0 0)) (h24 : f2 181 24 = 1) (fe : ¬ FEa (SMc f v c) f 187 188 n) (hw : ∀ w, w < n → f2 200 w = f 187 w ∧ f2 201 w = f 188 w) : YC f2 n c v := by
  have eP : PMc f2 v = PMc f v := funext (fun k => propext (PMc_eq o v k))
  have eS : SMc f2 v c = SMc f v c := funext (fun X => propext (SMc_eq o v c X))
  have y1 : Yh f2 187 n = Yh f 187 n := Yh_eq (fun w hw => o 187 w (by omega) (by omega) (by omega) (by omega) (by omega) (by omega))
  have y2 : Yh f2 188 n = Yh f 188 n := Yh_eq (fun w hw => o 188 w (by omega) (by omega) (by omega) (by omega) (by omega) (by omega))
  refine ⟨by rw [eP]; exact h21, Or.inl ⟨h24, ?_, fun w hw' => ?_⟩⟩
  · rw [eS]
    intro ⟨X, x1, x2, x3⟩
    exact fe ⟨X, x1, by rw [← y1]; exact x2, by rw [← y2]; exact x3⟩
  · rw [o 187 w (by omega) (by omega) (by omega) (by omega) (by omega) (by omega), o 188 w (by omega) (by omega) (by omega) (by omega) (by omega) (by omega)]
    exact hw w hw'
theorem YC_yes {f f2 : Nat → Nat → Int32} {n c v : Nat} (o : o6 f f2) (h21 : f2 181 21 = (mayl (PMc f v) (fun m => nI m) c 0 0)) (h24 : f2 181 24 = 0) (fe : FEa (SMc f v c) f 187 188 n) (l1 : LSs (SMc f v c) (Yh f 187 n) (Yh f2 200 n)) (l2 : LSs (NMc f v c) (Nh f 188 n) (Nh f2 201 n)) (hw : ∀ w, w < n → inr 1800 1999 (f2 200 w) ∧ inr 1800 1999 (f2 201 w)) : YC f2 n c v := by
  have eP : PMc f2 v = PMc f v := funext (fun k => propext (PMc_eq o v k))
  have eS : SMc f2 v c = SMc f v c := funext (fun X => propext (SMc_eq o v c X))
  have eN : NMc f2 v c = NMc f v c := funext (fun X => propext (NMc_eq o v c X))
  have y1 : Yh f2 187 n = Yh f 187 n := Yh_eq (fun w hw => o 187 w (by omega) (by omega) (by omega) (by omega) (by omega) (by omega))
  have y2 : Yh f2 188 n = Yh f 188 n := Yh_eq (fun w hw => o 188 w (by omega) (by omega) (by omega) (by omega) (by omega) (by omega))
  have y3 : Nh f2 188 n = Nh f 188 n := Nh_eq (fun w hw => o 188 w (by omega) (by omega) (by omega) (by omega) (by omega) (by omega))
  refine ⟨by rw [eP]; exact h21, Or.inr ⟨h24, ?_, ?_, ?_, hw⟩⟩
  · obtain ⟨X, x1, x2, x3⟩ := fe
    rw [eS]
    exact ⟨X, x1, by rw [y1]; exact x2, by rw [y2]; exact x3⟩
  · rw [eS, y1]
    exact l1
  · rw [eN, y3]
    exact l2
set_option maxRecDepth 100000 in
set_option maxHeartbeats 8000000 in
theorem smf_findYears {d L n c v : Nat} {f : Nat → Nat → Int32} {g : Nat → Nat → Int64} {R : Option Value → mH → Prop} (hd : 3 ≤ d) (hC : CM f n c) (hvb : f 181 48 = nI v) (hv : v ≤ 60) (H : ∀ f', o6 f f' → f' 181 29 = f 181 29 → YC f' n c v → R none (shF L, f', g)) : Run mtab d 181 [.ref 181] (shF L, f, g) R := by
  obtain ⟨d, rfl⟩ : ∃ e, d = e + 1 := ⟨d - 1, by omega⟩
  refine go_X11_findYears rfl ?_
  conv => whnf
  have hn := hC.1
  have hc := hC.2.1
  refine smf_findCounting (c := c) (v := v) (by omega) hC.2.2.2.1 hc hvb hv ?_
  conv => whnf
  have e21 : m_ui f 181 21 (mayl (PMc f v) (fun m => nI m) c 0 0) 181 21 = (mayl (PMc f v) (fun m => nI m) c 0 0) := m_ui_s
  (try simp only [e21])
  have oa : o6 f (m_ui f 181 21 (mayl (PMc f v) (fun m => nI m) c 0 0)) := fun a i h1 h2 h3 h4 h5 h6 => m_ui_o h3
  have hCa := CM_o oa hC
  have sS : ∀ X, Sol c (mA_ (mayl (PMc f v) (fun m => nI m) c 0 0)) (mU_ (m_ui f 181 21 (mayl (PMc f v) (fun m => nI m) c 0 0))) (mV_ (m_ui f 181 21 (mayl (PMc f v) (fun m => nI m) c 0 0))) (mD_ (m_ui f 181 21 (mayl (PMc f v) (fun m => nI m) c 0 0))) X ↔ SMc f v c X := fun X => sol_SM hc oa X
  have y187 : Yh (m_ui f 181 21 (mayl (PMc f v) (fun m => nI m) c 0 0)) 187 n = Yh f 187 n := Yh_eq (fun w hw => oa 187 w (by omega) (by omega) (by omega) (by omega) (by omega) (by omega))
  have y188 : Yh (m_ui f 181 21 (mayl (PMc f v) (fun m => nI m) c 0 0)) 188 n = Yh f 188 n := Yh_eq (fun w hw => oa 188 w (by omega) (by omega) (by omega) (by omega) (by omega) (by omega))
  refine smf_findLeast (n := n) (c := c) (bits := (mayl (PMc f v) (fun m => nI m) c 0 0)) (by omega) hCa (fun nf f1 h1 => ?_) (fun f1 h1 r1 L1 => ?_)
  · have fe : ¬ FEa (SMc f v c) f 187 188 n := fun ⟨X, x1, x2, x3⟩ => nf ⟨X, (sS X).mpr x1, by rw [y187]; exact x2, by rw [y188]; exact x3⟩
    have g1 : ∀ a i, ¬ a = 200 → ¬ (a = 181 ∧ i = 21) → ¬ (a = 181 ∧ i = 24) → m_ui f1 181 24 1 a i = f a i := fun a i h2 h3 h4 => ((m_ui_o h4).trans (h1 a i h2)).trans (m_ui_o h3)
    have e24 : m_ui f1 181 24 1 181 24 = 1 := m_ui_s
    conv => whnf
    (refine ⟨fun z9 => ?_, fun z9 => ?_⟩ <;> first | ((have c9 : (1 : Int32) = 0 := by with_reducible exact z9); exact absurd c9 (by decide)) | exact absurd (rfl : (0 : Int32) = 0) (by with_reducible exact z9) | exact absurd True.intro (by with_reducible exact z9) | exact False.elim (by with_reducible exact z9) | (conv => whnf))
    refine ⟨by first | exact Or.inr rfl | exact Or.inr True.intro, ?_⟩
    conv => whnf
    (try simp only [e24])
    (refine ⟨fun z9 => ?_, fun z9 => ?_⟩ <;> first | ((have c9 : (1 : Int32) = 0 := by with_reducible exact z9); exact absurd c9 (by decide)) | exact absurd (rfl : (0 : Int32) = 0) (by with_reducible exact z9) | exact absurd True.intro (by with_reducible exact z9) | exact False.elim (by with_reducible exact z9) | (conv => whnf))
    refine fy_lp (f0 := m_ui f1 181 24 1) hn ((g1 181 0 (by omega) (by omega) (by omega)).trans hC.2.2.1) (fun f2 h2 w2 => ?_) n 0 _ _ (by omega) rfl (fun a i _ _ => rfl) (fun w hw => absurd hw (by omega))
    refine H f2 (fun a i p1 p2 p3 p4 p5 p6 => (h2 a i p1 p2).trans (g1 a i p1 p3 p4)) ((h2 181 29 (by omega) (by omega)).trans (g1 181 29 (by omega) (by omega) (by omega))) (YC_no (f := f) (fun a i p1 p2 p3 p4 p5 p6 => (h2 a i p1 p2).trans (g1 a i p1 p3 p4)) ?_ ?_ fe (fun w hw => ?_))
    · rw [h2 181 21 (by omega) (by omega), m_ui_o (by omega), h1 181 21 (by omega)]
      exact e21
    · rw [h2 181 24 (by omega) (by omega)]
      exact e24
    · obtain ⟨a1, a2⟩ := w2 w hw
      exact ⟨a1.trans (g1 187 w (by omega) (by omega) (by omega)), a2.trans (g1 188 w (by omega) (by omega) (by omega))⟩
  · have LS1 : LSs (SMc f v c) (Yh f 187 n) (Yh f1 200 n) := by
      have := LS_of sS L1
      rw [y187] at this
      exact this
    have g1 : ∀ a i, ¬ a = 200 → ¬ (a = 181 ∧ i = 21) → ¬ (a = 181 ∧ i = 24) → m_ui f1 181 24 0 a i = f a i := fun a i h2 h3 h4 => ((m_ui_o h4).trans (h1 a i h2)).trans (m_ui_o h3)
    have ob : o6 f (m_ui f1 181 24 0) := fun a i p1 p2 p3 p4 p5 p6 => g1 a i p1 p3 p4
    have hC1 := CM_o ob hC
    have e24 : m_ui f1 181 24 0 181 24 = 0 := m_ui_s
    have e21b : m_ui f1 181 24 0 181 21 = (mayl (PMc f v) (fun m => nI m) c 0 0) := by
      rw [m_ui_o (by omega), h1 181 21 (by omega)]
      exact e21
    have nY : ∀ w, Nh f1 200 n w = -(Yh f1 200 n w) := fun w => by
      unfold Nh Yh
      by_cases h : w < n
      · rw [if_pos h, if_pos h]
      · rw [if_neg h, if_neg h]
        rfl
    have hNs : NMc f v c (Nh f1 200 n) := fun k hk hp => by
      have := LS1.1 k hk hp
      rw [nY, nY]
      omega
    have sN : ∀ X, Sol c (mA_ (mayl (PMc f v) (fun m => nI m) c 0 0)) (mV_ (m_ui f1 181 24 0)) (mU_ (m_ui f1 181 24 0)) (mD_ (m_ui f1 181 24 0)) X ↔ NMc f v c X := fun X => sol_NM hc ob X
    have hX1 := (sN (Nh f1 200 n)).mpr hNs
    have n188 : Nh (m_ui f1 181 24 0) 188 n = Nh f 188 n := Nh_eq (fun w hw => g1 188 w (by omega) (by omega) (by omega))
    have r2 : ∀ w, w < n → f1 200 w ≤ f 188 w := fun w hw => by
      have := (r1 w hw).2
      rw [oa 188 w (by omega) (by omega) (by omega) (by omega) (by omega) (by omega)] at this
      exact this
    have hi1 : ∀ w, Nh (m_ui f1 181 24 0) 188 n w ≤ Nh f1 200 n w := fun w => by
      rw [n188]
      unfold Nh
      by_cases h : w < n
      · rw [if_pos h, if_pos h]
        have := Int32.le_iff_toInt_le.mp (r2 w h)
        omega
      · rw [if_neg h, if_neg h]
        exact Int.le_refl _
    conv => whnf
    (refine ⟨fun z9 => ?_, fun z9 => ?_⟩ <;> first | ((have c9 : (1 : Int32) = 0 := by with_reducible exact z9); exact absurd c9 (by decide)) | exact absurd (rfl : (0 : Int32) = 0) (by with_reducible exact z9) | exact absurd True.intro (by with_reducible exact z9) | exact False.elim (by with_reducible exact z9) | (conv => whnf))
    refine ⟨by first | exact Or.inl rfl | exact Or.inl True.intro, ?_⟩
    conv => whnf
    (try simp only [e24])
    (refine ⟨fun z9 => ?_, fun z9 => ?_⟩ <;> first | ((have c9 : (1 : Int32) = 0 := by with_reducible exact z9); exact absurd c9 (by decide)) | exact absurd (rfl : (0 : Int32) = 0) (by with_reducible exact z9) | exact absurd True.intro (by with_reducible exact z9) | exact False.elim (by with_reducible exact z9) | (conv => whnf))
    (try simp only [e21b])
    refine smf_findMost (n := n) (c := c) (bits := (mayl (PMc f v) (fun m => nI m) c 0 0)) (X0 := Nh f1 200 n) (by omega) hC1 hX1 (fun w hw => ?_) hi1 (fun f2 h2 q2 L2 => ?_)
    · rw [nY, Yh_t hw]
      have := i1800 (r1 w hw).1
      omega
    · conv => whnf
      have LN : LSs (NMc f v c) (Nh f 188 n) (Nh f2 201 n) := by
        have := LS_of sN L2
        rw [n188] at this
        exact this
      have eY : Yh f2 200 n = Yh f1 200 n := Yh_eq (fun w hw => (h2 200 w (by omega)).trans (m_ui_o (by omega)))
      refine H f2 (fun a i p1 p2 p3 p4 p5 p6 => (h2 a i p2).trans (g1 a i p1 p3 p4)) ((h2 181 29 (by omega)).trans (g1 181 29 (by omega) (by omega) (by omega))) (YC_yes (f := f) (fun a i p1 p2 p3 p4 p5 p6 => (h2 a i p2).trans (g1 a i p1 p3 p4)) ?_ ?_ ⟨Yh f1 200 n, LS1.1, LS1.2.1, fun w hw => ?_⟩ ?_ LN (fun w hw => ⟨?_, q2 w hw⟩))
      · rw [h2 181 21 (by omega)]
        exact e21b
      · rw [h2 181 24 (by omega)]
        exact e24
      · rw [Yh_t hw, Yh_t hw]
        exact Int32.le_iff_toInt_le.mp (r2 w hw)
      · rw [eY]
        exact LS1
      · rw [h2 200 w (by omega), m_ui_o (by omega)]
        exact (r1 w hw).1
theorem YC_o {f f2 : Nat → Nat → Int32} {n c v : Nat} (o : ∀ a i, ¬ (a = 181 ∧ i = 29) → ¬ (a = 181 ∧ i = 39) → f2 a i = f a i) (h : YC f n c v) : YC f2 n c v := by
  obtain ⟨h1, h2⟩ := h
  have o' : o6 f f2 := fun a i _ _ _ _ p5 p6 => o a i p5 p6
  rcases h2 with ⟨a1, a2, a3⟩ | ⟨a1, a2, a3, a4, a5⟩
  · exact YC_no o' ((o 181 21 (by omega) (by omega)).trans h1) ((o 181 24 (by omega) (by omega)).trans a1) a2 (fun w hw => by rw [o 200 w (by omega) (by omega), o 201 w (by omega) (by omega)]; exact a3 w hw)
  · have y1 : Yh f2 200 n = Yh f 200 n := Yh_eq (fun w hw => o 200 w (by omega) (by omega))
    have y2 : Nh f2 201 n = Nh f 201 n := Nh_eq (fun w hw => o 201 w (by omega) (by omega))
    exact YC_yes o' ((o 181 21 (by omega) (by omega)).trans h1) ((o 181 24 (by omega) (by omega)).trans a1) a2 (by rw [y1]; exact a3) (by rw [y2]; exact a4) (fun w hw => by rw [o 200 w (by omega) (by omega), o 201 w (by omega) (by omega)]; exact a5 w hw)
set_option maxRecDepth 100000 in
set_option maxHeartbeats 4000000 in
theorem smf_refresh {d L n c v : Nat} {f : Nat → Nat → Int32} {g : Nat → Nat → Int64} {R : Option Value → mH → Prop} (hd : 4 ≤ d) (hC : CM f n c) (hvb : f 181 48 = nI v) (hv : v ≤ 60) (hY : ¬ f 181 29 = 0 → YC f n c v) (H : ∀ f', o6 f f' → ¬ f' 181 29 = 0 → YC f' n c v → R none (shF L, f', g)) : Run mtab d 206 [.ref 181] (shF L, f, g) R := by
  obtain ⟨d, rfl⟩ : ∃ e, d = e + 1 := ⟨d - 1, by omega⟩
  refine go_X11_refresh rfl ?_
  conv => whnf
  refine ⟨fun z => ?_, fun z => ?_⟩
  · conv => whnf
    exact H f (fun a i _ _ _ _ _ _ => rfl) z (hY z)
  · conv => whnf
    refine ⟨Or.inr rfl, ?_⟩
    conv => whnf
    refine ⟨Or.inl rfl, ?_⟩
    conv => whnf
    have o1 : ∀ a i, ¬ (a = 181 ∧ i = 29) → ¬ (a = 181 ∧ i = 39) → m_ui (m_ui f 181 29 1) 181 39 0 a i = f a i := fun a i p q => (m_ui_o q).trans (m_ui_o p)
    refine smf_findYears (f := m_ui (m_ui f 181 29 1) 181 39 0) (n := n) (c := c) (v := v) (by omega) (CM_o (fun a i _ _ _ _ p5 p6 => o1 a i p5 p6) hC) ((o1 181 48 (by omega) (by omega)).trans hvb) hv (fun f2 p2 e2 y2 => ?_)
    conv => whnf
    refine H f2 (fun a i p1 p2' p3 p4 p5 p6 => (p2 a i p1 p2' p3 p4 p5 p6).trans (o1 a i p5 p6)) ?_ y2
    rw [e2, m_ui_o (by omega), m_ui_s]
    decide
theorem XI_o6 {f f1 : Nat → Nat → Int32} (hX : XI f) (r : o6 f f1) : XI f1 := fun a i => by
  by_cases z1 : a = 200
  · subst z1
    exact True.intro
  · by_cases z2 : a = 201
    · subst z2
      exact True.intro
    · by_cases z : a = 181 ∧ (i = 21 ∨ i = 24 ∨ i = 29 ∨ i = 39)
      · obtain ⟨y1, y2⟩ := z
        subst y1
        rcases y2 with rfl | rfl | rfl | rfl <;> exact True.intro
      · rw [r a i z1 z2 (by omega) (by omega) (by omega) (by omega)]
        exact hX a i
theorem kp_o6 {f f1 : Nat → Nat → Int32} (r : o6 f f1) : kp [10, 22, 23] f f1 := fun a i h => r a i (fun e => by subst e; exact absurd (show true = false from h) (by decide)) (fun e => by subst e; exact absurd (show true = false from h) (by decide)) (fun e => by obtain ⟨e1, e2⟩ := e; subst e1; subst e2; exact absurd h (by decide)) (fun e => by obtain ⟨e1, e2⟩ := e; subst e1; subst e2; exact absurd h (by decide)) (fun e => by obtain ⟨e1, e2⟩ := e; subst e1; subst e2; exact absurd h (by decide)) (fun e => by obtain ⟨e1, e2⟩ := e; subst e1; subst e2; exact absurd h (by decide))
theorem CM_q {f f' : Nat → Nat → Int32} {n c : Nat} (h : ∀ a i, (a = 187 ∨ a = 188 ∨ (196 ≤ a ∧ a ≤ 198)) → f' a i = f a i) (h0 : f' 181 0 = f 181 0) (h16 : f' 181 16 = f 181 16) (hC : CM f n c) : CM f' n c := by
  obtain ⟨a, b, c1, d, e, g⟩ := hC
  refine ⟨a, b, h0.trans c1, h16.trans d, fun k hk => ?_, fun j hj => ?_⟩
  · rw [h 196 k (by omega), h 197 k (by omega), h 198 k (by omega)]
    exact e k hk
  · rw [h 187 j (by omega), h 188 j (by omega)]
    exact g j hj
theorem YC_k {f f2 : Nat → Nat → Int32} {n c v : Nat} (h : ∀ a i, (a = 187 ∨ a = 188 ∨ (196 ≤ a ∧ a ≤ 201) ∨ a = 218) → f2 a i = f a i) (h21 : f2 181 21 = f 181 21) (h24 : f2 181 24 = f 181 24) (y : YC f n c v) : YC f2 n c v := by
  have h196 : ∀ i, f2 196 i = f 196 i := fun i => h 196 i (by omega)
  have h197 : ∀ i, f2 197 i = f 197 i := fun i => h 197 i (by omega)
  have h198 : ∀ i, f2 198 i = f 198 i := fun i => h 198 i (by omega)
  have hP : ∀ k, PMc f2 v k = PMc f v k := fun k => by
    unfold PMc
    rw [smp_kp (fun i => h 218 i (by omega)), smp_kp (fun i => h 218 i (by omega)), h 199 k (by omega), h196, h197]
  have eP : PMc f2 v = PMc f v := funext hP
  have eS : SMc f2 v c = SMc f v c := by
    funext X
    unfold SMc
    simp only [hP, h196, h197, h198]
  have eN : NMc f2 v c = NMc f v c := by
    funext X
    unfold NMc
    simp only [hP, h196, h197, h198]
  have y187 : Yh f2 187 n = Yh f 187 n := Yh_eq (fun w _ => h 187 w (by omega))
  have y188 : Yh f2 188 n = Yh f 188 n := Yh_eq (fun w _ => h 188 w (by omega))
  have y200 : Yh f2 200 n = Yh f 200 n := Yh_eq (fun w _ => h 200 w (by omega))
  have n188 : Nh f2 188 n = Nh f 188 n := Nh_eq (fun w _ => h 188 w (by omega))
  have n201 : Nh f2 201 n = Nh f 201 n := Nh_eq (fun w _ => h 201 w (by omega))
  unfold YC FEa at y ⊢
  rw [eP, eS, eN, y187, y188, y200, n188, n201, h21, h24]
  refine ⟨y.1, ?_⟩
  rcases y.2 with ⟨a1, a2, a3⟩ | ⟨a1, a2, a3, a4, a5⟩
  · refine Or.inl ⟨a1, a2, fun w hw => ?_⟩
    rw [h 200 w (by omega), h 201 w (by omega), h 187 w (by omega), h 188 w (by omega)]
    exact a3 w hw
  · refine Or.inr ⟨a1, a2, a3, a4, fun w hw => ?_⟩
    rw [h 200 w (by omega), h 201 w (by omega)]
    exact a5 w hw
/-- what the model keeps of the years is right -/
def MY (n c v : Nat) (f : Nat → Nat → Int32) : Prop := CM f n c ∧ f 181 48 = nI v ∧ v ≤ 60 ∧ (¬ f 181 29 = 0 → YC f n c v)
def Z137 (f : Nat → Nat → Int32) : Prop := ∀ k, f 137 k = 0
def okm (l : List Nat) : Bool := !hasN l 11 && (!hasN l 14 && (!hasN l 15 && !hasN l 22))
theorem okm_of {l : List Nat} (h : okm l = true) : hasN l 11 = false ∧ hasN l 14 = false ∧ hasN l 15 = false ∧ hasN l 22 = false := by
  unfold okm at h
  simp only [Bool.and_eq_true, Bool.not_eq_true'] at h
  exact h
theorem CM_kp {l : List Nat} {f f' : Nat → Nat → Int32} {n c : Nat} (k : kp l f f') (h11 : hasN l 11 = false) (h15 : hasN l 15 = false) (m : CM f n c) : CM f' n c := by
  refine CM_q (fun a i h => ?_) (k 181 0 (by exact h11)) (k 181 16 (by exact h15)) m
  rcases h with rfl | rfl | ⟨h1, h2⟩
  · exact k 187 i (by exact h11)
  · exact k 188 i (by exact h11)
  · have e : a = 196 ∨ a = 197 ∨ a = 198 := by omega
    rcases e with rfl | rfl | rfl
    · exact k 196 i (by exact h15)
    · exact k 197 i (by exact h15)
    · exact k 198 i (by exact h15)
theorem MY_kp {l : List Nat} {f f' : Nat → Nat → Int32} {n c v : Nat} (k : kp l f f') (hl : okm l = true) (m : MY n c v f) : MY n c v f' := by
  obtain ⟨h11, h14, h15, h22⟩ := okm_of hl
  refine ⟨CM_kp k h11 h15 m.1, (k 181 48 (by exact h14)).trans m.2.1, m.2.2.1, fun z => ?_⟩
  rw [k 181 29 (by exact h22)] at z
  refine YC_k (fun a i h => ?_) (k 181 21 (by exact h22)) (k 181 24 (by exact h22)) (m.2.2.2 z)
  rcases h with rfl | rfl | ⟨h1, h2⟩ | rfl
  · exact k 187 i (by exact h11)
  · exact k 188 i (by exact h11)
  · have e : a = 196 ∨ a = 197 ∨ a = 198 ∨ a = 199 ∨ a = 200 ∨ a = 201 := by omega
    rcases e with rfl | rfl | rfl | rfl | rfl | rfl
    · exact k 196 i (by exact h15)
    · exact k 197 i (by exact h15)
    · exact k 198 i (by exact h15)
    · exact k 199 i (by exact h15)
    · exact k 200 i (by exact h22)
    · exact k 201 i (by exact h22)
  · exact k 218 i (by exact h14)
theorem MY_o6 {f f1 : Nat → Nat → Int32} {n c v : Nat} (o : o6 f f1) (m : MY n c v f) (y : YC f1 n c v) : MY n c v f1 := ⟨CM_o o m.1, (o 181 48 (by omega) (by omega) (by omega) (by omega) (by omega) (by omega)).trans m.2.1, m.2.2.1, fun _ => y⟩
set_option maxRecDepth 100000 in
set_option maxHeartbeats 4000000 in
theorem smq_refresh {d L : Nat} {f : Nat → Nat → Int32} {g : Nat → Nat → Int64} {n c v : Nat} {R : Option Value → mH → Prop} (hd : 6 ≤ d) (hX : XI f) (hY : MY n c v f) (H : ∀ f', XI f' → o6 f f' → kp [10, 22, 23] f f' → MY n c v f' → YC f' n c v → ¬ f' 181 29 = 0 → R none (shF L, f', g)) : Run mtab d 206 [.ref 181] (shF L, f, g) R :=
  smf_refresh (n := n) (c := c) (v := v) (by omega) hY.1 hY.2.1 hY.2.2.1 hY.2.2.2 (fun f1 o1 z1 y1 => H f1 (XI_o6 hX o1) o1 (kp_o6 o1) (MY_o6 o1 hY y1) y1 z1)
def GL (f : Nat → Nat → Int32) : Prop := GK f ∧ ∃ v, RV v f
def okw (l : List Nat) : Bool := !hasN l 4 && !hasN l 14
theorem okw_of {l : List Nat} (h : okw l = true) : hasN l 4 = false ∧ hasN l 14 = false := by
  unfold okw at h
  simp only [Bool.and_eq_true, Bool.not_eq_true'] at h
  exact h
def okg (l : List Nat) : Bool := okk l && okw l
theorem okg_of {l : List Nat} (h : okg l = true) : okk l = true ∧ okw l = true := by
  unfold okg at h
  simp only [Bool.and_eq_true] at h
  exact h
theorem RVe_kp {l : List Nat} {f f' : Nat → Nat → Int32} (k : kp l f f') (hl : okw l = true) (h : ∃ v, RV v f) : ∃ v, RV v f' := by
  obtain ⟨l4, l14⟩ := okw_of hl
  obtain ⟨v, r⟩ := h
  exact ⟨v, RV_kp k l4 l14 r⟩
theorem GL_x {l : List Nat} {f f' : Nat → Nat → Int32} (h : GL f) (x : XI f') (k : kp l f f') (hl : okg l = true) : GL f' := by
  obtain ⟨l1, l2⟩ := okg_of hl
  exact ⟨GK_x h.1 x k l1, RVe_kp k l2 h.2⟩
theorem GL_xE {f f' : Nat → Nat → Int32} (h : GL f) (x : XI f') (k : kp [0, 7] f f') (e : EI f') : GL f' := ⟨GK_xE h.1 x k e, RVe_kp k rfl h.2⟩
theorem GL_j {l l' : List Nat} {f f1 f2 : Nat → Nat → Int32} (h : GL f) (k1 : kp l f f1) (k2 : kp l' f1 f2) (j : GK f2) (hl : okw l = true) (hl' : okw l' = true) : GL f2 := ⟨j, RVe_kp k2 hl' (RVe_kp k1 hl h.2)⟩
theorem GK_2 {l l' : List Nat} {f f1 f2 : Nat → Nat → Int32} (h : GK f) (k1 : kp l f f1) (k2 : kp l' f1 f2) (x : XI f2) (hl : okk l = true) (hl' : okk l' = true) : GK f2 := by
  obtain ⟨l1, l2⟩ := okk_of hl
  obtain ⟨m1, m2⟩ := okk_of hl'
  exact ⟨GJ_2 h.1 k1 k2 x l1 m1, RN3_kp k2 m2 (RN3_kp k1 l2 h.2)⟩
theorem GL_v {f f1 f2 : Nat → Nat → Int32} (h : GL f) (k1 : kp [4] f f1) (k2 : kp [10, 14, 22] f1 f2) (x : XI f2) (r : ∃ v, RV v f2) : GL f2 := ⟨GK_2 h.1 k1 k2 x rfl rfl, r⟩
theorem GL_ini {f : Nat → Nat → Int32} (hf : ∀ a i, 6 ≤ a → f a i = if a < 227 then inix a i else 0) (h3 : ab3 f) (h2 : ab2 f) : GL f := by
  refine ⟨GK_ini hf h3 h2, 0, by omega, ?_, ?_, fun k hk => absurd hk (by omega)⟩
  · rw [hf 119 7 (by omega), if_pos (by omega), inix_0 _ (by decide)]
    rfl
  · rw [hf 181 48 (by omega), if_pos (by omega), inix_0 _ (by decide)]
    rfl
def edn (x : Int32) : Int32 := if x = 9 then 9 else x + 1
theorem edn_9 {x : Int32} (h : x = 9) : x = edn x := by
  unfold edn
  rw [if_pos h]
  exact h
theorem edn_n {x : Int32} (h : ¬ x = 9) : edn x = x + 1 := by
  unfold edn
  rw [if_neg h]
set_option maxRecDepth 100000 in
set_option maxHeartbeats 4000000 in
theorem sx_pbNb_lp {d L n : Nat} {f0 : Nat → Nat → Int32} {q : Nat} {R : Option Value → mH → Prop} (hd : 1 ≤ d) (hm : n ≤ 40) (hc0 : f0 168 7 = nI q) (hq0 : ¬ q = 0) (hq9 : q < 9) (H : ∀ v f' g', XI f' → fx 168 173 f0 f' → f' 168 7 = f0 168 7 + 1 → R (some (.int v)) (shF L, f', g'))  :
    ∀ (k i : Nat) (x : Int32) (a : Int32) (b : Int32) (s5 : Option Value) (f : Nat → Nat → Int32) (g : Nat → Nat → Int64), i + k = n → x = nI i → XI f → fx 169 172 f0 f → inr 0 40 b → WPe pg_X1_publish none (Run mtab d) R (m_drop pg_X1_publish 9) [some (.ref 168), some (.int (nI n)), some (.int a), some (.int b), some (.int x), s5] [] (shF L, f, g)
  | 0, i, x, a, b, s5, f, g, he, hx, hX, hF, hb => by
    have e : i = n := by omega
    subst hx
    have hcn : f 168 7 = nI q := (hF 168 7 (by omega)).trans hc0
    have hnz : ¬ f 168 7 = 0 := by rw [hcn]; exact nI_nz hq0 (by omega)
    subst e
    refine at_X1_publish ?_
    conv => whnf
    try simp only [hcn]
    refine ⟨fun c => ?_, fun c => absurd (nI_le (Nat.le_refl _) (by omega)) c⟩
    conv => whnf
    repeat' first
      | (simp only [hcn])
      | ((with_reducible refine ⟨vp_in_nI (by omega) (by decide), ?_⟩) <;> conv => whnf)
      | (refine ⟨Or.inl rfl, ?_⟩ <;> conv => whnf)
      | (refine ⟨Or.inr rfl, ?_⟩ <;> conv => whnf)
      | (refine ⟨Or.inl True.intro, ?_⟩ <;> conv => whnf)
      | (refine ⟨Or.inr True.intro, ?_⟩ <;> conv => whnf)
      | (refine ⟨fun c => ?_, fun c => ?_⟩ <;> first | ((have c9 : (1 : Int32) = 0 := by with_reducible exact c); exact absurd c9 (by decide)) | exact absurd (rfl : (0 : Int32) = 0) (by with_reducible exact c) | exact absurd True.intro (by with_reducible exact c) | exact False.elim (by with_reducible exact c) | (conv => whnf))
      | (refine ⟨by unfold vp_in; decide, ?_⟩ <;> conv => whnf)
      | fail
    all_goals exact H _ _ _ (XI_ui hX (show inr 0 9 _ from inr_n1 (m := 9) (by omega) rfl (by decide))) (fx_ui (by decide) (by decide) (fx_wide hF (by decide) (by decide))) (by rw [m_ui_ap, if_pos rfl, if_pos rfl, hc0])
  | k + 1, i, x, a, b, s5, f, g, he, hx, hX, hF, hb => by
    subst hx
    have hcn : f 168 7 = nI q := (hF 168 7 (by omega)).trans hc0
    have hnz : ¬ f 168 7 = 0 := by rw [hcn]; exact nI_nz hq0 (by omega)
    refine at_X1_publish ?_
    conv => whnf
    try simp only [hcn]
    refine ⟨fun c => absurd c (nI_ge (b := n) (by omega) (by omega)), fun c => ?_⟩
    conv => whnf
    repeat' first
      | exact sx_pbNb_lp hd hm hc0 hq0 hq9 H k (i + 1) _ _ _ _ _ _ (by omega) (nI_1 i) (by repeat' first | (with_reducible assumption) | (with_reducible refine XI_ui ?_ ?_) | (with_reducible refine XI_fil ?_ (fun _ => ?_)) | (with_reducible refine XI_cpy ?_ (fun _ _ => ?_)) | exact True.intro | ((show inr _ _ _); first | (with_reducible assumption) | (unfold inr; decide)) | fail) (by repeat' first | (with_reducible exact fx_refl _ _ _) | (with_reducible assumption) | (with_reducible refine fx_ui ?_ ?_ ?_) | (with_reducible refine fx_fil ?_ ?_ ?_) | (with_reducible refine fx_cpy ?_ ?_ ?_) | omega | decide | fail) (by first | (with_reducible assumption) | exact (xi_169 hX _).resolve_left (by with_reducible assumption) | exact (xi_169 h1 _).resolve_left (by with_reducible assumption))
      | ((with_reducible refine ⟨vx_172 hX _, ?_⟩) <;> conv => whnf)
      | ((with_reducible refine ⟨vx_172 h1 _, ?_⟩) <;> conv => whnf)
      | (have hk7 := k1 172 (nI i).toNatClampNeg (by omega); simp only [← hk7]; fail)
      | (simp only [hcn])
      | ((with_reducible refine ⟨vp_in_nI (by omega) (by decide), ?_⟩) <;> conv => whnf)
      | (refine ⟨Or.inl rfl, ?_⟩ <;> conv => whnf)
      | (refine ⟨Or.inr rfl, ?_⟩ <;> conv => whnf)
      | (refine ⟨Or.inl True.intro, ?_⟩ <;> conv => whnf)
      | (refine ⟨Or.inr True.intro, ?_⟩ <;> conv => whnf)
      | (refine ⟨fun c => ?_, fun c => ?_⟩ <;> first | ((have c9 : (1 : Int32) = 0 := by with_reducible exact c); exact absurd c9 (by decide)) | exact absurd (rfl : (0 : Int32) = 0) (by with_reducible exact c) | exact absurd True.intro (by with_reducible exact c) | exact False.elim (by with_reducible exact c) | (conv => whnf))
      | (refine sx_giveN (by omega) hX (vx_172 hX _) hb hnz (fun v f1 g1 hv h1 k1 => ?_) <;> (have k1' := fx_trans hF k1) <;> conv => whnf)
      | (refine ⟨by unfold vp_in; decide, ?_⟩ <;> conv => whnf)
      | fail
    all_goals exact H _ _ _ (XI_ui hX (show inr 0 9 _ from inr_n1 (m := 9) (by omega) rfl (by decide))) (fx_ui (by decide) (by decide) (fx_wide hF (by decide) (by decide))) (by rw [m_ui_ap, if_pos rfl, if_pos rfl, hc0])
set_option maxRecDepth 100000 in
set_option maxHeartbeats 4000000 in
theorem sx_pb0b_lp {d L n : Nat} {f0 : Nat → Nat → Int32} {R : Option Value → mH → Prop} (hd : 1 ≤ d) (hm : n ≤ 40) (hc0 : f0 168 7 = 0) (H : ∀ v f' g', XI f' → fx 168 173 f0 f' → f' 168 7 = f0 168 7 + 1 → R (some (.int v)) (shF L, f', g')) :
    ∀ (k i : Nat) (x a b : Int32) (s5 : Option Value) (f : Nat → Nat → Int32) (g : Nat → Nat → Int64), i + k = n → x = nI i → XI f → fx 169 172 f0 f → (∃ q, q ≤ i ∧ b = nI q) → (∀ j, j < 40 → f 169 j = -4 ∨ ∃ q, q ≤ i ∧ f 169 j = nI q) → WPe pg_X1_publish none (Run mtab d) R (m_drop pg_X1_publish 9) [some (.ref 168), some (.int (nI n)), some (.int a), some (.int b), some (.int x), s5] [] (shF L, f, g)
  | 0, i, x, a, b, s5, f, g, he, hx, hX, hF, hb, hN => by
    have e : i = n := by omega
    subst hx
    subst e
    have hz : f 168 7 = 0 := (hF 168 7 (by omega)).trans hc0
    refine at_X1_publish ?_
    conv => whnf
    refine ⟨fun c => ?_, fun c => absurd (nI_le (Nat.le_refl _) (by omega)) c⟩
    conv => whnf
    simp only [hz]
    exact H _ _ _ (XI_ui hX (show inr 0 9 _ by unfold inr; decide)) (fx_ui (by decide) (by decide) (fx_wide hF (by decide) (by decide))) (by rw [m_ui_ap, if_pos rfl, if_pos rfl, hc0])
  | k + 1, i, x, a, b, s5, f, g, he, hx, hX, hF, hb, hN => by
    subst hx
    obtain ⟨q, hqi, rfl⟩ := hb
    have hz : f 168 7 = 0 := (hF 168 7 (by omega)).trans hc0
    refine at_X1_publish ?_
    conv => whnf
    refine ⟨fun c => absurd c (nI_ge (b := n) (by omega) (by omega)), fun c => ?_⟩
    conv => whnf
    refine ⟨vp_in_nI (by omega) (by decide), ?_⟩
    conv => whnf
    refine ⟨vx_172 hX _, ?_⟩
    conv => whnf
    refine ⟨fun c2 => ?_, fun c2 => ?_⟩
    · conv => whnf
      refine ⟨vx_172 hX _, ?_⟩
      conv => whnf
      refine ⟨fun c3 => absurd c3 c2, fun c3 => ?_⟩
      conv => whnf
      refine ⟨vx_172 hX _, ?_⟩
      conv => whnf
      obtain ⟨p, hp, ep⟩ := (hN (f 172 (nI i).toNatClampNeg).toNatClampNeg (vp_lt (vx_172 hX _))).resolve_left c2
      exact sx_pb0b_lp hd hm hc0 H k (i + 1) _ _ _ _ _ _ (by omega) (nI_1 i) hX hF ⟨p, by omega, ep⟩ (fun j hj => (hN j hj).imp id (fun ⟨r, h1, h2⟩ => ⟨r, by omega, h2⟩))
    · conv => whnf
      refine sx_give0 (by omega) (vx_172 hX _) hz ?_
      conv => whnf
      refine ⟨fun c3 => absurd c3 (by decide), fun _ => ?_⟩
      conv => whnf
      refine ⟨vx_172 hX _, ?_⟩
      conv => whnf
      simp only [m_ui_ap, m_fil_ap, m_cpy_ap, Nat.reduceEqDiff, Nat.reduceLT, Nat.reduceLeDiff, eq_self, ↓reduceIte, false_and, and_false, true_and, and_true, and_self, nI_1]
      refine ⟨fun c3 => absurd c3 (nI_m4 (by omega)), fun c3 => ?_⟩
      conv => whnf
      refine ⟨vx_172 hX _, ?_⟩
      conv => whnf
      simp only [m_ui_ap, m_fil_ap, m_cpy_ap, Nat.reduceEqDiff, Nat.reduceLT, Nat.reduceLeDiff, eq_self, ↓reduceIte, false_and, and_false, true_and, and_true, and_self, nI_1]
      refine sx_pb0b_lp hd hm hc0 H k (i + 1) _ _ _ _ _ _ (by omega) rfl (XI_ui hX (Or.inr (inr_n (m := 40) (by omega) rfl (by decide)))) (fx_ui (by decide) (by decide) hF) ⟨q + 1, by omega, rfl⟩ (fun j hj => ?_)
      rw [m_ui_ap, if_pos rfl]
      split
      · exact Or.inr ⟨q + 1, by omega, rfl⟩
      · exact (hN j hj).imp id (fun ⟨r, h1, h2⟩ => ⟨r, by omega, h2⟩)
set_option maxRecDepth 100000 in
set_option maxHeartbeats 4000000 in
theorem sf_publish {d L : Nat} {f : Nat → Nat → Int32} {g : Nat → Nat → Int64} {q : Nat} {R : Option Value → mH → Prop} (hd : 4 ≤ d) (hX : XI f) (hE : EI f) (hc : f 168 7 = nI q) (hq9 : q < 9) (H : ∀ v f' g', XI f' → fx 168 173 f f' → f' 168 7 = f 168 7 + 1 → R (some (.int v)) (shF L, f', g')) : Run mtab d 14 [.ref 168] (shF L, f, g) R := by
  obtain ⟨d, rfl⟩ : ∃ e, d = e + 1 := ⟨d - 1, by omega⟩
  refine go_X1_publish rfl ?_
  conv => whnf
  refine sx_sortThoseIn (by omega) hX (fun n f1 g1 hn h1 k1 => ?_)
  conv => whnf
  have hc1 : f1 168 7 = nI q := (k1 168 7 (by omega)).trans hc
  have H' : ∀ v f' g', XI f' → fx 168 173 f1 f' → f' 168 7 = f1 168 7 + 1 → R (some (.int v)) (shF L, f', g') := fun v f' g' a b c => H v f' g' a (fx_trans (fx_wide k1 (by decide) (by decide)) b) (c.trans (by rw [k1 168 7 (by omega)]))
  by_cases hz : q = 0
  · subst hz
    have hz1 : f1 168 7 = 0 := hc1
    exact sx_pb0b_lp (by omega) hn hz1 H' n 0 _ _ _ _ _ _ (by omega) rfl h1 (fx_refl _ _ _) ⟨0, by omega, rfl⟩ (fun j hj => Or.inl ((k1 169 j (by omega)).trans (hE hc j hj)))
  · exact sx_pbNb_lp (by omega) hn hc1 hz hq9 H' n 0 _ _ _ _ _ _ (by omega) rfl h1 (fx_refl _ _ _) (show inr 0 40 0 by unfold inr; decide)
set_option maxRecDepth 100000 in
set_option maxHeartbeats 4000000 in
theorem sf_edition {d L : Nat} {f : Nat → Nat → Int32} {g : Nat → Nat → Int64}  {R : Option Value → mH → Prop} (hd : 8 ≤ d) (hX : XI f) (hE : EI f) (H : ∀ v f' g', XI f' → kp [0, 7] f f' → EI f' → f' 168 7 = edn (f 168 7) → R (some (.int v)) (shF L, f', g')) : Run mtab d 127 [.ref 5] (shF L, f, g) R := by
  obtain ⟨d, rfl⟩ : ∃ e, d = e + 1 := ⟨d - 1, by omega⟩
  refine go_X10_edition rfl ?_
  conv => whnf
  obtain ⟨q, hq, hc⟩ := inr_nat (n := 9) rfl (xi_168 hX 7)
  simp only [hc]
  by_cases e9 : q = 9
  · subst e9
    refine ⟨fun c => absurd (by decide) c, fun c => ?_⟩
    conv => whnf
    exact H _ _ _ hX (kp_refl _ _) hE (edn_9 hc)
  · have hn9 : ¬ f 168 7 = 9 := fun z => e9 ((nI_eq (b := 9) (by omega) (by decide)).mp (hc.symm.trans z))
    refine ⟨fun c => ?_, fun c => absurd ((nI_eq (b := 9) (by omega) (by decide)).mp c) e9⟩
    conv => whnf
    refine sx_reckon (by omega) hX (fun f1 g1 h1 k1 => ?_)
    conv => whnf
    refine sf_publish (q := q) (by omega) h1 (EI_kp hE k1 rfl) ((k1 168 7 rfl).trans hc) (by omega) (fun v f2 g2 h2 k2 z2 => ?_)
    conv => whnf
    have z3 : f2 168 7 = nI (q + 1) := by rw [z2, k1 168 7 rfl, hc, nI_1]
    exact H _ _ _ h2 (kp_trans (kp_wd k1 rfl) (kp_fx k2 rfl)) (fun e => absurd (z3.symm.trans e) (nI_nz (by omega) (by omega))) (by rw [edn_n hn9, z2, k1 168 7 rfl])
set_option maxRecDepth 100000 in
set_option maxHeartbeats 4000000 in
theorem smf_ed2_lp {d L n : Nat} {f0 : Nat → Nat → Int32} {ev : Int32} {R : Option Value → mH → Prop} (hd : 1 ≤ d) (hm : n ≤ 40) (H : ∀ v f' g', XI f' → kp [10, 17] f0 f' → f' 181 50 = ev + 1 → R (some (.int v)) (shF L, f', g'))  :
    ∀ (k i : Nat) (x : Int32) (a : Int32) (b : Int32) (s5 : Option Value) (s6 : Option Value) (s7 : Option Value) (f : Nat → Nat → Int32) (g : Nat → Nat → Int64), i + k = n → x = nI i → XI f → kp [10, 17] f0 f → inr 0 40 b → f 181 50 = ev → WPe pg_X11_edition none (Run mtab d) R (m_drop pg_X11_edition 64) [some (.ref 181), some (.int (nI n)), some (.int a), some (.int b), some (.int x), s5, s6, s7] [] (shF L, f, g)
  | 0, i, x, a, b, s5, s6, s7, f, g, he, hx, hX, hF, hb, he5 => by
    have e : i = n := by omega
    subst hx
    subst e
    refine at_X11_edition ?_
    conv => whnf
    try simp only [nI_1, m_ui_ap, m_fil_ap, m_cpy_ap, Nat.reduceEqDiff, Nat.reduceLT, Nat.reduceLeDiff, eq_self, ↓reduceIte, false_and, and_false, true_and, and_true, and_self]
    refine ⟨fun c => ?_, fun c => absurd (nI_le (Nat.le_refl _) (by omega)) c⟩
    conv => whnf
    repeat' first
      | ((with_reducible refine ⟨vx_223 hX _, ?_⟩) <;> conv => whnf)
      | ((with_reducible refine ⟨vpi hb (by decide), ?_⟩) <;> conv => whnf)
      | (simp only [nI_1, m_ui_ap, m_fil_ap, m_cpy_ap, Nat.reduceEqDiff, Nat.reduceLT, Nat.reduceLeDiff, eq_self, ↓reduceIte, false_and, and_false, true_and, and_true, and_self])
      | ((with_reducible refine ⟨vp_in_nI (by omega) (by decide), ?_⟩) <;> conv => whnf)
      | (refine ⟨Or.inl rfl, ?_⟩ <;> conv => whnf)
      | (refine ⟨Or.inr rfl, ?_⟩ <;> conv => whnf)
      | (refine ⟨Or.inl True.intro, ?_⟩ <;> conv => whnf)
      | (refine ⟨Or.inr True.intro, ?_⟩ <;> conv => whnf)
      | (refine ⟨fun c => ?_, fun c => ?_⟩ <;> first | ((have c9 : (1 : Int32) = 0 := by with_reducible exact c); exact absurd c9 (by decide)) | exact absurd (rfl : (0 : Int32) = 0) (by with_reducible exact c) | exact absurd True.intro (by with_reducible exact c) | exact False.elim (by with_reducible exact c) | (conv => whnf))
      | (refine ⟨by unfold vp_in; decide, ?_⟩ <;> conv => whnf)
      | fail
    all_goals exact H _ _ _ (XI_ui hX True.intro) (kp_ui rfl hF) (by rw [m_ui_ap, if_pos rfl, if_pos rfl, he5])
  | k + 1, i, x, a, b, s5, s6, s7, f, g, he, hx, hX, hF, hb, he5 => by
    subst hx
    refine at_X11_edition ?_
    conv => whnf
    try simp only [nI_1, m_ui_ap, m_fil_ap, m_cpy_ap, Nat.reduceEqDiff, Nat.reduceLT, Nat.reduceLeDiff, eq_self, ↓reduceIte, false_and, and_false, true_and, and_true, and_self]
    refine ⟨fun c => absurd c (nI_ge (b := n) (by omega) (by omega)), fun c => ?_⟩
    conv => whnf
    repeat' first
      | exact smf_ed2_lp hd hm H k (i + 1) _ _ _ _ _ _ _ _ (by omega) (by first | rfl | exact nI_1 i) (by repeat' first | (with_reducible assumption) | (with_reducible refine XI_ui ?_ ?_) | (with_reducible refine XI_fil ?_ (fun _ => ?_)) | (with_reducible refine XI_cpy ?_ (fun _ _ => ?_)) | exact True.intro | ((show inr _ _ _); first | (with_reducible assumption) | ((with_reducible refine inr_n1 (m := 40) ?_ ?_ ?_) <;> first | omega | rfl | decide) | ((with_reducible refine inr_n (m := 40) ?_ ?_ ?_) <;> first | omega | rfl | decide) | (unfold inr; decide)) | fail) (by repeat' first | (with_reducible exact kp_refl _ _) | (with_reducible assumption) | (with_reducible refine kp_ui ?_ ?_) | (with_reducible refine kp_fil ?_ ?_) | (with_reducible refine kp_cpy ?_ ?_) | rfl | fail) (by first | (with_reducible assumption) | (with_reducible exact xi_221 hX _) | (with_reducible refine inr_n (m := 40) ?_ ?_ ?_) <;> first | omega | rfl | decide) (by first | (with_reducible assumption) | ((repeat rw [m_ui_o (by omega)]); exact he5))
      | ((with_reducible refine ⟨vx_223 hX _, ?_⟩) <;> conv => whnf)
      | ((with_reducible refine ⟨vpi hb (by decide), ?_⟩) <;> conv => whnf)
      | (simp only [nI_1, m_ui_ap, m_fil_ap, m_cpy_ap, Nat.reduceEqDiff, Nat.reduceLT, Nat.reduceLeDiff, eq_self, ↓reduceIte, false_and, and_false, true_and, and_true, and_self])
      | ((with_reducible refine ⟨vp_in_nI (by omega) (by decide), ?_⟩) <;> conv => whnf)
      | (refine ⟨Or.inl rfl, ?_⟩ <;> conv => whnf)
      | (refine ⟨Or.inr rfl, ?_⟩ <;> conv => whnf)
      | (refine ⟨Or.inl True.intro, ?_⟩ <;> conv => whnf)
      | (refine ⟨Or.inr True.intro, ?_⟩ <;> conv => whnf)
      | (refine ⟨fun c => ?_, fun c => ?_⟩ <;> first | ((have c9 : (1 : Int32) = 0 := by with_reducible exact c); exact absurd c9 (by decide)) | exact absurd (rfl : (0 : Int32) = 0) (by with_reducible exact c) | exact absurd True.intro (by with_reducible exact c) | exact False.elim (by with_reducible exact c) | (conv => whnf))
      | (refine ⟨by unfold vp_in; decide, ?_⟩ <;> conv => whnf)
      | fail
    all_goals exact H _ _ _ (XI_ui hX True.intro) (kp_ui rfl hF) (by rw [m_ui_ap, if_pos rfl, if_pos rfl, he5])
set_option maxRecDepth 100000 in
set_option maxHeartbeats 4000000 in
theorem smf_ed1_lp {d L n : Nat} {f0 : Nat → Nat → Int32} {vn : Nat} {ev : Int32} {fz : Nat → Nat → Int32} {R : Option Value → mH → Prop} (hd : 3 ≤ d) (hm : n ≤ 40) (h0 : f0 181 0 = nI n) (hv0 : f0 181 48 = nI vn) (hk : vn ≤ 60) (k0 : kp [10, 17] fz f0) (hev : f0 181 50 = ev) (H : ∀ v f' g', XI f' → kp [10, 17] fz f' → f' 181 50 = ev + 1 → R (some (.int v)) (shF L, f', g'))  :
    ∀ (k i : Nat) (x : Int32) (b : Int32) (s3 : Option Value) (s4 : Option Value) (s5 : Option Value) (s6 : Option Value) (s7 : Option Value) (f : Nat → Nat → Int32) (g : Nat → Nat → Int64), i + k = n → x = nI i → XI f → fx 223 224 f0 f → (∃ q, q ≤ i ∧ b = nI q) → WPe pg_X11_edition none (Run mtab d) R (m_drop pg_X11_edition 12) [some (.ref 181), some (.int b), some (.int x), s3, s4, s5, s6, s7] [] (shF L, f, g)
  | 0, i, x, b, s3, s4, s5, s6, s7, f, g, he, hx, hX, hF, hb => by
    have e : i = n := by omega
    subst hx
    have hc : f 181 0 = nI n := (hF 181 0 (by omega)).trans h0
    have hvb : f 181 48 = nI vn := (hF 181 48 (by omega)).trans hv0
    obtain ⟨q, hqi, rfl⟩ := hb
    subst e
    refine at_X11_edition ?_
    conv => whnf
    try simp only [hc, hvb]
    refine ⟨fun c => ?_, fun c => absurd (nI_le (Nat.le_refl _) (by omega)) c⟩
    conv => whnf
    repeat' first
      | exact smf_ed2_lp (f0 := fz) (by omega) (by omega) H q 0 _ _ _ _ _ _ _ _ (by omega) rfl hX (kp_trans k0 (kp_fx hF rfl)) (show inr 0 40 0 by unfold inr; decide) ((hF 181 50 (by omega)).trans hev)
      | (simp only [hc, hvb])
      | ((with_reducible refine ⟨vp_in_nI (by omega) (by decide), ?_⟩) <;> conv => whnf)
      | (refine ⟨Or.inl rfl, ?_⟩ <;> conv => whnf)
      | (refine ⟨Or.inr rfl, ?_⟩ <;> conv => whnf)
      | (refine ⟨Or.inl True.intro, ?_⟩ <;> conv => whnf)
      | (refine ⟨Or.inr True.intro, ?_⟩ <;> conv => whnf)
      | (refine ⟨fun c => ?_, fun c => ?_⟩ <;> first | ((have c9 : (1 : Int32) = 0 := by with_reducible exact c); exact absurd c9 (by decide)) | exact absurd (rfl : (0 : Int32) = 0) (by with_reducible exact c) | exact absurd True.intro (by with_reducible exact c) | exact False.elim (by with_reducible exact c) | (conv => whnf))
      | (refine ⟨by unfold vp_in; decide, ?_⟩ <;> conv => whnf)
      | fail
    all_goals fail
  | k + 1, i, x, b, s3, s4, s5, s6, s7, f, g, he, hx, hX, hF, hb => by
    subst hx
    have hc : f 181 0 = nI n := (hF 181 0 (by omega)).trans h0
    have hvb : f 181 48 = nI vn := (hF 181 48 (by omega)).trans hv0
    obtain ⟨q, hqi, rfl⟩ := hb
    refine at_X11_edition ?_
    conv => whnf
    try simp only [hc, hvb]
    refine ⟨fun c => absurd c (nI_ge (b := n) (by omega) (by omega)), fun c => ?_⟩
    conv => whnf
    repeat' first
      | exact smf_ed1_lp hd hm h0 hv0 hk k0 hev H k (i + 1) _ _ _ _ _ _ _ _ _ (by omega) (nI_1 i) (by repeat' first | (with_reducible assumption) | (with_reducible refine XI_ui ?_ ?_) | (with_reducible refine XI_fil ?_ (fun _ => ?_)) | (with_reducible refine XI_cpy ?_ (fun _ _ => ?_)) | exact True.intro | ((show inr _ _ _); first | (with_reducible assumption) | (unfold inr; decide)) | fail) (by repeat' first | (with_reducible exact fx_refl _ _ _) | (with_reducible assumption) | (with_reducible refine fx_ui ?_ ?_ ?_) | (with_reducible refine fx_fil ?_ ?_ ?_) | (with_reducible refine fx_cpy ?_ ?_ ?_) | omega | decide | fail) ⟨q, by omega, rfl⟩
      | exact msr_in (p := i) (q := q) (by omega) (by omega) (by omega) (fun b' x' s3 f' g' hb' hx' hX' hF' => smf_ed1_lp hd hm h0 hv0 hk k0 hev H k (i + 1) x' b' s3 _ _ _ _ f' g' (by omega) hx' hX' hF' ⟨q + 1, by omega, hb'⟩) q _ _ _ (Nat.le_refl q) rfl hX hF
      | (simp only [hc, hvb])
      | ((with_reducible refine ⟨vp_in_nI (by omega) (by decide), ?_⟩) <;> conv => whnf)
      | (refine ⟨Or.inl rfl, ?_⟩ <;> conv => whnf)
      | (refine ⟨Or.inr rfl, ?_⟩ <;> conv => whnf)
      | (refine ⟨Or.inl True.intro, ?_⟩ <;> conv => whnf)
      | (refine ⟨Or.inr True.intro, ?_⟩ <;> conv => whnf)
      | (refine ⟨fun c => ?_, fun c => ?_⟩ <;> first | ((have c9 : (1 : Int32) = 0 := by with_reducible exact c); exact absurd c9 (by decide)) | exact absurd (rfl : (0 : Int32) = 0) (by with_reducible exact c) | exact absurd True.intro (by with_reducible exact c) | exact False.elim (by with_reducible exact c) | (conv => whnf))
      | (refine sm_stateOf (by omega) hX hk (fun v => ?_) <;> conv => whnf)
      | (refine ⟨by unfold vp_in; decide, ?_⟩ <;> conv => whnf)
      | fail
    all_goals fail
noncomputable def cnX (f : Nat → Nat → Int32) (n c : Nat) (x : Int32) : Int32 := if x = 0 then f 6 13 else if x = 1 then f 100 6 else if x = 2 then f 139 13 else if x = 3 then f 129 6 else if x = 4 then f 119 7 else if x = 5 then f 168 7 else if x = 6 then cntl (fun i => (stp f 9999 (nI i) c).1 = 1) n 0 0 else if x = 7 then cntl (fun i => (stp f 9999 (nI i) c).1 = 2) n 0 0 else -1
noncomputable def cnM (f : Nat → Nat → Int32) (n c : Nat) (x : Int32) : Int32 := if x = 0 then f 181 0 else if x = 1 then f 181 14 else if x = 2 then f 181 27 else if x = 3 then f 181 16 else if x = 4 then f 181 48 else if x = 5 then f 181 50 else if x = 6 then cntl (fun i => (smp f 9999 (nI i) c).1 = x - 5) n 0 0 else if x = 7 then cntl (fun i => (smp f 9999 (nI i) c).1 = x - 5) n 0 0 else -1
def SX_count (n c : Nat) (f f1 : Nat → Nat → Int32) (x v : Int32) : Prop := v = cnX f n c x ∧ (f1 = f ∨ stF f f1 9999 c)
def SM_count (n c : Nat) (f : Nat → Nat → Int32) (x v : Int32) : Prop := v = cnM f n c x
set_option maxRecDepth 100000 in
theorem cs_lp {d L n : Nat} {f : Nat → Nat → Int32} {g : Nat → Nat → Int64} {w : Int32} {R : Option Value → mH → Prop} (hb : f 6 13 = nI n) (hm : n ≤ 40) :
    ∀ (k i : Nat) (x a : Int32), i + k = n → x = nI i → R (some (.int (cntl (fun i => f 127 i = w) k i a))) (shF L, f, g) → WPe pg_X10_countStates none (Run mtab d) R (m_drop pg_X10_countStates 7) [some (.ref 5), some (.int w), some (.int a), some (.int x)] [] (shF L, f, g)
  | 0, i, x, a, hi, hx, H => by
    have e : i = n := by omega
    subst hx
    subst e
    refine at_X10_countStates ?_
    conv => whnf
    simp only [hb]
    refine ⟨fun c => ?_, fun c => absurd (nI_le (Nat.le_refl _) (by omega)) c⟩
    conv => whnf
    exact H
  | k + 1, i, x, a, hi, hx, H => by
    subst hx
    have hcl : (nI i).toNatClampNeg = i := nI_clamp (by omega)
    refine at_X10_countStates ?_
    conv => whnf
    simp only [hb]
    refine ⟨fun c => absurd c (nI_ge (b := n) (by omega) (by omega)), fun c => ?_⟩
    conv => whnf
    refine ⟨vp_in_nI (by omega) (by decide), ?_⟩
    conv => whnf
    simp only [hcl]
    refine ⟨fun c1 => ?_, fun c1 => ?_⟩
    · conv => whnf
      exact cs_lp hb hm k (i + 1) _ _ (by omega) (nI_1 i) (by rw [cnt_n (P := (fun i => f 127 i = w)) (k := k) (i := i) (a := a) (c1)] at H; exact H)
    · conv => whnf
      exact cs_lp hb hm k (i + 1) _ _ (by omega) (nI_1 i) (by rw [cnt_y (P := (fun i => f 127 i = w)) (k := k) (i := i) (a := a) (c1)] at H; exact H)
set_option maxRecDepth 100000 in
set_option maxHeartbeats 4000000 in
theorem sf_countStates {d L : Nat} {f : Nat → Nat → Int32} {g : Nat → Nat → Int64} {n c0 : Nat} {w : Int32} {R : Option Value → mH → Prop} (hd : 5 ≤ d) (hX : XI f) (hb : f 6 13 = nI n) (hm : n ≤ 40) (hvb : f 119 7 = nI c0) (hvm : c0 ≤ 60) (H : ∀ f1, stF f f1 9999 c0 → R (some (.int (cntl (fun i => (stp f 9999 (nI i) c0).1 = w) n 0 0))) (shF L, f1, g)) : Run mtab d 146 [.ref 5, .int w] (shF L, f, g) R := by
  obtain ⟨d, rfl⟩ : ∃ e, d = e + 1 := ⟨d - 1, by omega⟩
  refine go_X10_countStates rfl ?_
  conv => whnf
  refine sf_reckonAll (by omega) hX hvb hvm (fun f1 h1 => ?_)
  conv => whnf
  refine cs_lp ((h1.2 6 13 (by omega) (by omega)).trans hb) hm n 0 _ _ (by omega) rfl ?_
  have e : cntl (fun i => f1 127 i = w) n 0 0 = cntl (fun i => (stp f 9999 (nI i) c0).1 = w) n 0 0 := cntl_eq n (fun i hi => by rw [(h1.1 i (by omega)).1]) n 0 0 (by omega)
  rw [e]
  exact H f1 h1
set_option maxRecDepth 100000 in
set_option maxHeartbeats 4000000 in
theorem sf_count {d L : Nat} {f : Nat → Nat → Int32} {g : Nat → Nat → Int64} {n c0 : Nat} {x : Int32} {R : Option Value → mH → Prop} (hd : 6 ≤ d) (hX : XI f) (hb : f 6 13 = nI n) (hm : n ≤ 40) (hvb : f 119 7 = nI c0) (hvm : c0 ≤ 60) (H : ∀ v f1, SX_count n c0 f f1 x v → R (some (.int v)) (shF L, f1, g)) : Run mtab d 129 [.ref 5, .int x] (shF L, f, g) R := by
  obtain ⟨d, rfl⟩ : ∃ e, d = e + 1 := ⟨d - 1, by omega⟩
  refine go_X10_count rfl ?_
  conv => whnf
  refine ⟨fun c => ?_, fun c => ?_, fun c => ?_, fun c => ?_, fun c => ?_, fun c => ?_, fun c => ?_, fun c => ?_, fun c => ?_⟩
  · have e : x = 0 := c.trans (by decide)
    subst e
    conv => whnf
    exact H _ _ ⟨by unfold cnX; rw [if_pos rfl], Or.inl rfl⟩
  · have e : x = 1 := c.trans (by decide)
    subst e
    conv => whnf
    exact H _ _ ⟨by unfold cnX; rw [if_neg (show ¬ (1 : Int32) = 0 by decide), if_pos rfl], Or.inl rfl⟩
  · have e : x = 2 := c.trans (by decide)
    subst e
    conv => whnf
    exact H _ _ ⟨by unfold cnX; rw [if_neg (show ¬ (2 : Int32) = 0 by decide), if_neg (show ¬ (2 : Int32) = 1 by decide), if_pos rfl], Or.inl rfl⟩
  · have e : x = 3 := c.trans (by decide)
    subst e
    conv => whnf
    exact H _ _ ⟨by unfold cnX; rw [if_neg (show ¬ (3 : Int32) = 0 by decide), if_neg (show ¬ (3 : Int32) = 1 by decide), if_neg (show ¬ (3 : Int32) = 2 by decide), if_pos rfl], Or.inl rfl⟩
  · have e : x = 4 := c.trans (by decide)
    subst e
    conv => whnf
    exact H _ _ ⟨by unfold cnX; rw [if_neg (show ¬ (4 : Int32) = 0 by decide), if_neg (show ¬ (4 : Int32) = 1 by decide), if_neg (show ¬ (4 : Int32) = 2 by decide), if_neg (show ¬ (4 : Int32) = 3 by decide), if_pos rfl], Or.inl rfl⟩
  · have e : x = 5 := c.trans (by decide)
    subst e
    conv => whnf
    exact H _ _ ⟨by unfold cnX; rw [if_neg (show ¬ (5 : Int32) = 0 by decide), if_neg (show ¬ (5 : Int32) = 1 by decide), if_neg (show ¬ (5 : Int32) = 2 by decide), if_neg (show ¬ (5 : Int32) = 3 by decide), if_neg (show ¬ (5 : Int32) = 4 by decide), if_pos rfl], Or.inl rfl⟩
  · have e : x = 6 := c.trans (by decide)
    subst e
    conv => whnf
    refine sf_countStates (by omega) hX hb hm hvb hvm (fun f1 h1 => ?_)
    conv => whnf
    exact H _ _ ⟨by unfold cnX; rw [if_neg (show ¬ (6 : Int32) = 0 by decide), if_neg (show ¬ (6 : Int32) = 1 by decide), if_neg (show ¬ (6 : Int32) = 2 by decide), if_neg (show ¬ (6 : Int32) = 3 by decide), if_neg (show ¬ (6 : Int32) = 4 by decide), if_neg (show ¬ (6 : Int32) = 5 by decide), if_pos rfl], Or.inr h1⟩
  · have e : x = 7 := c.trans (by decide)
    subst e
    conv => whnf
    refine sf_countStates (by omega) hX hb hm hvb hvm (fun f1 h1 => ?_)
    conv => whnf
    exact H _ _ ⟨by unfold cnX; rw [if_neg (show ¬ (7 : Int32) = 0 by decide), if_neg (show ¬ (7 : Int32) = 1 by decide), if_neg (show ¬ (7 : Int32) = 2 by decide), if_neg (show ¬ (7 : Int32) = 3 by decide), if_neg (show ¬ (7 : Int32) = 4 by decide), if_neg (show ¬ (7 : Int32) = 5 by decide), if_neg (show ¬ (7 : Int32) = 6 by decide), if_pos rfl], Or.inr h1⟩
  · obtain ⟨⟨⟨⟨⟨⟨⟨h0, h1⟩, h2⟩, h3⟩, h4⟩, h5⟩, h6⟩, h7⟩ := c
    conv => whnf
    have n0 : ¬ x = 0 := fun e => h0 (e.trans (by decide))
    have n1 : ¬ x = 1 := fun e => h1 (e.trans (by decide))
    have n2 : ¬ x = 2 := fun e => h2 (e.trans (by decide))
    have n3 : ¬ x = 3 := fun e => h3 (e.trans (by decide))
    have n4 : ¬ x = 4 := fun e => h4 (e.trans (by decide))
    have n5 : ¬ x = 5 := fun e => h5 (e.trans (by decide))
    have n6 : ¬ x = 6 := fun e => h6 (e.trans (by decide))
    have n7 : ¬ x = 7 := fun e => h7 (e.trans (by decide))
    exact H _ _ ⟨by unfold cnX; rw [if_neg n0, if_neg n1, if_neg n2, if_neg n3, if_neg n4, if_neg n5, if_neg n6, if_neg n7], Or.inl rfl⟩
set_option maxRecDepth 100000 in
theorem cm_lp {d L n c0 : Nat} {f : Nat → Nat → Int32} {g : Nat → Nat → Int64} {w : Int32} {R : Option Value → mH → Prop} (hd : 1 ≤ d) (hb : f 181 0 = nI n) (hm : n ≤ 40) (hvb : f 181 48 = nI c0) (hvm : c0 ≤ 60) :
    ∀ (k i : Nat) (x a : Int32), i + k = n → x = nI i → R (some (.int (cntl (fun i => (smp f 9999 (nI i) c0).1 = w - 5) k i a))) (shF L, f, g) → WPe pg_X11_count none (Run mtab d) R (m_drop pg_X11_count 24) [some (.ref 181), some (.int w), some (.int a), some (.int x)] [] (shF L, f, g)
  | 0, i, x, a, hi, hx, H => by
    have e : i = n := by omega
    subst hx
    subst e
    refine at_X11_count ?_
    conv => whnf
    simp only [hb]
    refine ⟨fun c => ?_, fun c => absurd (nI_le (Nat.le_refl _) (by omega)) c⟩
    conv => whnf
    exact H
  | k + 1, i, x, a, hi, hx, H => by
    subst hx
    refine at_X11_count ?_
    conv => whnf
    simp only [hb]
    refine ⟨fun c => absurd c (nI_ge (b := n) (by omega) (by omega)), fun c => ?_⟩
    conv => whnf
    (try simp only [hvb])
    refine smf_stateOf (by omega) hvm ?_
    conv => whnf
    refine ⟨fun c1 => ?_, fun c1 => ?_⟩
    · conv => whnf
      exact cm_lp hd hb hm hvb hvm k (i + 1) _ (a + 0) (by omega) (nI_1 i) (by rw [cnt_n (P := (fun i => (smp f 9999 (nI i) c0).1 = w - 5)) (k := k) (i := i) (a := a) (c1)] at H; rw [Int32.add_zero]; exact H)
    · conv => whnf
      exact cm_lp hd hb hm hvb hvm k (i + 1) _ _ (by omega) (nI_1 i) (by rw [cnt_y (P := (fun i => (smp f 9999 (nI i) c0).1 = w - 5)) (k := k) (i := i) (a := a) (c1)] at H; exact H)
set_option maxRecDepth 100000 in
set_option maxHeartbeats 4000000 in
theorem smf_count {d L : Nat} {f : Nat → Nat → Int32} {g : Nat → Nat → Int64} {n c0 : Nat} {x : Int32} {R : Option Value → mH → Prop} (hd : 3 ≤ d) (hb : f 181 0 = nI n) (hm : n ≤ 40) (hvb : f 181 48 = nI c0) (hvm : c0 ≤ 60) (H : ∀ v, SM_count n c0 f x v → R (some (.int v)) (shF L, f, g)) : Run mtab d 235 [.ref 181, .int x] (shF L, f, g) R := by
  obtain ⟨d, rfl⟩ : ∃ e, d = e + 1 := ⟨d - 1, by omega⟩
  refine go_X11_count rfl ?_
  conv => whnf
  refine ⟨fun c => ?_, fun c => ?_, fun c => ?_, fun c => ?_, fun c => ?_, fun c => ?_, fun c => ?_, fun c => ?_, fun c => ?_⟩
  · have e : x = 0 := c.trans (by decide)
    subst e
    conv => whnf
    exact H _ (by unfold SM_count cnM; rw [if_pos rfl])
  · have e : x = 1 := c.trans (by decide)
    subst e
    conv => whnf
    exact H _ (by unfold SM_count cnM; rw [if_neg (show ¬ (1 : Int32) = 0 by decide), if_pos rfl])
  · have e : x = 2 := c.trans (by decide)
    subst e
    conv => whnf
    exact H _ (by unfold SM_count cnM; rw [if_neg (show ¬ (2 : Int32) = 0 by decide), if_neg (show ¬ (2 : Int32) = 1 by decide), if_pos rfl])
  · have e : x = 3 := c.trans (by decide)
    subst e
    conv => whnf
    exact H _ (by unfold SM_count cnM; rw [if_neg (show ¬ (3 : Int32) = 0 by decide), if_neg (show ¬ (3 : Int32) = 1 by decide), if_neg (show ¬ (3 : Int32) = 2 by decide), if_pos rfl])
  · have e : x = 4 := c.trans (by decide)
    subst e
    conv => whnf
    exact H _ (by unfold SM_count cnM; rw [if_neg (show ¬ (4 : Int32) = 0 by decide), if_neg (show ¬ (4 : Int32) = 1 by decide), if_neg (show ¬ (4 : Int32) = 2 by decide), if_neg (show ¬ (4 : Int32) = 3 by decide), if_pos rfl])
  · have e : x = 5 := c.trans (by decide)
    subst e
    conv => whnf
    exact H _ (by unfold SM_count cnM; rw [if_neg (show ¬ (5 : Int32) = 0 by decide), if_neg (show ¬ (5 : Int32) = 1 by decide), if_neg (show ¬ (5 : Int32) = 2 by decide), if_neg (show ¬ (5 : Int32) = 3 by decide), if_neg (show ¬ (5 : Int32) = 4 by decide), if_pos rfl])
  · have e : x = 6 := c.trans (by decide)
    subst e
    conv => whnf
    refine cm_lp (by omega) hb hm hvb hvm n 0 _ _ (by omega) rfl ?_
    exact H _ (by unfold SM_count cnM; rw [if_neg (show ¬ (6 : Int32) = 0 by decide), if_neg (show ¬ (6 : Int32) = 1 by decide), if_neg (show ¬ (6 : Int32) = 2 by decide), if_neg (show ¬ (6 : Int32) = 3 by decide), if_neg (show ¬ (6 : Int32) = 4 by decide), if_neg (show ¬ (6 : Int32) = 5 by decide), if_pos rfl])
  · have e : x = 7 := c.trans (by decide)
    subst e
    conv => whnf
    refine cm_lp (by omega) hb hm hvb hvm n 0 _ _ (by omega) rfl ?_
    exact H _ (by unfold SM_count cnM; rw [if_neg (show ¬ (7 : Int32) = 0 by decide), if_neg (show ¬ (7 : Int32) = 1 by decide), if_neg (show ¬ (7 : Int32) = 2 by decide), if_neg (show ¬ (7 : Int32) = 3 by decide), if_neg (show ¬ (7 : Int32) = 4 by decide), if_neg (show ¬ (7 : Int32) = 5 by decide), if_neg (show ¬ (7 : Int32) = 6 by decide), if_pos rfl])
  · obtain ⟨⟨⟨⟨⟨⟨⟨h0, h1⟩, h2⟩, h3⟩, h4⟩, h5⟩, h6⟩, h7⟩ := c
    conv => whnf
    have n0 : ¬ x = 0 := fun e => h0 (e.trans (by decide))
    have n1 : ¬ x = 1 := fun e => h1 (e.trans (by decide))
    have n2 : ¬ x = 2 := fun e => h2 (e.trans (by decide))
    have n3 : ¬ x = 3 := fun e => h3 (e.trans (by decide))
    have n4 : ¬ x = 4 := fun e => h4 (e.trans (by decide))
    have n5 : ¬ x = 5 := fun e => h5 (e.trans (by decide))
    have n6 : ¬ x = 6 := fun e => h6 (e.trans (by decide))
    have n7 : ¬ x = 7 := fun e => h7 (e.trans (by decide))
    exact H _ (by unfold SM_count cnM; rw [if_neg n0, if_neg n1, if_neg n2, if_neg n3, if_neg n4, if_neg n5, if_neg n6, if_neg n7])
theorem kx_count {n c : Nat} {f f1 : Nat → Nat → Int32} {x v : Int32} (s : SX_count n c f f1 x v) : kp [0] f f1 := by
  rcases s.2 with rfl | h
  · exact kp_refl _ _
  · exact stF_kp h
theorem XI_count {n c : Nat} {f f1 : Nat → Nat → Int32} {x v : Int32} (hX : XI f) (s : SX_count n c f f1 x v) : XI f1 := by
  rcases s.2 with rfl | h
  · exact hX
  · exact stF_XI hX h
theorem fin_count {n h m cc c : Nat} {f f1 : Nat → Nat → Int32} {x v1 v2 : Int32} (hR : RW n f) (hO : RO h f) (hM : RM m f) (hC : RC cc f) (hV : RV c f) (hE : f 168 7 = f 181 50) (s1 : SX_count n c f f1 x v1) (s2 : SM_count n c f1 x v2) : v1 = v2 := by
  have k1 := kx_count s1
  have es : ∀ i, (smp f1 9999 (nI i) c).1 = (stp f 9999 (nI i) c).1 := fun i => by
    rw [smp_kp (fun i => k1 218 i rfl)]
    exact (st_eq hV 9999 (nI i) c (Nat.le_refl _)).1.symm
  rw [s1.1, show v2 = cnM f1 n c x from s2]
  unfold cnX cnM
  by_cases e0 : x = 0
  · rw [if_pos e0, if_pos e0]
    exact hR.2.1.trans ((k1 181 0 rfl).trans hR.2.2.1).symm
  rw [if_neg e0, if_neg e0]
  by_cases e1 : x = 1
  · rw [if_pos e1, if_pos e1]
    exact hO.2.1.trans ((k1 181 14 rfl).trans hO.2.2.1).symm
  rw [if_neg e1, if_neg e1]
  by_cases e2 : x = 2
  · rw [if_pos e2, if_pos e2]
    exact hM.2.1.trans ((k1 181 27 rfl).trans hM.2.2.1).symm
  rw [if_neg e2, if_neg e2]
  by_cases e3 : x = 3
  · rw [if_pos e3, if_pos e3]
    exact hC.2.1.trans ((k1 181 16 rfl).trans hC.2.2.1).symm
  rw [if_neg e3, if_neg e3]
  by_cases e4 : x = 4
  · rw [if_pos e4, if_pos e4]
    exact hV.2.1.trans ((k1 181 48 rfl).trans hV.2.2.1).symm
  rw [if_neg e4, if_neg e4]
  by_cases e5 : x = 5
  · rw [if_pos e5, if_pos e5]
    exact hE.trans (k1 181 50 rfl).symm
  rw [if_neg e5, if_neg e5]
  by_cases e6 : x = 6
  · rw [if_pos e6, if_pos e6]
    subst e6
    exact cntl_eq n (fun i _ => by rw [es i, show (6 : Int32) - 5 = 1 by decide]) n 0 0 (by omega)
  rw [if_neg e6, if_neg e6]
  by_cases e7 : x = 7
  · rw [if_pos e7, if_pos e7]
    subst e7
    exact cntl_eq n (fun i _ => by rw [es i, show (7 : Int32) - 5 = 2 by decide]) n 0 0 (by omega)
  rw [if_neg e7, if_neg e7]
/-- what holds between calls, with the editions told -/
def GE (f : Nat → Nat → Int32) : Prop := GL f ∧ f 168 7 = f 181 50
def oke (l : List Nat) : Bool := !hasN l 7 && !hasN l 17
theorem oke_of {l : List Nat} (h : oke l = true) : hasN l 7 = false ∧ hasN l 17 = false := by
  unfold oke at h
  simp only [Bool.and_eq_true, Bool.not_eq_true'] at h
  exact h
theorem RE_kp {l : List Nat} {f f' : Nat → Nat → Int32} (k : kp l f f') (hl : oke l = true) (h : f 168 7 = f 181 50) : f' 168 7 = f' 181 50 := by
  obtain ⟨l7, l17⟩ := oke_of hl
  rw [k 168 7 (by exact l7), k 181 50 (by exact l17)]
  exact h
theorem GE_x {l : List Nat} {f f' : Nat → Nat → Int32} (h : GE f) (x : XI f') (k : kp l f f') (hl : (okg l && oke l) = true) : GE f' := by
  rw [Bool.and_eq_true] at hl
  exact ⟨GL_x h.1 x k hl.1, RE_kp k hl.2 h.2⟩
theorem GE_j {l l' : List Nat} {f f1 f2 : Nat → Nat → Int32} (h : GE f) (k1 : kp l f f1) (k2 : kp l' f1 f2) (j : GK f2) (hl : (okw l && oke l) = true) (hl' : (okw l' && oke l') = true) : GE f2 := by
  rw [Bool.and_eq_true] at hl hl'
  exact ⟨GL_j h.1 k1 k2 j hl.1 hl'.1, RE_kp k2 hl'.2 (RE_kp k1 hl.2 h.2)⟩
theorem GE_v {f f1 f2 : Nat → Nat → Int32} (h : GE f) (k1 : kp [4] f f1) (k2 : kp [10, 14, 22] f1 f2) (x : XI f2) (r : ∃ v, RV v f2) : GE f2 := ⟨GL_v h.1 k1 k2 x r, RE_kp k2 rfl (RE_kp k1 rfl h.2)⟩
theorem GE_ini {f : Nat → Nat → Int32} (hf : ∀ a i, 6 ≤ a → f a i = if a < 227 then inix a i else 0) (h3 : ab3 f) (h2 : ab2 f) : GE f := by
  refine ⟨GL_ini hf h3 h2, ?_⟩
  rw [hf 168 7 (by omega), if_pos (by omega), hf 181 50 (by omega), if_pos (by omega), inix_0 _ (by decide), inix_0 _ (by decide)]
/-- what the class's years lean on -/
def YK (f : Nat → Nat → Int32) (n c v : Nat) : Prop := n ≤ 40 ∧ f 6 13 = nI n ∧ f 119 7 = nI v ∧ v ≤ 60 ∧ CE f n c ∧ (∀ j, j < n → inr 1800 1999 (f 11 j) ∧ inr 1800 1999 (f 12 j) ∧ f 11 j ≤ f 12 j) ∧ ∀ k, f 137 k = 0
/-- clues name works, told years are years, no clue is aside, what is kept of the years is right -/
def RY (n c v : Nat) (f : Nat → Nat → Int32) : Prop := CM f n c ∧ (∀ k, f 137 k = 0) ∧ (¬ f 181 29 = 0 → YC f n c v)
def ans3 (q a b x2 : Int32) : Int32 := if q = 0 then (if x2 = 0 then a else b) else -2
def SX_made (n c v : Nat) (f f1 : Nat → Nat → Int32) (x1 x2 r : Int32) : Prop := (¬ (hasw n x1 ∧ inr 0 1 x2) ∧ r = -1 ∧ f1 = f) ∨ (∃ w, w < n ∧ x1 = nI w ∧ inr 0 1 x2 ∧ rkY f f1 n c v ∧ r = ans3 (f1 129 9) (f1 134 w) (f1 135 w) x2)
def SM_made (n c v : Nat) (f f1 : Nat → Nat → Int32) (x1 x2 r : Int32) : Prop := (¬ (hasw n x1 ∧ inr 0 1 x2) ∧ r = -1 ∧ f1 = f) ∨ (∃ w, w < n ∧ x1 = nI w ∧ inr 0 1 x2 ∧ o6 f f1 ∧ ¬ f1 181 29 = 0 ∧ YC f1 n c v ∧ r = ans3 (f1 181 24) (f1 200 w) (f1 201 w) x2)
def SX_quarrel (n c v : Nat) (f f1 : Nat → Nat → Int32) (r : Int32) : Prop := rkY f f1 n c v ∧ r = if f1 129 9 = 0 then 0 else 1
def SM_quarrel (n c v : Nat) (f f1 : Nat → Nat → Int32) (r : Int32) : Prop := o6 f f1 ∧ ¬ f1 181 29 = 0 ∧ YC f1 n c v ∧ r = if f1 181 24 = 0 then 0 else 1
set_option maxRecDepth 100000 in
set_option maxHeartbeats 4000000 in
theorem sf_made {d L : Nat} {f : Nat → Nat → Int32} {g : Nat → Nat → Int64} {n c v : Nat} {x1 x2 : Int32} {R : Option Value → mH → Prop} (hd : 6 ≤ d) (hX : XI f) (hK : YK f n c v) (H : ∀ r f1, SX_made n c v f f1 x1 x2 r → R (some (.int r)) (shF L, f1, g)) : Run mtab d 114 [.ref 5, .int x1, .int x2] (shF L, f, g) R := by
  obtain ⟨d, rfl⟩ : ∃ e, d = e + 1 := ⟨d - 1, by omega⟩
  refine go_X10_made rfl ?_
  conv => whnf
  obtain ⟨hn, hnb, hvb, hv, hE, cy, hA0⟩ := hK
  refine ct_has (by omega) hnb hn (fun j hj e => ?_) (fun q => ?_)
  · subst e
    have hcl : (nI j).toNatClampNeg = j := nI_clamp (by omega)
    conv => whnf
    (refine ⟨fun z9 => ?_, fun z9 => ?_⟩ <;> first | ((have c9 : (1 : Int32) = 0 := by with_reducible exact z9); exact absurd c9 (by decide)) | exact absurd (rfl : (0 : Int32) = 0) (by with_reducible exact z9) | exact absurd True.intro (by with_reducible exact z9) | exact False.elim (by with_reducible exact z9) | (conv => whnf))
    refine ct_isWithin (by omega) (fun p => ?_) (fun p => ?_)
    · conv => whnf
      (refine ⟨fun z9 => ?_, fun z9 => ?_⟩ <;> first | ((have c9 : (1 : Int32) = 0 := by with_reducible exact z9); exact absurd c9 (by decide)) | exact absurd (rfl : (0 : Int32) = 0) (by with_reducible exact z9) | exact absurd True.intro (by with_reducible exact z9) | exact False.elim (by with_reducible exact z9) | (conv => whnf))
      refine sf_reckon (n := n) (c := c) (v := v) (by omega) hX hn hnb hvb hv hE cy hA0 (fun f1 r1 => ?_)
      conv => whnf
      refine ⟨fun z => ?_, fun z => ?_⟩
      · conv => whnf
        refine ⟨fun y => ?_, fun y => ?_⟩
        · conv => whnf
          refine ⟨vp_in_nI (by omega) (by decide), ?_⟩
          conv => whnf
          (try simp only [hcl])
          exact H _ _ (Or.inr ⟨j, hj, rfl, p, r1, by unfold ans3; rw [if_pos z, if_neg y]⟩)
        · conv => whnf
          refine ⟨vp_in_nI (by omega) (by decide), ?_⟩
          conv => whnf
          (try simp only [hcl])
          exact H _ _ (Or.inr ⟨j, hj, rfl, p, r1, by unfold ans3; rw [if_pos z, if_pos y]⟩)
      · conv => whnf
        exact H _ _ (Or.inr ⟨j, hj, rfl, p, r1, by unfold ans3; rw [if_neg z]⟩)
    · conv => whnf
      (refine ⟨fun z9 => ?_, fun z9 => ?_⟩ <;> first | ((have c9 : (1 : Int32) = 0 := by with_reducible exact z9); exact absurd c9 (by decide)) | exact absurd (rfl : (0 : Int32) = 0) (by with_reducible exact z9) | exact absurd True.intro (by with_reducible exact z9) | exact False.elim (by with_reducible exact z9) | (conv => whnf))
      exact H _ _ (Or.inl ⟨fun hh => p hh.2, rfl, rfl⟩)
  · conv => whnf
    (refine ⟨fun z9 => ?_, fun z9 => ?_⟩ <;> first | ((have c9 : (1 : Int32) = 0 := by with_reducible exact z9); exact absurd c9 (by decide)) | exact absurd (rfl : (0 : Int32) = 0) (by with_reducible exact z9) | exact absurd True.intro (by with_reducible exact z9) | exact False.elim (by with_reducible exact z9) | (conv => whnf))
    exact H _ _ (Or.inl ⟨fun hh => nhasw q hh.1, rfl, rfl⟩)
set_option maxRecDepth 100000 in
set_option maxHeartbeats 4000000 in
theorem smf_made {d L : Nat} {f : Nat → Nat → Int32} {g : Nat → Nat → Int64} {n c v : Nat} {x1 x2 : Int32} {R : Option Value → mH → Prop} (hd : 6 ≤ d) (hM : CM f n c) (hvb : f 181 48 = nI v) (hv : v ≤ 60) (hY : ¬ f 181 29 = 0 → YC f n c v) (H : ∀ r f1, SM_made n c v f f1 x1 x2 r → R (some (.int r)) (shF L, f1, g)) : Run mtab d 182 [.ref 181, .int x1, .int x2] (shF L, f, g) R := by
  obtain ⟨d, rfl⟩ : ∃ e, d = e + 1 := ⟨d - 1, by omega⟩
  refine go_X11_made rfl ?_
  conv => whnf
  have hn := hM.1
  refine ct_mIsWork (by omega) hM.2.2.1 hn (fun j hj e => ?_) (fun q => ?_)
  · subst e
    have hcl : (nI j).toNatClampNeg = j := nI_clamp (by omega)
    conv => whnf
    (refine ⟨fun z9 => ?_, fun z9 => ?_⟩ <;> first | ((have c9 : (1 : Int32) = 0 := by with_reducible exact z9); exact absurd c9 (by decide)) | exact absurd (rfl : (0 : Int32) = 0) (by with_reducible exact z9) | exact absurd True.intro (by with_reducible exact z9) | exact False.elim (by with_reducible exact z9) | (conv => whnf))
    refine ct_i_0_1 (by omega) (fun p => ?_) (fun p => ?_)
    · conv => whnf
      (refine ⟨fun z9 => ?_, fun z9 => ?_⟩ <;> first | ((have c9 : (1 : Int32) = 0 := by with_reducible exact z9); exact absurd c9 (by decide)) | exact absurd (rfl : (0 : Int32) = 0) (by with_reducible exact z9) | exact absurd True.intro (by with_reducible exact z9) | exact False.elim (by with_reducible exact z9) | (conv => whnf))
      refine smf_refresh (n := n) (c := c) (v := v) (by omega) hM hvb hv hY (fun f1 r1 r2 r3 => ?_)
      conv => whnf
      refine ⟨fun z => ?_, fun z => ?_⟩
      · conv => whnf
        refine ⟨fun y => ?_, fun y => ?_⟩
        · conv => whnf
          refine ⟨vp_in_nI (by omega) (by decide), ?_⟩
          conv => whnf
          (try simp only [hcl])
          exact H _ _ (Or.inr ⟨j, hj, rfl, p, r1, r2, r3, by unfold ans3; rw [if_pos z, if_neg y]⟩)
        · conv => whnf
          refine ⟨vp_in_nI (by omega) (by decide), ?_⟩
          conv => whnf
          (try simp only [hcl])
          exact H _ _ (Or.inr ⟨j, hj, rfl, p, r1, r2, r3, by unfold ans3; rw [if_pos z, if_pos y]⟩)
      · conv => whnf
        exact H _ _ (Or.inr ⟨j, hj, rfl, p, r1, r2, r3, by unfold ans3; rw [if_neg z]⟩)
    · conv => whnf
      (refine ⟨fun z9 => ?_, fun z9 => ?_⟩ <;> first | ((have c9 : (1 : Int32) = 0 := by with_reducible exact z9); exact absurd c9 (by decide)) | exact absurd (rfl : (0 : Int32) = 0) (by with_reducible exact z9) | exact absurd True.intro (by with_reducible exact z9) | exact False.elim (by with_reducible exact z9) | (conv => whnf))
      exact H _ _ (Or.inl ⟨fun hh => p hh.2, rfl, rfl⟩)
  · conv => whnf
    (refine ⟨fun z9 => ?_, fun z9 => ?_⟩ <;> first | ((have c9 : (1 : Int32) = 0 := by with_reducible exact z9); exact absurd c9 (by decide)) | exact absurd (rfl : (0 : Int32) = 0) (by with_reducible exact z9) | exact absurd True.intro (by with_reducible exact z9) | exact False.elim (by with_reducible exact z9) | (conv => whnf))
    exact H _ _ (Or.inl ⟨fun hh => nhasw q hh.1, rfl, rfl⟩)
set_option maxRecDepth 100000 in
set_option maxHeartbeats 4000000 in
theorem sf_quarrel {d L : Nat} {f : Nat → Nat → Int32} {g : Nat → Nat → Int64} {n c v : Nat} {R : Option Value → mH → Prop} (hd : 6 ≤ d) (hX : XI f) (hK : YK f n c v) (H : ∀ r f1, SX_quarrel n c v f f1 r → R (some (.int r)) (shF L, f1, g)) : Run mtab d 115 [.ref 5] (shF L, f, g) R := by
  obtain ⟨d, rfl⟩ : ∃ e, d = e + 1 := ⟨d - 1, by omega⟩
  refine go_X10_quarrel rfl ?_
  conv => whnf
  obtain ⟨hn, hnb, hvb, hv, hE, cy, hA0⟩ := hK
  refine sf_reckon (n := n) (c := c) (v := v) (by omega) hX hn hnb hvb hv hE cy hA0 (fun f1 r1 => ?_)
  conv => whnf
  refine ct_bit (by omega) (fun z => ?_) (fun z => ?_)
  · conv => whnf
    exact H _ _ ⟨r1, by rw [if_neg z]⟩
  · conv => whnf
    exact H _ _ ⟨r1, by rw [if_pos z]⟩
set_option maxRecDepth 100000 in
set_option maxHeartbeats 4000000 in
theorem smf_quarrel {d L : Nat} {f : Nat → Nat → Int32} {g : Nat → Nat → Int64} {n c v : Nat} {R : Option Value → mH → Prop} (hd : 6 ≤ d) (hM : CM f n c) (hvb : f 181 48 = nI v) (hv : v ≤ 60) (hY : ¬ f 181 29 = 0 → YC f n c v) (H : ∀ r f1, SM_quarrel n c v f f1 r → R (some (.int r)) (shF L, f1, g)) : Run mtab d 183 [.ref 181] (shF L, f, g) R := by
  obtain ⟨d, rfl⟩ : ∃ e, d = e + 1 := ⟨d - 1, by omega⟩
  refine go_X11_quarrel rfl ?_
  conv => whnf
  have hn := hM.1
  refine smf_refresh (n := n) (c := c) (v := v) (by omega) hM hvb hv hY (fun f1 r1 r2 r3 => ?_)
  conv => whnf
  refine ⟨fun z => ?_, fun z => ?_⟩
  · conv => whnf
    exact H _ _ ⟨r1, r2, r3, by rw [if_pos z]⟩
  · conv => whnf
    exact H _ _ ⟨r1, r2, r3, by rw [if_neg z]⟩
theorem CM_f {f f' : Nat → Nat → Int32} {n c : Nat} (h : ∀ a i, 181 ≤ a → f' a i = f a i) (hC : CM f n c) : CM f' n c := CM_q (fun a i z => h a i (by omega)) (h 181 0 (by omega)) (h 181 16 (by omega)) hC
theorem YC_f {f f2 : Nat → Nat → Int32} {n c v : Nat} (h : ∀ a i, 181 ≤ a → f2 a i = f a i) (y : YC f n c v) : YC f2 n c v := YC_k (fun a i z => h a i (by omega)) (h 181 21 (by omega)) (h 181 24 (by omega)) y
theorem kp_rkY {f f1 : Nat → Nat → Int32} {n c v : Nat} (r : rkY f f1 n c v) : kp [0] f f1 := fun a i h => r.2.1 a i (fun e => by subst e; exact absurd (show true = false from h) (by decide)) (fun e => by subst e; exact absurd (show true = false from h) (by decide)) (fun e => by obtain ⟨e1, e2⟩ := e; subst e1; subst e2; exact absurd h (by decide)) (fun e => by obtain ⟨e1, e2⟩ := e; subst e1; subst e2; exact absurd h (by decide)) (fun e => by subst e; exact absurd (show true = false from h) (by decide)) (fun e => by subst e; exact absurd (show true = false from h) (by decide)) (fun e => by subst e; exact absurd (show true = false from h) (by decide))
theorem XI_rkY {f f1 : Nat → Nat → Int32} {n c v : Nat} (hX : XI f) (r : rkY f f1 n c v) : XI f1 := fun a i => by
  obtain ⟨_, fr, ⟨m, _, hm, e11, h136, _⟩, q⟩ := r
  have h9 : inr 0 20 (f1 129 9) := by
    rcases q with ⟨e, _⟩ | ⟨e, _⟩
    · rw [e]
      exact ⟨by decide, by decide⟩
    · rw [e]
      exact ⟨by decide, by decide⟩
  by_cases z1 : a = 127
  · subst z1
    exact True.intro
  · by_cases z2 : a = 128
    · subst z2
      exact True.intro
    · by_cases z3 : a = 129 ∧ i = 9
      · obtain ⟨y1, y2⟩ := z3
        subst y1
        subst y2
        exact h9
      · by_cases z4 : a = 129 ∧ i = 11
        · obtain ⟨y1, y2⟩ := z4
          subst y1
          subst y2
          show inr 0 20 _
          rw [e11]
          exact inr_n (m := 20) (by omega) rfl (by decide)
        · by_cases z5 : a = 134
          · subst z5
            exact True.intro
          · by_cases z6 : a = 135
            · subst z6
              exact True.intro
            · by_cases z7 : a = 136
              · subst z7
                exact h136 i
              · rw [fr a i z1 z2 z3 z4 z5 z6 z7]
                exact hX a i
theorem Pc_PM {f f2 : Nat → Nat → Int32} {c v k : Nat} (hC : RC c f) (hV : RV v f) (h : ∀ a i, 196 ≤ a → a ≤ 199 → f2 a i = f a i) (h2 : ∀ i, f2 218 i = f 218 i) (hk : k < c) : Pc f v k ↔ PMc f2 v k := by
  obtain ⟨a1, a2, a3, a4, _⟩ := hC.2.2.2 k hk
  unfold Pc PMc
  rw [smp_kp h2, smp_kp h2, h 199 k (by omega) (by omega), h 196 k (by omega) (by omega), h 197 k (by omega) (by omega), a1, a2, a4, (st_eq hV 9999 (f 196 k) v (Nat.le_refl _)).1, (st_eq hV 9999 (f 197 k) v (Nat.le_refl _)).1]
theorem SC_SM {f f2 : Nat → Nat → Int32} {c v : Nat} (hC : RC c f) (hV : RV v f) (h : ∀ a i, 196 ≤ a → a ≤ 199 → f2 a i = f a i) (h2 : ∀ i, f2 218 i = f 218 i) : SC f v c = SMc f2 v c := by
  funext X
  refine propext ⟨fun z k hk hp => ?_, fun z k hk hp => ?_⟩
  · obtain ⟨a1, a2, a3, a4, _⟩ := hC.2.2.2 k hk
    have := z k hk ((Pc_PM hC hV h h2 hk).mpr hp)
    rw [h 196 k (by omega) (by omega), h 197 k (by omega) (by omega), h 198 k (by omega) (by omega), ← a1, ← a2, ← a3]
    exact this
  · obtain ⟨a1, a2, a3, a4, _⟩ := hC.2.2.2 k hk
    have := z k hk ((Pc_PM hC hV h h2 hk).mp hp)
    rw [h 196 k (by omega) (by omega), h 197 k (by omega) (by omega), h 198 k (by omega) (by omega), ← a1, ← a2, ← a3] at this
    exact this
theorem NC_NM {f f2 : Nat → Nat → Int32} {c v : Nat} (hC : RC c f) (hV : RV v f) (h : ∀ a i, 196 ≤ a → a ≤ 199 → f2 a i = f a i) (h2 : ∀ i, f2 218 i = f 218 i) : NC f v c = NMc f2 v c := by
  funext X
  refine propext ⟨fun z k hk hp => ?_, fun z k hk hp => ?_⟩
  · obtain ⟨a1, a2, a3, a4, _⟩ := hC.2.2.2 k hk
    have := z k hk ((Pc_PM hC hV h h2 hk).mpr hp)
    rw [h 196 k (by omega) (by omega), h 197 k (by omega) (by omega), h 198 k (by omega) (by omega), ← a1, ← a2, ← a3]
    exact this
  · obtain ⟨a1, a2, a3, a4, _⟩ := hC.2.2.2 k hk
    have := z k hk ((Pc_PM hC hV h h2 hk).mp hp)
    rw [h 196 k (by omega) (by omega), h 197 k (by omega) (by omega), h 198 k (by omega) (by omega), ← a1, ← a2, ← a3] at this
    exact this
/-- both sides' years are the same -/
theorem years_eq {f f1 f2 : Nat → Nat → Int32} {n c v : Nat} (hW : RW n f) (hC : RC c f) (hV : RV v f) (r1 : rkY f f1 n c v) (o : o6 f1 f2) (y : YC f2 n c v) : f1 129 9 = f2 181 24 ∧ ∀ w, w < n → f1 134 w = f2 200 w ∧ f1 135 w = f2 201 w := by
  have fr : ∀ a i, 182 ≤ a → ¬ a = 200 → ¬ a = 201 → f2 a i = f a i := fun a i h1 h2 h3 => (o a i h2 h3 (by omega) (by omega) (by omega) (by omega)).trans (r1.2.1 a i (by omega) (by omega) (by omega) (by omega) (by omega) (by omega) (by omega))
  have eS := SC_SM (f2 := f2) hC hV (fun a i h1 h2 => fr a i (by omega) (by omega) (by omega)) (fun i => fr 218 i (by omega) (by omega) (by omega))
  have eN := NC_NM (f2 := f2) hC hV (fun a i h1 h2 => fr a i (by omega) (by omega) (by omega)) (fun i => fr 218 i (by omega) (by omega) (by omega))
  have t11 : ∀ w, w < n → f 11 w = f2 187 w := fun w hw => ((hW.2.2.2.1 w hw).2.2.2.2.1).trans (fr 187 w (by omega) (by omega) (by omega)).symm
  have t12 : ∀ w, w < n → f 12 w = f2 188 w := fun w hw => ((hW.2.2.2.1 w hw).2.2.2.2.2.1).trans (fr 188 w (by omega) (by omega) (by omega)).symm
  have y1 : Yh f 11 n = Yh f2 187 n := Yh_eq t11
  have y2 : Yh f 12 n = Yh f2 188 n := Yh_eq t12
  have y3 : Nh f 12 n = Nh f2 188 n := Nh_eq t12
  have fe : FEa (SC f v c) f 11 12 n ↔ FEa (SMc f2 v c) f2 187 188 n := by
    unfold FEa
    rw [eS, y1, y2]
  obtain ⟨_, _, _, q1⟩ := r1
  obtain ⟨_, q2⟩ := y
  rcases q1 with ⟨a1, a2, a3⟩ | ⟨a1, a2, a3, a4, a5⟩
  · rcases q2 with ⟨b1, b2, b3⟩ | ⟨b1, b2, b3, b4, b5⟩
    · refine ⟨a1.trans b1.symm, fun w hw => ?_⟩
      rw [(a3 w hw).1, (a3 w hw).2, (b3 w hw).1, (b3 w hw).2]
      exact ⟨t11 w hw, t12 w hw⟩
    · exact absurd (fe.mpr b2) a2
  · rcases q2 with ⟨b1, b2, b3⟩ | ⟨b1, b2, b3, b4, b5⟩
    · exact absurd (fe.mp a2) b2
    · refine ⟨a1.trans b1.symm, fun w hw => ⟨?_, ?_⟩⟩
      · rw [eS, y1] at a3
        have e := LS_u (fun Z => Iff.rfl) a3 b3 w
        rw [Yh_t hw, Yh_t hw] at e
        exact Int32.toInt_inj.mp e
      · rw [eN, y3] at a4
        have e := LS_u (fun Z => Iff.rfl) a4 b4 w
        rw [Nh_t hw, Nh_t hw] at e
        exact Int32.toInt_inj.mp (by omega)
theorem YK_of {f : Nat → Nat → Int32} {n c v : Nat} (hW : RW n f) (hC : RC c f) (hV : RV v f) (hR : RY n c v f) : YK f n c v := by
  obtain ⟨⟨m1, m2, m3, m4, m5, m6⟩, h137, _⟩ := hR
  refine ⟨hW.1, hW.2.1, hV.2.1, hV.1, ⟨m2, hC.2.1, fun k hk => ?_⟩, fun j hj => ?_, h137⟩
  · obtain ⟨a1, a2, a3, _⟩ := hC.2.2.2 k hk
    rw [a1, a2, a3]
    exact m5 k hk
  · rw [(hW.2.2.2.1 j hj).2.2.2.2.1, (hW.2.2.2.1 j hj).2.2.2.2.2.1]
    exact m6 j hj
theorem RY_r {f f1 : Nat → Nat → Int32} {n c v : Nat} (r : rkY f f1 n c v) (hR : RY n c v f) : RY n c v f1 := by
  have fr : ∀ a i, 137 ≤ a → f1 a i = f a i := fun a i h => r.2.1 a i (by omega) (by omega) (by omega) (by omega) (by omega) (by omega) (by omega)
  obtain ⟨a, b, e⟩ := hR
  exact ⟨CM_f (fun a i h => fr a i (by omega)) a, fun k => (fr 137 k (by omega)).trans (b k), fun h => by
    rw [fr 181 29 (by omega)] at h
    exact YC_f (fun a i h => fr a i (by omega)) (e h)⟩
theorem RY_m {f f1 : Nat → Nat → Int32} {n c v : Nat} (o : o6 f f1) (y : YC f1 n c v) (hR : RY n c v f) : RY n c v f1 := ⟨CM_o o hR.1, fun k => (o 137 k (by omega) (by omega) (by omega) (by omega) (by omega) (by omega)).trans (hR.2.1 k), fun _ => y⟩
theorem fin_made {f f1 f2 : Nat → Nat → Int32} {n c v : Nat} {x1 x2 v1 v2 : Int32} (hX : XI f) (hW : RW n f) (hC : RC c f) (hV : RV v f) (hR : RY n c v f) (s1 : SX_made n c v f f1 x1 x2 v1) (s2 : SM_made n c v f1 f2 x1 x2 v2) : XI f2 ∧ RY n c v f2 ∧ v1 = v2 := by
  rcases s1 with ⟨q1, rfl, rfl⟩ | ⟨w, hw, e1, p1, r1, rfl⟩
  · rcases s2 with ⟨q2, rfl, rfl⟩ | ⟨w, hw, e2, p2, _⟩
    · exact ⟨hX, hR, rfl⟩
    · exact absurd ⟨⟨w, hw, e2⟩, p2⟩ q1
  · rcases s2 with ⟨q2, _⟩ | ⟨u, hu, e2, p2, o, _, y, rfl⟩
    · exact absurd ⟨⟨w, hw, e1⟩, p1⟩ q2
    · have hn := hW.1
      have est : w = u := (nI_eq (by omega) (by omega)).mp (e1.symm.trans e2)
      subst est
      obtain ⟨a, b⟩ := years_eq hW hC hV r1 o y
      refine ⟨XI_o6 (XI_rkY hX r1) o, RY_m o y (RY_r r1 hR), ?_⟩
      rw [a, (b w hw).1, (b w hw).2]
theorem fin_quarrel {f f1 f2 : Nat → Nat → Int32} {n c v : Nat} {v1 v2 : Int32} (hX : XI f) (hW : RW n f) (hC : RC c f) (hV : RV v f) (hR : RY n c v f) (s1 : SX_quarrel n c v f f1 v1) (s2 : SM_quarrel n c v f1 f2 v2) : XI f2 ∧ RY n c v f2 ∧ v1 = v2 := by
  obtain ⟨r1, rfl⟩ := s1
  obtain ⟨o, _, y, rfl⟩ := s2
  obtain ⟨a, b⟩ := years_eq hW hC hV r1 o y
  refine ⟨XI_o6 (XI_rkY hX r1) o, RY_m o y (RY_r r1 hR), ?_⟩
  rw [a]
theorem kx_made {f f1 : Nat → Nat → Int32} {n c v : Nat} {x1 x2 r : Int32} (s : SX_made n c v f f1 x1 x2 r) : kp [0] f f1 := by
  rcases s with ⟨_, _, rfl⟩ | ⟨w, _, _, _, y, _⟩
  · exact kp_refl _ _
  · exact kp_rkY y
theorem XI_made {f f1 : Nat → Nat → Int32} {n c v : Nat} {x1 x2 r : Int32} (hX : XI f) (s : SX_made n c v f f1 x1 x2 r) : XI f1 := by
  rcases s with ⟨_, _, rfl⟩ | ⟨w, _, _, _, y, _⟩
  · exact hX
  · exact XI_rkY hX y
theorem km_made {f f1 : Nat → Nat → Int32} {n c v : Nat} {x1 x2 r : Int32} (s : SM_made n c v f f1 x1 x2 r) : kp [10, 22, 23] f f1 := by
  rcases s with ⟨_, _, rfl⟩ | ⟨w, _, _, _, o, _⟩
  · exact kp_refl _ _
  · exact kp_o6 o
theorem km2_made {f f1 : Nat → Nat → Int32} {n c v : Nat} {x1 x2 r : Int32} (m : MY n c v f) (s : SM_made n c v f f1 x1 x2 r) : MY n c v f1 := by
  rcases s with ⟨_, _, rfl⟩ | ⟨w, _, _, _, o, _, y, _⟩
  · exact m
  · exact MY_o6 o m y
theorem kx_quarrel {f f1 : Nat → Nat → Int32} {n c v : Nat} {r : Int32} (s : SX_quarrel n c v f f1 r) : kp [0] f f1 := kp_rkY s.1
theorem XI_quarrel {f f1 : Nat → Nat → Int32} {n c v : Nat} {r : Int32} (hX : XI f) (s : SX_quarrel n c v f f1 r) : XI f1 := XI_rkY hX s.1
theorem km_quarrel {f f1 : Nat → Nat → Int32} {n c v : Nat} {r : Int32} (s : SM_quarrel n c v f f1 r) : kp [10, 22, 23] f f1 := kp_o6 s.1
theorem km2_quarrel {f f1 : Nat → Nat → Int32} {n c v : Nat} {r : Int32} (m : MY n c v f) (s : SM_quarrel n c v f f1 r) : MY n c v f1 := MY_o6 s.1 m s.2.2.1
set_option maxRecDepth 100000 in
set_option maxHeartbeats 4000000 in
theorem sf_asideAt {d L : Nat} {f : Nat → Nat → Int32} {g : Nat → Nat → Int64} {j : Nat} {R : Option Value → mH → Prop} (hd : 1 ≤ d) (hX : XI f) (hj : j < 3) (H : R (some (.int (f 136 (f 138 (nI j).toNatClampNeg).toNatClampNeg))) (shF L, f, g)) : Run mtab d 84 [.ref 129, .int (nI j)] (shF L, f, g) R := by
  obtain ⟨d, rfl⟩ : ∃ e, d = e + 1 := ⟨d - 1, by omega⟩
  refine go_X9_asideAt rfl ?_
  conv => whnf
  repeat' first
    | ((with_reducible refine ⟨vx_138 hX _, ?_⟩) <;> conv => whnf)
    | ((with_reducible refine ⟨vp_in_nI (by omega) (by decide), ?_⟩) <;> conv => whnf)
    | (refine ⟨Or.inl rfl, ?_⟩ <;> conv => whnf)
    | (refine ⟨Or.inr rfl, ?_⟩ <;> conv => whnf)
    | (refine ⟨Or.inl True.intro, ?_⟩ <;> conv => whnf)
    | (refine ⟨Or.inr True.intro, ?_⟩ <;> conv => whnf)
    | (refine ⟨fun c => ?_, fun c => ?_⟩ <;> first | ((have c9 : (1 : Int32) = 0 := by with_reducible exact c); exact absurd c9 (by decide)) | exact absurd (rfl : (0 : Int32) = 0) (by with_reducible exact c) | exact absurd True.intro (by with_reducible exact c) | exact False.elim (by with_reducible exact c) | (conv => whnf))
    | (refine ⟨by unfold vp_in; decide, ?_⟩ <;> conv => whnf)
    | fail
  all_goals exact H
def ixA (f : Nat → Nat → Int32) (i : Nat) : Nat := (f 136 (f 138 (nI i).toNatClampNeg).toNatClampNeg).toNatClampNeg
/-- the first ones chosen are put aside, or back -/
def pa (f : Nat → Nat → Int32) (w : Int32) : Nat → Nat → Nat → Int32
  | 0 => f
  | i + 1 => m_ui (pa f w i) 137 (ixA f i) w
theorem pa_o {f : Nat → Nat → Int32} {w : Int32} {a b : Nat} (h : ¬ a = 137) : ∀ i, pa f w i a b = f a b
  | 0 => rfl
  | i + 1 => (m_ui_o (fun e => h e.1)).trans (pa_o h i)
theorem pa_n {f : Nat → Nat → Int32} {w : Int32} {b : Nat} : ∀ i, (∀ j, j < i → ¬ ixA f j = b) → pa f w i 137 b = f 137 b
  | 0, _ => rfl
  | i + 1, h => (m_ui_o (fun e => h i (by omega) e.2.symm)).trans (pa_n i (fun j hj => h j (by omega)))
theorem pa_y {f : Nat → Nat → Int32} {w : Int32} {b : Nat} : ∀ i, (∃ j, j < i ∧ ixA f j = b) → pa f w i 137 b = w
  | 0, h => absurd h (fun ⟨j, hj, _⟩ => by omega)
  | i + 1, h => by
    show m_ui (pa f w i) 137 (ixA f i) w 137 b = w
    by_cases e : ixA f i = b
    · rw [e]
      exact m_ui_s
    · rw [m_ui_o (fun z => e z.2.symm)]
      obtain ⟨j, hj, ej⟩ := h
      refine pa_y i ⟨j, ?_, ej⟩
      by_cases z : j = i
      · rw [z] at ej
        exact absurd ej e
      · omega
theorem XI_pa {f : Nat → Nat → Int32} {w : Int32} (h : XI f) : ∀ i, XI (pa f w i)
  | 0 => h
  | i + 1 => XI_ui (XI_pa h i) True.intro
set_option maxRecDepth 100000 in
set_option maxHeartbeats 4000000 in
theorem pa_lp {d L n : Nat} {f : Nat → Nat → Int32} {g : Nat → Nat → Int64} {w : Int32} {R : Option Value → mH → Prop} (hd : 1 ≤ d) (hX : XI f) (hw : vp_nar .boolean w = w) (hm : n ≤ 3) (H : R none (shF L, pa f w n, g)) :
    ∀ (k i : Nat) (x : Int32), i + k = n → x = nI i → WPe pg_X9_putAside none (Run mtab d) R (m_drop pg_X9_putAside 2) [some (.ref 129), some (.int (nI n)), some (.int w), some (.int x)] [] (shF L, pa f w i, g)
  | 0, i, x, hi, hx => by
    have e : i = n := by omega
    subst hx
    subst e
    refine at_X9_putAside ?_
    conv => whnf
    refine ⟨fun c => ?_, fun c => absurd (nI_le (Nat.le_refl _) (by omega)) c⟩
    conv => whnf
    exact H
  | k + 1, i, x, hi, hx => by
    subst hx
    have e136 : ∀ b, pa f w i 136 b = f 136 b := fun b => pa_o (by omega) i
    have e138 : ∀ b, pa f w i 138 b = f 138 b := fun b => pa_o (by omega) i
    have hXi := XI_pa (w := w) hX i
    refine at_X9_putAside ?_
    conv => whnf
    refine ⟨fun c => absurd c (nI_ge (b := n) (by omega) (by omega)), fun c => ?_⟩
    conv => whnf
    refine sf_asideAt (by omega) hXi (by omega) ?_
    conv => whnf
    refine ⟨vpi (xi_136 hXi _) (by decide), ?_⟩
    conv => whnf
    simp only [e136, e138, hw]
    exact pa_lp hd hX hw hm H k (i + 1) _ (by omega) (nI_1 i)
set_option maxRecDepth 100000 in
set_option maxHeartbeats 4000000 in
theorem sf_putAside {d L : Nat} {f : Nat → Nat → Int32} {g : Nat → Nat → Int64} {n : Nat} {w : Int32} {R : Option Value → mH → Prop} (hd : 2 ≤ d) (hX : XI f) (hw : vp_nar .boolean w = w) (hm : n ≤ 3) (H : R none (shF L, pa f w n, g)) : Run mtab d 87 [.ref 129, .int (nI n), .int w] (shF L, f, g) R := by
  obtain ⟨d, rfl⟩ : ∃ e, d = e + 1 := ⟨d - 1, by omega⟩
  refine go_X9_putAside rfl ?_
  conv => whnf
  exact pa_lp (by omega) hX hw hm H n 0 _ (by omega) rfl
theorem fx_pa {f f2 : Nat → Nat → Int32} {n : Nat} (hZ : Z137 f) (k2 : fx 134 135 (pa f 1 n) f2) : fx 134 135 f (pa f2 0 n) := fun a i q => by
  have ix : ∀ j, ixA f2 j = ixA f j := fun j => by
    have e1 : ∀ b, f2 136 b = f 136 b := fun b => (k2 136 b (by omega)).trans (pa_o (by omega) n)
    have e2 : ∀ b, f2 138 b = f 138 b := fun b => (k2 138 b (by omega)).trans (pa_o (by omega) n)
    unfold ixA
    rw [e2, e1]
  by_cases e : a = 137
  · subst e
    by_cases h : ∃ j, j < n ∧ ixA f2 j = i
    · rw [pa_y n h]
      exact (hZ i).symm
    · rw [pa_n n (fun j hj z => h ⟨j, hj, z⟩), k2 137 i (by omega)]
      exact pa_n n (fun j hj z => h ⟨j, hj, (ix j).trans z⟩)
  · rw [pa_o e, k2 a i q]
    exact pa_o e n
/-- nothing but the lows and what is chosen has changed -/
def zf (f f' : Nat → Nat → Int32) : Prop := ∀ a i, ¬ a = 134 → ¬ a = 138 → f' a i = f a i
theorem zf_refl (f : Nat → Nat → Int32) : zf f f := fun _ _ _ _ => rfl
theorem zf_1 {f f1 f2 : Nat → Nat → Int32} (h : zf f f1) (k : fx 134 135 f1 f2) : zf f f2 := fun a i p q => (k a i (by omega)).trans (h a i p q)
theorem zf_2 {f f1 f2 : Nat → Nat → Int32} (h : zf f f1) (k : fx 138 139 f1 f2) : zf f f2 := fun a i p q => (k a i (by omega)).trans (h a i p q)
theorem zf_t {f f1 f2 : Nat → Nat → Int32} (h : zf f f1) (k : zf f1 f2) : zf f f2 := fun a i p q => (k a i p q).trans (h a i p q)
theorem zf_ui {f f1 : Nat → Nat → Int32} {j : Nat} {v : Int32} (h : zf f f1) : zf f (m_ui f1 138 j v) := fun a i p q => (m_ui_o (fun e => q e.1)).trans (h a i p q)
theorem zf_z {f f1 : Nat → Nat → Int32} (h : zf f f1) (z : Z137 f) : Z137 f1 := fun k => (h 137 k (by omega) (by omega)).trans (z k)
theorem zf_kp {f f1 : Nat → Nat → Int32} (h : zf f f1) : kp [0] f f1 := fun a i z => h a i (fun e => by subst e; exact absurd (show true = false from z) (by decide)) (fun e => by subst e; exact absurd (show true = false from z) (by decide))
set_option maxRecDepth 100000 in
set_option maxHeartbeats 4000000 in
theorem zx_isFree {d L : Nat} {f : Nat → Nat → Int32} {g : Nat → Nat → Int64} {n : Nat} {R : Option Value → mH → Prop} (hd : 3 ≤ d) (hX : XI f) (hm : n ≤ 3) (hZ : Z137 f) (H : ∀ v f' g', (v = 0 ∨ v = 1) → XI f' → fx 134 135 f f' → R (some (.int v)) (shF L, f', g')) : Run mtab d 86 [.ref 129, .int (nI n)] (shF L, f, g) R := by
  obtain ⟨d, rfl⟩ : ∃ e, d = e + 1 := ⟨d - 1, by omega⟩
  refine go_X9_isFreeWithout rfl ?_
  conv => whnf
  refine sf_putAside (by omega) hX rfl hm ?_
  conv => whnf
  refine sx_raiseLows (by omega) (XI_pa hX n) (fun v f2 g2 hv h2 k2 => ?_)
  conv => whnf
  refine sf_putAside (by omega) h2 rfl hm ?_
  conv => whnf
  exact ⟨hv, H _ _ _ hv (XI_pa h2 n) (fx_pa hZ k2)⟩
set_option maxRecDepth 100000 in
theorem zcn_in {d L n s : Nat} {f0 : Nat → Nat → Int32} {w : Int32} {R : Option Value → mH → Prop} (hn : n ≤ 20) (hs : s ≤ 3) (H : ∀ v f' g', (v = 0 ∨ v = 1) → XI f' → fx 138 139 f0 f' → R (some (.int v)) (shF L, f', g')) :
    ∀ (k j u : Nat) (x : Int32) (f : Nat → Nat → Int32) (g : Nat → Nat → Int64), j + 1 + k = s → x = nI (j + 1) → f 138 j = nI u → u + s ≤ n + j → XI f → fx 138 139 f0 f → WPe pg_X9_chooseNext none (Run mtab d) R (m_drop pg_X9_chooseNext 29) [some (.ref 129), some (.int (nI s)), some (.int w), some (.int x)] [] (shF L, f, g)
  | 0, j, u, x, f, g, hk, hx, hu, hb, hX, hF => by
    subst hx
    have e : s = j + 1 := by omega
    subst e
    refine at_X9_chooseNext ?_
    conv => whnf
    refine ⟨fun c => ?_, fun c => absurd (nI_le (Nat.le_refl _) (by omega)) c⟩
    conv => whnf
    exact ⟨Or.inr rfl, H _ _ _ (Or.inr rfl) hX hF⟩
  | k + 1, j, u, x, f, g, hk, hx, hu, hb, hX, hF => by
    subst hx
    refine at_X9_chooseNext ?_
    conv => whnf
    refine ⟨fun c => absurd c (nI_ge (b := s) (by omega) (by omega)), fun c => ?_⟩
    conv => whnf
    simp only [nI_pred]
    refine ⟨vp_in_nI (by omega) (by decide), ?_⟩
    conv => whnf
    refine ⟨vp_in_nI (by omega) (by decide), ?_⟩
    conv => whnf
    have e1 : f 138 (nI j).toNatClampNeg = nI u := by rw [nI_clamp (by omega), hu]
    have e2 : (nI (j + 1)).toNatClampNeg = j + 1 := nI_clamp (by omega)
    refine zcn_in hn hs H k (j + 1) (u + 1) _ _ g (by omega) (nI_1 (j + 1)) ?_ (by omega) (XI_ui hX ?_) (fx_ui (by decide) (by decide) hF)
    · rw [m_ui_ap, if_pos rfl, if_pos e2.symm, e1]
      exact nI_1 u
    · show inr 0 19 _
      rw [e1]
      exact inr_n1 (m := 19) (by omega) rfl (by decide)
set_option maxRecDepth 100000 in
theorem zcn_out {d L n s : Nat} {f0 : Nat → Nat → Int32} {R : Option Value → mH → Prop} (hn : n ≤ 20) (hs : s ≤ 3) (h0 : f0 129 11 = nI n) (H : ∀ v f' g', (v = 0 ∨ v = 1) → XI f' → fx 138 139 f0 f' → R (some (.int v)) (shF L, f', g')) :
    ∀ (t : Nat) (y : Int32) (sl : Option Value) (f : Nat → Nat → Int32) (g : Nat → Nat → Int64), t ≤ s → y = nI t + -1 → XI f → fx 138 139 f0 f → WPe pg_X9_chooseNext none (Run mtab d) R (m_drop pg_X9_chooseNext 4) [some (.ref 129), some (.int (nI s)), some (.int y), sl] [] (shF L, f, g)
  | 0, y, sl, f, g, ht, hy, hX, hF => by
    subst hy
    refine at_X9_chooseNext ?_
    conv => whnf
    refine ⟨fun c => ?_, fun c => absurd (by decide) c⟩
    conv => whnf
    exact ⟨Or.inl rfl, H _ _ _ (Or.inl rfl) hX hF⟩
  | t + 1, y, sl, f, g, ht, hy, hX, hF => by
    have e : nI (t + 1) + -1 = nI t := by rw [← Int32.sub_eq_add_neg, nI_pred]
    rw [e] at hy
    subst hy
    have hc : f 129 11 = nI n := (hF 129 11 (by omega)).trans h0
    obtain ⟨u, hu, eu⟩ := inr_nat (n := 19) rfl (xi_138 hX t)
    have e1 : f 138 (nI t).toNatClampNeg = nI u := by rw [nI_clamp (by omega), eu]
    refine at_X9_chooseNext ?_
    conv => whnf
    refine ⟨fun c => absurd c (nI_pos (by omega)), fun c => ?_⟩
    conv => whnf
    refine ⟨vp_in_nI (by omega) (by decide), ?_⟩
    conv => whnf
    simp only [hc, e1]
    refine ⟨fun c2 => ?_, fun c2 => ?_⟩
    · conv => whnf
      exact zcn_out hn hs h0 H t _ _ f g (by omega) rfl hX hF
    · have lt := cn_lt hn hs (by omega) hu c2
      conv => whnf
      refine ⟨vp_in_nI (by omega) (by decide), ?_⟩
      conv => whnf
      simp only [e1]
      refine ⟨vp_in_nI (by omega) (by decide), ?_⟩
      conv => whnf
      refine zcn_in hn hs H (s - (t + 1)) t (u + 1) _ _ g (by omega) (nI_1 t) ?_ (by omega) (XI_ui hX ?_) (fx_ui (by decide) (by decide) hF)
      · rw [m_ui_ap, if_pos rfl, if_pos (nI_clamp (by omega)).symm]
        exact nI_1 u
      · show inr 0 19 _
        exact inr_n1 (m := 19) (by omega) rfl (by decide)
set_option maxRecDepth 100000 in
set_option maxHeartbeats 4000000 in
theorem zx_chooseNext {d L : Nat} {f : Nat → Nat → Int32} {g : Nat → Nat → Int64} {s : Nat} {R : Option Value → mH → Prop} (hd : 1 ≤ d) (hX : XI f) (hs : s ≤ 3) (H : ∀ v f' g', (v = 0 ∨ v = 1) → XI f' → fx 138 139 f f' → R (some (.int v)) (shF L, f', g')) : Run mtab d 88 [.ref 129, .int (nI s)] (shF L, f, g) R := by
  obtain ⟨d, rfl⟩ : ∃ e, d = e + 1 := ⟨d - 1, by omega⟩
  refine go_X9_chooseNext rfl ?_
  conv => whnf
  obtain ⟨n, hm, hc⟩ := inr_nat (n := 20) rfl (xi_129 hX 11)
  exact zcn_out hm hs hc H s _ _ _ _ (Nat.le_refl s) (Int32.sub_eq_add_neg ..) hX (fx_refl _ _ _)
set_option maxRecDepth 100000 in
set_option maxHeartbeats 4000000 in
theorem zx_chA2_lp {d L : Nat} {f0 : Nat → Nat → Int32} {s : Nat} {R : Option Value → mH → Prop} (hd : 3 ≤ d) (hs : s ≤ 3) (hZ0 : Z137 f0) (H : ∀ v f' g', (v = 0 ∨ v = 1) → XI f' → zf f0 f' → R (some (.int v)) (shF L, f', g'))  :
    ∀ (k i : Nat) (x : Int32) (f : Nat → Nat → Int32) (g : Nat → Nat → Int64), i + k = 2000 → x = nI i → XI f → zf f0 f → WPe pg_X9_chooseAsides none (Run mtab d) R (m_drop pg_X9_chooseAsides 20) [some (.ref 129), some (.int (nI s)), some (.int x)] [] (shF L, f, g)
  | 0, i, x, f, g, he, hx, hX, hF => by
    have e : i = 2000 := by omega
    subst hx
    have hZ : Z137 f := zf_z hF hZ0
    subst e
    refine at_X9_chooseAsides ?_
    conv => whnf
    refine ⟨fun c => ?_, fun c => absurd (by decide) c⟩
    conv => whnf
    repeat' first
      | ((with_reducible refine ⟨vp_in_nI (by omega) (by decide), ?_⟩) <;> conv => whnf)
      | (refine ⟨Or.inl rfl, ?_⟩ <;> conv => whnf)
      | (refine ⟨Or.inr rfl, ?_⟩ <;> conv => whnf)
      | (refine ⟨Or.inl True.intro, ?_⟩ <;> conv => whnf)
      | (refine ⟨Or.inr True.intro, ?_⟩ <;> conv => whnf)
      | (refine ⟨fun c => ?_, fun c => ?_⟩ <;> first | ((have c9 : (1 : Int32) = 0 := by with_reducible exact c); exact absurd c9 (by decide)) | exact absurd (rfl : (0 : Int32) = 0) (by with_reducible exact c) | exact absurd True.intro (by with_reducible exact c) | exact False.elim (by with_reducible exact c) | (conv => whnf))
      | (refine ⟨by unfold vp_in; decide, ?_⟩ <;> conv => whnf)
      | fail
    all_goals first | exact ⟨Or.inl rfl, H _ _ _ (Or.inl rfl) (by assumption) (by assumption)⟩ | exact ⟨Or.inr rfl, H _ _ _ (Or.inr rfl) (by assumption) (by assumption)⟩ | exact H _ _ _ (Or.inl rfl) (by assumption) (by assumption) | exact H _ _ _ (Or.inr rfl) (by assumption) (by assumption)
  | k + 1, i, x, f, g, he, hx, hX, hF => by
    subst hx
    have hZ : Z137 f := zf_z hF hZ0
    refine at_X9_chooseAsides ?_
    conv => whnf
    refine ⟨fun c => absurd c (nI_ge (b := 2000) (by omega) (by omega)), fun c => ?_⟩
    conv => whnf
    repeat' first
      | exact zx_chA2_lp hd hs hZ0 H k (i + 1) _  _ _ (by omega) (nI_1 i) (by repeat' first | (with_reducible assumption) | (with_reducible refine XI_ui ?_ ?_) | (with_reducible refine XI_fil ?_ (fun _ => ?_)) | (with_reducible refine XI_cpy ?_ (fun _ _ => ?_)) | exact True.intro | ((show inr _ _ _); first | (with_reducible assumption) | (unfold inr; decide)) | fail) (by first | (with_reducible assumption) | (with_reducible exact zf_ui hF))
      | ((with_reducible refine ⟨vp_in_nI (by omega) (by decide), ?_⟩) <;> conv => whnf)
      | (refine ⟨Or.inl rfl, ?_⟩ <;> conv => whnf)
      | (refine ⟨Or.inr rfl, ?_⟩ <;> conv => whnf)
      | (refine ⟨Or.inl True.intro, ?_⟩ <;> conv => whnf)
      | (refine ⟨Or.inr True.intro, ?_⟩ <;> conv => whnf)
      | (refine ⟨fun c => ?_, fun c => ?_⟩ <;> first | ((have c9 : (1 : Int32) = 0 := by with_reducible exact c); exact absurd c9 (by decide)) | exact absurd (rfl : (0 : Int32) = 0) (by with_reducible exact c) | exact absurd True.intro (by with_reducible exact c) | exact False.elim (by with_reducible exact c) | (conv => whnf))
      | (refine zx_isFree (by omega) hX hs hZ (fun v f1 g1 hv h1 k1 => ?_) <;> (have k1' := zf_1 hF k1) <;> conv => whnf)
      | (refine zx_chooseNext (by omega) h1 hs (fun v2 f2 g2 hv2 h2 k2 => ?_) <;> (have k2' := zf_2 k1' k2) <;> conv => whnf)
      | (refine ⟨by unfold vp_in; decide, ?_⟩ <;> conv => whnf)
      | fail
    all_goals first | exact ⟨Or.inl rfl, H _ _ _ (Or.inl rfl) (by assumption) (by assumption)⟩ | exact ⟨Or.inr rfl, H _ _ _ (Or.inr rfl) (by assumption) (by assumption)⟩ | exact H _ _ _ (Or.inl rfl) (by assumption) (by assumption) | exact H _ _ _ (Or.inr rfl) (by assumption) (by assumption)
set_option maxRecDepth 100000 in
set_option maxHeartbeats 4000000 in
theorem zx_chA1_lp {d L n : Nat} {f0 : Nat → Nat → Int32}  {R : Option Value → mH → Prop} (hd : 3 ≤ d) (hm : n ≤ 3) (hZ0 : Z137 f0) (H : ∀ v f' g', (v = 0 ∨ v = 1) → XI f' → zf f0 f' → R (some (.int v)) (shF L, f', g'))  :
    ∀ (k i : Nat) (x : Int32) (f : Nat → Nat → Int32) (g : Nat → Nat → Int64), i + k = n → x = nI i → XI f → zf f0 f → WPe pg_X9_chooseAsides none (Run mtab d) R (m_drop pg_X9_chooseAsides 8) [some (.ref 129), some (.int (nI n)), some (.int x)] [] (shF L, f, g)
  | 0, i, x, f, g, he, hx, hX, hF => by
    have e : i = n := by omega
    subst hx
    subst e
    refine at_X9_chooseAsides ?_
    conv => whnf
    refine ⟨fun c => ?_, fun c => absurd (nI_le (Nat.le_refl _) (by omega)) c⟩
    conv => whnf
    repeat' first
      | exact zx_chA2_lp (by omega) hm hZ0 H 2000 0 _ _ _ (by omega) rfl hX hF
      | ((with_reducible refine ⟨vp_in_nI (by omega) (by decide), ?_⟩) <;> conv => whnf)
      | (refine ⟨Or.inl rfl, ?_⟩ <;> conv => whnf)
      | (refine ⟨Or.inr rfl, ?_⟩ <;> conv => whnf)
      | (refine ⟨Or.inl True.intro, ?_⟩ <;> conv => whnf)
      | (refine ⟨Or.inr True.intro, ?_⟩ <;> conv => whnf)
      | (refine ⟨fun c => ?_, fun c => ?_⟩ <;> first | ((have c9 : (1 : Int32) = 0 := by with_reducible exact c); exact absurd c9 (by decide)) | exact absurd (rfl : (0 : Int32) = 0) (by with_reducible exact c) | exact absurd True.intro (by with_reducible exact c) | exact False.elim (by with_reducible exact c) | (conv => whnf))
      | (refine ⟨by unfold vp_in; decide, ?_⟩ <;> conv => whnf)
      | fail
    all_goals first | exact ⟨Or.inl rfl, H _ _ _ (Or.inl rfl) (by assumption) (by assumption)⟩ | exact ⟨Or.inr rfl, H _ _ _ (Or.inr rfl) (by assumption) (by assumption)⟩ | exact H _ _ _ (Or.inl rfl) (by assumption) (by assumption) | exact H _ _ _ (Or.inr rfl) (by assumption) (by assumption)
  | k + 1, i, x, f, g, he, hx, hX, hF => by
    subst hx
    refine at_X9_chooseAsides ?_
    conv => whnf
    refine ⟨fun c => absurd c (nI_ge (b := n) (by omega) (by omega)), fun c => ?_⟩
    conv => whnf
    repeat' first
      | exact zx_chA1_lp hd hm hZ0 H k (i + 1) _  _ _ (by omega) (nI_1 i) (by repeat' first | (with_reducible assumption) | (with_reducible refine XI_ui ?_ ?_) | (with_reducible refine XI_fil ?_ (fun _ => ?_)) | (with_reducible refine XI_cpy ?_ (fun _ _ => ?_)) | exact True.intro | ((show inr _ _ _); first | (with_reducible assumption) | ((with_reducible refine inr_n1 (m := 19) ?_ ?_ ?_) <;> first | omega | rfl | decide) | ((with_reducible refine inr_n (m := 19) ?_ ?_ ?_) <;> first | omega | rfl | decide) | (unfold inr; decide)) | fail) (by first | (with_reducible assumption) | (with_reducible exact zf_ui hF))
      | ((with_reducible refine ⟨vp_in_nI (by omega) (by decide), ?_⟩) <;> conv => whnf)
      | (refine ⟨Or.inl rfl, ?_⟩ <;> conv => whnf)
      | (refine ⟨Or.inr rfl, ?_⟩ <;> conv => whnf)
      | (refine ⟨Or.inl True.intro, ?_⟩ <;> conv => whnf)
      | (refine ⟨Or.inr True.intro, ?_⟩ <;> conv => whnf)
      | (refine ⟨fun c => ?_, fun c => ?_⟩ <;> first | ((have c9 : (1 : Int32) = 0 := by with_reducible exact c); exact absurd c9 (by decide)) | exact absurd (rfl : (0 : Int32) = 0) (by with_reducible exact c) | exact absurd True.intro (by with_reducible exact c) | exact False.elim (by with_reducible exact c) | (conv => whnf))
      | (refine ⟨by unfold vp_in; decide, ?_⟩ <;> conv => whnf)
      | fail
    all_goals first | exact ⟨Or.inl rfl, H _ _ _ (Or.inl rfl) (by assumption) (by assumption)⟩ | exact ⟨Or.inr rfl, H _ _ _ (Or.inr rfl) (by assumption) (by assumption)⟩ | exact H _ _ _ (Or.inl rfl) (by assumption) (by assumption) | exact H _ _ _ (Or.inr rfl) (by assumption) (by assumption)
set_option maxRecDepth 100000 in
set_option maxHeartbeats 4000000 in
theorem zx_chooseAsides {d L : Nat} {f : Nat → Nat → Int32} {g : Nat → Nat → Int64} {s : Nat} {w : Int32} {R : Option Value → mH → Prop} (hd : 4 ≤ d) (hX : XI f) (hw : w = nI s) (hs : s ≤ 3) (hZ : Z137 f) (H : ∀ v f' g', (v = 0 ∨ v = 1) → XI f' → zf f f' → R (some (.int v)) (shF L, f', g')) : Run mtab d 85 [.ref 129, .int w] (shF L, f, g) R := by
  obtain ⟨d, rfl⟩ : ∃ e, d = e + 1 := ⟨d - 1, by omega⟩
  refine go_X9_chooseAsides rfl ?_
  conv => whnf
  subst hw
  repeat' first
    | exact zx_chA1_lp (by omega) hs hZ H s 0 _ _ _ (by omega) rfl hX (zf_refl _)
    | ((with_reducible refine ⟨vp_in_nI (by omega) (by decide), ?_⟩) <;> conv => whnf)
    | (refine ⟨Or.inl rfl, ?_⟩ <;> conv => whnf)
    | (refine ⟨Or.inr rfl, ?_⟩ <;> conv => whnf)
    | (refine ⟨Or.inl True.intro, ?_⟩ <;> conv => whnf)
    | (refine ⟨Or.inr True.intro, ?_⟩ <;> conv => whnf)
    | (refine ⟨fun c => ?_, fun c => ?_⟩ <;> first | ((have c9 : (1 : Int32) = 0 := by with_reducible exact c); exact absurd c9 (by decide)) | exact absurd (rfl : (0 : Int32) = 0) (by with_reducible exact c) | exact absurd True.intro (by with_reducible exact c) | exact False.elim (by with_reducible exact c) | (conv => whnf))
    | (refine ⟨by unfold vp_in; decide, ?_⟩ <;> conv => whnf)
    | fail
  all_goals exact H _ _ _ (Or.inl rfl) hX (zf_refl _)
set_option maxRecDepth 100000 in
set_option maxHeartbeats 4000000 in
theorem zx_fA_lp {d L : Nat} {f0 : Nat → Nat → Int32}  {R : Option Value → mH → Prop} (hd : 4 ≤ d) (hZ0 : Z137 f0) (H : ∀ v f' g', (v = -4 ∨ ∃ s, s ≤ 3 ∧ v = nI s) → XI f' → zf f0 f' → R (some (.int v)) (shF L, f', g'))  :
    ∀ (k i : Nat) (x : Int32) (f : Nat → Nat → Int32) (g : Nat → Nat → Int64), i + k = 4 → x = nI i → XI f → zf f0 f → WPe pg_X9_findAsides none (Run mtab d) R (m_drop pg_X9_findAsides 7) [some (.ref 129), some (.int x)] [] (shF L, f, g)
  | 0, i, x, f, g, he, hx, hX, hF => by
    have e : i = 4 := by omega
    subst hx
    have hZ : Z137 f := zf_z hF hZ0
    subst e
    refine at_X9_findAsides ?_
    conv => whnf
    refine ⟨fun c => ?_, fun c => absurd (by decide) c⟩
    conv => whnf
    repeat' first
      | ((with_reducible refine ⟨vp_in_nI (by omega) (by decide), ?_⟩) <;> conv => whnf)
      | (refine ⟨Or.inl rfl, ?_⟩ <;> conv => whnf)
      | (refine ⟨Or.inr rfl, ?_⟩ <;> conv => whnf)
      | (refine ⟨Or.inl True.intro, ?_⟩ <;> conv => whnf)
      | (refine ⟨Or.inr True.intro, ?_⟩ <;> conv => whnf)
      | (refine ⟨fun c => ?_, fun c => ?_⟩ <;> first | ((have c9 : (1 : Int32) = 0 := by with_reducible exact c); exact absurd c9 (by decide)) | exact absurd (rfl : (0 : Int32) = 0) (by with_reducible exact c) | exact absurd True.intro (by with_reducible exact c) | exact False.elim (by with_reducible exact c) | (conv => whnf))
      | (refine ⟨by unfold vp_in; decide, ?_⟩ <;> conv => whnf)
      | fail
    all_goals first | exact H _ _ _ (Or.inl rfl) hX hF | exact H _ _ _ (Or.inr ⟨_, by omega, rfl⟩) h1 k1'
  | k + 1, i, x, f, g, he, hx, hX, hF => by
    subst hx
    have hZ : Z137 f := zf_z hF hZ0
    refine at_X9_findAsides ?_
    conv => whnf
    refine ⟨fun c => absurd c (nI_nlt (a := 3) (b := i) (by omega) (by omega)), fun c => ?_⟩
    conv => whnf
    repeat' first
      | exact zx_fA_lp hd hZ0 H k (i + 1) _  _ _ (by omega) (nI_1 i) (by repeat' first | (with_reducible assumption) | (with_reducible refine XI_ui ?_ ?_) | (with_reducible refine XI_fil ?_ (fun _ => ?_)) | (with_reducible refine XI_cpy ?_ (fun _ _ => ?_)) | exact True.intro | ((show inr _ _ _); first | (with_reducible assumption) | (unfold inr; decide)) | fail) (by first | (with_reducible assumption) | (with_reducible exact zf_ui hF))
      | ((with_reducible refine ⟨vp_in_nI (by omega) (by decide), ?_⟩) <;> conv => whnf)
      | (refine ⟨Or.inl rfl, ?_⟩ <;> conv => whnf)
      | (refine ⟨Or.inr rfl, ?_⟩ <;> conv => whnf)
      | (refine ⟨Or.inl True.intro, ?_⟩ <;> conv => whnf)
      | (refine ⟨Or.inr True.intro, ?_⟩ <;> conv => whnf)
      | (refine ⟨fun c => ?_, fun c => ?_⟩ <;> first | ((have c9 : (1 : Int32) = 0 := by with_reducible exact c); exact absurd c9 (by decide)) | exact absurd (rfl : (0 : Int32) = 0) (by with_reducible exact c) | exact absurd True.intro (by with_reducible exact c) | exact False.elim (by with_reducible exact c) | (conv => whnf))
      | (refine zx_chooseAsides (by omega) hX rfl (by omega) hZ (fun v f1 g1 hv h1 k1 => ?_) <;> (have k1' := zf_t hF k1) <;> conv => whnf)
      | (refine ⟨by unfold vp_in; decide, ?_⟩ <;> conv => whnf)
      | fail
    all_goals first | exact H _ _ _ (Or.inl rfl) hX hF | exact H _ _ _ (Or.inr ⟨_, by omega, rfl⟩) h1 k1'
set_option maxRecDepth 100000 in
set_option maxHeartbeats 4000000 in
theorem zx_findAsides {d L : Nat} {f : Nat → Nat → Int32} {g : Nat → Nat → Int64}  {R : Option Value → mH → Prop} (hd : 5 ≤ d) (hX : XI f) (hZ : Z137 f) (H : ∀ v f' g', (v = -4 ∨ ∃ s, s ≤ 3 ∧ v = nI s) → XI f' → zf f f' → R (some (.int v)) (shF L, f', g'))  : Run mtab d 83 [.ref 129] (shF L, f, g) R := by
  obtain ⟨d, rfl⟩ : ∃ e, d = e + 1 := ⟨d - 1, by omega⟩
  refine go_X9_findAsides rfl ?_
  conv => whnf
  repeat' first
    | exact zx_fA_lp (by omega) hZ H 3 1 _ _ _ (by omega) rfl hX (zf_refl _)
    | ((with_reducible refine ⟨vp_in_nI (by omega) (by decide), ?_⟩) <;> conv => whnf)
    | (refine ⟨Or.inl rfl, ?_⟩ <;> conv => whnf)
    | (refine ⟨Or.inr rfl, ?_⟩ <;> conv => whnf)
    | (refine ⟨Or.inl True.intro, ?_⟩ <;> conv => whnf)
    | (refine ⟨Or.inr True.intro, ?_⟩ <;> conv => whnf)
    | (refine ⟨fun c => ?_, fun c => ?_⟩ <;> first | ((have c9 : (1 : Int32) = 0 := by with_reducible exact c); exact absurd c9 (by decide)) | exact absurd (rfl : (0 : Int32) = 0) (by with_reducible exact c) | exact absurd True.intro (by with_reducible exact c) | exact False.elim (by with_reducible exact c) | (conv => whnf))
    | (refine ⟨by unfold vp_in; decide, ?_⟩ <;> conv => whnf)
    | fail
  all_goals exact H _ _ _ (Or.inr ⟨0, by omega, rfl⟩) hX (zf_refl _)
set_option maxRecDepth 100000 in
set_option maxHeartbeats 4000000 in
theorem zx_asides {d L : Nat} {f : Nat → Nat → Int32} {g : Nat → Nat → Int64}  {R : Option Value → mH → Prop} (hd : 8 ≤ d) (hX : XI f) (hZ : Z137 f) (H : ∀ v f' g', XI f' → kp [0] f f' → R (some (.int v)) (shF L, f', g')) : Run mtab d 116 [.ref 5] (shF L, f, g) R := by
  obtain ⟨d, rfl⟩ : ∃ e, d = e + 1 := ⟨d - 1, by omega⟩
  refine go_X10_asides rfl ?_
  conv => whnf
  refine sx_reckon (by omega) hX (fun f1 g1 h1 k1 => ?_)
  conv => whnf
  refine zx_findAsides (by omega) h1 (fun k => (k1 137 k rfl).trans (hZ k)) (fun v f2 g2 hv h2 k2 => ?_)
  conv => whnf
  exact H _ _ _ h2 (kp_trans k1 (zf_kp k2))
set_option maxRecDepth 100000 in
set_option maxHeartbeats 4000000 in
theorem zx_aside {d L : Nat} {f : Nat → Nat → Int32} {g : Nat → Nat → Int64} {x1 : Int32} {R : Option Value → mH → Prop} (hd : 8 ≤ d) (hX : XI f) (hZ : Z137 f) (H : ∀ v f' g', XI f' → kp [0] f f' → R (some (.int v)) (shF L, f', g')) : Run mtab d 117 [.ref 5, .int x1] (shF L, f, g) R := by
  obtain ⟨d, rfl⟩ : ∃ e, d = e + 1 := ⟨d - 1, by omega⟩
  refine go_X10_aside rfl ?_
  conv => whnf
  refine ct_isWithin (by omega) (fun p => ?_) (fun p => ?_)
  · obtain ⟨j, hj, rfl⟩ := inr_nat (n := 2) rfl p
    conv => whnf
    refine ⟨fun _ => ?_, fun c => absurd c (by decide)⟩
    conv => whnf
    refine sx_reckon (by omega) hX (fun f1 g1 h1 k1 => ?_)
    conv => whnf
    refine zx_findAsides (by omega) h1 (fun k => (k1 137 k rfl).trans (hZ k)) (fun v f2 g2 hv h2 k2 => ?_)
    conv => whnf
    repeat' first
      | ((with_reducible refine ⟨vp_in_nI (by omega) (by decide), ?_⟩) <;> conv => whnf)
      | (refine ⟨Or.inl rfl, ?_⟩ <;> conv => whnf)
      | (refine ⟨Or.inr rfl, ?_⟩ <;> conv => whnf)
      | (refine ⟨Or.inl True.intro, ?_⟩ <;> conv => whnf)
      | (refine ⟨Or.inr True.intro, ?_⟩ <;> conv => whnf)
      | (refine ⟨fun c => ?_, fun c => ?_⟩ <;> first | ((have c9 : (1 : Int32) = 0 := by with_reducible exact c); exact absurd c9 (by decide)) | exact absurd (rfl : (0 : Int32) = 0) (by with_reducible exact c) | exact absurd True.intro (by with_reducible exact c) | exact False.elim (by with_reducible exact c) | (conv => whnf))
      | (refine sx_asideAt (by omega) h2 (by omega) (fun v hv => ?_) <;> conv => whnf)
      | (refine ⟨by unfold vp_in; decide, ?_⟩ <;> conv => whnf)
      | fail
    all_goals exact H _ _ _ h2 (kp_trans k1 (zf_kp k2))
  · conv => whnf
    refine ⟨fun c => absurd (by decide) c, fun _ => ?_⟩
    conv => whnf
    exact H _ _ _ hX (kp_refl _ _)
set_option maxRecDepth 100000 in
set_option maxHeartbeats 4000000 in
theorem smq_joinAll {d L : Nat} {f : Nat → Nat → Int32} {g : Nat → Nat → Int64} {n0 c0 v0 : Nat} {R : Option Value → mH → Prop} (hd : 9 ≤ d) (hX : XI f) (hI : MI f) (hY : MY n0 c0 v0 f) (H : ∀ f' g', XI f' → kp [10, 22, 23] f f' → MY n0 c0 v0 f' → R none (shF L, f', g')) : Run mtab d 207 [.ref 181] (shF L, f, g) R := by
  obtain ⟨d, rfl⟩ : ∃ e, d = e + 1 := ⟨d - 1, by omega⟩
  refine go_X11_joinAll rfl ?_
  conv => whnf
  refine smq_refresh (by omega) hX hY (fun f1 h1 o1 k1 y1 yc1 z1 => ?_)
  conv => whnf
  refine ⟨fun z => ?_, fun z => ?_⟩
  · conv => whnf
    refine ⟨Or.inr rfl, ?_⟩
    conv => whnf
    exact sm_ja1_lp (f0 := f1) (by omega) (MI_kp hI k1 rfl) (fun f2 g2 h2 k2 => H f2 g2 h2 (kp_trans k1 (kp_wd k2 rfl)) (MY_kp k2 rfl y1)) 50 0 _ _ _ (by omega) rfl (XI_ui h1 True.intro) (kp_ui rfl (kp_refl _ _))
  · conv => whnf
    exact H _ _ h1 k1 y1
set_option maxRecDepth 100000 in
set_option maxHeartbeats 4000000 in
theorem smq_score {d L : Nat} {f : Nat → Nat → Int32} {g : Nat → Nat → Int64} {n0 c0 v0 : Nat}{x1 x2 : Int32} {R : Option Value → mH → Prop} (hd : 10 ≤ d) (hX : XI f) (hI : MI f) (hY : MY n0 c0 v0 f) (H : ∀ v f' g', XI f' → kp [10, 22, 23] f f' → MY n0 c0 v0 f' → R (some (.int v)) (shF L, f', g')) : Run mtab d 197 [.ref 181, .int x1, .int x2] (shF L, f, g) R := by
  obtain ⟨d, rfl⟩ : ∃ e, d = e + 1 := ⟨d - 1, by omega⟩
  refine go_X11_score rfl ?_
  conv => whnf
  obtain ⟨mn, hmm, hmb⟩ := inr_nat (n := 50) rfl (xi_181_27 hX)
  obtain ⟨n, hm, hb⟩ := inr_nat (n := 40) rfl (xi_181_0 hX)
  repeat' first
    | ((with_reducible refine ⟨vp_in_nI (by omega) (by decide), ?_⟩) <;> conv => whnf)
    | (refine ⟨Or.inl rfl, ?_⟩ <;> conv => whnf)
    | (refine ⟨Or.inr rfl, ?_⟩ <;> conv => whnf)
    | (refine ⟨Or.inl True.intro, ?_⟩ <;> conv => whnf)
    | (refine ⟨Or.inr True.intro, ?_⟩ <;> conv => whnf)
    | (refine ⟨fun c => ?_, fun c => ?_⟩ <;> first | ((have c9 : (1 : Int32) = 0 := by with_reducible exact c); exact absurd c9 (by decide)) | exact absurd (rfl : (0 : Int32) = 0) (by with_reducible exact c) | exact absurd True.intro (by with_reducible exact c) | exact False.elim (by with_reducible exact c) | (conv => whnf))
    | (refine sm_isMention (by omega) hmb hmm (fun mj hmj e => ?_) (fun q => ?_) <;> (try subst e) <;> conv => whnf)
    | (refine ct_mIsWork (by omega) hb hm (fun j hj e => ?_) (fun q => ?_) <;> (try subst e) <;> conv => whnf)
    | (refine smq_refresh (by omega) hX hY (fun f1 h1 o1 k1 y1 yc1 z1 => ?_) <;> conv => whnf)
    | ((obtain ⟨⟨t, ht1, ht4, ht⟩, _⟩ := MI_kp hI k1 rfl n hm ((k1 181 0 rfl).trans hb) j hj); refine sm_scoreOf (by omega) h1 (by omega) (by omega) ht ht1 ht4 (fun v => ?_) <;> conv => whnf)
    | (refine ⟨by unfold vp_in; decide, ?_⟩ <;> conv => whnf)
    | fail
  all_goals exact H _ _ _ (by repeat' first | (with_reducible assumption) | (with_reducible refine XI_ui ?_ ?_) | (with_reducible refine XI_fil ?_ (fun _ => ?_)) | (with_reducible refine XI_cpy ?_ (fun _ _ => ?_)) | exact True.intro | ((show inr _ _ _); first | (with_reducible assumption) | (unfold inr; decide)) | fail) (by repeat' first | (with_reducible exact kp_refl _ _) | (with_reducible assumption) | (with_reducible refine kp_ui ?_ ?_) | (with_reducible refine kp_fil ?_ ?_) | (with_reducible refine kp_cpy ?_ ?_) | (refine kp_trans ?_ (kp_wd k1 rfl)) | (refine kp_trans ?_ (kp_fx k1 rfl)) | rfl | fail) (by first | exact y1 | exact hY)
set_option maxRecDepth 100000 in
set_option maxHeartbeats 4000000 in
theorem smq_rivals {d L : Nat} {f : Nat → Nat → Int32} {g : Nat → Nat → Int64} {n0 c0 v0 : Nat}{x1 : Int32} {R : Option Value → mH → Prop} (hd : 10 ≤ d) (hX : XI f) (hI : MI f) (hY : MY n0 c0 v0 f) (H : ∀ v f' g', XI f' → kp [10, 22, 23] f f' → MY n0 c0 v0 f' → R (some (.int v)) (shF L, f', g')) : Run mtab d 199 [.ref 181, .int x1] (shF L, f, g) R := by
  obtain ⟨d, rfl⟩ : ∃ e, d = e + 1 := ⟨d - 1, by omega⟩
  refine go_X11_rivals rfl ?_
  conv => whnf
  obtain ⟨mn, hmm, hmb⟩ := inr_nat (n := 50) rfl (xi_181_27 hX)
  repeat' first
    | ((with_reducible refine ⟨vp_in_nI (by omega) (by decide), ?_⟩) <;> conv => whnf)
    | (refine ⟨Or.inl rfl, ?_⟩ <;> conv => whnf)
    | (refine ⟨Or.inr rfl, ?_⟩ <;> conv => whnf)
    | (refine ⟨Or.inl True.intro, ?_⟩ <;> conv => whnf)
    | (refine ⟨Or.inr True.intro, ?_⟩ <;> conv => whnf)
    | (refine ⟨fun c => ?_, fun c => ?_⟩ <;> first | ((have c9 : (1 : Int32) = 0 := by with_reducible exact c); exact absurd c9 (by decide)) | exact absurd (rfl : (0 : Int32) = 0) (by with_reducible exact c) | exact absurd True.intro (by with_reducible exact c) | exact False.elim (by with_reducible exact c) | (conv => whnf))
    | (refine sm_isMention (by omega) hmb hmm (fun mj hmj e => ?_) (fun q => ?_) <;> (try subst e) <;> conv => whnf)
    | (refine smq_refresh (by omega) hX hY (fun f1 h1 o1 k1 y1 yc1 z1 => ?_) <;> conv => whnf)
    | (refine sm_rivalsOf (by omega) h1 (MI_kp hI k1 rfl) (by omega) (fun v => ?_) <;> conv => whnf)
    | (refine ⟨by unfold vp_in; decide, ?_⟩ <;> conv => whnf)
    | fail
  all_goals exact H _ _ _ (by repeat' first | (with_reducible assumption) | (with_reducible refine XI_ui ?_ ?_) | (with_reducible refine XI_fil ?_ (fun _ => ?_)) | (with_reducible refine XI_cpy ?_ (fun _ _ => ?_)) | exact True.intro | ((show inr _ _ _); first | (with_reducible assumption) | (unfold inr; decide)) | fail) (by repeat' first | (with_reducible exact kp_refl _ _) | (with_reducible assumption) | (with_reducible refine kp_ui ?_ ?_) | (with_reducible refine kp_fil ?_ ?_) | (with_reducible refine kp_cpy ?_ ?_) | (refine kp_trans ?_ (kp_wd k1 rfl)) | (refine kp_trans ?_ (kp_fx k1 rfl)) | rfl | fail) (by first | exact y1 | exact hY)
set_option maxRecDepth 100000 in
set_option maxHeartbeats 4000000 in
theorem smq_joined {d L : Nat} {f : Nat → Nat → Int32} {g : Nat → Nat → Int64} {n0 c0 v0 : Nat}{x1 : Int32} {R : Option Value → mH → Prop} (hd : 10 ≤ d) (hX : XI f) (hI : MI f) (hY : MY n0 c0 v0 f) (H : ∀ v f' g', XI f' → kp [10, 22, 23] f f' → MY n0 c0 v0 f' → R (some (.int v)) (shF L, f', g')) : Run mtab d 208 [.ref 181, .int x1] (shF L, f, g) R := by
  obtain ⟨d, rfl⟩ : ∃ e, d = e + 1 := ⟨d - 1, by omega⟩
  refine go_X11_joined rfl ?_
  conv => whnf
  obtain ⟨mn, hmm, hmb⟩ := inr_nat (n := 50) rfl (xi_181_27 hX)
  repeat' first
    | ((with_reducible refine ⟨vp_in_nI (by omega) (by decide), ?_⟩) <;> conv => whnf)
    | (refine ⟨Or.inl rfl, ?_⟩ <;> conv => whnf)
    | (refine ⟨Or.inr rfl, ?_⟩ <;> conv => whnf)
    | (refine ⟨Or.inl True.intro, ?_⟩ <;> conv => whnf)
    | (refine ⟨Or.inr True.intro, ?_⟩ <;> conv => whnf)
    | (refine ⟨fun c => ?_, fun c => ?_⟩ <;> first | ((have c9 : (1 : Int32) = 0 := by with_reducible exact c); exact absurd c9 (by decide)) | exact absurd (rfl : (0 : Int32) = 0) (by with_reducible exact c) | exact absurd True.intro (by with_reducible exact c) | exact False.elim (by with_reducible exact c) | (conv => whnf))
    | (refine sm_isMention (by omega) hmb hmm (fun mj hmj e => ?_) (fun q => ?_) <;> (try subst e) <;> conv => whnf)
    | (refine smq_joinAll (by omega) hX hI hY (fun f1 g1 h1 k1 y1 => ?_) <;> conv => whnf)
    | (refine ⟨by unfold vp_in; decide, ?_⟩ <;> conv => whnf)
    | fail
  all_goals exact H _ _ _ (by repeat' first | (with_reducible assumption) | (with_reducible refine XI_ui ?_ ?_) | (with_reducible refine XI_fil ?_ (fun _ => ?_)) | (with_reducible refine XI_cpy ?_ (fun _ _ => ?_)) | exact True.intro | ((show inr _ _ _); first | (with_reducible assumption) | (unfold inr; decide)) | fail) (by repeat' first | (with_reducible exact kp_refl _ _) | (with_reducible assumption) | (with_reducible refine kp_ui ?_ ?_) | (with_reducible refine kp_fil ?_ ?_) | (with_reducible refine kp_cpy ?_ ?_) | (refine kp_trans ?_ (kp_wd k1 rfl)) | (refine kp_trans ?_ (kp_fx k1 rfl)) | rfl | fail) (by first | exact y1 | exact hY)
set_option maxRecDepth 100000 in
set_option maxHeartbeats 4000000 in
theorem smq_sure {d L : Nat} {f : Nat → Nat → Int32} {g : Nat → Nat → Int64} {n0 c0 v0 : Nat}{x1 : Int32} {R : Option Value → mH → Prop} (hd : 10 ≤ d) (hX : XI f) (hI : MI f) (hY : MY n0 c0 v0 f) (H : ∀ v f' g', XI f' → kp [10, 22, 23] f f' → MY n0 c0 v0 f' → R (some (.int v)) (shF L, f', g')) : Run mtab d 209 [.ref 181, .int x1] (shF L, f, g) R := by
  obtain ⟨d, rfl⟩ : ∃ e, d = e + 1 := ⟨d - 1, by omega⟩
  refine go_X11_sure rfl ?_
  conv => whnf
  obtain ⟨mn, hmm, hmb⟩ := inr_nat (n := 50) rfl (xi_181_27 hX)
  repeat' first
    | ((with_reducible refine ⟨vp_in_nI (by omega) (by decide), ?_⟩) <;> conv => whnf)
    | (refine ⟨Or.inl rfl, ?_⟩ <;> conv => whnf)
    | (refine ⟨Or.inr rfl, ?_⟩ <;> conv => whnf)
    | (refine ⟨Or.inl True.intro, ?_⟩ <;> conv => whnf)
    | (refine ⟨Or.inr True.intro, ?_⟩ <;> conv => whnf)
    | (refine ⟨fun c => ?_, fun c => ?_⟩ <;> first | ((have c9 : (1 : Int32) = 0 := by with_reducible exact c); exact absurd c9 (by decide)) | exact absurd (rfl : (0 : Int32) = 0) (by with_reducible exact c) | exact absurd True.intro (by with_reducible exact c) | exact False.elim (by with_reducible exact c) | (conv => whnf))
    | (refine sm_isMention (by omega) hmb hmm (fun mj hmj e => ?_) (fun q => ?_) <;> (try subst e) <;> conv => whnf)
    | (refine smq_joinAll (by omega) hX hI hY (fun f1 g1 h1 k1 y1 => ?_) <;> conv => whnf)
    | (refine ⟨by unfold vp_in; decide, ?_⟩ <;> conv => whnf)
    | fail
  all_goals exact H _ _ _ (by repeat' first | (with_reducible assumption) | (with_reducible refine XI_ui ?_ ?_) | (with_reducible refine XI_fil ?_ (fun _ => ?_)) | (with_reducible refine XI_cpy ?_ (fun _ _ => ?_)) | exact True.intro | ((show inr _ _ _); first | (with_reducible assumption) | (unfold inr; decide)) | fail) (by repeat' first | (with_reducible exact kp_refl _ _) | (with_reducible assumption) | (with_reducible refine kp_ui ?_ ?_) | (with_reducible refine kp_fil ?_ ?_) | (with_reducible refine kp_cpy ?_ ?_) | (refine kp_trans ?_ (kp_wd k1 rfl)) | (refine kp_trans ?_ (kp_fx k1 rfl)) | rfl | fail) (by first | exact y1 | exact hY)
set_option maxRecDepth 100000 in
set_option maxHeartbeats 4000000 in
theorem smq_sum {d L : Nat} {f : Nat → Nat → Int32} {g : Nat → Nat → Int64} {n0 c0 v0 : Nat}{x1 : Int32} {R : Option Value → mH → Prop} (hd : 10 ≤ d) (hX : XI f) (hI : MI f) (hY : MY n0 c0 v0 f) (H : ∀ v f' g', XI f' → kp [10, 22, 23] f f' → MY n0 c0 v0 f' → R (some (.int v)) (shF L, f', g')) : Run mtab d 210 [.ref 181, .int x1] (shF L, f, g) R := by
  obtain ⟨d, rfl⟩ : ∃ e, d = e + 1 := ⟨d - 1, by omega⟩
  refine go_X11_sum rfl ?_
  conv => whnf
  repeat' first
    | ((with_reducible refine ⟨vpi ‹inr 0 15 _› (by decide), ?_⟩) <;> conv => whnf)
    | ((with_reducible refine ⟨vp_in_nI (by omega) (by decide), ?_⟩) <;> conv => whnf)
    | (refine ⟨Or.inl rfl, ?_⟩ <;> conv => whnf)
    | (refine ⟨Or.inr rfl, ?_⟩ <;> conv => whnf)
    | (refine ⟨Or.inl True.intro, ?_⟩ <;> conv => whnf)
    | (refine ⟨Or.inr True.intro, ?_⟩ <;> conv => whnf)
    | (refine ⟨fun c => ?_, fun c => ?_⟩ <;> first | ((have c9 : (1 : Int32) = 0 := by with_reducible exact c); exact absurd c9 (by decide)) | exact absurd (rfl : (0 : Int32) = 0) (by with_reducible exact c) | exact absurd True.intro (by with_reducible exact c) | exact False.elim (by with_reducible exact c) | (conv => whnf))
    | ((with_reducible refine ct_i_0_15 (by omega) (fun p => ?_) (fun p => ?_)) <;> conv => whnf)
    | (refine smq_joinAll (by omega) hX hI hY (fun f1 g1 h1 k1 y1 => ?_) <;> conv => whnf)
    | (refine ⟨by unfold vp_in; decide, ?_⟩ <;> conv => whnf)
    | fail
  all_goals exact H _ _ _ (by repeat' first | (with_reducible assumption) | (with_reducible refine XI_ui ?_ ?_) | (with_reducible refine XI_fil ?_ (fun _ => ?_)) | (with_reducible refine XI_cpy ?_ (fun _ _ => ?_)) | exact True.intro | ((show inr _ _ _); first | (with_reducible assumption) | (unfold inr; decide)) | fail) (by repeat' first | (with_reducible exact kp_refl _ _) | (with_reducible assumption) | (with_reducible refine kp_ui ?_ ?_) | (with_reducible refine kp_fil ?_ ?_) | (with_reducible refine kp_cpy ?_ ?_) | (refine kp_trans ?_ (kp_wd k1 rfl)) | (refine kp_trans ?_ (kp_fx k1 rfl)) | rfl | fail) (by first | exact y1 | exact hY)
set_option maxRecDepth 100000 in
set_option maxHeartbeats 4000000 in
theorem smq_mentions {d L : Nat} {f : Nat → Nat → Int32} {g : Nat → Nat → Int64} {n0 c0 v0 : Nat}{x1 : Int32} {R : Option Value → mH → Prop} (hd : 10 ≤ d) (hX : XI f) (hI : MI f) (hY : MY n0 c0 v0 f) (H : ∀ v f' g', XI f' → kp [10, 22, 23] f f' → MY n0 c0 v0 f' → R (some (.int v)) (shF L, f', g')) : Run mtab d 211 [.ref 181, .int x1] (shF L, f, g) R := by
  obtain ⟨d, rfl⟩ : ∃ e, d = e + 1 := ⟨d - 1, by omega⟩
  refine go_X11_mentions rfl ?_
  conv => whnf
  obtain ⟨mn, hmm, hmb⟩ := inr_nat (n := 50) rfl (xi_181_27 hX)
  repeat' first
    | exact sm_mns_lp (by omega) h1 ((k1 181 27 rfl).trans hmb) hmm (MI_kp hI k1 rfl) (fun v => H v _ _ h1 k1 y1) mn 0 _ _ (by omega) rfl
    | ((with_reducible refine ⟨vp_in_nI (by omega) (by decide), ?_⟩) <;> conv => whnf)
    | (refine ⟨Or.inl rfl, ?_⟩ <;> conv => whnf)
    | (refine ⟨Or.inr rfl, ?_⟩ <;> conv => whnf)
    | (refine ⟨Or.inl True.intro, ?_⟩ <;> conv => whnf)
    | (refine ⟨Or.inr True.intro, ?_⟩ <;> conv => whnf)
    | (refine ⟨fun c => ?_, fun c => ?_⟩ <;> first | ((have c9 : (1 : Int32) = 0 := by with_reducible exact c); exact absurd c9 (by decide)) | exact absurd (rfl : (0 : Int32) = 0) (by with_reducible exact c) | exact absurd True.intro (by with_reducible exact c) | exact False.elim (by with_reducible exact c) | (conv => whnf))
    | ((with_reducible refine ct_i_0_2 (by omega) (fun p => ?_) (fun p => ?_)) <;> conv => whnf)
    | (refine smq_joinAll (by omega) hX hI hY (fun f1 g1 h1 k1 y1 => ?_) <;> conv => whnf)
    | (refine ⟨by unfold vp_in; decide, ?_⟩ <;> conv => whnf)
    | fail
  all_goals exact H _ _ _ (by repeat' first | (with_reducible assumption) | (with_reducible refine XI_ui ?_ ?_) | (with_reducible refine XI_fil ?_ (fun _ => ?_)) | (with_reducible refine XI_cpy ?_ (fun _ _ => ?_)) | exact True.intro | ((show inr _ _ _); first | (with_reducible assumption) | (unfold inr; decide)) | fail) (by repeat' first | (with_reducible exact kp_refl _ _) | (with_reducible assumption) | (with_reducible refine kp_ui ?_ ?_) | (with_reducible refine kp_fil ?_ ?_) | (with_reducible refine kp_cpy ?_ ?_) | (refine kp_trans ?_ (kp_wd k1 rfl)) | (refine kp_trans ?_ (kp_fx k1 rfl)) | rfl | fail) (by first | exact y1 | exact hY)
set_option maxRecDepth 100000 in
set_option maxHeartbeats 4000000 in
theorem smq_counted {d L : Nat} {f : Nat → Nat → Int32} {g : Nat → Nat → Int64} {n0 c0 v0 : Nat}{x1 x2 x3 : Int32} {R : Option Value → mH → Prop} (hd : 10 ≤ d) (hX : XI f) (hI : MI f) (hY : MY n0 c0 v0 f) (H : ∀ v f' g', XI f' → kp [10, 22, 23] f f' → MY n0 c0 v0 f' → R (some (.int v)) (shF L, f', g')) : Run mtab d 213 [.ref 181, .int x1, .int x2, .int x3] (shF L, f, g) R := by
  obtain ⟨d, rfl⟩ : ∃ e, d = e + 1 := ⟨d - 1, by omega⟩
  refine go_X11_counted rfl ?_
  conv => whnf
  obtain ⟨n, hm, hb⟩ := inr_nat (n := 40) rfl (xi_181_0 hX)
  repeat' first
    | exact sm_ctd_lp (by omega) h1 ((k1 181 0 rfl).trans hb) hm (fun v => H v _ _ h1 k1 y1) n 0 _ _ _ _ _ _ (by omega) rfl
    | ((with_reducible refine ⟨vp_in_nI (by omega) (by decide), ?_⟩) <;> conv => whnf)
    | (refine ⟨Or.inl rfl, ?_⟩ <;> conv => whnf)
    | (refine ⟨Or.inr rfl, ?_⟩ <;> conv => whnf)
    | (refine ⟨Or.inl True.intro, ?_⟩ <;> conv => whnf)
    | (refine ⟨Or.inr True.intro, ?_⟩ <;> conv => whnf)
    | (refine ⟨fun c => ?_, fun c => ?_⟩ <;> first | ((have c9 : (1 : Int32) = 0 := by with_reducible exact c); exact absurd c9 (by decide)) | exact absurd (rfl : (0 : Int32) = 0) (by with_reducible exact c) | exact absurd True.intro (by with_reducible exact c) | exact False.elim (by with_reducible exact c) | (conv => whnf))
    | ((with_reducible refine ct_i_0_2 (by omega) (fun p => ?_) (fun p => ?_)) <;> conv => whnf)
    | ((with_reducible refine ct_i_0_4 (by omega) (fun p => ?_) (fun p => ?_)) <;> conv => whnf)
    | (refine smq_joinAll (by omega) hX hI hY (fun f1 g1 h1 k1 y1 => ?_) <;> conv => whnf)
    | (refine ⟨by unfold vp_in; decide, ?_⟩ <;> conv => whnf)
    | fail
  all_goals exact H _ _ _ (by repeat' first | (with_reducible assumption) | (with_reducible refine XI_ui ?_ ?_) | (with_reducible refine XI_fil ?_ (fun _ => ?_)) | (with_reducible refine XI_cpy ?_ (fun _ _ => ?_)) | exact True.intro | ((show inr _ _ _); first | (with_reducible assumption) | (unfold inr; decide)) | fail) (by repeat' first | (with_reducible exact kp_refl _ _) | (with_reducible assumption) | (with_reducible refine kp_ui ?_ ?_) | (with_reducible refine kp_fil ?_ ?_) | (with_reducible refine kp_cpy ?_ ?_) | (refine kp_trans ?_ (kp_wd k1 rfl)) | (refine kp_trans ?_ (kp_fx k1 rfl)) | rfl | fail) (by first | exact y1 | exact hY)
set_option maxRecDepth 100000 in
set_option maxHeartbeats 4000000 in
theorem smq_lookAside {d L : Nat} {f : Nat → Nat → Int32} {g : Nat → Nat → Int64} {n0 c0 v0 : Nat} {R : Option Value → mH → Prop} (hd : 7 ≤ d) (hX : XI f) (hY : MY n0 c0 v0 f) (H : ∀ v f' g', (v = -4 ∨ ∃ s, s ≤ 3 ∧ v = nI s) → XI f' → kp [10, 22, 23] f f' → MY n0 c0 v0 f' → R (some (.int v)) (shF L, f', g')) : Run mtab d 187 [.ref 181] (shF L, f, g) R := by
  obtain ⟨d, rfl⟩ : ∃ e, d = e + 1 := ⟨d - 1, by omega⟩
  refine go_X11_lookAside rfl ?_
  conv => whnf
  refine smq_refresh (by omega) hX hY (fun f1 h1 o1 k1 y1 yc1 z1 => ?_)
  conv => whnf
  refine sm_findAsides (by omega) h1 (fun v f2 g2 hv h2 k2 => ?_)
  conv => whnf
  have k2' : kp [10, 22, 23] f1 f2 := kp_fx k2 rfl
  refine smf_findYears (n := n0) (c := c0) (v := v0) (by omega) (CM_kp k2' rfl rfl y1.1) ((k2 181 48 (by omega)).trans y1.2.1) y1.2.2.1 (fun f3 o3 e3 y3 => ?_)
  conv => whnf
  have m2 : MY n0 c0 v0 f3 := ⟨CM_o o3 (CM_kp k2' rfl rfl y1.1), (o3 181 48 (by omega) (by omega) (by omega) (by omega) (by omega) (by omega)).trans ((k2 181 48 (by omega)).trans y1.2.1), y1.2.2.1, fun _ => y3⟩
  exact H _ _ _ hv (XI_o6 h2 o3) (kp_trans k1 (kp_trans k2' (kp_o6 o3))) m2
set_option maxRecDepth 100000 in
set_option maxHeartbeats 4000000 in
theorem smq_asides {d L : Nat} {f : Nat → Nat → Int32} {g : Nat → Nat → Int64} {n0 c0 v0 : Nat} {R : Option Value → mH → Prop} (hd : 8 ≤ d) (hX : XI f) (hY : MY n0 c0 v0 f) (H : ∀ v f' g', XI f' → kp [10, 22, 23] f f' → MY n0 c0 v0 f' → R (some (.int v)) (shF L, f', g')) : Run mtab d 188 [.ref 181] (shF L, f, g) R := by
  obtain ⟨d, rfl⟩ : ∃ e, d = e + 1 := ⟨d - 1, by omega⟩
  refine go_X11_asides rfl ?_
  conv => whnf
  refine smq_lookAside (by omega) hX hY (fun v f1 g1 hv h1 k1 y1 => ?_)
  conv => whnf
  exact H _ _ _ h1 k1 y1
set_option maxRecDepth 100000 in
set_option maxHeartbeats 4000000 in
theorem smq_aside {d L : Nat} {f : Nat → Nat → Int32} {g : Nat → Nat → Int64} {n0 c0 v0 : Nat}{x1 : Int32} {R : Option Value → mH → Prop} (hd : 8 ≤ d) (hX : XI f) (hY : MY n0 c0 v0 f) (H : ∀ v f' g', XI f' → kp [10, 22, 23] f f' → MY n0 c0 v0 f' → R (some (.int v)) (shF L, f', g')) : Run mtab d 189 [.ref 181, .int x1] (shF L, f, g) R := by
  obtain ⟨d, rfl⟩ : ∃ e, d = e + 1 := ⟨d - 1, by omega⟩
  refine go_X11_aside rfl ?_
  conv => whnf
  refine ⟨fun c0 => ?_, fun c => ?_⟩
  · conv => whnf
    refine smq_lookAside (by omega) hX hY (fun v f1 g1 hv h1 k1 y1 => ?_)
    conv => whnf
    refine ⟨fun c => ?_, fun c => ?_⟩
    · conv => whnf
      refine ⟨fun c2 => ?_, fun c2 => ?_⟩
      · conv => whnf
        exact H _ _ _ h1 k1 y1
      · rcases hv with rfl | ⟨s, hs, rfl⟩
        · exact absurd c (by decide)
        · obtain ⟨a, ha, rfl⟩ := nI_of (i32_nlt.mpr c0)
          rw [nI_leI (by omega) ha] at c2
          conv => whnf
          refine ⟨vp_in_nI (by omega) (by decide), ?_⟩
          conv => whnf
          exact H _ _ _ h1 k1 y1
    · conv => whnf
      exact H _ _ _ h1 k1 y1
  · conv => whnf
    exact H _ _ _ hX (kp_refl _ _) hY
set_option maxRecDepth 100000 in
set_option maxHeartbeats 4000000 in
theorem smq_edition {d L : Nat} {f : Nat → Nat → Int32} {g : Nat → Nat → Int64} {n0 c0 v0 : Nat} {R : Option Value → mH → Prop} (hd : 9 ≤ d) (hX : XI f) (hY : MY n0 c0 v0 f) (H : ∀ v f' g', XI f' → kp [10, 17, 22, 23] f f' → MY n0 c0 v0 f' → f' 181 50 = edn (f 181 50) → R (some (.int v)) (shF L, f', g')) : Run mtab d 233 [.ref 181] (shF L, f, g) R := by
  obtain ⟨d, rfl⟩ : ∃ e, d = e + 1 := ⟨d - 1, by omega⟩
  refine go_X11_edition rfl ?_
  conv => whnf
  refine ⟨fun z => ?_, fun z => ?_⟩
  · conv => whnf
    refine smq_refresh (by omega) hX hY (fun f1 h1 o1 k1 y1 yc1 z1 => ?_)
    obtain ⟨n, hm, hb⟩ := inr_nat (n := 40) rfl (xi_181_0 h1)
    obtain ⟨vn, hvm, hvb⟩ := inr_nat (n := 60) rfl (xi_181_48 h1)
    conv => whnf
    exact smf_ed1_lp (f0 := f1) (fz := f1) (ev := f 181 50) (by omega) hm hb hvb hvm (kp_refl _ _) (k1 181 50 rfl) (fun v f' g' a b e => H v f' g' a (kp_trans (kp_wd k1 rfl) (kp_wd b rfl)) (MY_kp b rfl y1) (e.trans (edn_n z).symm)) n 0 _ _ _ _ _ _ _ _ _ (by omega) rfl h1 (fx_refl _ _ _) ⟨0, by omega, rfl⟩
  · conv => whnf
    exact H _ _ _ hX (kp_refl _ _) hY (edn_9 z)
/-- a call that tells the model that the years are to be found anew, and touches none of what they lean on -/
def st0 (f f1 : Nat → Nat → Int32) : Prop := f1 = f ∨ ((∀ a i, (a = 187 ∨ a = 188 ∨ (196 ≤ a ∧ a ≤ 198)) → f1 a i = f a i) ∧ f1 181 0 = f 181 0 ∧ f1 181 16 = f 181 16 ∧ f1 181 48 = f 181 48 ∧ f1 181 29 = 0)
theorem MY_st0 {f f1 : Nat → Nat → Int32} {n c v : Nat} (m : MY n c v f) (s : st0 f f1) : ∃ n c v, MY n c v f1 := by
  rcases s with rfl | ⟨h, h0, h16, h48, h29⟩
  · exact ⟨n, c, v, m⟩
  · exact ⟨n, c, v, CM_q h h0 h16 m.1, h48.trans m.2.1, m.2.2.1, fun z => absurd h29 z⟩
theorem st0_kp {l : List Nat} {f f1 : Nat → Nat → Int32} (k : kp l f f1) (h11 : hasN l 11 = false) (h14 : hasN l 14 = false) (h15 : hasN l 15 = false) (h29 : f1 181 29 = 0) : st0 f f1 := by
  refine Or.inr ⟨fun a i h => ?_, k 181 0 (by exact h11), k 181 16 (by exact h15), k 181 48 (by exact h14), h29⟩
  rcases h with rfl | rfl | ⟨h1, h2⟩
  · exact k 187 i (by exact h11)
  · exact k 188 i (by exact h11)
  · have e : a = 196 ∨ a = 197 ∨ a = 198 := by omega
    rcases e with rfl | rfl | rfl
    · exact k 196 i (by exact h15)
    · exact k 197 i (by exact h15)
    · exact k 198 i (by exact h15)
theorem st_retitle {n : Nat} {f f1 : Nat → Nat → Int32} {x1 x2 x3 v : Int32} (s : SM_retitle n f f1 x1 x2 x3 v) : st0 f f1 := by
  rcases s with ⟨_, _, rfl⟩ | ⟨j, q, _, _, _, _, _, _, _, ⟨_, _, rfl⟩ | ⟨_, _, _, rfl⟩ | ⟨_, _, _, rfl⟩⟩
  · exact Or.inl rfl
  · exact Or.inl rfl
  · exact Or.inl rfl
  · unfold mtit
    refine Or.inr ⟨fun a i h => ?_, ?_, ?_, ?_, m_ui_s⟩
    · rw [m_ui_o (by omega), m_ui_o (by omega), m_ui_o (by omega), m_ui_o (by omega)]
    · rw [m_ui_o (by omega), m_ui_o (by omega), m_ui_o (by omega), m_ui_o (by omega)]
    · rw [m_ui_o (by omega), m_ui_o (by omega), m_ui_o (by omega), m_ui_o (by omega)]
    · rw [m_ui_o (by omega), m_ui_o (by omega), m_ui_o (by omega), m_ui_o (by omega)]
theorem st_cut {n : Nat} {f f1 : Nat → Nat → Int32} {x1 x2 x3 x4 v : Int32} (s : SM_cut n f f1 x1 x2 x3 x4 v) : st0 f f1 := by
  rcases s with ⟨_, _, rfl⟩ | ⟨j, _, _, _, _, _, ⟨_, _, rfl⟩ | ⟨_, _, _, rfl⟩ | ⟨_, _, _, rfl⟩⟩
  · exact Or.inl rfl
  · exact Or.inl rfl
  · exact Or.inl rfl
  · unfold mcut
    refine Or.inr ⟨fun a i h => ?_, ?_, ?_, ?_, m_ui_s⟩
    · rw [m_ui_o (by omega), m_ui_o (by omega), m_ui_o (by omega), m_ui_o (by omega)]
    · rw [m_ui_o (by omega), m_ui_o (by omega), m_ui_o (by omega), m_ui_o (by omega)]
    · rw [m_ui_o (by omega), m_ui_o (by omega), m_ui_o (by omega), m_ui_o (by omega)]
    · rw [m_ui_o (by omega), m_ui_o (by omega), m_ui_o (by omega), m_ui_o (by omega)]
theorem st_holding {n h : Nat} {f f1 : Nat → Nat → Int32} {x1 x2 x3 x4 x5 x6 v : Int32} (s : SM_holding n h f f1 x1 x2 x3 x4 x5 x6 v) : st0 f f1 := by
  have k := km_holding s
  rcases s with ⟨_, _, rfl⟩ | ⟨_, ⟨_, _, rfl⟩ | ⟨_, _, rfl⟩⟩
  · exact Or.inl rfl
  · exact Or.inl rfl
  · exact st0_kp k rfl rfl rfl m_ui_s
theorem st_unhold {h : Nat} {f f1 : Nat → Nat → Int32} {v : Int32} (s : SM_unhold h f f1 v) : st0 f f1 := by
  have k := km_unhold s
  rcases s with ⟨_, _, rfl⟩ | ⟨_, _, rfl⟩
  · exact Or.inl rfl
  · exact st0_kp k rfl rfl rfl m_ui_s
theorem st_holdings {n h : Nat} {f f1 : Nat → Nat → Int32} {x1 x2 x3 x4 v : Int32} (s : SM_holdings n h f f1 x1 x2 x3 x4 v) : st0 f f1 := by
  have k := km_holdings s
  rcases s with ⟨_, _, rfl⟩ | ⟨s, m, _, _, _, _, _, ⟨_, _, _, rfl⟩ | ⟨_, _, _, rfl⟩ | ⟨_, _, _, rfl⟩ | ⟨_, _, a, _, _, ⟨_, _, rfl⟩ | ⟨_, _, _, rfl⟩ | ⟨_, _, _, rfl⟩⟩⟩
  · exact Or.inl rfl
  · exact Or.inl rfl
  · exact Or.inl rfl
  · exact Or.inl rfl
  · exact Or.inl rfl
  · exact Or.inl rfl
  · cases m with
    | zero => exact Or.inl rfl
    | succ m => exact st0_kp k rfl rfl rfl rfl
theorem st_use {h : Nat} {f f1 : Nat → Nat → Int32} {x1 x2 v : Int32} (s : SM_use h f f1 x1 x2 v) : st0 f f1 := by
  rcases s with ⟨_, _, rfl⟩ | ⟨k, _, _, _, rfl⟩
  · exact Or.inl rfl
  · refine Or.inr ⟨fun a i h => ?_, ?_, ?_, ?_, m_ui_s⟩
    · rw [m_ui_o (by omega), m_ui_o (by omega)]
    · rw [m_ui_o (by omega), m_ui_o (by omega)]
    · rw [m_ui_o (by omega), m_ui_o (by omega)]
    · rw [m_ui_o (by omega), m_ui_o (by omega)]
theorem st_mention {h : Nat} {f f1 : Nat → Nat → Int32} {x1 x2 x3 x4 x5 x6 x7 x8 x9 v : Int32} (s : SM_mention h f f1 x1 x2 x3 x4 x5 x6 x7 x8 x9 v) : st0 f f1 := by
  have k := km_mention s
  rcases s with ⟨_, _, rfl⟩ | ⟨_, ⟨_, _, rfl⟩ | ⟨_, _, rfl⟩⟩
  · exact Or.inl rfl
  · exact Or.inl rfl
  · exact st0_kp k rfl rfl rfl m_ui_s
theorem MY_add {n c v : Nat} {f : Nat → Nat → Int32} {kind of tu h w t lo hi : Int32} (m : MY n c v f) (hn : n < 40) (ht : toldw h w t lo hi) : MY (n + 1) c v (madd f n kind of tu h w t lo hi) := by
  obtain ⟨⟨m1, m2, m3, m4, m5, m6⟩, m7, m8, _⟩ := m
  obtain ⟨_, _, _, t1, t2, t3⟩ := ht
  unfold madd
  refine ⟨⟨by omega, m2, ?_, ?_, fun k hk => ?_, fun j hj => ?_⟩, ?_, m8, fun z => absurd m_ui_s z⟩
  · rw [m_ui_o (by omega), m_ui_s]
    exact nI_1 n
  · rw [m_ui_o (by omega), m_ui_o (by omega), m_ui_o (by omega), m_ui_o (by omega), m_ui_o (by omega), m_ui_o (by omega), m_ui_o (by omega), m_ui_o (by omega), m_ui_o (by omega), m_ui_o (by omega), m_ui_o (by omega)]
    exact m4
  · obtain ⟨⟨x, hx, ex⟩, ⟨y, hy, ey⟩, z⟩ := m5 k hk
    rw [m_ui_o (by omega), m_ui_o (by omega), m_ui_o (by omega), m_ui_o (by omega), m_ui_o (by omega), m_ui_o (by omega), m_ui_o (by omega), m_ui_o (by omega), m_ui_o (by omega), m_ui_o (by omega), m_ui_o (by omega)]
    rw [m_ui_o (by omega), m_ui_o (by omega), m_ui_o (by omega), m_ui_o (by omega), m_ui_o (by omega), m_ui_o (by omega), m_ui_o (by omega), m_ui_o (by omega), m_ui_o (by omega), m_ui_o (by omega), m_ui_o (by omega)]
    rw [m_ui_o (by omega), m_ui_o (by omega), m_ui_o (by omega), m_ui_o (by omega), m_ui_o (by omega), m_ui_o (by omega), m_ui_o (by omega), m_ui_o (by omega), m_ui_o (by omega), m_ui_o (by omega), m_ui_o (by omega)]
    exact ⟨⟨x, by omega, ex⟩, ⟨y, by omega, ey⟩, z⟩
  · by_cases e : j = n
    · subst e
      have e1 : ∀ q : Nat → Nat → Int32, m_ui (m_ui (m_ui (m_ui (m_ui (m_ui q 187 j lo) 188 j hi) 189 (4 * j) t) 191 j 1) 181 0 (nI j + 1)) 181 29 0 187 j = lo := fun q => by rw [m_ui_o (by omega), m_ui_o (by omega), m_ui_o (by omega), m_ui_o (by omega), m_ui_o (by omega), m_ui_s]
      have e2 : ∀ q : Nat → Nat → Int32, m_ui (m_ui (m_ui (m_ui (m_ui q 188 j hi) 189 (4 * j) t) 191 j 1) 181 0 (nI j + 1)) 181 29 0 188 j = hi := fun q => by rw [m_ui_o (by omega), m_ui_o (by omega), m_ui_o (by omega), m_ui_o (by omega), m_ui_s]
      rw [e1, e2]
      exact ⟨t1, t2, t3⟩
    · have q := m6 j (by omega)
      rw [m_ui_o (by omega), m_ui_o (by omega), m_ui_o (by omega), m_ui_o (by omega), m_ui_o (by omega), m_ui_o (by omega), m_ui_o (by omega), m_ui_o (by omega), m_ui_o (by omega), m_ui_o (by omega), m_ui_o (by omega)]
      rw [m_ui_o (by omega), m_ui_o (by omega), m_ui_o (by omega), m_ui_o (by omega), m_ui_o (by omega), m_ui_o (by omega), m_ui_o (by omega), m_ui_o (by omega), m_ui_o (by omega), m_ui_o (by omega), m_ui_o (by omega)]
      exact q
  · rw [m_ui_o (by omega), m_ui_o (by omega), m_ui_o (by omega), m_ui_o (by omega), m_ui_o (by omega), m_ui_o (by omega), m_ui_o (by omega), m_ui_o (by omega), m_ui_o (by omega), m_ui_o (by omega), m_ui_o (by omega)]
    exact m7
theorem MY_AddM {n c v : Nat} {f f1 : Nat → Nat → Int32} {kind of tu h w t lo hi r : Int32} (m : MY n c v f) (ht : toldw h w t lo hi) (s : AddM n f f1 kind of tu h w t lo hi r) : ∃ n c v, MY n c v f1 := by
  rcases s with ⟨_, _, rfl⟩ | ⟨hn, _, rfl⟩
  · exact ⟨n, c, v, m⟩
  · exact ⟨n + 1, c, v, MY_add m hn ht⟩
theorem MY_work {n c v : Nat} {f f1 : Nat → Nat → Int32} {x1 x2 x3 x4 x5 x6 r : Int32} (m : MY n c v f) (s : SM_work n f f1 x1 x2 x3 x4 x5 x6 r) : ∃ n c v, MY n c v f1 := by
  rcases s with ⟨_, _, rfl⟩ | ⟨⟨_, ht⟩, s⟩
  · exact ⟨n, c, v, m⟩
  · exact MY_AddM m ht s
theorem MY_version {n c v : Nat} {f f1 : Nat → Nat → Int32} {x1 x2 x3 x4 x5 x6 r : Int32} (m : MY n c v f) (s : SM_version n f f1 x1 x2 x3 x4 x5 x6 r) : ∃ n c v, MY n c v f1 := by
  rcases s with ⟨_, _, rfl⟩ | ⟨j, _, _, ht, ⟨_, _, rfl⟩ | ⟨_, s⟩⟩
  · exact ⟨n, c, v, m⟩
  · exact ⟨n, c, v, m⟩
  · exact MY_AddM m ht s
theorem MY_print {n c v : Nat} {f f1 : Nat → Nat → Int32} {x1 x2 x3 x4 x5 x6 x7 r : Int32} (m : MY n c v f) (s : SM_print n f f1 x1 x2 x3 x4 x5 x6 x7 r) : ∃ n c v, MY n c v f1 := by
  rcases s with ⟨_, _, rfl⟩ | ⟨j, _, _, ht, s⟩
  · exact ⟨n, c, v, m⟩
  · exact MY_AddM m ht s
theorem MY_clue {n c v : Nat} {f f1 : Nat → Nat → Int32} {x1 x2 x3 r : Int32} (m : MY n c v f) (s : SM_clue n c f f1 x1 x2 x3 r) : ∃ n c v, MY n c v f1 := by
  rcases s with ⟨_, _, rfl⟩ | ⟨hw, ⟨_, _, rfl⟩ | ⟨hc, _, rfl⟩⟩
  · exact ⟨n, c, v, m⟩
  · exact ⟨n, c, v, m⟩
  · obtain ⟨⟨m1, m2, m3, m4, m5, m6⟩, m7, m8, _⟩ := m
    obtain ⟨⟨a, ha, ea⟩, ⟨b, hb, eb⟩, _, h30⟩ := hw
    unfold mcadd
    refine ⟨n, c + 1, v, ⟨m1, by omega, ?_, ?_, fun k hk => ?_, fun j hj => ?_⟩, ?_, m8, fun z => absurd m_ui_s z⟩
    · rw [m_ui_o (by omega), m_ui_o (by omega), m_ui_o (by omega), m_ui_o (by omega), m_ui_o (by omega), m_ui_o (by omega)]
      exact m3
    · rw [m_ui_o (by omega), m_ui_s]
    · by_cases e : k = c
      · subst e
        refine ⟨⟨a, ha, ?_⟩, ⟨b, hb, ?_⟩, ?_⟩
        · rw [m_ui_o (by omega), m_ui_o (by omega), m_ui_o (by omega), m_ui_o (by omega), m_ui_o (by omega), m_ui_s]
          exact ea
        · rw [m_ui_o (by omega), m_ui_o (by omega), m_ui_o (by omega), m_ui_o (by omega), m_ui_s]
          exact eb
        · rw [m_ui_o (by omega), m_ui_o (by omega), m_ui_o (by omega), m_ui_s]
          exact h30
      · have q := m5 k (by omega)
        rw [m_ui_o (by omega), m_ui_o (by omega), m_ui_o (by omega), m_ui_o (by omega), m_ui_o (by omega), m_ui_o (by omega)]
        rw [m_ui_o (by omega), m_ui_o (by omega), m_ui_o (by omega), m_ui_o (by omega), m_ui_o (by omega), m_ui_o (by omega)]
        rw [m_ui_o (by omega), m_ui_o (by omega), m_ui_o (by omega), m_ui_o (by omega), m_ui_o (by omega), m_ui_o (by omega)]
        exact q
    · have q := m6 j hj
      rw [m_ui_o (by omega), m_ui_o (by omega), m_ui_o (by omega), m_ui_o (by omega), m_ui_o (by omega), m_ui_o (by omega)]
      rw [m_ui_o (by omega), m_ui_o (by omega), m_ui_o (by omega), m_ui_o (by omega), m_ui_o (by omega), m_ui_o (by omega)]
      exact q
    · rw [m_ui_o (by omega), m_ui_o (by omega), m_ui_o (by omega), m_ui_o (by omega), m_ui_o (by omega), m_ui_o (by omega)]
      exact m7
theorem MY_vote {n h c v : Nat} {f f1 : Nat → Nat → Int32} {x1 x2 x3 x4 x5 r : Int32} (m : MY n c v f) (s : SM_vote n h v f f1 x1 x2 x3 x4 x5 r) : ∃ n c v, MY n c v f1 := by
  have k := km_vote s
  rcases s with ⟨_, _, rfl⟩ | ⟨j, _, _, _, ⟨_, _, rfl⟩ | ⟨_, _, _, rfl⟩ | ⟨_, hv, q, _, _, _, rfl⟩⟩
  · exact ⟨n, c, v, m⟩
  · exact ⟨n, c, v, m⟩
  · exact ⟨n, c, v, m⟩
  · refine ⟨n, c, v + 1, CM_kp k rfl rfl m.1, ?_, by omega, fun z => absurd m_ui_s z⟩
    unfold mvadd
    rw [m_ui_o (by omega), m_ui_s]
theorem MY_at {n c v n' c' v' : Nat} {f : Nat → Nat → Int32} (m : MY n' c' v' f) (hR : RW n f) (hC : RC c f) (hV : RV v f) : MY n c v f := by
  have a1 := hR.1
  have a2 := hC.1
  have a3 := hV.1
  obtain ⟨⟨m1, m2, m3, m4, m5, m6⟩, m7, m8, m9⟩ := m
  have e1 : n' = n := (nI_eq (by omega) (by omega)).mp (m3.symm.trans hR.2.2.1)
  have e2 : c' = c := (nI_eq (by omega) (by omega)).mp (m4.symm.trans hC.2.2.1)
  have e3 : v' = v := (nI_eq (by omega) (by omega)).mp (m7.symm.trans hV.2.2.1)
  subst e1
  subst e2
  subst e3
  exact ⟨⟨m1, m2, m3, m4, m5, m6⟩, m7, m8, m9⟩
/-- what holds between calls, with the years -/
def GM (f : Nat → Nat → Int32) : Prop := GE f ∧ Z137 f ∧ ∃ n c v, MY n c v f
def ok21 (l : List Nat) : Bool := !hasN l 21
theorem Z_kp {l : List Nat} {f f' : Nat → Nat → Int32} (k : kp l f f') (hl : ok21 l = true) (h : Z137 f) : Z137 f' := fun j => by
  unfold ok21 at hl
  simp only [Bool.not_eq_true'] at hl
  exact (k 137 j (by exact hl)).trans (h j)
theorem MYe_kp {l : List Nat} {f f' : Nat → Nat → Int32} (k : kp l f f') (hl : okm l = true) (h : ∃ n c v, MY n c v f) : ∃ n c v, MY n c v f' := by
  obtain ⟨n, c, v, m⟩ := h
  exact ⟨n, c, v, MY_kp k hl m⟩
theorem GM_x {l : List Nat} {f f' : Nat → Nat → Int32} (h : GM f) (x : XI f') (k : kp l f f') (hl : ((okg l && oke l) && (okm l && ok21 l)) = true) : GM f' := by
  rw [Bool.and_eq_true, Bool.and_eq_true (okm l)] at hl
  exact ⟨GE_x h.1 x k hl.1, Z_kp k hl.2.2 h.2.1, MYe_kp k hl.2.1 h.2.2⟩
theorem GM_m {l : List Nat} {f f' : Nat → Nat → Int32} (h : GM f) (x : XI f') (k : kp l f f') (m : ∃ n c v, MY n c v f') (hl : ((okg l && oke l) && ok21 l) = true) : GM f' := by
  rw [Bool.and_eq_true] at hl
  exact ⟨GE_x h.1 x k hl.1, Z_kp k hl.2 h.2.1, m⟩
theorem GM_s {l l' : List Nat} {f f1 f2 : Nat → Nat → Int32} (h : GM f) (k1 : kp l f f1) (k2 : kp l' f1 f2) (j : GK f2) (m : ∃ n c v, MY n c v f2) (hl : ((okw l && oke l) && ok21 l) = true) (hl' : ((okw l' && oke l') && ok21 l') = true) : GM f2 := by
  rw [Bool.and_eq_true] at hl hl'
  exact ⟨GE_j h.1 k1 k2 j hl.1 hl'.1, Z_kp k2 hl'.2 (Z_kp k1 hl.2 h.2.1), m⟩
theorem GM_j {l l' : List Nat} {f f1 f2 : Nat → Nat → Int32} (h : GM f) (k1 : kp l f f1) (k2 : kp l' f1 f2) (j : GK f2) (hl : ((okw l && oke l) && (okm l && ok21 l)) = true) (hl' : ((okw l' && oke l') && (okm l' && ok21 l')) = true) : GM f2 := by
  rw [Bool.and_eq_true, Bool.and_eq_true (okm l)] at hl
  rw [Bool.and_eq_true, Bool.and_eq_true (okm l')] at hl'
  exact ⟨GE_j h.1 k1 k2 j hl.1 hl'.1, Z_kp k2 hl'.2.2 (Z_kp k1 hl.2.2 h.2.1), MYe_kp k2 hl'.2.1 (MYe_kp k1 hl.2.1 h.2.2)⟩
theorem GM_v {f f1 f2 : Nat → Nat → Int32} (h : GM f) (k1 : kp [4] f f1) (k2 : kp [10, 14, 22] f1 f2) (x : XI f2) (r : ∃ v, RV v f2) (m : ∃ n c v, MY n c v f2) : GM f2 := ⟨GE_v h.1 k1 k2 x r, Z_kp k2 rfl (Z_kp k1 rfl h.2.1), m⟩
theorem GM_ed {f f1 f2 : Nat → Nat → Int32} (h : GM f) (x1 : XI f1) (k1 : kp [0, 7] f f1) (e1 : EI f1) (q1 : f1 168 7 = edn (f 168 7)) (x2 : XI f2) (k2 : kp [10, 17, 22, 23] f1 f2) (m : ∃ n c v, MY n c v f2) (q2 : f2 181 50 = edn (f1 181 50)) : GM f2 := by
  refine ⟨⟨GL_x (GL_xE h.1.1 x1 k1 e1) x2 k2 rfl, ?_⟩, Z_kp k2 rfl (Z_kp k1 rfl h.2.1), m⟩
  rw [k2 168 7 rfl, q1, q2, k1 181 50 rfl, h.1.2]
theorem GM_ini {f : Nat → Nat → Int32} (hf : ∀ a i, 6 ≤ a → f a i = if a < 227 then inix a i else 0) (h3 : ab3 f) (h2 : ab2 f) : GM f := by
  have z : ∀ i, f 181 i = 0 := fun i => by rw [hf 181 i (by omega), if_pos (by omega), inix_0 _ (by decide)]
  refine ⟨GE_ini hf h3 h2, fun k => ?_, 0, 0, 0, ⟨by omega, by omega, z 0, z 16, fun k hk => absurd hk (by omega), fun k hk => absurd hk (by omega)⟩, z 48, by omega, fun q => absurd (z 29) q⟩
  rw [hf 137 k (by omega), if_pos (by omega), inix_0 _ (by decide)]
/-! choices of s among m, by rising numbers, in their order -/
def inc (s m : Nat) (r : Nat → Nat) : Prop := (∀ u v, u < v → v < s → r u + (v - u) ≤ r v) ∧ ∀ u, u < s → r u + s ≤ m + u
def lexl (s : Nat) (r p : Nat → Nat) : Prop := ∃ t, t < s ∧ (∀ u, u < t → r u = p u) ∧ r t < p t
def nxtp (p : Nat → Nat) (t : Nat) : Nat → Nat := fun u => if u < t then p u else p t + 1 + (u - t)
theorem first_diff (r p : Nat → Nat) : ∀ s, (∀ u, u < s → r u = p u) ∨ ∃ t, t < s ∧ (∀ u, u < t → r u = p u) ∧ ¬ r t = p t
  | 0 => Or.inl (fun u hu => absurd hu (by omega))
  | s + 1 => by
    rcases first_diff r p s with h | ⟨t, ht, h1, h2⟩
    · by_cases e : r s = p s
      · left
        intro u hu
        by_cases q : u = s
        · subst q
          exact e
        · exact h u (by omega)
      · exact Or.inr ⟨s, by omega, h, e⟩
    · exact Or.inr ⟨t, by omega, h1, h2⟩
theorem nxt_lt {p : Nat → Nat} {t u : Nat} (h : u < t) : nxtp p t u = p u := if_pos h
theorem nxt_ge {p : Nat → Nat} {t u : Nat} (h : ¬ u < t) : nxtp p t u = p t + 1 + (u - t) := if_neg h
theorem inc_nxt {s m t : Nat} {p : Nat → Nat} (h : inc s m p) (ht : t < s) (hb : p t + s < m + t) : inc s m (nxtp p t) := by
  refine ⟨fun u v huv hv => ?_, fun u hu => ?_⟩
  · by_cases q1 : v < t
    · rw [nxt_lt (show u < t by omega), nxt_lt q1]
      exact h.1 u v huv hv
    · rw [nxt_ge q1]
      by_cases q2 : u < t
      · rw [nxt_lt q2]
        have := h.1 u t q2 ht
        omega
      · rw [nxt_ge q2]
        omega
  · by_cases q2 : u < t
    · rw [nxt_lt q2]
      exact h.2 u hu
    · rw [nxt_ge q2]
      omega
theorem lex_nxt {s m t : Nat} {p r : Nat → Nat} (hr : inc s m r) (ht : t < s) (hm : ∀ u, t < u → u < s → ¬ p u + s < m + u) (h : lexl s r (nxtp p t)) : lexl s r p ∨ ∀ u, u < s → r u = p u := by
  obtain ⟨w, hw, h1, h2⟩ := h
  by_cases q : w < t
  · left
    refine ⟨w, hw, fun u hu => (h1 u hu).trans (nxt_lt (by omega)), ?_⟩
    rw [nxt_lt q] at h2
    exact h2
  · by_cases q2 : w = t
    · subst q2
      rw [nxt_ge (by omega)] at h2
      rcases first_diff r p s with a | ⟨z, hz, z1, z2⟩
      · exact Or.inr a
      · left
        refine ⟨z, hz, z1, ?_⟩
        by_cases g : z < w
        · exact absurd ((h1 z g).trans (nxt_lt g)) z2
        · by_cases g2 : z = w
          · subst g2
            omega
          · have b1 := hm z (by omega) hz
            have b2 := hr.2 z hz
            omega
    · exfalso
      rw [nxt_ge (by omega)] at h2
      have a := h1 t (by omega)
      rw [nxt_ge (by omega)] at a
      have b := hr.1 t w (by omega) hw
      omega
theorem lex_last {s m : Nat} {p r : Nat → Nat} (hr : inc s m r) (hm : ∀ u, u < s → ¬ p u + s < m + u) : lexl s r p ∨ ∀ u, u < s → r u = p u := by
  rcases first_diff r p s with a | ⟨z, hz, z1, z2⟩
  · exact Or.inr a
  · left
    refine ⟨z, hz, z1, ?_⟩
    have b1 := hm z hz
    have b2 := hr.2 z hz
    omega
theorem lex_first {s m : Nat} {r : Nat → Nat} (hr : inc s m r) : ¬ lexl s r (fun u => u) := by
  rintro ⟨t, ht, h1, h2⟩
  have h3 : r t < t := h2
  by_cases q : t = 0
  · omega
  · have := hr.1 0 t (by omega) ht
    omega
theorem inc_first {s m : Nat} (h : s ≤ m) : inc s m (fun u => u) := ⟨fun u v h1 h2 => by show u + (v - u) ≤ v; omega, fun u hu => by show u + s ≤ m + u; omega⟩
/-- how many choices are left -/
def c2_ : Nat → Nat
  | 0 => 0
  | x + 1 => c2_ x + x
def c3_ : Nat → Nat
  | 0 => 0
  | x + 1 => c3_ x + c2_ x
def mu3 (s m : Nat) (p : Nat → Nat) : Nat := if s = 1 then m - 1 - p 0 else if s = 2 then c2_ (m - 1 - p 0) + (m - 1 - p 1) else c3_ (m - 1 - p 0) + c2_ (m - 1 - p 1) + (m - 1 - p 2)
theorem mu_1 {m : Nat} (p : Nat → Nat) : mu3 1 m p = m - 1 - p 0 := rfl
theorem mu_2 {m : Nat} (p : Nat → Nat) : mu3 2 m p = c2_ (m - 1 - p 0) + (m - 1 - p 1) := rfl
theorem mu_3 {m : Nat} (p : Nat → Nat) : mu3 3 m p = c3_ (m - 1 - p 0) + c2_ (m - 1 - p 1) + (m - 1 - p 2) := rfl
theorem mu_0 : ∀ m, m < 21 → ∀ s, s < 4 → mu3 s m (fun u => u) ≤ 1999 := by decide +kernel
theorem c2_s {x y : Nat} (h : y = x + 1) : c2_ y = c2_ x + x := by
  subst h
  rfl
theorem c3_s {x y : Nat} (h : y = x + 1) : c3_ y = c3_ x + c2_ x := by
  subst h
  rfl
theorem mu_nxt {s m t : Nat} {p : Nat → Nat} (h : inc s m p) (h1 : 1 ≤ s) (h3 : s ≤ 3) (ht : t < s) (hb : p t + s < m + t) (hm : ∀ u, t < u → u < s → ¬ p u + s < m + u) : mu3 s m (nxtp p t) < mu3 s m p := by
  have e : s = 1 ∨ s = 2 ∨ s = 3 := by omega
  rcases e with rfl | rfl | rfl
  · have e : t = 0 := by omega
    subst e
    rw [mu_1, mu_1, nxt_ge (by omega)]
    omega
  · have b0 := h.2 0 (by omega)
    have b1 := h.2 1 (by omega)
    have e : t = 0 ∨ t = 1 := by omega
    rcases e with rfl | rfl
    · have a1 := hm 1 (by omega) (by omega)
      have e0 : nxtp p 0 0 = p 0 + 1 := nxt_ge (by omega)
      have e1 : nxtp p 0 1 = p 0 + 1 + 1 := nxt_ge (by omega)
      have g := c2_s (x := m - 1 - (p 0 + 1)) (y := m - 1 - p 0) (by omega)
      rw [mu_2, mu_2, e0, e1, g]
      omega
    · have e0 : nxtp p 1 0 = p 0 := nxt_lt (by omega)
      have e1 : nxtp p 1 1 = p 1 + 1 := nxt_ge (by omega)
      rw [mu_2, mu_2, e0, e1]
      omega
  · have b0 := h.2 0 (by omega)
    have b1 := h.2 1 (by omega)
    have b2 := h.2 2 (by omega)
    have e : t = 0 ∨ t = 1 ∨ t = 2 := by omega
    rcases e with rfl | rfl | rfl
    · have a1 := hm 1 (by omega) (by omega)
      have a2 := hm 2 (by omega) (by omega)
      have e0 : nxtp p 0 0 = p 0 + 1 := nxt_ge (by omega)
      have e1 : nxtp p 0 1 = p 0 + 1 + 1 := nxt_ge (by omega)
      have e2 : nxtp p 0 2 = p 0 + 1 + 2 := nxt_ge (by omega)
      have g := c3_s (x := m - 1 - (p 0 + 1)) (y := m - 1 - p 0) (by omega)
      have g2 := c2_s (x := m - 1 - (p 0 + 1 + 1)) (y := m - 1 - (p 0 + 1)) (by omega)
      rw [mu_3, mu_3, e0, e1, e2, g, g2]
      omega
    · have a2 := hm 2 (by omega) (by omega)
      have e0 : nxtp p 1 0 = p 0 := nxt_lt (by omega)
      have e1 : nxtp p 1 1 = p 1 + 1 := nxt_ge (by omega)
      have e2 : nxtp p 1 2 = p 1 + 1 + 1 := nxt_ge (by omega)
      have g := c2_s (x := m - 1 - (p 1 + 1)) (y := m - 1 - p 1) (by omega)
      rw [mu_3, mu_3, e0, e1, e2, g]
      omega
    · have e0 : nxtp p 2 0 = p 0 := nxt_lt (by omega)
      have e1 : nxtp p 2 1 = p 1 := nxt_lt (by omega)
      have e2 : nxtp p 2 2 = p 2 + 1 := nxt_ge (by omega)
      rw [mu_3, mu_3, e0, e1, e2]
      omega
/-- how many would have to go: FE B: feasible without the clues of B; Cn: a clue counts -/
def AS (FE : (Nat → Prop) → Prop) (Cn : Nat → Prop) (c : Nat) (r : Int32) : Prop :=
  (FE (fun _ => False) ∧ r = 0) ∨ (¬ FE (fun _ => False) ∧ (∃ a, a < c ∧ Cn a ∧ FE (fun k => k = a)) ∧ r = 1) ∨
  (¬ FE (fun _ => False) ∧ ¬ (∃ a, a < c ∧ Cn a ∧ FE (fun k => k = a)) ∧ (∃ a b, a < b ∧ b < c ∧ Cn a ∧ Cn b ∧ FE (fun k => k = a ∨ k = b)) ∧ r = 2) ∨
  (¬ FE (fun _ => False) ∧ ¬ (∃ a, a < c ∧ Cn a ∧ FE (fun k => k = a)) ∧ ¬ (∃ a b, a < b ∧ b < c ∧ Cn a ∧ Cn b ∧ FE (fun k => k = a ∨ k = b)) ∧ (∃ a b d, a < b ∧ b < d ∧ d < c ∧ Cn a ∧ Cn b ∧ Cn d ∧ FE (fun k => k = a ∨ k = b ∨ k = d)) ∧ r = 3) ∨
  (¬ FE (fun _ => False) ∧ ¬ (∃ a, a < c ∧ Cn a ∧ FE (fun k => k = a)) ∧ ¬ (∃ a b, a < b ∧ b < c ∧ Cn a ∧ Cn b ∧ FE (fun k => k = a ∨ k = b)) ∧ ¬ (∃ a b d, a < b ∧ b < d ∧ d < c ∧ Cn a ∧ Cn b ∧ Cn d ∧ FE (fun k => k = a ∨ k = b ∨ k = d)) ∧ r = -4)
theorem AS_u {FE : (Nat → Prop) → Prop} {Cn : Nat → Prop} {c : Nat} {r r' : Int32} (h : AS FE Cn c r) (h' : AS FE Cn c r') : r = r' := by
  rcases h with ⟨a, e⟩ | ⟨a, b, e⟩ | ⟨a, b, d, e⟩ | ⟨a, b, d, g, e⟩ | ⟨a, b, d, g, e⟩ <;> rcases h' with ⟨a', e'⟩ | ⟨a', b', e'⟩ | ⟨a', b', d', e'⟩ | ⟨a', b', d', g', e'⟩ | ⟨a', b', d', g', e'⟩ <;> first | exact e.trans e'.symm | exact absurd a a' | exact absurd a' a | exact absurd b b' | exact absurd b' b | exact absurd d d' | exact absurd d' d | exact absurd g g' | exact absurd g' g
/-- the same by places in the list q of those that count -/
theorem S1_q {FE : (Nat → Prop) → Prop} {Cn : Nat → Prop} {c m : Nat} {q : Nat → Nat} (h1 : ∀ j, j < m → q j < c ∧ Cn (q j)) (h2 : ∀ k, k < c → Cn k → ∃ j, j < m ∧ q j = k) : (∃ a, a < c ∧ Cn a ∧ FE (fun k => k = a)) ↔ ∃ r, inc 1 m r ∧ FE (fun k => ∃ u, u < 1 ∧ k = q (r u)) := by
  constructor
  · rintro ⟨a, ha, ca, fe⟩
    obtain ⟨j, hj, e⟩ := h2 a ha ca
    refine ⟨fun _ => j, ⟨fun u v h1 h2 => by omega, fun u hu => by show j + 1 ≤ m + u; omega⟩, ?_⟩
    have es : (fun k => ∃ u, u < 1 ∧ k = q ((fun _ => j) u)) = fun k => k = a := by
      funext k
      refine propext ⟨fun ⟨u, _, z⟩ => z.trans e, fun z => ⟨0, by omega, z.trans e.symm⟩⟩
    rw [es]
    exact fe
  · rintro ⟨r, hr, fe⟩
    have b := hr.2 0 (by omega)
    obtain ⟨g1, g2⟩ := h1 (r 0) (by omega)
    refine ⟨q (r 0), g1, g2, ?_⟩
    have es : (fun k => ∃ u, u < 1 ∧ k = q (r u)) = fun k => k = q (r 0) := by
      funext k
      refine propext ⟨fun ⟨u, hu, z⟩ => ?_, fun z => ⟨0, by omega, z⟩⟩
      have e : u = 0 := by omega
      subst e
      exact z
    rw [es] at fe
    exact fe
theorem q_lt {m : Nat} {q : Nat → Nat} (h3 : ∀ j j', j < j' → j' < m → q j < q j') {i j : Nat} (hi : i < m) (hj : j < m) (h : q i < q j) : i < j := by
  rcases Nat.lt_trichotomy i j with a | a | a
  · exact a
  · subst a
    omega
  · have := h3 j i a hi
    omega
theorem S2_q {FE : (Nat → Prop) → Prop} {Cn : Nat → Prop} {c m : Nat} {q : Nat → Nat} (h1 : ∀ j, j < m → q j < c ∧ Cn (q j)) (h2 : ∀ k, k < c → Cn k → ∃ j, j < m ∧ q j = k) (h3 : ∀ j j', j < j' → j' < m → q j < q j') : (∃ a b, a < b ∧ b < c ∧ Cn a ∧ Cn b ∧ FE (fun k => k = a ∨ k = b)) ↔ ∃ r, inc 2 m r ∧ FE (fun k => ∃ u, u < 2 ∧ k = q (r u)) := by
  constructor
  · rintro ⟨a, b, hab, hb, ca, cb, fe⟩
    obtain ⟨i, hi, ei⟩ := h2 a (by omega) ca
    obtain ⟨j, hj, ej⟩ := h2 b hb cb
    have hij : i < j := q_lt h3 hi hj (by omega)
    refine ⟨fun u => if u = 0 then i else j, ⟨fun u v h1 h2 => ?_, fun u hu => ?_⟩, ?_⟩
    · have e1 : u = 0 := by omega
      have e2 : v = 1 := by omega
      subst e1
      subst e2
      show i + 1 ≤ j
      omega
    · show (if u = 0 then i else j) + 2 ≤ m + u
      by_cases e : u = 0
      · rw [if_pos e]
        omega
      · rw [if_neg e]
        omega
    · have es : (fun k => ∃ u, u < 2 ∧ k = q ((fun u => if u = 0 then i else j) u)) = fun k => k = a ∨ k = b := by
        funext k
        refine propext ⟨fun ⟨u, hu, z⟩ => ?_, fun z => ?_⟩
        · have e : u = 0 ∨ u = 1 := by omega
          rcases e with rfl | rfl
          · exact Or.inl (z.trans ei)
          · exact Or.inr (z.trans ej)
        · rcases z with z | z
          · exact ⟨0, by omega, z.trans ei.symm⟩
          · exact ⟨1, by omega, z.trans ej.symm⟩
      rw [es]
      exact fe
  · rintro ⟨r, hr, fe⟩
    have b0 := hr.2 0 (by omega)
    have b1 := hr.2 1 (by omega)
    have b2 := hr.1 0 1 (by omega) (by omega)
    obtain ⟨g1, g2⟩ := h1 (r 0) (by omega)
    obtain ⟨g3, g4⟩ := h1 (r 1) (by omega)
    refine ⟨q (r 0), q (r 1), h3 _ _ (by omega) (by omega), g3, g2, g4, ?_⟩
    have es : (fun k => ∃ u, u < 2 ∧ k = q (r u)) = fun k => k = q (r 0) ∨ k = q (r 1) := by
      funext k
      refine propext ⟨fun ⟨u, hu, z⟩ => ?_, fun z => ?_⟩
      · have e : u = 0 ∨ u = 1 := by omega
        rcases e with rfl | rfl
        · exact Or.inl z
        · exact Or.inr z
      · rcases z with z | z
        · exact ⟨0, by omega, z⟩
        · exact ⟨1, by omega, z⟩
    rw [es] at fe
    exact fe
theorem S3_q {FE : (Nat → Prop) → Prop} {Cn : Nat → Prop} {c m : Nat} {q : Nat → Nat} (h1 : ∀ j, j < m → q j < c ∧ Cn (q j)) (h2 : ∀ k, k < c → Cn k → ∃ j, j < m ∧ q j = k) (h3 : ∀ j j', j < j' → j' < m → q j < q j') : (∃ a b d, a < b ∧ b < d ∧ d < c ∧ Cn a ∧ Cn b ∧ Cn d ∧ FE (fun k => k = a ∨ k = b ∨ k = d)) ↔ ∃ r, inc 3 m r ∧ FE (fun k => ∃ u, u < 3 ∧ k = q (r u)) := by
  constructor
  · rintro ⟨a, b, d, hab, hbd, hd, ca, cb, cd, fe⟩
    obtain ⟨i, hi, ei⟩ := h2 a (by omega) ca
    obtain ⟨j, hj, ej⟩ := h2 b (by omega) cb
    obtain ⟨l, hl, el⟩ := h2 d hd cd
    have hij : i < j := q_lt h3 hi hj (by omega)
    have hjl : j < l := q_lt h3 hj hl (by omega)
    refine ⟨fun u => if u = 0 then i else if u = 1 then j else l, ⟨fun u v h1 h2 => ?_, fun u hu => ?_⟩, ?_⟩
    · show (if u = 0 then i else if u = 1 then j else l) + (v - u) ≤ (if v = 0 then i else if v = 1 then j else l)
      have e : (u = 0 ∧ v = 1) ∨ (u = 0 ∧ v = 2) ∨ (u = 1 ∧ v = 2) := by omega
      rcases e with ⟨rfl, rfl⟩ | ⟨rfl, rfl⟩ | ⟨rfl, rfl⟩
      · show i + 1 ≤ j
        omega
      · show i + 2 ≤ l
        omega
      · show j + 1 ≤ l
        omega
    · have e : u = 0 ∨ u = 1 ∨ u = 2 := by omega
      rcases e with rfl | rfl | rfl
      · show i + 3 ≤ m + 0
        omega
      · show j + 3 ≤ m + 1
        omega
      · show l + 3 ≤ m + 2
        omega
    · have es : (fun k => ∃ u, u < 3 ∧ k = q ((fun u => if u = 0 then i else if u = 1 then j else l) u)) = fun k => k = a ∨ k = b ∨ k = d := by
        funext k
        refine propext ⟨fun ⟨u, hu, z⟩ => ?_, fun z => ?_⟩
        · have e : u = 0 ∨ u = 1 ∨ u = 2 := by omega
          rcases e with rfl | rfl | rfl
          · exact Or.inl (z.trans ei)
          · exact Or.inr (Or.inl (z.trans ej))
          · exact Or.inr (Or.inr (z.trans el))
        · rcases z with z | z | z
          · exact ⟨0, by omega, z.trans ei.symm⟩
          · exact ⟨1, by omega, z.trans ej.symm⟩
          · exact ⟨2, by omega, z.trans el.symm⟩
      rw [es]
      exact fe
  · rintro ⟨r, hr, fe⟩
    have b1 := hr.2 1 (by omega)
    have b2 := hr.2 2 (by omega)
    have b0 := hr.2 0 (by omega)
    have d1 := hr.1 0 1 (by omega) (by omega)
    have d2 := hr.1 1 2 (by omega) (by omega)
    obtain ⟨g1, g2⟩ := h1 (r 0) (by omega)
    obtain ⟨g3, g4⟩ := h1 (r 1) (by omega)
    obtain ⟨g5, g6⟩ := h1 (r 2) (by omega)
    refine ⟨q (r 0), q (r 1), q (r 2), h3 _ _ (by omega) (by omega), h3 _ _ (by omega) (by omega), g5, g2, g4, g6, ?_⟩
    have es : (fun k => ∃ u, u < 3 ∧ k = q (r u)) = fun k => k = q (r 0) ∨ k = q (r 1) ∨ k = q (r 2) := by
      funext k
      refine propext ⟨fun ⟨u, hu, z⟩ => ?_, fun z => ?_⟩
      · have e : u = 0 ∨ u = 1 ∨ u = 2 := by omega
        rcases e with rfl | rfl | rfl
        · exact Or.inl z
        · exact Or.inr (Or.inl z)
        · exact Or.inr (Or.inr z)
      · rcases z with z | z | z
        · exact ⟨0, by omega, z⟩
        · exact ⟨1, by omega, z⟩
        · exact ⟨2, by omega, z⟩
    rw [es] at fe
    exact fe
theorem CT_g {f f' : Nat → Nat → Int32} {n m : Nat} {q : Nat → Nat} (h : ∀ a i, ¬ a = 134 → ¬ a = 137 → ¬ a = 138 → f' a i = f a i) (hC : CT f n m q) : CT f' n m q := by
  obtain ⟨h1, h2, h3, h4, h5, h6⟩ := hC
  refine ⟨h1, h2, (h 6 13 (by omega) (by omega) (by omega)).trans h3, (h 129 11 (by omega) (by omega) (by omega)).trans h4, fun i hi => ?_, fun j hj => ?_⟩
  · rw [h 136 i (by omega) (by omega) (by omega), h 130 (q i) (by omega) (by omega) (by omega), h 131 (q i) (by omega) (by omega) (by omega), h 132 (q i) (by omega) (by omega) (by omega)]
    exact h5 i hi
  · rw [h 11 j (by omega) (by omega) (by omega), h 12 j (by omega) (by omega) (by omega)]
    exact h6 j hj
/-- feasible without the clues of B -/
def FEB (f : Nat → Nat → Int32) (n m : Nat) (q : Nat → Nat) (B : Nat → Prop) : Prop := ∃ X : Nat → Int, (∀ i, i < m → ¬ B (q i) → X (f 130 (q i)).toNatClampNeg + (f 132 (q i)).toInt ≤ X (f 131 (q i)).toNatClampNeg) ∧ (∀ w, Yh f 11 n w ≤ X w) ∧ ∀ w, w < n → X w ≤ Yh f 12 n w
theorem FEB_zf {f f' : Nat → Nat → Int32} {n m : Nat} {q : Nat → Nat} (h : zf f f') (B : Nat → Prop) : FEB f' n m q B = FEB f n m q B := by
  have h130 : ∀ i, f' 130 i = f 130 i := fun i => h 130 i (by omega) (by omega)
  have h131 : ∀ i, f' 131 i = f 131 i := fun i => h 131 i (by omega) (by omega)
  have h132 : ∀ i, f' 132 i = f 132 i := fun i => h 132 i (by omega) (by omega)
  have y1 : Yh f' 11 n = Yh f 11 n := Yh_eq (fun w _ => h 11 w (by omega) (by omega))
  have y2 : Yh f' 12 n = Yh f 12 n := Yh_eq (fun w _ => h 12 w (by omega) (by omega))
  unfold FEB
  simp only [h130, h131, h132, y1, y2]
theorem XI_o134 {f f' : Nat → Nat → Int32} (hX : XI f) (h : o134 f f') : XI f' := fun a i => by
  by_cases e : a = 134
  · subst e
    exact True.intro
  · rw [h a i e]
    exact hX a i
theorem ixA_q {f : Nat → Nat → Int32} {n m u : Nat} {q p : Nat → Nat} (hC : CT f n m q) (hu : u < 3) (h : f 138 u = nI (p u)) (hm : p u < m) : ixA f u = q (p u) := by
  have hm20 := hC.2.1
  obtain ⟨a1, a2, _⟩ := hC.2.2.2.2.1 (p u) hm
  unfold ixA
  rw [nI_clamp (show u < 2 ^ 31 by omega), h, nI_clamp (show p u < 2 ^ 31 by omega), a2, nI_clamp (by omega)]
theorem fe_pa {f : Nat → Nat → Int32} {n m s : Nat} {q p : Nat → Nat} (hs : s ≤ 3) (hC : CT f n m q) (hZ : Z137 f) (hp : ∀ u, u < s → f 138 u = nI (p u) ∧ p u < m) : (∃ X, Sol m (eA (pa f 1 s) q) (eU (pa f 1 s) q) (eV (pa f 1 s) q) (eD (pa f 1 s) q) X ∧ (∀ w, Yh (pa f 1 s) 11 n w ≤ X w) ∧ ∀ w, w < n → X w ≤ Yh (pa f 1 s) 12 n w) ↔ FEB f n m q (fun k => ∃ u, u < s ∧ k = q (p u)) := by
  have o : ∀ a i, ¬ a = 137 → pa f 1 s a i = f a i := fun a i h => pa_o h s
  have y1 : Yh (pa f 1 s) 11 n = Yh f 11 n := Yh_eq (fun w _ => o 11 w (by omega))
  have y2 : Yh (pa f 1 s) 12 n = Yh f 12 n := Yh_eq (fun w _ => o 12 w (by omega))
  have key : ∀ i, i < m → (eA (pa f 1 s) q i = true ↔ ¬ ∃ u, u < s ∧ q i = q (p u)) := fun i hi => by
    unfold eA
    rw [decide_eq_true_iff]
    by_cases h : ∃ u, u < s ∧ q i = q (p u)
    · obtain ⟨u, hu, e⟩ := h
      rw [pa_y s ⟨u, hu, (ixA_q hC (by omega) (hp u hu).1 (hp u hu).2).trans e.symm⟩]
      exact ⟨fun z => absurd z (by decide), fun z => absurd ⟨u, hu, e⟩ z⟩
    · rw [pa_n s (fun u hu z => h ⟨u, hu, z.symm.trans (ixA_q hC (by omega) (hp u hu).1 (hp u hu).2)⟩)]
      exact ⟨fun _ => h, fun _ => hZ (q i)⟩
  rw [y1, y2]
  constructor
  · rintro ⟨X, x1, x2, x3⟩
    refine ⟨X, fun i hi hB => ?_, x2, x3⟩
    have := x1 i hi ((key i hi).mpr hB)
    unfold eU eV eD at this
    rw [o 130 _ (by omega), o 131 _ (by omega), o 132 _ (by omega)] at this
    exact this
  · rintro ⟨X, x1, x2, x3⟩
    refine ⟨X, fun i hi hA => ?_, x2, x3⟩
    have := x1 i hi ((key i hi).mp hA)
    unfold eU eV eD
    rw [o 130 _ (by omega), o 131 _ (by omega), o 132 _ (by omega)]
    exact this
set_option maxRecDepth 100000 in
set_option maxHeartbeats 4000000 in
theorem sf_isFree {d L : Nat} {f : Nat → Nat → Int32} {g : Nat → Nat → Int64} {s n m : Nat} {q p : Nat → Nat} {R : Option Value → mH → Prop} (hd : 3 ≤ d) (hX : XI f) (hs : s ≤ 3) (hC : CT f n m q) (hZ : Z137 f) (hp : ∀ u, u < s → f 138 u = nI (p u) ∧ p u < m) (H1 : FEB f n m q (fun k => ∃ u, u < s ∧ k = q (p u)) → ∀ f', XI f' → fx 134 135 f f' → R (some (.int 1)) (shF L, f', g)) (H0 : ¬ FEB f n m q (fun k => ∃ u, u < s ∧ k = q (p u)) → ∀ f', XI f' → fx 134 135 f f' → R (some (.int 0)) (shF L, f', g)) : Run mtab d 86 [.ref 129, .int (nI s)] (shF L, f, g) R := by
  obtain ⟨d, rfl⟩ : ∃ e, d = e + 1 := ⟨d - 1, by omega⟩
  refine go_X9_isFreeWithout rfl ?_
  conv => whnf
  have hCa : CT (pa f 1 s) n m q := CT_g (fun a i _ h _ => pa_o h s) hC
  have fe := fe_pa hs hC hZ hp
  refine sf_putAside (by omega) hX rfl hs ?_
  conv => whnf
  refine sf_raiseLows (by omega) hCa (fun nf f2 h2 => ?_) (fun f2 h2 r2 L2 => ?_)
  · have h2X := XI_o134 (XI_pa hX s) h2
    conv => whnf
    refine sf_putAside (by omega) h2X rfl hs ?_
    conv => whnf
    have G := H0 (fun z => nf (fe.mpr z)) _ (XI_pa h2X s) (fx_pa hZ (fun a i q => h2 a i (by omega)))
    first | exact ⟨Or.inl rfl, G⟩ | exact G
  · have h2X := XI_o134 (XI_pa hX s) h2
    conv => whnf
    refine sf_putAside (by omega) h2X rfl hs ?_
    conv => whnf
    have F1 : FEB f n m q (fun k => ∃ u, u < s ∧ k = q (p u)) := fe.mp ⟨_, L2.1, L2.2.1, fun w hw => by
      rw [Yh_t hw, Yh_t hw]
      exact Int32.le_iff_toInt_le.mp (r2 w hw).2⟩
    have G := H1 F1 _ (XI_pa h2X s) (fx_pa hZ (fun a i q => h2 a i (by omega)))
    first | exact ⟨Or.inr rfl, G⟩ | exact G
theorem cn_ge {n s t u : Nat} (hn : n ≤ 20) (hs : s ≤ 3) (ht : t ≤ 3) (hu : u ≤ 19) (c : nI n - nI s + nI t ≤ nI u) : ¬ u + s < n + t := by
  have e1 : (nI n - nI s).toInt = (n : Int) - s := by
    rw [Int32.toInt_sub, nI_toInt (by omega), nI_toInt (by omega)]
    exact Int.bmod_eq_of_le (by omega) (by omega)
  have e2 : (nI n - nI s + nI t).toInt = (n : Int) - s + t := by
    rw [Int32.toInt_add, e1, nI_toInt (by omega)]
    exact Int.bmod_eq_of_le (by omega) (by omega)
  rw [Int32.le_iff_toInt_le, e2, nI_toInt (by omega)] at c
  omega
set_option maxRecDepth 100000 in
set_option maxHeartbeats 4000000 in
theorem scn_in {d L m s t : Nat} {f0 : Nat → Nat → Int32} {g : Nat → Nat → Int64} {p : Nat → Nat} {w : Int32} {R : Option Value → mH → Prop} (hm : m ≤ 20) (hs : s ≤ 3) (ht : t < s) (hb : p t + s < m + t) (H : ∀ f', XI f' → (∀ u, u < s → f' 138 u = nI (nxtp p t u)) → (∀ a i, ¬ a = 138 → f' a i = f0 a i) → R (some (.int 1)) (shF L, f', g)) :
    ∀ (k j : Nat) (x : Int32) (f : Nat → Nat → Int32), j + 1 + k = s → t ≤ j → x = nI (j + 1) → (∀ u, u < s → f 138 u = nI (if u ≤ j then nxtp p t u else p u)) → (∀ a i, ¬ a = 138 → f a i = f0 a i) → XI f → WPe pg_X9_chooseNext none (Run mtab d) R (m_drop pg_X9_chooseNext 29) [some (.ref 129), some (.int (nI s)), some (.int w), some (.int x)] [] (shF L, f, g)
  | 0, j, x, f, hk, htj, hx, h8, hF, hX => by
    subst hx
    have e : s = j + 1 := by omega
    subst e
    refine at_X9_chooseNext ?_
    conv => whnf
    refine ⟨fun c => ?_, fun c => absurd (nI_le (Nat.le_refl _) (by omega)) c⟩
    conv => whnf
    exact ⟨Or.inr rfl, H _ hX (fun u hu => by rw [h8 u hu, if_pos (by omega)]) hF⟩
  | k + 1, j, x, f, hk, htj, hx, h8, hF, hX => by
    subst hx
    have e1 : f 138 (nI j).toNatClampNeg = nI (nxtp p t j) := by rw [nI_clamp (by omega), h8 j (by omega), if_pos (Nat.le_refl _)]
    have e2 : (nI (j + 1)).toNatClampNeg = j + 1 := nI_clamp (by omega)
    have e3 : nxtp p t (j + 1) = nxtp p t j + 1 := by
      rw [nxt_ge (by omega), nxt_ge (by omega)]
      omega
    have e4 : nxtp p t j + 1 ≤ 19 := by
      rw [nxt_ge (by omega)]
      omega
    refine at_X9_chooseNext ?_
    conv => whnf
    refine ⟨fun c => absurd c (nI_ge (b := s) (by omega) (by omega)), fun c => ?_⟩
    conv => whnf
    simp only [nI_pred]
    refine ⟨vp_in_nI (by omega) (by decide), ?_⟩
    conv => whnf
    refine ⟨vp_in_nI (by omega) (by decide), ?_⟩
    conv => whnf
    simp only [e1, e2, nI_1]
    refine scn_in hm hs ht hb H k (j + 1) _ _ (by omega) (by omega) rfl (fun u hu => ?_) (fun a i ha => ?_) (XI_ui hX ?_)
    · by_cases eu : u = j + 1
      · subst eu
        rw [m_ui_s, if_pos (Nat.le_refl _), e3]
      · rw [m_ui_o (by omega), h8 u hu]
        by_cases q : u ≤ j
        · rw [if_pos q, if_pos (by omega)]
        · rw [if_neg q, if_neg (by omega)]
    · rw [m_ui_o (by omega)]
      exact hF a i ha
    · show inr 0 19 _
      exact inr_n (m := 19) e4 rfl (by decide)
set_option maxRecDepth 100000 in
set_option maxHeartbeats 4000000 in
theorem scn_out {d L m s : Nat} {f : Nat → Nat → Int32} {g : Nat → Nat → Int64} {p : Nat → Nat} {R : Option Value → mH → Prop} (hX : XI f) (hm : m ≤ 20) (hs : s ≤ 3) (hc : f 129 11 = nI m) (h8 : ∀ u, u < s → f 138 u = nI (p u) ∧ p u ≤ 19) (H0 : (∀ u, u < s → ¬ p u + s < m + u) → R (some (.int 0)) (shF L, f, g)) (H1 : ∀ t f', t < s → p t + s < m + t → (∀ u, t < u → u < s → ¬ p u + s < m + u) → XI f' → (∀ u, u < s → f' 138 u = nI (nxtp p t u)) → (∀ a i, ¬ a = 138 → f' a i = f a i) → R (some (.int 1)) (shF L, f', g)) :
    ∀ (t : Nat) (y : Int32) (sl : Option Value), t ≤ s → y = nI t + -1 → (∀ u, t ≤ u → u < s → ¬ p u + s < m + u) → WPe pg_X9_chooseNext none (Run mtab d) R (m_drop pg_X9_chooseNext 4) [some (.ref 129), some (.int (nI s)), some (.int y), sl] [] (shF L, f, g)
  | 0, y, sl, ht, hy, hN => by
    subst hy
    refine at_X9_chooseNext ?_
    conv => whnf
    refine ⟨fun c => ?_, fun c => absurd (by decide) c⟩
    conv => whnf
    exact ⟨Or.inl rfl, H0 (fun u hu => hN u (by omega) hu)⟩
  | t + 1, y, sl, ht, hy, hN => by
    have e : nI (t + 1) + -1 = nI t := by rw [← Int32.sub_eq_add_neg, nI_pred]
    rw [e] at hy
    subst hy
    have hcl : (nI t).toNatClampNeg = t := nI_clamp (by omega)
    obtain ⟨eu, hu⟩ := h8 t (by omega)
    have e1 : f 138 (nI t).toNatClampNeg = nI (p t) := by rw [hcl, eu]
    refine at_X9_chooseNext ?_
    conv => whnf
    refine ⟨fun c => absurd c (nI_pos (by omega)), fun c => ?_⟩
    conv => whnf
    refine ⟨vp_in_nI (by omega) (by decide), ?_⟩
    conv => whnf
    simp only [hc, e1]
    refine ⟨fun c2 => ?_, fun c2 => ?_⟩
    · have ge := cn_ge hm hs (by omega) hu c2
      conv => whnf
      refine scn_out hX hm hs hc h8 H0 H1 t _ _ (by omega) rfl (fun u h1 h2 => ?_)
      by_cases q : u = t
      · subst q
        exact ge
      · exact hN u (by omega) h2
    · have lt := cn_lt hm hs (by omega) hu c2
      conv => whnf
      refine ⟨vp_in_nI (by omega) (by decide), ?_⟩
      conv => whnf
      simp only [e1]
      refine ⟨vp_in_nI (by omega) (by decide), ?_⟩
      conv => whnf
      simp only [hcl, nI_1]
      refine scn_in (t := t) (p := p) hm hs (by omega) lt (fun f' a b c => H1 t f' (by omega) lt (fun u h1 h2 => hN u (by omega) h2) a b c) (s - (t + 1)) t _ _ (by omega) (Nat.le_refl _) rfl (fun u hu => ?_) (fun a i ha => ?_) (XI_ui hX ?_)
      · by_cases q : u = t
        · subst q
          rw [m_ui_s, if_pos (Nat.le_refl _), nxt_ge (by omega), Nat.sub_self]
        · rw [m_ui_o (by omega), (h8 u hu).1]
          by_cases q2 : u ≤ t
          · rw [if_pos q2, nxt_lt (by omega)]
          · rw [if_neg q2]
      · rw [m_ui_o (by omega)]
      · show inr 0 19 _
        exact inr_n (m := 19) (by omega) rfl (by decide)
set_option maxRecDepth 100000 in
set_option maxHeartbeats 4000000 in
theorem sf_chooseNext {d L : Nat} {f : Nat → Nat → Int32} {g : Nat → Nat → Int64} {m s : Nat} {p : Nat → Nat} {R : Option Value → mH → Prop} (hd : 1 ≤ d) (hX : XI f) (hm : m ≤ 20) (hs : s ≤ 3) (hc : f 129 11 = nI m) (h8 : ∀ u, u < s → f 138 u = nI (p u) ∧ p u ≤ 19) (H0 : (∀ u, u < s → ¬ p u + s < m + u) → R (some (.int 0)) (shF L, f, g)) (H1 : ∀ t f', t < s → p t + s < m + t → (∀ u, t < u → u < s → ¬ p u + s < m + u) → XI f' → (∀ u, u < s → f' 138 u = nI (nxtp p t u)) → (∀ a i, ¬ a = 138 → f' a i = f a i) → R (some (.int 1)) (shF L, f', g)) : Run mtab d 88 [.ref 129, .int (nI s)] (shF L, f, g) R := by
  obtain ⟨d, rfl⟩ : ∃ e, d = e + 1 := ⟨d - 1, by omega⟩
  refine go_X9_chooseNext rfl ?_
  conv => whnf
  exact scn_out hX hm hs hc h8 H0 H1 s _ _ (Nat.le_refl s) (Int32.sub_eq_add_neg ..) (fun u h1 h2 => absurd h1 (by omega))
set_option maxRecDepth 100000 in
set_option maxHeartbeats 4000000 in
theorem sca2 {d L n m s : Nat} {f0 : Nat → Nat → Int32} {g : Nat → Nat → Int64} {q : Nat → Nat} {R : Option Value → mH → Prop} (hd : 3 ≤ d) (hs1 : 1 ≤ s) (hs : s ≤ 3) (hC : CT f0 n m q) (hZ : Z137 f0) (H1 : (∃ r, inc s m r ∧ FEB f0 n m q (fun k => ∃ u, u < s ∧ k = q (r u))) → ∀ f', XI f' → zf f0 f' → R (some (.int 1)) (shF L, f', g)) (H0 : ¬ (∃ r, inc s m r ∧ FEB f0 n m q (fun k => ∃ u, u < s ∧ k = q (r u))) → ∀ f', XI f' → zf f0 f' → R (some (.int 0)) (shF L, f', g)) :
    ∀ (k i : Nat) (x : Int32) (p : Nat → Nat) (f : Nat → Nat → Int32), i + k = 2000 → x = nI i → XI f → zf f0 f → inc s m p → (∀ u, u < s → f 138 u = nI (p u)) → (∀ r, inc s m r → lexl s r p → ¬ FEB f0 n m q (fun k => ∃ u, u < s ∧ k = q (r u))) → i + mu3 s m p ≤ 1999 → WPe pg_X9_chooseAsides none (Run mtab d) R (m_drop pg_X9_chooseAsides 20) [some (.ref 129), some (.int (nI s)), some (.int x)] [] (shF L, f, g)
  | 0, i, x, p, f, hi, hx, hX, hF, hp, h8, hN, hmu => absurd hmu (by omega)
  | k + 1, i, x, p, f, hi, hx, hX, hF, hp, h8, hN, hmu => by
    subst hx
    have hm20 := hC.2.1
    have hCf : CT f n m q := CT_g (fun a i h1 _ h3 => hF a i h1 h3) hC
    have hpm : ∀ u, u < s → p u < m := fun u hu => by
      have := hp.2 u hu
      omega
    have same : ∀ r : Nat → Nat, (∀ u, u < s → r u = p u) → FEB f0 n m q (fun k => ∃ u, u < s ∧ k = q (r u)) = FEB f n m q (fun k => ∃ u, u < s ∧ k = q (p u)) := fun r hr => by
      rw [FEB_zf hF]
      have e : (fun k => ∃ u, u < s ∧ k = q (r u)) = fun k => ∃ u, u < s ∧ k = q (p u) := by
        funext k
        refine propext ⟨fun ⟨u, hu, z⟩ => ⟨u, hu, by rw [z, hr u hu]⟩, fun ⟨u, hu, z⟩ => ⟨u, hu, by rw [z, hr u hu]⟩⟩
      rw [e]
    refine at_X9_chooseAsides ?_
    conv => whnf
    refine ⟨fun c => absurd c (nI_ge (b := 2000) (by omega) (by omega)), fun c => ?_⟩
    conv => whnf
    refine sf_isFree (p := p) (by omega) hX hs hCf (zf_z hF hZ) (fun u hu => ⟨h8 u hu, hpm u hu⟩) (fun fe f1 x1 k1 => ?_) (fun nf f1 x1 k1 => ?_)
    · conv => whnf
      refine ⟨fun c9 => absurd (show (1 : Int32) = 0 from c9) (by decide), fun _ => ?_⟩
      conv => whnf
      have G := H1 ⟨p, hp, by rw [same p (fun _ _ => rfl)]; exact fe⟩ f1 x1 (zf_1 hF k1)
      first | exact ⟨Or.inr rfl, G⟩ | exact G
    · have hF1 := zf_1 hF k1
      have hc1 : f1 129 11 = nI m := (hF1 129 11 (by omega) (by omega)).trans hC.2.2.2.1
      have h81 : ∀ u, u < s → f1 138 u = nI (p u) := fun u hu => (k1 138 u (by omega)).trans (h8 u hu)
      conv => whnf
      refine ⟨fun _ => ?_, fun c9 => absurd (rfl : (0 : Int32) = 0) c9⟩
      conv => whnf
      refine sf_chooseNext (p := p) (by omega) x1 hm20 hs hc1 (fun u hu => ⟨h81 u hu, by have := hpm u hu; omega⟩) (fun last => ?_) (fun t f2 ht hb hl x2 h82 k2 => ?_)
      · conv => whnf
        refine ⟨fun c9 => absurd (rfl : (0 : Int32) = 0) c9, fun _ => ?_⟩
        conv => whnf
        have G := H0 (fun ⟨r, hr, fe⟩ => by
          rcases lex_last hr last with a | a
          · exact hN r hr a fe
          · rw [same r a] at fe
            exact nf fe) f1 x1 hF1
        first | exact ⟨Or.inl rfl, G⟩ | exact G
      · conv => whnf
        refine ⟨fun _ => ?_, fun c9 => absurd (show (1 : Int32) = 0 from c9) (by decide)⟩
        conv => whnf
        have lt := mu_nxt hp hs1 hs ht hb hl
        refine sca2 hd hs1 hs hC hZ H1 H0 k (i + 1) _ (nxtp p t) f2 (by omega) (nI_1 i) x2 (fun a b h1 h2 => (k2 a b h2).trans (hF1 a b h1 h2)) (inc_nxt hp ht hb) h82 (fun r hr hl2 => ?_) (by omega)
        rcases lex_nxt hr ht hl hl2 with a | a
        · exact hN r hr a
        · rw [same r a]
          exact nf
set_option maxRecDepth 100000 in
set_option maxHeartbeats 4000000 in
theorem sca1 {d L n m s : Nat} {f0 : Nat → Nat → Int32} {g : Nat → Nat → Int64} {q : Nat → Nat} {R : Option Value → mH → Prop} (hd : 3 ≤ d) (hs1 : 1 ≤ s) (hs : s ≤ 3) (hsm : s ≤ m) (hC : CT f0 n m q) (hZ : Z137 f0) (H1 : (∃ r, inc s m r ∧ FEB f0 n m q (fun k => ∃ u, u < s ∧ k = q (r u))) → ∀ f', XI f' → zf f0 f' → R (some (.int 1)) (shF L, f', g)) (H0 : ¬ (∃ r, inc s m r ∧ FEB f0 n m q (fun k => ∃ u, u < s ∧ k = q (r u))) → ∀ f', XI f' → zf f0 f' → R (some (.int 0)) (shF L, f', g)) :
    ∀ (k i : Nat) (x : Int32) (f : Nat → Nat → Int32), i + k = s → x = nI i → XI f → zf f0 f → (∀ u, u < i → f 138 u = nI u) → WPe pg_X9_chooseAsides none (Run mtab d) R (m_drop pg_X9_chooseAsides 8) [some (.ref 129), some (.int (nI s)), some (.int x)] [] (shF L, f, g)
  | 0, i, x, f, hi, hx, hX, hF, h8 => by
    have e : i = s := by omega
    subst hx
    subst e
    have hm20 := hC.2.1
    refine at_X9_chooseAsides ?_
    conv => whnf
    refine ⟨fun c => ?_, fun c => absurd (nI_le (Nat.le_refl _) (by omega)) c⟩
    conv => whnf
    exact sca2 hd hs1 hs hC hZ H1 H0 2000 0 _ (fun u => u) f (by omega) rfl hX hF (inc_first hsm) h8 (fun r hr hl => absurd hl (lex_first hr)) (by have := mu_0 m (by omega) i (by omega); omega)
  | k + 1, i, x, f, hi, hx, hX, hF, h8 => by
    subst hx
    have hcl : (nI i).toNatClampNeg = i := nI_clamp (by omega)
    refine at_X9_chooseAsides ?_
    conv => whnf
    refine ⟨fun c => absurd c (nI_ge (b := s) (by omega) (by omega)), fun c => ?_⟩
    conv => whnf
    refine ⟨vp_in_nI (by omega) (by decide), ?_⟩
    conv => whnf
    simp only [hcl]
    refine sca1 hd hs1 hs hsm hC hZ H1 H0 k (i + 1) _ _ (by omega) (nI_1 i) (XI_ui hX (show inr 0 19 _ from inr_n (m := 19) (by omega) rfl (by decide))) (zf_ui hF) (fun u hu => ?_)
    by_cases e : u = i
    · subst e
      exact m_ui_s
    · rw [m_ui_o (by omega)]
      exact h8 u (by omega)
set_option maxRecDepth 100000 in
set_option maxHeartbeats 4000000 in
theorem sf_chooseAsides {d L : Nat} {f : Nat → Nat → Int32} {g : Nat → Nat → Int64} {n m s : Nat} {q : Nat → Nat} {R : Option Value → mH → Prop} (hd : 4 ≤ d) (hX : XI f) (hs1 : 1 ≤ s) (hs : s ≤ 3) (hC : CT f n m q) (hZ : Z137 f) (H1 : (∃ r, inc s m r ∧ FEB f n m q (fun k => ∃ u, u < s ∧ k = q (r u))) → ∀ f', XI f' → zf f f' → R (some (.int 1)) (shF L, f', g)) (H0 : ¬ (∃ r, inc s m r ∧ FEB f n m q (fun k => ∃ u, u < s ∧ k = q (r u))) → ∀ f', XI f' → zf f f' → R (some (.int 0)) (shF L, f', g)) : Run mtab d 85 [.ref 129, .int (nI s)] (shF L, f, g) R := by
  obtain ⟨d, rfl⟩ : ∃ e, d = e + 1 := ⟨d - 1, by omega⟩
  refine go_X9_chooseAsides rfl ?_
  conv => whnf
  have hm20 := hC.2.1
  simp only [hC.2.2.2.1]
  by_cases hsm : s ≤ m
  · refine ⟨fun c => ?_, fun c => absurd (nI_le hsm (by omega)) c⟩
    conv => whnf
    exact sca1 (by omega) hs1 hs hsm hC hZ H1 H0 s 0 _ f (by omega) rfl hX (zf_refl _) (fun u hu => absurd hu (by omega))
  · refine ⟨fun c => absurd c (nI_ge (by omega) (by omega)), fun c => ?_⟩
    conv => whnf
    have G := H0 (fun ⟨r, hr, _⟩ => by have := hr.2 0 (by omega); omega) f hX (zf_refl _)
    first | exact ⟨Or.inl rfl, G⟩ | exact G
set_option maxRecDepth 100000 in
set_option maxHeartbeats 4000000 in
theorem sfa_st {d L n m s : Nat} {f0 f : Nat → Nat → Int32} {g : Nat → Nat → Int64} {q : Nat → Nat} {x : Int32} {R : Option Value → mH → Prop} (hd : 4 ≤ d) (hs1 : 1 ≤ s) (hs : s ≤ 3) (hC : CT f0 n m q) (hZ : Z137 f0) (hx : x = nI s) (hX : XI f) (hF : zf f0 f) (HY : (∃ r, inc s m r ∧ FEB f0 n m q (fun k => ∃ u, u < s ∧ k = q (r u))) → ∀ f', XI f' → zf f0 f' → R (some (.int (nI s))) (shF L, f', g)) (HN : ¬ (∃ r, inc s m r ∧ FEB f0 n m q (fun k => ∃ u, u < s ∧ k = q (r u))) → ∀ (f' : Nat → Nat → Int32) (x' : Int32), x' = nI (s + 1) → XI f' → zf f0 f' → WPe pg_X9_findAsides none (Run mtab d) R (m_drop pg_X9_findAsides 7) [some (.ref 129), some (.int x')] [] (shF L, f', g)) : WPe pg_X9_findAsides none (Run mtab d) R (m_drop pg_X9_findAsides 7) [some (.ref 129), some (.int x)] [] (shF L, f, g) := by
  subst hx
  have eS : (∃ r, inc s m r ∧ FEB f n m q (fun k => ∃ u, u < s ∧ k = q (r u))) ↔ (∃ r, inc s m r ∧ FEB f0 n m q (fun k => ∃ u, u < s ∧ k = q (r u))) := by simp only [FEB_zf hF]
  refine at_X9_findAsides ?_
  conv => whnf
  refine ⟨fun c => absurd c (nI_nlt (a := 3) (b := s) (by omega) (by omega)), fun c => ?_⟩
  conv => whnf
  refine sf_chooseAsides (by omega) hX hs1 hs (CT_g (fun a i h1 _ h3 => hF a i h1 h3) hC) (zf_z hF hZ) (fun y f1 x1 k1 => ?_) (fun y f1 x1 k1 => ?_)
  · conv => whnf
    refine ⟨fun c9 => absurd (show (1 : Int32) = 0 from c9) (by decide), fun _ => ?_⟩
    conv => whnf
    exact HY (eS.mp y) f1 x1 (zf_t hF k1)
  · conv => whnf
    refine ⟨fun _ => ?_, fun c9 => absurd (rfl : (0 : Int32) = 0) c9⟩
    conv => whnf
    exact HN (fun z => y (eS.mpr z)) f1 _ (nI_1 s) x1 (zf_t hF k1)
set_option maxRecDepth 100000 in
set_option maxHeartbeats 4000000 in
theorem sf_findAsides {d L : Nat} {f : Nat → Nat → Int32} {g : Nat → Nat → Int64} {n m c : Nat} {q : Nat → Nat} {Cn : Nat → Prop} {R : Option Value → mH → Prop} (hd : 5 ≤ d) (hX : XI f) (hC : CT f n m q) (hZ : Z137 f) (h1 : ∀ j, j < m → q j < c ∧ Cn (q j)) (h2 : ∀ k, k < c → Cn k → ∃ j, j < m ∧ q j = k) (h3 : ∀ j j', j < j' → j' < m → q j < q j') (hq : (f 129 9 = 1 ∧ ¬ FEB f n m q (fun _ => False)) ∨ (f 129 9 = 0 ∧ FEB f n m q (fun _ => False))) (H : ∀ r f', AS (FEB f n m q) Cn c r → XI f' → zf f f' → R (some (.int r)) (shF L, f', g)) : Run mtab d 83 [.ref 129] (shF L, f, g) R := by
  obtain ⟨d, rfl⟩ : ∃ e, d = e + 1 := ⟨d - 1, by omega⟩
  refine go_X9_findAsides rfl ?_
  conv => whnf
  rcases hq with ⟨e9, nf⟩ | ⟨e9, fe⟩
  · simp only [e9]
    refine ⟨fun _ => ?_, fun c9 => absurd (show (1 : Int32) = 0 from c9) (by decide)⟩
    conv => whnf
    have q1 := S1_q (FE := FEB f n m q) h1 h2
    have q2 := S2_q (FE := FEB f n m q) h1 h2 h3
    have q3 := S3_q (FE := FEB f n m q) h1 h2 h3
    refine sfa_st (s := 1) (f0 := f) (by omega) (by omega) (by omega) hC hZ rfl hX (zf_refl _) (fun y f' x' k' => H _ f' (Or.inr (Or.inl ⟨nf, q1.mpr y, rfl⟩)) x' k') (fun n1 f1 x1 hx1 X1 k1 => ?_)
    refine sfa_st (s := 2) (f0 := f) (by omega) (by omega) (by omega) hC hZ hx1 X1 k1 (fun y f' x' k' => H _ f' (Or.inr (Or.inr (Or.inl ⟨nf, fun z => n1 (q1.mp z), q2.mpr y, rfl⟩))) x' k') (fun n2 f2 x2 hx2 X2 k2 => ?_)
    refine sfa_st (s := 3) (f0 := f) (by omega) (by omega) (by omega) hC hZ hx2 X2 k2 (fun y f' x' k' => H _ f' (Or.inr (Or.inr (Or.inr (Or.inl ⟨nf, fun z => n1 (q1.mp z), fun z => n2 (q2.mp z), q3.mpr y, rfl⟩)))) x' k') (fun n3 f3 x3 hx3 X3 k3 => ?_)
    subst hx3
    refine at_X9_findAsides ?_
    conv => whnf
    refine ⟨fun _ => ?_, fun c9 => absurd (by decide) c9⟩
    conv => whnf
    exact H _ f3 (Or.inr (Or.inr (Or.inr (Or.inr ⟨nf, fun z => n1 (q1.mp z), fun z => n2 (q2.mp z), fun z => n3 (q3.mp z), rfl⟩)))) X3 k3
  · simp only [e9]
    refine ⟨fun c9 => absurd True.intro c9, fun _ => ?_⟩
    conv => whnf
    exact H _ f (Or.inl ⟨fe, rfl⟩) hX (zf_refl _)
