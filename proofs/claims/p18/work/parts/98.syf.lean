/-- feasible without the clues of B -/
def FEM (f : Nat → Nat → Int32) (v c n : Nat) (B : Nat → Prop) : Prop := ∃ X : Nat → Int, (∀ k, k < c → PMc f v k → ¬ B k → X (f 196 k).toNatClampNeg + (f 198 k).toInt ≤ X (f 197 k).toNatClampNeg) ∧ (∀ w, Yh f 187 n w ≤ X w) ∧ ∀ w, w < n → X w ≤ Yh f 188 n w
def o2_ (f f' : Nat → Nat → Int32) : Prop := ∀ a i, ¬ a = 200 → ¬ a = 202 → f' a i = f a i
theorem PMc_o2 {f f' : Nat → Nat → Int32} (h : o2_ f f') (v k : Nat) : PMc f' v k = PMc f v k := by
  unfold PMc
  rw [smp_kp (fun i => h 218 i (by omega) (by omega)), smp_kp (fun i => h 218 i (by omega) (by omega)), h 199 k (by omega) (by omega), h 196 k (by omega) (by omega), h 197 k (by omega) (by omega)]
theorem FEM_o2 {f f' : Nat → Nat → Int32} {v c n : Nat} (h : o2_ f f') (B : Nat → Prop) : FEM f' v c n B = FEM f v c n B := by
  have hP := PMc_o2 h v
  have h196 : ∀ i, f' 196 i = f 196 i := fun i => h 196 i (by omega) (by omega)
  have h197 : ∀ i, f' 197 i = f 197 i := fun i => h 197 i (by omega) (by omega)
  have h198 : ∀ i, f' 198 i = f 198 i := fun i => h 198 i (by omega) (by omega)
  have y1 : Yh f' 187 n = Yh f 187 n := Yh_eq (fun w _ => h 187 w (by omega) (by omega))
  have y2 : Yh f' 188 n = Yh f 188 n := Yh_eq (fun w _ => h 188 w (by omega) (by omega))
  unfold FEM
  simp only [hP, h196, h197, h198, y1, y2]
theorem CM_o2 {f f' : Nat → Nat → Int32} {n c : Nat} (h : o2_ f f') (m : CM f n c) : CM f' n c := CM_q (fun a i z => h a i (by omega) (by omega)) (h 181 0 (by omega) (by omega)) (h 181 16 (by omega) (by omega)) m
theorem o2_1 {f f1 f2 : Nat → Nat → Int32} (h : o2_ f f1) (k : o200 f1 f2) : o2_ f f2 := fun a i p q => (k a i p).trans (h a i p q)
theorem o2_ui {f f1 : Nat → Nat → Int32} {j : Nat} {v : Int32} (h : o2_ f f1) : o2_ f (m_ui f1 202 j v) := fun a i p q => (m_ui_o (fun e => q e.1)).trans (h a i p q)
theorem bit_not (w : Int32) {k : Nat} (hk : k < 32) : (w ^^^ -1).toBitVec.getLsbD k = !(w.toBitVec.getLsbD k) := by
  have key : ∀ k : Nat, k < 32 → (-1 : Int32).toBitVec.getLsbD k = true := by decide +kernel
  show (w.toBitVec ^^^ (-1 : Int32).toBitVec).getLsbD k = _
  rw [BitVec.getLsbD_xor, key k hk]
  cases w.toBitVec.getLsbD k <;> rfl
theorem bit_sh {j k : Nat} (hj : j < 32) (hk : k < 32) : ((1 : Int32) <<< (nI j &&& 31)).toBitVec.getLsbD k = decide (k = j) := by
  have key : ∀ j : Nat, j < 32 → ∀ k : Nat, k < 32 → ((1 : Int32) <<< (nI j &&& 31)).toBitVec.getLsbD k = decide (k = j) := by decide +kernel
  exact key j hj k hk
theorem mA_w {f : Nat → Nat → Int32} {v c k : Nat} {w : Int32} {B : Nat → Prop} (hc : c ≤ 20) (hk : k < c) (h21 : f 181 21 = (mayl (PMc f v) (fun m => nI m) c 0 0)) (hB : w.toBitVec.getLsbD k = true ↔ B k) : mA_ (f 181 21 &&& (w ^^^ -1)) k = true ↔ (PMc f v k ∧ ¬ B k) := by
  have hP := bits_P (f := f) (v := v) hc hk
  unfold mA_ at hP ⊢
  rw [decide_eq_true_eq, bit_at _ (by omega)] at hP ⊢
  rw [h21]
  show (((mayl (PMc f v) (fun m => nI m) c 0 0)).toBitVec &&& (w ^^^ -1).toBitVec).getLsbD k = true ↔ _
  rw [BitVec.getLsbD_and, Bool.and_eq_true, hP, bit_not w (by omega), Bool.not_eq_true', ← hB]
  refine and_congr Iff.rfl ?_
  cases w.toBitVec.getLsbD k
  · exact ⟨fun _ z => (by cases z), fun _ => rfl⟩
  · exact ⟨fun z => (by cases z), fun z => absurd rfl z⟩
theorem fe_w {f : Nat → Nat → Int32} {v c n : Nat} {w : Int32} {B : Nat → Prop} (hc : c ≤ 20) (h21 : f 181 21 = (mayl (PMc f v) (fun m => nI m) c 0 0)) (hB : ∀ k, k < c → (w.toBitVec.getLsbD k = true ↔ B k)) : (∃ X, Sol c (mA_ (f 181 21 &&& (w ^^^ -1))) (mU_ f) (mV_ f) (mD_ f) X ∧ (∀ u, Yh f 187 n u ≤ X u) ∧ ∀ u, u < n → X u ≤ Yh f 188 n u) ↔ FEM f v c n B := by
  constructor
  · rintro ⟨X, x1, x2, x3⟩
    exact ⟨X, fun k hk hp hb => x1 k hk ((mA_w hc hk h21 (hB k hk)).mpr ⟨hp, hb⟩), x2, x3⟩
  · rintro ⟨X, x1, x2, x3⟩
    refine ⟨X, fun k hk hA => ?_, x2, x3⟩
    obtain ⟨a, b⟩ := (mA_w hc hk h21 (hB k hk)).mp hA
    exact x1 k hk a b
set_option maxRecDepth 100000 in
set_option maxHeartbeats 4000000 in
theorem smf_isWell {d L : Nat} {f : Nat → Nat → Int32} {g : Nat → Nat → Int64} {n c v : Nat} {w : Int32} {B : Nat → Prop} {R : Option Value → mH → Prop} (hd : 2 ≤ d) (hC : CM f n c) (h21 : f 181 21 = (mayl (PMc f v) (fun m => nI m) c 0 0)) (hB : ∀ k, k < c → (w.toBitVec.getLsbD k = true ↔ B k)) (H1 : FEM f v c n B → ∀ f', o200 f f' → R (some (.int 1)) (shF L, f', g)) (H0 : ¬ FEM f v c n B → ∀ f', o200 f f' → R (some (.int 0)) (shF L, f', g)) : Run mtab d 184 [.ref 181, .int w] (shF L, f, g) R := by
  obtain ⟨d, rfl⟩ : ∃ e, d = e + 1 := ⟨d - 1, by omega⟩
  refine go_X11_isWell rfl ?_
  conv => whnf
  have fe := fe_w (n := n) hC.2.1 h21 hB
  refine smf_findLeast (n := n) (c := c) (bits := (f 181 21 &&& (w ^^^ -1))) (by omega) hC (fun nf f1 h1 => ?_) (fun f1 h1 r1 L1 => ?_)
  · conv => whnf
    have G := H0 (fun z => nf (fe.mpr z)) f1 h1
    first | exact ⟨Or.inl rfl, G⟩ | exact G
  · conv => whnf
    have G := H1 (fe.mp ⟨_, L1.1, L1.2.1, fun u hu => by
      rw [Yh_t hu, Yh_t hu]
      exact Int32.le_iff_toInt_le.mp (r1 u hu).2⟩) f1 h1
    first | exact ⟨Or.inr rfl, G⟩ | exact G
set_option maxRecDepth 100000 in
set_option maxHeartbeats 4000000 in
theorem smf_countsAt {d L : Nat} {f : Nat → Nat → Int32} {g : Nat → Nat → Int64} {c v k : Nat} {R : Option Value → mH → Prop} (hd : 1 ≤ d) (hc : c ≤ 20) (hk : k < c) (h21 : f 181 21 = (mayl (PMc f v) (fun m => nI m) c 0 0)) (H1 : PMc f v k → R (some (.int 1)) (shF L, f, g)) (H0 : ¬ PMc f v k → R (some (.int 0)) (shF L, f, g)) : Run mtab d 185 [.ref 181, .int (nI k)] (shF L, f, g) R := by
  obtain ⟨d, rfl⟩ : ∃ e, d = e + 1 := ⟨d - 1, by omega⟩
  refine go_X11_countsAt rfl ?_
  conv => whnf
  have hP := bits_P (f := f) (v := v) hc hk
  unfold mA_ at hP
  rw [decide_eq_true_eq, ← h21] at hP
  refine ⟨fun z => ?_, fun z => ?_⟩
  · conv => whnf
    have G := H0 (fun y => z (hP.mpr y))
    first | exact ⟨Or.inl rfl, G⟩ | exact G
  · conv => whnf
    have G := H1 (hP.mp z)
    first | exact ⟨Or.inr rfl, G⟩ | exact G
set_option maxRecDepth 100000 in
set_option maxHeartbeats 4000000 in
theorem ma3 {d L n c v : Nat} {f0 : Nat → Nat → Int32} {g : Nat → Nat → Int64} {p q : Nat} {R : Option Value → mH → Prop} (hd : 3 ≤ d) (hC : CM f0 n c) (h21 : f0 181 21 = (mayl (PMc f0 v) (fun m => nI m) c 0 0)) (hpq : p < q) (hqi : q < c) (HY3 : (∃ a b d, a < b ∧ b < d ∧ d < c ∧ PMc f0 v a ∧ PMc f0 v b ∧ PMc f0 v d ∧ FEM f0 v c n (fun k => k = a ∨ k = b ∨ k = d)) → ∀ f', o2_ f0 f' → R (some (.int 3)) (shF L, f', g)) (HO : (∀ b, q < b → b < c → ¬ (PMc f0 v p ∧ PMc f0 v q ∧ PMc f0 v b ∧ FEM f0 v c n (fun k => k = p ∨ k = q ∨ k = b))) → ∀ (x' : Int32) (s3 : Option Value) (f' : Nat → Nat → Int32), x' = nI (q + 1) → o2_ f0 f' → WPe pg_X11_findAsides none (Run mtab d) R (m_drop pg_X11_findAsides 89) [some (.ref 181), some (.int (nI p)), some (.int x'), s3] [] (shF L, f', g)) :
    ∀ (k i : Nat) (x : Int32) (f : Nat → Nat → Int32), i + k = c → q < i ∧ x = nI i → o2_ f0 f → (∀ b, q < b → b < i → ¬ (PMc f0 v p ∧ PMc f0 v q ∧ PMc f0 v b ∧ FEM f0 v c n (fun k => k = p ∨ k = q ∨ k = b))) → WPe pg_X11_findAsides none (Run mtab d) R (m_drop pg_X11_findAsides 97) [some (.ref 181), some (.int (nI p)), some (.int (nI q)), some (.int x)] [] (shF L, f, g)
  | 0, i, x, f, hi, ⟨hqi2, hx⟩, hF, hN => by
    have e : i = c := by omega
    subst hx
    subst e
    have hc20 := hC.2.1
    have hcb : f 181 16 = nI i := (CM_o2 hF hC).2.2.2.1
    refine at_X11_findAsides ?_
    conv => whnf
    simp only [hcb]
    refine ⟨fun q9 => ?_, fun q9 => absurd (nI_le (Nat.le_refl _) (by omega)) q9⟩
    conv => whnf
    exact HO hN _ _ _ (nI_1 q) hF
  | k + 1, i, x, f, hi, ⟨hqi2, hx⟩, hF, hN => by
    subst hx
    have hc20 := hC.2.1
    have h21f : f 181 21 = (mayl (PMc f v) (fun m => nI m) c 0 0) := by
      rw [show PMc f v = PMc f0 v from funext (PMc_o2 hF v)]
      exact (hF 181 21 (by omega) (by omega)).trans h21
    have hCf : CM f n c := CM_o2 hF hC
    have hcb : f 181 16 = nI c := hCf.2.2.2.1
    have hd1 : 1 ≤ d := by omega
    refine at_X11_findAsides ?_
    conv => whnf
    simp only [hcb]
    refine ⟨fun q9 => absurd q9 (nI_ge (b := c) (by omega) (by omega)), fun q9 => ?_⟩
    conv => whnf
    refine smf_countsAt (v := v) (k := p) hd1 hc20 (by omega) h21f (fun y0 => ?_) (fun y0 => ?_)
    · rw [PMc_o2 hF] at y0
      conv => whnf
      (refine ⟨fun z9 => ?_, fun z9 => ?_⟩ <;> first | ((have c9 : (1 : Int32) = 0 := by with_reducible exact z9); exact absurd c9 (by decide)) | exact absurd (rfl : (0 : Int32) = 0) (by with_reducible exact z9) | exact absurd True.intro (by with_reducible exact z9) | exact False.elim (by with_reducible exact z9) | (conv => whnf))
      refine smf_countsAt (v := v) (k := q) hd1 hc20 (by omega) h21f (fun y1 => ?_) (fun y1 => ?_)
      · rw [PMc_o2 hF] at y1
        conv => whnf
        (refine ⟨fun z9 => ?_, fun z9 => ?_⟩ <;> first | ((have c9 : (1 : Int32) = 0 := by with_reducible exact z9); exact absurd c9 (by decide)) | exact absurd (rfl : (0 : Int32) = 0) (by with_reducible exact z9) | exact absurd True.intro (by with_reducible exact z9) | exact False.elim (by with_reducible exact z9) | (conv => whnf))
        refine smf_countsAt (v := v) (k := i) hd1 hc20 (by omega) h21f (fun y2 => ?_) (fun y2 => ?_)
        · rw [PMc_o2 hF] at y2
          conv => whnf
          (refine ⟨fun z9 => ?_, fun z9 => ?_⟩ <;> first | ((have c9 : (1 : Int32) = 0 := by with_reducible exact z9); exact absurd c9 (by decide)) | exact absurd (rfl : (0 : Int32) = 0) (by with_reducible exact z9) | exact absurd True.intro (by with_reducible exact z9) | exact False.elim (by with_reducible exact z9) | (conv => whnf))
          refine smf_isWell (n := n) (c := c) (v := v) (B := fun k => k = p ∨ k = q ∨ k = i) (by omega) hCf h21f (fun k hk => by rw [bit_or _ (by omega) (by omega), bit_or _ (by omega) (by omega), bit_sh (by omega) (by omega), Bool.or_eq_true, Bool.or_eq_true, decide_eq_true_eq, decide_eq_true_eq, decide_eq_true_eq, or_assoc]) (fun fe f1 o1 => ?_) (fun nf f1 o1 => ?_)
          · rw [FEM_o2 hF] at fe
            conv => whnf
            (refine ⟨fun z9 => ?_, fun z9 => ?_⟩ <;> first | ((have c9 : (1 : Int32) = 0 := by with_reducible exact z9); exact absurd c9 (by decide)) | exact absurd (rfl : (0 : Int32) = 0) (by with_reducible exact z9) | exact absurd True.intro (by with_reducible exact z9) | exact False.elim (by with_reducible exact z9) | (conv => whnf))
            refine ⟨by unfold vp_in; decide, ?_⟩
            conv => whnf
            refine ⟨by unfold vp_in; decide, ?_⟩
            conv => whnf
            refine ⟨by unfold vp_in; decide, ?_⟩
            conv => whnf
            exact HY3 ⟨p, q, i, hpq, by omega, by omega, y0, y1, y2, fe⟩ _ (o2_ui (o2_ui (o2_ui (o2_1 hF o1))))
          · rw [FEM_o2 hF] at nf
            conv => whnf
            (refine ⟨fun z9 => ?_, fun z9 => ?_⟩ <;> first | ((have c9 : (1 : Int32) = 0 := by with_reducible exact z9); exact absurd c9 (by decide)) | exact absurd (rfl : (0 : Int32) = 0) (by with_reducible exact z9) | exact absurd True.intro (by with_reducible exact z9) | exact False.elim (by with_reducible exact z9) | (conv => whnf))
            exact ma3 hd hC h21 hpq hqi HY3 HO k (i + 1) _ _ (by omega) ⟨by omega, nI_1 i⟩ (o2_1 hF o1) (fun b h1 h2 => (Nat.lt_or_ge b i).elim (fun l => hN b h1 l) (fun l => by have e : b = i := (by omega); subst e; exact fun z => nf z.2.2.2))
        · rw [PMc_o2 hF] at y2
          conv => whnf
          (refine ⟨fun z9 => ?_, fun z9 => ?_⟩ <;> first | ((have c9 : (1 : Int32) = 0 := by with_reducible exact z9); exact absurd c9 (by decide)) | exact absurd (rfl : (0 : Int32) = 0) (by with_reducible exact z9) | exact absurd True.intro (by with_reducible exact z9) | exact False.elim (by with_reducible exact z9) | (conv => whnf))
          exact ma3 hd hC h21 hpq hqi HY3 HO k (i + 1) _ _ (by omega) ⟨by omega, nI_1 i⟩ hF (fun b h1 h2 => (Nat.lt_or_ge b i).elim (fun l => hN b h1 l) (fun l => by have e : b = i := (by omega); subst e; exact fun z => y2 z.2.2.1))
      · rw [PMc_o2 hF] at y1
        conv => whnf
        (refine ⟨fun z9 => ?_, fun z9 => ?_⟩ <;> first | ((have c9 : (1 : Int32) = 0 := by with_reducible exact z9); exact absurd c9 (by decide)) | exact absurd (rfl : (0 : Int32) = 0) (by with_reducible exact z9) | exact absurd True.intro (by with_reducible exact z9) | exact False.elim (by with_reducible exact z9) | (conv => whnf))
        exact ma3 hd hC h21 hpq hqi HY3 HO k (i + 1) _ _ (by omega) ⟨by omega, nI_1 i⟩ hF (fun b h1 h2 => (Nat.lt_or_ge b i).elim (fun l => hN b h1 l) (fun l => by have e : b = i := (by omega); subst e; exact fun z => y1 z.2.1))
    · rw [PMc_o2 hF] at y0
      conv => whnf
      (refine ⟨fun z9 => ?_, fun z9 => ?_⟩ <;> first | ((have c9 : (1 : Int32) = 0 := by with_reducible exact z9); exact absurd c9 (by decide)) | exact absurd (rfl : (0 : Int32) = 0) (by with_reducible exact z9) | exact absurd True.intro (by with_reducible exact z9) | exact False.elim (by with_reducible exact z9) | (conv => whnf))
      exact ma3 hd hC h21 hpq hqi HY3 HO k (i + 1) _ _ (by omega) ⟨by omega, nI_1 i⟩ hF (fun b h1 h2 => (Nat.lt_or_ge b i).elim (fun l => hN b h1 l) (fun l => by have e : b = i := (by omega); subst e; exact fun z => y0 z.1))
set_option maxRecDepth 100000 in
set_option maxHeartbeats 4000000 in
theorem ma2 {d L n c v : Nat} {f0 : Nat → Nat → Int32} {g : Nat → Nat → Int64} {p : Nat} {R : Option Value → mH → Prop} (hd : 3 ≤ d) (hC : CM f0 n c) (h21 : f0 181 21 = (mayl (PMc f0 v) (fun m => nI m) c 0 0)) (hpc : p < c) (HY3 : (∃ a b d, a < b ∧ b < d ∧ d < c ∧ PMc f0 v a ∧ PMc f0 v b ∧ PMc f0 v d ∧ FEM f0 v c n (fun k => k = a ∨ k = b ∨ k = d)) → ∀ f', o2_ f0 f' → R (some (.int 3)) (shF L, f', g)) (HO : (∀ a b, p < a → a < b → b < c → ¬ (PMc f0 v p ∧ PMc f0 v a ∧ PMc f0 v b ∧ FEM f0 v c n (fun k => k = p ∨ k = a ∨ k = b))) → ∀ (x' : Int32) (s2 s3 : Option Value) (f' : Nat → Nat → Int32), x' = nI (p + 1) → o2_ f0 f' → WPe pg_X11_findAsides none (Run mtab d) R (m_drop pg_X11_findAsides 81) [some (.ref 181), some (.int x'), s2, s3] [] (shF L, f', g)) :
    ∀ (k i : Nat) (x : Int32) (s3 : Option Value) (f : Nat → Nat → Int32), i + k = c → p < i ∧ x = nI i → o2_ f0 f → (∀ a b, p < a → a < i → a < b → b < c → ¬ (PMc f0 v p ∧ PMc f0 v a ∧ PMc f0 v b ∧ FEM f0 v c n (fun k => k = p ∨ k = a ∨ k = b))) → WPe pg_X11_findAsides none (Run mtab d) R (m_drop pg_X11_findAsides 89) [some (.ref 181), some (.int (nI p)), some (.int x), s3] [] (shF L, f, g)
  | 0, i, x, s3, f, hi, ⟨hpi, hx⟩, hF, hN => by
    have e : i = c := by omega
    subst hx
    subst e
    have hc20 := hC.2.1
    have hcb : f 181 16 = nI i := (CM_o2 hF hC).2.2.2.1
    refine at_X11_findAsides ?_
    conv => whnf
    simp only [hcb]
    refine ⟨fun q9 => ?_, fun q9 => absurd (nI_le (Nat.le_refl _) (by omega)) q9⟩
    conv => whnf
    exact HO (fun a b h1 h2 h3 => hN a b h1 (by omega) h2 h3) _ _ _ _ (nI_1 p) hF
  | k + 1, i, x, s3, f, hi, ⟨hpi, hx⟩, hF, hN => by
    subst hx
    have hc20 := hC.2.1
    have h21f : f 181 21 = (mayl (PMc f v) (fun m => nI m) c 0 0) := by
      rw [show PMc f v = PMc f0 v from funext (PMc_o2 hF v)]
      exact (hF 181 21 (by omega) (by omega)).trans h21
    have hCf : CM f n c := CM_o2 hF hC
    have hcb : f 181 16 = nI c := hCf.2.2.2.1
    have hd1 : 1 ≤ d := by omega
    refine at_X11_findAsides ?_
    conv => whnf
    simp only [hcb]
    refine ⟨fun q9 => absurd q9 (nI_ge (b := c) (by omega) (by omega)), fun q9 => ?_⟩
    conv => whnf
    exact ma3 (p := p) (q := i) hd hC h21 (by omega) (by omega) HY3 (fun no x' s3 f' hx' hF' => ma2 hd hC h21 hpc HY3 HO k (i + 1) x' s3 f' (by omega) ⟨by omega, hx'⟩ hF' (fun a b h1 h2 h3 h4 => (Nat.lt_or_ge a i).elim (fun l => hN a b h1 l h3 h4) (fun l => by have e : a = i := (by omega); subst e; exact no b h3 h4))) (c - (i + 1)) (i + 1) _ _ (by omega) ⟨by omega, nI_1 i⟩ hF (fun b h1 h2 => absurd h1 (by omega))
set_option maxRecDepth 100000 in
set_option maxHeartbeats 4000000 in
theorem ma1 {d L n c v : Nat} {f0 : Nat → Nat → Int32} {g : Nat → Nat → Int64} {R : Option Value → mH → Prop} (hd : 3 ≤ d) (hC : CM f0 n c) (h21 : f0 181 21 = (mayl (PMc f0 v) (fun m => nI m) c 0 0)) (HY3 : (∃ a b d, a < b ∧ b < d ∧ d < c ∧ PMc f0 v a ∧ PMc f0 v b ∧ PMc f0 v d ∧ FEM f0 v c n (fun k => k = a ∨ k = b ∨ k = d)) → ∀ f', o2_ f0 f' → R (some (.int 3)) (shF L, f', g)) (HZ : ¬ (∃ a b d, a < b ∧ b < d ∧ d < c ∧ PMc f0 v a ∧ PMc f0 v b ∧ PMc f0 v d ∧ FEM f0 v c n (fun k => k = a ∨ k = b ∨ k = d)) → ∀ f', o2_ f0 f' → R (some (.int (-4))) (shF L, f', g)) :
    ∀ (k i : Nat) (x : Int32) (s2 : Option Value) (s3 : Option Value) (f : Nat → Nat → Int32), i + k = c → x = nI i → o2_ f0 f → (∀ p a b, p < i → p < a → a < b → b < c → ¬ (PMc f0 v p ∧ PMc f0 v a ∧ PMc f0 v b ∧ FEM f0 v c n (fun k => k = p ∨ k = a ∨ k = b))) → WPe pg_X11_findAsides none (Run mtab d) R (m_drop pg_X11_findAsides 81) [some (.ref 181), some (.int x), s2, s3] [] (shF L, f, g)
  | 0, i, x, s2, s3, f, hi, hx, hF, hN => by
    have e : i = c := by omega
    subst hx
    subst e
    have hc20 := hC.2.1
    have hcb : f 181 16 = nI i := (CM_o2 hF hC).2.2.2.1
    refine at_X11_findAsides ?_
    conv => whnf
    simp only [hcb]
    refine ⟨fun q9 => ?_, fun q9 => absurd (nI_le (Nat.le_refl _) (by omega)) q9⟩
    conv => whnf
    exact HZ (fun ⟨p, a, b, h1, h2, h3, h4⟩ => hN p a b (by omega) h1 h2 h3 h4) _ hF
  | k + 1, i, x, s2, s3, f, hi, hx, hF, hN => by
    subst hx
    have hc20 := hC.2.1
    have h21f : f 181 21 = (mayl (PMc f v) (fun m => nI m) c 0 0) := by
      rw [show PMc f v = PMc f0 v from funext (PMc_o2 hF v)]
      exact (hF 181 21 (by omega) (by omega)).trans h21
    have hCf : CM f n c := CM_o2 hF hC
    have hcb : f 181 16 = nI c := hCf.2.2.2.1
    have hd1 : 1 ≤ d := by omega
    refine at_X11_findAsides ?_
    conv => whnf
    simp only [hcb]
    refine ⟨fun q9 => absurd q9 (nI_ge (b := c) (by omega) (by omega)), fun q9 => ?_⟩
    conv => whnf
    exact ma2 (p := i) hd hC h21 (by omega) HY3 (fun no x' s2 s3 f' hx' hF' => ma1 hd hC h21 HY3 HZ k (i + 1) x' s2 s3 f' (by omega) hx' hF' (fun p a b h1 h2 h3 h4 => (Nat.lt_or_ge p i).elim (fun l => hN p a b l h2 h3 h4) (fun l => by have e : p = i := (by omega); subst e; exact no a b h2 h3 h4))) (c - (i + 1)) (i + 1) _ _ _ (by omega) ⟨by omega, nI_1 i⟩ hF (fun a b h1 h2 => absurd h1 (by omega))
set_option maxRecDepth 100000 in
set_option maxHeartbeats 4000000 in
theorem mb2 {d L n c v : Nat} {f0 : Nat → Nat → Int32} {g : Nat → Nat → Int64} {p : Nat} {R : Option Value → mH → Prop} (hd : 3 ≤ d) (hC : CM f0 n c) (h21 : f0 181 21 = (mayl (PMc f0 v) (fun m => nI m) c 0 0)) (hpc : p < c) (HY2 : (∃ a b, a < b ∧ b < c ∧ PMc f0 v a ∧ PMc f0 v b ∧ FEM f0 v c n (fun k => k = a ∨ k = b)) → ∀ f', o2_ f0 f' → R (some (.int 2)) (shF L, f', g)) (HO : (∀ b, p < b → b < c → ¬ (PMc f0 v p ∧ PMc f0 v b ∧ FEM f0 v c n (fun k => k = p ∨ k = b))) → ∀ (x' : Int32) (s2 s3 : Option Value) (f' : Nat → Nat → Int32), x' = nI (p + 1) → o2_ f0 f' → WPe pg_X11_findAsides none (Run mtab d) R (m_drop pg_X11_findAsides 33) [some (.ref 181), some (.int x'), s2, s3] [] (shF L, f', g)) :
    ∀ (k i : Nat) (x : Int32) (s3 : Option Value) (f : Nat → Nat → Int32), i + k = c → p < i ∧ x = nI i → o2_ f0 f → (∀ b, p < b → b < i → ¬ (PMc f0 v p ∧ PMc f0 v b ∧ FEM f0 v c n (fun k => k = p ∨ k = b))) → WPe pg_X11_findAsides none (Run mtab d) R (m_drop pg_X11_findAsides 41) [some (.ref 181), some (.int (nI p)), some (.int x), s3] [] (shF L, f, g)
  | 0, i, x, s3, f, hi, ⟨hpi, hx⟩, hF, hN => by
    have e : i = c := by omega
    subst hx
    subst e
    have hc20 := hC.2.1
    have hcb : f 181 16 = nI i := (CM_o2 hF hC).2.2.2.1
    refine at_X11_findAsides ?_
    conv => whnf
    simp only [hcb]
    refine ⟨fun q9 => ?_, fun q9 => absurd (nI_le (Nat.le_refl _) (by omega)) q9⟩
    conv => whnf
    exact HO hN _ _ _ _ (nI_1 p) hF
  | k + 1, i, x, s3, f, hi, ⟨hpi, hx⟩, hF, hN => by
    subst hx
    have hc20 := hC.2.1
    have h21f : f 181 21 = (mayl (PMc f v) (fun m => nI m) c 0 0) := by
      rw [show PMc f v = PMc f0 v from funext (PMc_o2 hF v)]
      exact (hF 181 21 (by omega) (by omega)).trans h21
    have hCf : CM f n c := CM_o2 hF hC
    have hcb : f 181 16 = nI c := hCf.2.2.2.1
    have hd1 : 1 ≤ d := by omega
    refine at_X11_findAsides ?_
    conv => whnf
    simp only [hcb]
    refine ⟨fun q9 => absurd q9 (nI_ge (b := c) (by omega) (by omega)), fun q9 => ?_⟩
    conv => whnf
    refine smf_countsAt (v := v) (k := p) hd1 hc20 (by omega) h21f (fun y0 => ?_) (fun y0 => ?_)
    · rw [PMc_o2 hF] at y0
      conv => whnf
      (refine ⟨fun z9 => ?_, fun z9 => ?_⟩ <;> first | ((have c9 : (1 : Int32) = 0 := by with_reducible exact z9); exact absurd c9 (by decide)) | exact absurd (rfl : (0 : Int32) = 0) (by with_reducible exact z9) | exact absurd True.intro (by with_reducible exact z9) | exact False.elim (by with_reducible exact z9) | (conv => whnf))
      refine smf_countsAt (v := v) (k := i) hd1 hc20 (by omega) h21f (fun y1 => ?_) (fun y1 => ?_)
      · rw [PMc_o2 hF] at y1
        conv => whnf
        (refine ⟨fun z9 => ?_, fun z9 => ?_⟩ <;> first | ((have c9 : (1 : Int32) = 0 := by with_reducible exact z9); exact absurd c9 (by decide)) | exact absurd (rfl : (0 : Int32) = 0) (by with_reducible exact z9) | exact absurd True.intro (by with_reducible exact z9) | exact False.elim (by with_reducible exact z9) | (conv => whnf))
        refine smf_isWell (n := n) (c := c) (v := v) (B := fun k => k = p ∨ k = i) (by omega) hCf h21f (fun k hk => by rw [bit_or _ (by omega) (by omega), bit_sh (by omega) (by omega), Bool.or_eq_true, decide_eq_true_eq, decide_eq_true_eq]) (fun fe f1 o1 => ?_) (fun nf f1 o1 => ?_)
        · rw [FEM_o2 hF] at fe
          conv => whnf
          (refine ⟨fun z9 => ?_, fun z9 => ?_⟩ <;> first | ((have c9 : (1 : Int32) = 0 := by with_reducible exact z9); exact absurd c9 (by decide)) | exact absurd (rfl : (0 : Int32) = 0) (by with_reducible exact z9) | exact absurd True.intro (by with_reducible exact z9) | exact False.elim (by with_reducible exact z9) | (conv => whnf))
          refine ⟨by unfold vp_in; decide, ?_⟩
          conv => whnf
          refine ⟨by unfold vp_in; decide, ?_⟩
          conv => whnf
          exact HY2 ⟨p, i, by omega, by omega, y0, y1, fe⟩ _ (o2_ui (o2_ui (o2_1 hF o1)))
        · rw [FEM_o2 hF] at nf
          conv => whnf
          (refine ⟨fun z9 => ?_, fun z9 => ?_⟩ <;> first | ((have c9 : (1 : Int32) = 0 := by with_reducible exact z9); exact absurd c9 (by decide)) | exact absurd (rfl : (0 : Int32) = 0) (by with_reducible exact z9) | exact absurd True.intro (by with_reducible exact z9) | exact False.elim (by with_reducible exact z9) | (conv => whnf))
          exact mb2 hd hC h21 hpc HY2 HO k (i + 1) _ _ _ (by omega) ⟨by omega, nI_1 i⟩ (o2_1 hF o1) (fun b h1 h2 => (Nat.lt_or_ge b i).elim (fun l => hN b h1 l) (fun l => by have e : b = i := (by omega); subst e; exact fun z => nf z.2.2))
      · rw [PMc_o2 hF] at y1
        conv => whnf
        (refine ⟨fun z9 => ?_, fun z9 => ?_⟩ <;> first | ((have c9 : (1 : Int32) = 0 := by with_reducible exact z9); exact absurd c9 (by decide)) | exact absurd (rfl : (0 : Int32) = 0) (by with_reducible exact z9) | exact absurd True.intro (by with_reducible exact z9) | exact False.elim (by with_reducible exact z9) | (conv => whnf))
        exact mb2 hd hC h21 hpc HY2 HO k (i + 1) _ _ _ (by omega) ⟨by omega, nI_1 i⟩ hF (fun b h1 h2 => (Nat.lt_or_ge b i).elim (fun l => hN b h1 l) (fun l => by have e : b = i := (by omega); subst e; exact fun z => y1 z.2.1))
    · rw [PMc_o2 hF] at y0
      conv => whnf
      (refine ⟨fun z9 => ?_, fun z9 => ?_⟩ <;> first | ((have c9 : (1 : Int32) = 0 := by with_reducible exact z9); exact absurd c9 (by decide)) | exact absurd (rfl : (0 : Int32) = 0) (by with_reducible exact z9) | exact absurd True.intro (by with_reducible exact z9) | exact False.elim (by with_reducible exact z9) | (conv => whnf))
      exact mb2 hd hC h21 hpc HY2 HO k (i + 1) _ _ _ (by omega) ⟨by omega, nI_1 i⟩ hF (fun b h1 h2 => (Nat.lt_or_ge b i).elim (fun l => hN b h1 l) (fun l => by have e : b = i := (by omega); subst e; exact fun z => y0 z.1))
set_option maxRecDepth 100000 in
set_option maxHeartbeats 4000000 in
theorem mb1 {d L n c v : Nat} {f0 : Nat → Nat → Int32} {g : Nat → Nat → Int64} {R : Option Value → mH → Prop} (hd : 3 ≤ d) (hC : CM f0 n c) (h21 : f0 181 21 = (mayl (PMc f0 v) (fun m => nI m) c 0 0)) (HY2 : (∃ a b, a < b ∧ b < c ∧ PMc f0 v a ∧ PMc f0 v b ∧ FEM f0 v c n (fun k => k = a ∨ k = b)) → ∀ f', o2_ f0 f' → R (some (.int 2)) (shF L, f', g)) (HZ : ¬ (∃ a b, a < b ∧ b < c ∧ PMc f0 v a ∧ PMc f0 v b ∧ FEM f0 v c n (fun k => k = a ∨ k = b)) → ∀ (x' : Int32) (s2 s3 : Option Value) (f' : Nat → Nat → Int32), x' = nI 0 → o2_ f0 f' → WPe pg_X11_findAsides none (Run mtab d) R (m_drop pg_X11_findAsides 81) [some (.ref 181), some (.int x'), s2, s3] [] (shF L, f', g)) :
    ∀ (k i : Nat) (x : Int32) (s2 : Option Value) (s3 : Option Value) (f : Nat → Nat → Int32), i + k = c → x = nI i → o2_ f0 f → (∀ p b, p < i → p < b → b < c → ¬ (PMc f0 v p ∧ PMc f0 v b ∧ FEM f0 v c n (fun k => k = p ∨ k = b))) → WPe pg_X11_findAsides none (Run mtab d) R (m_drop pg_X11_findAsides 33) [some (.ref 181), some (.int x), s2, s3] [] (shF L, f, g)
  | 0, i, x, s2, s3, f, hi, hx, hF, hN => by
    have e : i = c := by omega
    subst hx
    subst e
    have hc20 := hC.2.1
    have hcb : f 181 16 = nI i := (CM_o2 hF hC).2.2.2.1
    refine at_X11_findAsides ?_
    conv => whnf
    simp only [hcb]
    refine ⟨fun q9 => ?_, fun q9 => absurd (nI_le (Nat.le_refl _) (by omega)) q9⟩
    conv => whnf
    exact HZ (fun ⟨p, b, h1, h2, h3⟩ => hN p b (by omega) h1 h2 h3) _ _ _ _ rfl hF
  | k + 1, i, x, s2, s3, f, hi, hx, hF, hN => by
    subst hx
    have hc20 := hC.2.1
    have h21f : f 181 21 = (mayl (PMc f v) (fun m => nI m) c 0 0) := by
      rw [show PMc f v = PMc f0 v from funext (PMc_o2 hF v)]
      exact (hF 181 21 (by omega) (by omega)).trans h21
    have hCf : CM f n c := CM_o2 hF hC
    have hcb : f 181 16 = nI c := hCf.2.2.2.1
    have hd1 : 1 ≤ d := by omega
    refine at_X11_findAsides ?_
    conv => whnf
    simp only [hcb]
    refine ⟨fun q9 => absurd q9 (nI_ge (b := c) (by omega) (by omega)), fun q9 => ?_⟩
    conv => whnf
    exact mb2 (p := i) hd hC h21 (by omega) HY2 (fun no x' s2 s3 f' hx' hF' => mb1 hd hC h21 HY2 HZ k (i + 1) x' s2 s3 f' (by omega) hx' hF' (fun p b h1 h2 h3 => (Nat.lt_or_ge p i).elim (fun l => hN p b l h2 h3) (fun l => by have e : p = i := (by omega); subst e; exact no b h2 h3))) (c - (i + 1)) (i + 1) _ _ _ (by omega) ⟨by omega, nI_1 i⟩ hF (fun b h1 h2 => absurd h1 (by omega))
set_option maxRecDepth 100000 in
set_option maxHeartbeats 4000000 in
theorem mc1 {d L n c v : Nat} {f0 : Nat → Nat → Int32} {g : Nat → Nat → Int64} {R : Option Value → mH → Prop} (hd : 3 ≤ d) (hC : CM f0 n c) (h21 : f0 181 21 = (mayl (PMc f0 v) (fun m => nI m) c 0 0)) (HY1 : (∃ a, a < c ∧ PMc f0 v a ∧ FEM f0 v c n (fun k => k = a)) → ∀ f', o2_ f0 f' → R (some (.int 1)) (shF L, f', g)) (HZ : ¬ (∃ a, a < c ∧ PMc f0 v a ∧ FEM f0 v c n (fun k => k = a)) → ∀ (x' : Int32) (s2 s3 : Option Value) (f' : Nat → Nat → Int32), x' = nI 0 → o2_ f0 f' → WPe pg_X11_findAsides none (Run mtab d) R (m_drop pg_X11_findAsides 33) [some (.ref 181), some (.int x'), s2, s3] [] (shF L, f', g)) :
    ∀ (k i : Nat) (x : Int32) (s2 : Option Value) (s3 : Option Value) (f : Nat → Nat → Int32), i + k = c → x = nI i → o2_ f0 f → (∀ a, a < i → ¬ (PMc f0 v a ∧ FEM f0 v c n (fun k => k = a))) → WPe pg_X11_findAsides none (Run mtab d) R (m_drop pg_X11_findAsides 8) [some (.ref 181), some (.int x), s2, s3] [] (shF L, f, g)
  | 0, i, x, s2, s3, f, hi, hx, hF, hN => by
    have e : i = c := by omega
    subst hx
    subst e
    have hc20 := hC.2.1
    have hcb : f 181 16 = nI i := (CM_o2 hF hC).2.2.2.1
    refine at_X11_findAsides ?_
    conv => whnf
    simp only [hcb]
    refine ⟨fun q9 => ?_, fun q9 => absurd (nI_le (Nat.le_refl _) (by omega)) q9⟩
    conv => whnf
    exact HZ (fun ⟨a, h1, h2⟩ => hN a h1 h2) _ _ _ _ rfl hF
  | k + 1, i, x, s2, s3, f, hi, hx, hF, hN => by
    subst hx
    have hc20 := hC.2.1
    have h21f : f 181 21 = (mayl (PMc f v) (fun m => nI m) c 0 0) := by
      rw [show PMc f v = PMc f0 v from funext (PMc_o2 hF v)]
      exact (hF 181 21 (by omega) (by omega)).trans h21
    have hCf : CM f n c := CM_o2 hF hC
    have hcb : f 181 16 = nI c := hCf.2.2.2.1
    have hd1 : 1 ≤ d := by omega
    refine at_X11_findAsides ?_
    conv => whnf
    simp only [hcb]
    refine ⟨fun q9 => absurd q9 (nI_ge (b := c) (by omega) (by omega)), fun q9 => ?_⟩
    conv => whnf
    refine smf_countsAt (v := v) (k := i) hd1 hc20 (by omega) h21f (fun y0 => ?_) (fun y0 => ?_)
    · rw [PMc_o2 hF] at y0
      conv => whnf
      (refine ⟨fun z9 => ?_, fun z9 => ?_⟩ <;> first | ((have c9 : (1 : Int32) = 0 := by with_reducible exact z9); exact absurd c9 (by decide)) | exact absurd (rfl : (0 : Int32) = 0) (by with_reducible exact z9) | exact absurd True.intro (by with_reducible exact z9) | exact False.elim (by with_reducible exact z9) | (conv => whnf))
      refine smf_isWell (n := n) (c := c) (v := v) (B := fun k => k = i) (by omega) hCf h21f (fun k hk => by rw [bit_sh (by omega) (by omega), decide_eq_true_eq]) (fun fe f1 o1 => ?_) (fun nf f1 o1 => ?_)
      · rw [FEM_o2 hF] at fe
        conv => whnf
        (refine ⟨fun z9 => ?_, fun z9 => ?_⟩ <;> first | ((have c9 : (1 : Int32) = 0 := by with_reducible exact z9); exact absurd c9 (by decide)) | exact absurd (rfl : (0 : Int32) = 0) (by with_reducible exact z9) | exact absurd True.intro (by with_reducible exact z9) | exact False.elim (by with_reducible exact z9) | (conv => whnf))
        refine ⟨by unfold vp_in; decide, ?_⟩
        conv => whnf
        exact HY1 ⟨i, by omega, y0, fe⟩ _ (o2_ui (o2_1 hF o1))
      · rw [FEM_o2 hF] at nf
        conv => whnf
        (refine ⟨fun z9 => ?_, fun z9 => ?_⟩ <;> first | ((have c9 : (1 : Int32) = 0 := by with_reducible exact z9); exact absurd c9 (by decide)) | exact absurd (rfl : (0 : Int32) = 0) (by with_reducible exact z9) | exact absurd True.intro (by with_reducible exact z9) | exact False.elim (by with_reducible exact z9) | (conv => whnf))
        exact mc1 hd hC h21 HY1 HZ k (i + 1) _ _ _ _ (by omega) (nI_1 i) (o2_1 hF o1) (fun b h2 => (Nat.lt_or_ge b i).elim (fun l => hN b l) (fun l => by have e : b = i := (by omega); subst e; exact fun z => nf z.2))
    · rw [PMc_o2 hF] at y0
      conv => whnf
      (refine ⟨fun z9 => ?_, fun z9 => ?_⟩ <;> first | ((have c9 : (1 : Int32) = 0 := by with_reducible exact z9); exact absurd c9 (by decide)) | exact absurd (rfl : (0 : Int32) = 0) (by with_reducible exact z9) | exact absurd True.intro (by with_reducible exact z9) | exact False.elim (by with_reducible exact z9) | (conv => whnf))
      exact mc1 hd hC h21 HY1 HZ k (i + 1) _ _ _ _ (by omega) (nI_1 i) hF (fun b h2 => (Nat.lt_or_ge b i).elim (fun l => hN b l) (fun l => by have e : b = i := (by omega); subst e; exact fun z => y0 z.1))
set_option maxRecDepth 100000 in
set_option maxHeartbeats 4000000 in
theorem smf_findAsides {d L : Nat} {f : Nat → Nat → Int32} {g : Nat → Nat → Int64} {n c v : Nat} {R : Option Value → mH → Prop} (hd : 4 ≤ d) (hC : CM f n c) (h21 : f 181 21 = (mayl (PMc f v) (fun m => nI m) c 0 0)) (H : ∀ r f', AS (FEM f v c n) (PMc f v) c r → o2_ f f' → R (some (.int r)) (shF L, f', g)) : Run mtab d 186 [.ref 181] (shF L, f, g) R := by
  obtain ⟨d, rfl⟩ : ∃ e, d = e + 1 := ⟨d - 1, by omega⟩
  refine go_X11_findAsides rfl ?_
  conv => whnf
  refine smf_isWell (n := n) (c := c) (v := v) (B := fun _ => False) (by omega) hC h21 (fun k hk => ⟨fun z => absurd z (zero_bit k), fun z => False.elim z⟩) (fun fe f1 o1 => ?_) (fun nf f1 o1 => ?_)
  · conv => whnf
    (refine ⟨fun z9 => ?_, fun z9 => ?_⟩ <;> first | ((have c9 : (1 : Int32) = 0 := by with_reducible exact z9); exact absurd c9 (by decide)) | exact absurd (rfl : (0 : Int32) = 0) (by with_reducible exact z9) | exact absurd True.intro (by with_reducible exact z9) | exact False.elim (by with_reducible exact z9) | (conv => whnf))
    exact H _ f1 (Or.inl ⟨fe, rfl⟩) (fun a i p _ => o1 a i p)
  · have hF1 : o2_ f f1 := fun a i p _ => o1 a i p
    conv => whnf
    (refine ⟨fun z9 => ?_, fun z9 => ?_⟩ <;> first | ((have c9 : (1 : Int32) = 0 := by with_reducible exact z9); exact absurd c9 (by decide)) | exact absurd (rfl : (0 : Int32) = 0) (by with_reducible exact z9) | exact absurd True.intro (by with_reducible exact z9) | exact False.elim (by with_reducible exact z9) | (conv => whnf))
    refine mc1 (f0 := f) (by omega) hC h21 (fun y f' o => H _ f' (Or.inr (Or.inl ⟨nf, y, rfl⟩)) o) (fun n1 x2 s2 s3 f2 hx2 o2 => ?_) c 0 _ _ _ _ (by omega) rfl hF1 (fun a h => absurd h (by omega))
    refine mb1 (f0 := f) (by omega) hC h21 (fun y f' o => H _ f' (Or.inr (Or.inr (Or.inl ⟨nf, n1, y, rfl⟩))) o) (fun n2 x3 s4 s5 f3 hx3 o3 => ?_) c 0 _ _ _ _ (by omega) hx2 o2 (fun p b h => absurd h (by omega))
    exact ma1 (f0 := f) (by omega) hC h21 (fun y f' o => H _ f' (Or.inr (Or.inr (Or.inr (Or.inl ⟨nf, n1, n2, y, rfl⟩)))) o) (fun n3 f' o => H _ f' (Or.inr (Or.inr (Or.inr (Or.inr ⟨nf, n1, n2, n3, rfl⟩)))) o) c 0 _ _ _ _ (by omega) hx3 o3 (fun p a b h => absurd h (by omega))
