/-- feasible without the clues of B -/
def FEM (f : Nat → Nat → Int32) (v c n : Nat) (B : Nat → Prop) : Prop := ∃ X : Nat → Int, (∀ k, k < c → PMc f v k → ¬ B k → X (f 196 k).toNatClampNeg + (f 198 k).toInt ≤ X (f 197 k).toNatClampNeg) ∧ (∀ w, Yh f 187 n w ≤ X w) ∧ ∀ w, w < n → X w ≤ Yh f 188 n w
def o2_ (f f' : Nat → Nat → Int32) : Prop := ∀ a i, ¬ a = 200 → ¬ a = 202 → f' a i = f a i
theorem PMc_o2 {f f' : Nat → Nat → Int32} (h : o2_ f f') (v k : Nat) : PMc f' v k = PMc f v k := by
  unfold PMc
  rw [smp_kp (fun i => h 218 i (by omega) (by omega)), smp_kp (fun i => h 218 i (by omega) (by omega)), h 199 k (by omega) (by omega), h 196 k (by omega) (by omega), h 197 k (by omega) (by omega)]
theorem FEM_o2 {f f' : Nat → Nat → Int32} {v c n : Nat} (h : o2_ f f') (B : Nat → Prop) : FEM f' v c n B = FEM f v c n B := by
  have hP := PMc_o2 h v
  have h196 : ∀ i, f' 196 i = f 196 i := fun i => h 196 i (by omega) (by omega)
  have h197 : ∀ i, f' 197 i = f 197 i := fun i => h 197 i (by omega) (by omega)
  have h198 : ∀ i, f' 198 i = f 198 i := fun i => h 198 i (by omega) (by omega)
  have y1 : Yh f' 187 n = Yh f 187 n := Yh_eq (fun w _ => h 187 w (by omega) (by omega))
  have y2 : Yh f' 188 n = Yh f 188 n := Yh_eq (fun w _ => h 188 w (by omega) (by omega))
  unfold FEM
  simp only [hP, h196, h197, h198, y1, y2]
theorem CM_o2 {f f' : Nat → Nat → Int32} {n c : Nat} (h : o2_ f f') (m : CM f n c) : CM f' n c := CM_q (fun a i z => h a i (by omega) (by omega)) (h 181 0 (by omega) (by omega)) (h 181 16 (by omega) (by omega)) m
theorem o2_1 {f f1 f2 : Nat → Nat → Int32} (h : o2_ f f1) (k : o200 f1 f2) : o2_ f f2 := fun a i p q => (k a i p).trans (h a i p q)
theorem o2_ui {f f1 : Nat → Nat → Int32} {j : Nat} {v : Int32} (h : o2_ f f1) : o2_ f (m_ui f1 202 j v) := fun a i p q => (m_ui_o (fun e => q e.1)).trans (h a i p q)
theorem bit_not (w : Int32) {k : Nat} (hk : k < 32) : (w ^^^ -1).toBitVec.getLsbD k = !(w.toBitVec.getLsbD k) := by
  have key : ∀ k : Nat, k < 32 → (-1 : Int32).toBitVec.getLsbD k = true := by decide +kernel
  show (w.toBitVec ^^^ (-1 : Int32).toBitVec).getLsbD k = _
  rw [BitVec.getLsbD_xor, key k hk]
  cases w.toBitVec.getLsbD k <;> rfl
theorem bit_sh {j k : Nat} (hj : j < 32) (hk : k < 32) : ((1 : Int32) <<< (nI j &&& 31)).toBitVec.getLsbD k = decide (k = j) := by
  have key : ∀ j : Nat, j < 32 → ∀ k : Nat, k < 32 → ((1 : Int32) <<< (nI j &&& 31)).toBitVec.getLsbD k = decide (k = j) := by decide +kernel
  exact key j hj k hk
theorem mA_w {f : Nat → Nat → Int32} {v c k : Nat} {w : Int32} {B : Nat → Prop} (hc : c ≤ 20) (hk : k < c) (h21 : f 181 21 = (mayl (PMc f v) (fun m => nI m) c 0 0)) (hB : w.toBitVec.getLsbD k = true ↔ B k) : mA_ (f 181 21 &&& (w ^^^ -1)) k = true ↔ (PMc f v k ∧ ¬ B k) := by
  have hP := bits_P (f := f) (v := v) hc hk
  unfold mA_ at hP ⊢
  rw [decide_eq_true_eq, bit_at _ (by omega)] at hP ⊢
  rw [h21]
  show (((mayl (PMc f v) (fun m => nI m) c 0 0)).toBitVec &&& (w ^^^ -1).toBitVec).getLsbD k = true ↔ _
  rw [BitVec.getLsbD_and, Bool.and_eq_true, hP, bit_not w (by omega), Bool.not_eq_true', ← hB]
  refine and_congr Iff.rfl ?_
  cases w.toBitVec.getLsbD k
  · exact ⟨fun _ z => (by cases z), fun _ => rfl⟩
  · exact ⟨fun z => (by cases z), fun z => absurd rfl z⟩
theorem fe_w {f : Nat → Nat → Int32} {v c n : Nat} {w : Int32} {B : Nat → Prop} (hc : c ≤ 20) (h21 : f 181 21 = (mayl (PMc f v) (fun m => nI m) c 0 0)) (hB : ∀ k, k < c → (w.toBitVec.getLsbD k = true ↔ B k)) : (∃ X, Sol c (mA_ (f 181 21 &&& (w ^^^ -1))) (mU_ f) (mV_ f) (mD_ f) X ∧ (∀ u, Yh f 187 n u ≤ X u) ∧ ∀ u, u < n → X u ≤ Yh f 188 n u) ↔ FEM f v c n B := by
  constructor
  · rintro ⟨X, x1, x2, x3⟩
    exact ⟨X, fun k hk hp hb => x1 k hk ((mA_w hc hk h21 (hB k hk)).mpr ⟨hp, hb⟩), x2, x3⟩
  · rintro ⟨X, x1, x2, x3⟩
    refine ⟨X, fun k hk hA => ?_, x2, x3⟩
    obtain ⟨a, b⟩ := (mA_w hc hk h21 (hB k hk)).mp hA
    exact x1 k hk a b
set_option maxRecDepth 100000 in
set_option maxHeartbeats 4000000 in
theorem smf_isWell {d L : Nat} {f : Nat → Nat → Int32} {g : Nat → Nat → Int64} {n c v : Nat} {w : Int32} {B : Nat → Prop} {R : Option Value → mH → Prop} (hd : 2 ≤ d) (hC : CM f n c) (h21 : f 181 21 = (mayl (PMc f v) (fun m => nI m) c 0 0)) (hB : ∀ k, k < c → (w.toBitVec.getLsbD k = true ↔ B k)) (H1 : FEM f v c n B → ∀ f', o200 f f' → R (some (.int 1)) (shF L, f', g)) (H0 : ¬ FEM f v c n B → ∀ f', o200 f f' → R (some (.int 0)) (shF L, f', g)) : Run mtab d 184 [.ref 181, .int w] (shF L, f, g) R := by
  obtain ⟨d, rfl⟩ : ∃ e, d = e + 1 := ⟨d - 1, by omega⟩
  refine go_X11_isWell rfl ?_
  conv => whnf
  have fe := fe_w (n := n) hC.2.1 h21 hB
  refine smf_findLeast (n := n) (c := c) (bits := (f 181 21 &&& (w ^^^ -1))) (by omega) hC (fun nf f1 h1 => ?_) (fun f1 h1 r1 L1 => ?_)
  · conv => whnf
    have G := H0 (fun z => nf (fe.mpr z)) f1 h1
    first | exact ⟨Or.inl rfl, G⟩ | exact G
  · conv => whnf
    have G := H1 (fe.mp ⟨_, L1.1, L1.2.1, fun u hu => by
      rw [Yh_t hu, Yh_t hu]
      exact Int32.le_iff_toInt_le.mp (r1 u hu).2⟩) f1 h1
    first | exact ⟨Or.inr rfl, G⟩ | exact G
set_option maxRecDepth 100000 in
set_option maxHeartbeats 4000000 in
theorem smf_countsAt {d L : Nat} {f : Nat → Nat → Int32} {g : Nat → Nat → Int64} {c v k : Nat} {R : Option Value → mH → Prop} (hd : 1 ≤ d) (hc : c ≤ 20) (hk : k < c) (h21 : f 181 21 = (mayl (PMc f v) (fun m => nI m) c 0 0)) (H1 : PMc f v k → R (some (.int 1)) (shF L, f, g)) (H0 : ¬ PMc f v k → R (some (.int 0)) (shF L, f, g)) : Run mtab d 185 [.ref 181, .int (nI k)] (shF L, f, g) R := by
  obtain ⟨d, rfl⟩ : ∃ e, d = e + 1 := ⟨d - 1, by omega⟩
  refine go_X11_countsAt rfl ?_
  conv => whnf
  have hP := bits_P (f := f) (v := v) hc hk
  unfold mA_ at hP
  rw [decide_eq_true_eq, ← h21] at hP
  refine ⟨fun z => ?_, fun z => ?_⟩
  · conv => whnf
    have G := H0 (fun y => z (hP.mpr y))
    first | exact ⟨Or.inl rfl, G⟩ | exact G
  · conv => whnf
    have G := H1 (hP.mp z)
    first | exact ⟨Or.inr rfl, G⟩ | exact G
set_option maxRecDepth 100000 in
set_option maxHeartbeats 4000000 in
theorem ma3 {d L n c v : Nat} {f0 : Nat → Nat → Int32} {g : Nat → Nat → Int64} {p q : Nat} {R : Option Value → mH → Prop} (hd : 3 ≤ d) (hC : CM f0 n c) (h21 : f0 181 21 = (mayl (PMc f0 v) (fun m => nI m) c 0 0)) (hpq : p < q) (hqi : q < c) (HY3 : (∃ a b d, a < b ∧ b < d ∧ d < c ∧ PMc f0 v a ∧ PMc f0 v b ∧ PMc f0 v d ∧ FEM f0 v c n (fun k => k = a ∨ k = b ∨ k = d)) → ∀ f', o2_ f0 f' → R (some (.int 3)) (shF L, f', g)) (HO : (∀ b, q < b → b < c → ¬ (PMc f0 v p ∧ PMc f0 v q ∧ PMc f0 v b ∧ FEM f0 v c n (fun k => k = p ∨ k = q ∨ k = b))) → ∀ (x' : Int32) (s3 : Option Value) (f' : Nat → Nat → Int32), x' = nI (q + 1) → o2_ f0 f' → WPe pg_X11_findAsides none (Run mtab d) R (m_drop pg_X11_findAsides 89) [some (.ref 181), some (.int (nI p)), some (.int x'), s3] [] (shF L, f', g)) :
    ∀ (k i : Nat) (x : Int32) (f : Nat → Nat → Int32), i + k = c → q < i ∧ x = nI i → o2_ f0 f → (∀ b, q < b → b < i → ¬ (PMc f0 v p ∧ PMc f0 v q ∧ PMc f0 v b ∧ FEM f0 v c n (fun k => k = p ∨ k = q ∨ k = b))) → WPe pg_X11_findAsides none (Run mtab d) R (m_drop pg_X11_findAsides 97) [some (.ref 181), some (.int (nI p)), some (.int (nI q)), some (.int x)] [] (shF L, f, g)
  | 0, i, x, f, hi, ⟨hqi2, hx⟩, hF, hN => by
    have e : i = c := by omega
    subst hx
    subst e
    have hc20 := hC.2.1
    have hcb : f 181 16 = nI i := (CM_o2 hF hC).2.2.2.1
    refine at_X11_findAsides ?_
    conv => whnf
    simp only [hcb]
    refine ⟨fun q9 => ?_, fun q9 => absurd (nI_le (Nat.le_refl _) (by omega)) q9⟩
    conv => whnf
    exact HO hN _ _ _ (nI_1 q) hF
  | k + 1, i, x, f, hi, ⟨hqi2, hx⟩, hF, hN => by
    subst hx
    have hc20 := hC.2.1
    have h21f : f 181 21 = (mayl (PMc f v) (fun m => nI m) c 0 0) := by
      rw [show PMc f v = PMc f0 v from funext (PMc_o2 hF v)]
      exact (hF 181 21 (by omega) (by omega)).trans h21
    have hCf : CM f n c := CM_o2 hF hC
    have hcb : f 181 16 = nI c := hCf.2.2.2.1
    have hd1 : 1 ≤ d := by omega
    refine at_X11_findAsides ?_
    conv => whnf
    simp only [hcb]
    refine ⟨fun q9 => absurd q9 (nI_ge (b := c) (by omega) (by omega)), fun q9 => ?_⟩
    conv => whnf
    refine smf_countsAt (v := v) (k := p) hd1 hc20 (by omega) h21f (fun y0 => ?_) (fun y0 => ?_)
    · rw [PMc_o2 hF] at y0
      conv => whnf
      (refine ⟨fun z9 => ?_, fun z9 => ?_⟩ <;> first | ((have c9 : (1 : Int32) = 0 := by with_reducible exact z9); exact absurd c9 (by decide)) | exact absurd (rfl : (0 : Int32) = 0) (by with_reducible exact z9) | exact absurd True.intro (by with_reducible exact z9) | exact False.elim (by with_reducible exact z9) | (conv => whnf))
      refine smf_countsAt (v := v) (k := q) hd1 hc20 (by omega) h21f (fun y1 => ?_) (fun y1 => ?_)
      · rw [PMc_o2 hF] at y1
        conv => whnf
        (refine ⟨fun z9 => ?_, fun z9 => ?_⟩ <;> first | ((have c9 : (1 : Int32) = 0 := by with_reducible exact z9); exact absurd c9 (by decide)) | exact absurd (rfl : (0 : Int32) = 0) (by with_reducible exact z9) | exact absurd True.intro (by with_reducible exact z9) | exact False.elim (by with_reducible exact z9) | (conv => whnf))
        refine smf_countsAt (v := v) (k := i) hd1 hc20 (by omega) h21f (fun y2 => ?_) (fun y2 => ?_)
        · rw [PMc_o2 hF] at y2
          conv => whnf
          (refine ⟨fun z9 => ?_, fun z9 => ?_⟩ <;> first | ((have c9 : (1 : Int32) = 0 := by with_reducible exact z9); exact absurd c9 (by decide)) | exact absurd (rfl : (0 : Int32) = 0) (by with_reducible exact z9) | exact absurd True.intro (by with_reducible exact z9) | exact False.elim (by with_reducible exact z9) | (conv => whnf))
          refine smf_isWell (n := n) (c := c) (v := v) (B := fun k => k = p ∨ k = q ∨ k = i) (by omega) hCf h21f (fun k hk => by rw [bit_or _ (by omega) (by omega), bit_or _ (by omega) (by omega), bit_sh (by omega) (by omega), Bool.or_eq_true, Bool.or_eq_true, decide_eq_true_eq, decide_eq_true_eq, decide_eq_true_eq, or_assoc]) (fun fe f1 o1 => ?_) (fun nf f1 o1 => ?_)
          · rw [FEM_o2 hF] at fe
            conv => whnf
            (refine ⟨fun z9 => ?_, fun z9 => ?_⟩ <;> first | ((have c9 : (1 : Int32) = 0 := by with_reducible exact z9); exact absurd c9 (by decide)) | exact absurd (rfl : (0 : Int32) = 0) (by with_reducible exact z9) | exact absurd True.intro (by with_reducible exact z9) | exact False.elim (by with_reducible exact z9) | (conv => whnf))
            refine ⟨by unfold vp_in; decide, ?_⟩
            conv => whnf
            refine ⟨by unfold vp_in; decide, ?_⟩
            conv => whnf
            refine ⟨by unfold vp_in; decide, ?_⟩
            conv => whnf
            exact HY3 ⟨p, q, i, hpq, by omega, by omega, y0, y1, y2, fe⟩ _ (o2_ui (o2_ui (o2_ui (o2_1 hF o1))))
          · rw [FEM_o2 hF] at nf
            conv => whnf
            (refine ⟨fun z9 => ?_, fun z9 => ?_⟩ <;> first | ((have c9 : (1 : Int32) = 0 := by with_reducible exact z9); exact absurd c9 (by decide)) | exact absurd (rfl : (0 : Int32) = 0) (by with_reducible exact z9) | exact absurd True.intro (by with_reducible exact z9) | exact False.elim (by with_reducible exact z9) | (conv => whnf))
            exact ma3 hd hC h21 hpq hqi HY3 HO k (i + 1) _ _ (by omega) ⟨by omega, nI_1 i⟩ (o2_1 hF o1) (fun b h1 h2 => (Nat.lt_or_ge b i).elim (fun l => hN b h1 l) (fun l => by have e : b = i := (by omega); subst e; exact fun z => nf z.2.2.2))
        · rw [PMc_o2 hF] at y2
          conv => whnf
          (refine ⟨fun z9 => ?_, fun z9 => ?_⟩ <;> first | ((have c9 : (1 : Int32) = 0 := by with_reducible exact z9); exact absurd c9 (by decide)) | exact absurd (rfl : (0 : Int32) = 0) (by with_reducible exact z9) | exact absurd True.intro (by with_reducible exact z9) | exact False.elim (by with_reducible exact z9) | (conv => whnf))
          exact ma3 hd hC h21 hpq hqi HY3 HO k (i + 1) _ _ (by omega) ⟨by omega, nI_1 i⟩ hF (fun b h1 h2 => (Nat.lt_or_ge b i).elim (fun l => hN b h1 l) (fun l => by have e : b = i := (by omega); subst e; exact fun z => y2 z.2.2.1))
      · rw [PMc_o2 hF] at y1
        conv => whnf
        (refine ⟨fun z9 => ?_, fun z9 => ?_⟩ <;> first | ((have c9 : (1 : Int32) = 0 := by with_reducible exact z9); exact absurd c9 (by decide)) | exact absurd (rfl : (0 : Int32) = 0) (by with_reducible exact z9) | exact absurd True.intro (by with_reducible exact z9) | exact False.elim (by with_reducible exact z9) | (conv => whnf))
        exact ma3 hd hC h21 hpq hqi HY3 HO k (i + 1) _ _ (by omega) ⟨by omega, nI_1 i⟩ hF (fun b h1 h2 => (Nat.lt_or_ge b i).elim (fun l => hN b h1 l) (fun l => by have e : b = i := (by omega); subst e; exact fun z => y1 z.2.1))
    · rw [PMc_o2 hF] at y0
      conv => whnf
      (refine ⟨fun z9 => ?_, fun z9 => ?_⟩ <;> first | ((have c9 : (1 : Int32) = 0 := by with_reducible exact z9); exact absurd c9 (by decide)) | exact absurd (rfl : (0 : Int32) = 0) (by with_reducible exact z9) | exact absurd True.intro (by with_reducible exact z9) | exact False.elim (by with_reducible exact z9) | (conv => whnf))
      exact ma3 hd hC h21 hpq hqi HY3 HO k (i + 1) _ _ (by omega) ⟨by omega, nI_1 i⟩ hF (fun b h1 h2 => (Nat.lt_or_ge b i).elim (fun l => hN b h1 l) (fun l => by have e : b = i := (by omega); subst e; exact fun z => y0 z.1))
set_option maxRecDepth 100000 in
set_option maxHeartbeats 4000000 in
theorem ma2 {d L n c v : Nat} {f0 : Nat → Nat → Int32} {g : Nat → Nat → Int64} {p : Nat} {R : Option Value → mH → Prop} (hd : 3 ≤ d) (hC : CM f0 n c) (h21 : f0 181 21 = (mayl (PMc f0 v) (fun m => nI m) c 0 0)) (hpc : p < c) (HY3 : (∃ a b d, a < b ∧ b < d ∧ d < c ∧ PMc f0 v a ∧ PMc f0 v b ∧ PMc f0 v d ∧ FEM f0 v c n (fun k => k = a ∨ k = b ∨ k = d)) → ∀ f', o2_ f0 f' → R (some (.int 3)) (shF L, f', g)) (HO : (∀ a b, p < a → a < b → b < c → ¬ (PMc f0 v p ∧ PMc f0 v a ∧ PMc f0 v b ∧ FEM f0 v c n (fun k => k = p ∨ k = a ∨ k = b))) → ∀ (x' : Int32) (s2 s3 : Option Value) (f' : Nat → Nat → Int32), x' = nI (p + 1) → o2_ f0 f' → WPe pg_X11_findAsides none (Run mtab d) R (m_drop pg_X11_findAsides 81) [some (.ref 181), some (.int x'), s2, s3] [] (shF L, f', g)) :
    ∀ (k i : Nat) (x : Int32) (s3 : Option Value) (f : Nat → Nat → Int32), i + k = c → p < i ∧ x = nI i → o2_ f0 f → (∀ a b, p < a → a < i → a < b → b < c → ¬ (PMc f0 v p ∧ PMc f0 v a ∧ PMc f0 v b ∧ FEM f0 v c n (fun k => k = p ∨ k = a ∨ k = b))) → WPe pg_X11_findAsides none (Run mtab d) R (m_drop pg_X11_findAsides 89) [some (.ref 181), some (.int (nI p)), some (.int x), s3] [] (shF L, f, g)
  | 0, i, x, s3, f, hi, ⟨hpi, hx⟩, hF, hN => by
    have e : i = c := by omega
    subst hx
    subst e
    have hc20 := hC.2.1
    have hcb : f 181 16 = nI i := (CM_o2 hF hC).2.2.2.1
    refine at_X11_findAsides ?_
    conv => whnf
    simp only [hcb]
    refine ⟨fun q9 => ?_, fun q9 => absurd (nI_le (Nat.le_refl _) (by omega)) q9⟩
    conv => whnf
    exact HO (fun a b h1 h2 h3 => hN a b h1 (by omega) h2 h3) _ _ _ _ (nI_1 p) hF
  | k + 1, i, x, s3, f, hi, ⟨hpi, hx⟩, hF, hN => by
    subst hx
    have hc20 := hC.2.1
    have h21f : f 181 21 = (mayl (PMc f v) (fun m => nI m) c 0 0) := by
      rw [show PMc f v = PMc f0 v from funext (PMc_o2 hF v)]
      exact (hF 181 21 (by omega) (by omega)).trans h21
    have hCf : CM f n c := CM_o2 hF hC
    have hcb : f 181 16 = nI c := hCf.2.2.2.1
    have hd1 : 1 ≤ d := by omega
    refine at_X11_findAsides ?_
    conv => whnf
    simp only [hcb]
    refine ⟨fun q9 => absurd q9 (nI_ge (b := c) (by omega) (by omega)), fun q9 => ?_⟩
    conv => whnf
    exact ma3 (p := p) (q := i) hd hC h21 (by omega) (by omega) HY3 (fun no x' s3 f' hx' hF' => ma2 hd hC h21 hpc HY3 HO k (i + 1) x' s3 f' (by omega) ⟨by omega, hx'⟩ hF' (fun a b h1 h2 h3 h4 => (Nat.lt_or_ge a i).elim (fun l => hN a b h1 l h3 h4) (fun l => by have e : a = i := (by omega); subst e; exact no b h3 h4))) (c - (i + 1)) (i + 1) _ _ (by omega) ⟨by omega, nI_1 i⟩ hF (fun b h1 h2 => absurd h1 (by omega))
set_option maxRecDepth 100000 in
set_option maxHeartbeats 4000000 in
theorem ma1 {d L n c v : Nat} {f0 : Nat → Nat → Int32} {g : Nat → Nat → Int64} {R : Option Value → mH → Prop} (hd : 3 ≤ d) (hC : CM f0 n c) (h21 : f0 181 21 = (mayl (PMc f0 v) (fun m => nI m) c 0 0)) (HY3 : (∃ a b d, a < b ∧ b < d ∧ d < c ∧ PMc f0 v a ∧ PMc f0 v b ∧ PMc f0 v d ∧ FEM f0 v c n (fun k => k = a ∨ k = b ∨ k = d)) → ∀ f', o2_ f0 f' → R (some (.int 3)) (shF L, f', g)) (HZ : ¬ (∃ a b d, a < b ∧ b < d ∧ d < c ∧ PMc f0 v a ∧ PMc f0 v b ∧ PMc f0 v d ∧ FEM f0 v c n (fun k => k = a ∨ k = b ∨ k = d)) → ∀ f', o2_ f0 f' → R (some (.int (-4))) (shF L, f', g)) :
    ∀ (k i : Nat) (x : Int32) (s2 : Option Value) (s3 : Option Value) (f : Nat → Nat → Int32), i + k = c → x = nI i → o2_ f0 f → (∀ p a b, p < i → p < a → a < b → b < c → ¬ (PMc f0 v p ∧ PMc f0 v a ∧ PMc f0 v b ∧ FEM f0 v c n (fun k => k = p ∨ k = a ∨ k = b))) → WPe pg_X11_findAsides none (Run mtab d) R (m_drop pg_X11_findAsides 81) [some (.ref 181), some (.int x), s2, s3] [] (shF L, f, g)
  | 0, i, x, s2, s3, f, hi, hx, hF, hN => by
    have e : i = c := by omega
    subst hx
    subst e
    have hc20 := hC.2.1
    have hcb : f 181 16 = nI i := (CM_o2 hF hC).2.2.2.1
    refine at_X11_findAsides ?_
    conv => whnf
    simp only [hcb]
    refine ⟨fun q9 => ?_, fun q9 => absurd (nI_le (Nat.le_refl _) (by omega)) q9⟩
    conv => whnf
    exact HZ (fun ⟨p, a, b, h1, h2, h3, h4⟩ => hN p a b (by omega) h1 h2 h3 h4) _ hF
  | k + 1, i, x, s2, s3, f, hi, hx, hF, hN => by
    subst hx
    have hc20 := hC.2.1
    have h21f : f 181 21 = (mayl (PMc f v) (fun m => nI m) c 0 0) := by
      rw [show PMc f v = PMc f0 v from funext (PMc_o2 hF v)]
      exact (hF 181 21 (by omega) (by omega)).trans h21
    have hCf : CM f n c := CM_o2 hF hC
    have hcb : f 181 16 = nI c := hCf.2.2.2.1
    have hd1 : 1 ≤ d := by omega
    refine at_X11_findAsides ?_
    conv => whnf
    simp only [hcb]
    refine ⟨fun q9 => absurd q9 (nI_ge (b := c) (by omega) (by omega)), fun q9 => ?_⟩
    conv => whnf
    exact ma2 (p := i) hd hC h21 (by omega) HY3 (fun no x' s2 s3 f' hx' hF' => ma1 hd hC h21 HY3 HZ k (i + 1) x' s2 s3 f' (by omega) hx' hF' (fun p a b h1 h2 h3 h4 => (Nat.lt_or_ge p i).elim (fun l => hN p a b l h2 h3 h4) (fun l => by have e : p = i := (by omega); subst e; exact no a b h2 h3 h4))) (c - (i + 1)) (i + 1) _ _ _ (by omega) ⟨by omega, nI_1 i⟩ hF (fun a b h1 h2 => absurd h1 (by omega))
set_option maxRecDepth 100000 in
set_option maxHeartbeats 4000000 in
theorem mb2 {d L n c v : Nat} {f0 : Nat → Nat → Int32} {g : Nat → Nat → Int64} {p : Nat} {R : Option Value → mH → Prop} (hd : 3 ≤ d) (hC : CM f0 n c) (h21 : f0 181 21 = (mayl (PMc f0 v) (fun m => nI m) c 0 0)) (hpc : p < c) (HY2 : (∃ a b, a < b ∧ b < c ∧ PMc f0 v a ∧ PMc f0 v b ∧ FEM f0 v c n (fun k => k = a ∨ k = b)) → ∀ f', o2_ f0 f' → R (some (.int 2)) (shF L, f', g)) (HO : (∀ b, p < b → b < c → ¬ (PMc f0 v p ∧ PMc f0 v b ∧ FEM f0 v c n (fun k => k = p ∨ k = b))) → ∀ (x' : Int32) (s2 s3 : Option Value) (f' : Nat → Nat → Int32), x' = nI (p + 1) → o2_ f0 f' → WPe pg_X11_findAsides none (Run mtab d) R (m_drop pg_X11_findAsides 33) [some (.ref 181), some (.int x'), s2, s3] [] (shF L, f', g)) :
    ∀ (k i : Nat) (x : Int32) (s3 : Option Value) (f : Nat → Nat → Int32), i + k = c → p < i ∧ x = nI i → o2_ f0 f → (∀ b, p < b → b < i → ¬ (PMc f0 v p ∧ PMc f0 v b ∧ FEM f0 v c n (fun k => k = p ∨ k = b))) → WPe pg_X11_findAsides none (Run mtab d) R (m_drop pg_X11_findAsides 41) [some (.ref 181), some (.int (nI p)), some (.int x), s3] [] (shF L, f, g)
  | 0, i, x, s3, f, hi, ⟨hpi, hx⟩, hF, hN => by
    have e : i = c := by omega
    subst hx
    subst e
    have hc20 := hC.2.1
    have hcb : f 181 16 = nI i := (CM_o2 hF hC).2.2.2.1
    refine at_X11_findAsides ?_
    conv => whnf
    simp only [hcb]
    refine ⟨fun q9 => ?_, fun q9 => absurd (nI_le (Nat.le_refl _) (by omega)) q9⟩
    conv => whnf
    exact HO hN _ _ _ _ (nI_1 p) hF
  | k + 1, i, x, s3, f, hi, ⟨hpi, hx⟩, hF, hN => by
    subst hx
    have hc20 := hC.2.1
    have h21f : f 181 21 = (mayl (PMc f v) (fun m => nI m) c 0 0) := by
      rw [show PMc f v = PMc f0 v from funext (PMc_o2 hF v)]
      exact (hF 181 21 (by omega) (by omega)).trans h21
    have hCf : CM f n c := CM_o2 hF hC
    have hcb : f 181 16 = nI c := hCf.2.2.2.1
    have hd1 : 1 ≤ d := by omega
    refine at_X11_findAsides ?_
    conv => whnf
    simp only [hcb]
    refine ⟨fun q9 => absurd q9 (nI_ge (b := c) (by omega) (by omega)), fun q9 => ?_⟩
    conv => whnf
    refine smf_countsAt (v := v) (k := p) hd1 hc20 (by omega) h21f (fun y0 => ?_) (fun y0 => ?_)
    · rw [PMc_o2 hF] at y0
      conv => whnf
      (refine ⟨fun z9 => ?_, fun z9 => ?_⟩ <;> first | ((have c9 : (1 : Int32) = 0 := by with_reducible exact z9); exact absurd c9 (by decide)) | exact absurd (rfl : (0 : Int32) = 0) (by with_reducible exact z9) | exact absurd True.intro (by with_reducible exact z9) | exact False.elim (by with_reducible exact z9) | (conv => whnf))
      refine smf_countsAt (v := v) (k := i) hd1 hc20 (by omega) h21f (fun y1 => ?_) (fun y1 => ?_)
      · rw [PMc_o2 hF] at y1
        conv => whnf
        (refine ⟨fun z9 => ?_, fun z9 => ?_⟩ <;> first | ((have c9 : (1 : Int32) = 0 := by with_reducible exact z9); exact absurd c9 (by decide)) | exact absurd (rfl : (0 : Int32) = 0) (by with_reducible exact z9) | exact absurd True.intro (by with_reducible exact z9) | exact False.elim (by with_reducible exact z9) | (conv => whnf))
        refine smf_isWell (n := n) (c := c) (v := v) (B := fun k => k = p ∨ k = i) (by omega) hCf h21f (fun k hk => by rw [bit_or _ (by omega) (by omega), bit_sh (by omega) (by omega), Bool.or_eq_true, decide_eq_true_eq, decide_eq_true_eq]) (fun fe f1 o1 => ?_) (fun nf f1 o1 => ?_)
        · rw [FEM_o2 hF] at fe
          conv => whnf
          (refine ⟨fun z9 => ?_, fun z9 => ?_⟩ <;> first | ((have c9 : (1 : Int32) = 0 := by with_reducible exact z9); exact absurd c9 (by decide)) | exact absurd (rfl : (0 : Int32) = 0) (by with_reducible exact z9) | exact absurd True.intro (by with_reducible exact z9) | exact False.elim (by with_reducible exact z9) | (conv => whnf))
          refine ⟨by unfold vp_in; decide, ?_⟩
          conv => whnf
          refine ⟨by unfold vp_in; decide, ?_⟩
          conv => whnf
          exact HY2 ⟨p, i, by omega, by omega, y0, y1, fe⟩ _ (o2_ui (o2_ui (o2_1 hF o1)))
        · rw [FEM_o2 hF] at nf
          conv => whnf
          (refine ⟨fun z9 => ?_, fun z9 => ?_⟩ <;> first | ((have c9 : (1 : Int32) = 0 := by with_reducible exact z9); exact absurd c9 (by decide)) | exact absurd (rfl : (0 : Int32) = 0) (by with_reducible exact z9) | exact absurd True.intro (by with_reducible exact z9) | exact False.elim (by with_reducible exact z9) | (conv => whnf))
          exact mb2 hd hC h21 hpc HY2 HO k (i + 1) _ _ _ (by omega) ⟨by omega, nI_1 i⟩ (o2_1 hF o1) (fun b h1 h2 => (Nat.lt_or_ge b i).elim (fun l => hN b h1 l) (fun l => by have e : b = i := (by omega); subst e; exact fun z => nf z.2.2))
      · rw [PMc_o2 hF] at y1
        conv => whnf
        (refine ⟨fun z9 => ?_, fun z9 => ?_⟩ <;> first | ((have c9 : (1 : Int32) = 0 := by with_reducible exact z9); exact absurd c9 (by decide)) | exact absurd (rfl : (0 : Int32) = 0) (by with_reducible exact z9) | exact absurd True.intro (by with_reducible exact z9) | exact False.elim (by with_reducible exact z9) | (conv => whnf))
        exact mb2 hd hC h21 hpc HY2 HO k (i + 1) _ _ _ (by omega) ⟨by omega, nI_1 i⟩ hF (fun b h1 h2 => (Nat.lt_or_ge b i).elim (fun l => hN b h1 l) (fun l => by have e : b = i := (by omega); subst e; exact fun z => y1 z.2.1))
    · rw [PMc_o2 hF] at y0
      conv => whnf
      (refine ⟨fun z9 => ?_, fun z9 => ?_⟩ <;> first | ((have c9 : (1 : Int32) = 0 := by with_reducible exact z9); exact absurd c9 (by decide)) | exact absurd (rfl : (0 : Int32) = 0) (by with_reducible exact z9) | exact absurd True.intro (by with_reducible exact z9) | exact False.elim (by with_reducible exact z9) | (conv => whnf))
      exact mb2 hd hC h21 hpc HY2 HO k (i + 1) _ _ _ (by omega) ⟨by omega, nI_1 i⟩ hF (fun b h1 h2 => (Nat.lt_or_ge b i).elim (fun l => hN b h1 l) (fun l => by have e : b = i := (by omega); subst e; exact fun z => y0 z.1))
set_option maxRecDepth 100000 in
set_option maxHeartbeats 4000000 in
theorem mb1 {d L n c v : Nat} {f0 : Nat → Nat → Int32} {g : Nat → Nat → Int64} {R : Option Value → mH → Prop} (hd : 3 ≤ d) (hC : CM f0 n c) (h21 : f0 181 21 = (mayl (PMc f0 v) (fun m => nI m) c 0 0)) (HY2 : (∃ a b, a < b ∧ b < c ∧ PMc f0 v a ∧ PMc f0 v b ∧ FEM f0 v c n (fun k => k = a ∨ k = b)) → ∀ f', o2_ f0 f' → R (some (.int 2)) (shF L, f', g)) (HZ : ¬ (∃ a b, a < b ∧ b < c ∧ PMc f0 v a ∧ PMc f0 v b ∧ FEM f0 v c n (fun k => k = a ∨ k = b)) → ∀ (x' : Int32) (s2 s3 : Option Value) (f' : Nat → Nat → Int32), x' = nI 0 → o2_ f0 f' → WPe pg_X11_findAsides none (Run mtab d) R (m_drop pg_X11_findAsides 81) [some (.ref 181), some (.int x'), s2, s3] [] (shF L, f', g)) :
    ∀ (k i : Nat) (x : Int32) (s2 : Option Value) (s3 : Option Value) (f : Nat → Nat → Int32), i + k = c → x = nI i → o2_ f0 f → (∀ p b, p < i → p < b → b < c → ¬ (PMc f0 v p ∧ PMc f0 v b ∧ FEM f0 v c n (fun k => k = p ∨ k = b))) → WPe pg_X11_findAsides none (Run mtab d) R (m_drop pg_X11_findAsides 33) [some (.ref 181), some (.int x), s2, s3] [] (shF L, f, g)
  | 0, i, x, s2, s3, f, hi, hx, hF, hN => by
    have e : i = c := by omega
    subst hx
    subst e
    have hc20 := hC.2.1
    have hcb : f 181 16 = nI i := (CM_o2 hF hC).2.2.2.1
    refine at_X11_findAsides ?_
    conv => whnf
    simp only [hcb]
    refine ⟨fun q9 => ?_, fun q9 => absurd (nI_le (Nat.le_refl _) (by omega)) q9⟩
    conv => whnf
    exact HZ (fun ⟨p, b, h1, h2, h3⟩ => hN p b (by omega) h1 h2 h3) _ _ _ _ rfl hF
  | k + 1, i, x, s2, s3, f, hi, hx, hF, hN => by
    subst hx
    have hc20 := hC.2.1
    have h21f : f 181 21 = (mayl (PMc f v) (fun m => nI m) c 0 0) := by
      rw [show PMc f v = PMc f0 v from funext (PMc_o2 hF v)]
      exact (hF 181 21 (by omega) (by omega)).trans h21
    have hCf : CM f n c := CM_o2 hF hC
    have hcb : f 181 16 = nI c := hCf.2.2.2.1
    have hd1 : 1 ≤ d := by omega
    refine at_X11_findAsides ?_
    conv => whnf
    simp only [hcb]
    refine ⟨fun q9 => absurd q9 (nI_ge (b := c) (by omega) (by omega)), fun q9 => ?_⟩
    conv => whnf
    exact mb2 (p := i) hd hC h21 (by omega) HY2 (fun no x' s2 s3 f' hx' hF' => mb1 hd hC h21 HY2 HZ k (i + 1) x' s2 s3 f' (by omega) hx' hF' (fun p b h1 h2 h3 => (Nat.lt_or_ge p i).elim (fun l => hN p b l h2 h3) (fun l => by have e : p = i := (by omega); subst e; exact no b h2 h3))) (c - (i + 1)) (i + 1) _ _ _ (by omega) ⟨by omega, nI_1 i⟩ hF (fun b h1 h2 => absurd h1 (by omega))
set_option maxRecDepth 100000 in
set_option maxHeartbeats 4000000 in
theorem mc1 {d L n c v : Nat} {f0 : Nat → Nat → Int32} {g : Nat → Nat → Int64} {R : Option Value → mH → Prop} (hd : 3 ≤ d) (hC : CM f0 n c) (h21 : f0 181 21 = (mayl (PMc f0 v) (fun m => nI m) c 0 0)) (HY1 : (∃ a, a < c ∧ PMc f0 v a ∧ FEM f0 v c n (fun k => k = a)) → ∀ f', o2_ f0 f' → R (some (.int 1)) (shF L, f', g)) (HZ : ¬ (∃ a, a < c ∧ PMc f0 v a ∧ FEM f0 v c n (fun k => k = a)) → ∀ (x' : Int32) (s2 s3 : Option Value) (f' : Nat → Nat → Int32), x' = nI 0 → o2_ f0 f' → WPe pg_X11_findAsides none (Run mtab d) R (m_drop pg_X11_findAsides 33) [some (.ref 181), some (.int x'), s2, s3] [] (shF L, f', g)) :
    ∀ (k i : Nat) (x : Int32) (s2 : Option Value) (s3 : Option Value) (f : Nat → Nat → Int32), i + k = c → x = nI i → o2_ f0 f → (∀ a, a < i → ¬ (PMc f0 v a ∧ FEM f0 v c n (fun k => k = a))) → WPe pg_X11_findAsides none (Run mtab d) R (m_drop pg_X11_findAsides 8) [some (.ref 181), some (.int x), s2, s3] [] (shF L, f, g)
  | 0, i, x, s2, s3, f, hi, hx, hF, hN => by
    have e : i = c := by omega
    subst hx
    subst e
    have hc20 := hC.2.1
    have hcb : f 181 16 = nI i := (CM_o2 hF hC).2.2.2.1
    refine at_X11_findAsides ?_
    conv => whnf
    simp only [hcb]
    refine ⟨fun q9 => ?_, fun q9 => absurd (nI_le (Nat.le_refl _) (by omega)) q9⟩
    conv => whnf
    exact HZ (fun ⟨a, h1, h2⟩ => hN a h1 h2) _ _ _ _ rfl hF
  | k + 1, i, x, s2, s3, f, hi, hx, hF, hN => by
    subst hx
    have hc20 := hC.2.1
    have h21f : f 181 21 = (mayl (PMc f v) (fun m => nI m) c 0 0) := by
      rw [show PMc f v = PMc f0 v from funext (PMc_o2 hF v)]
      exact (hF 181 21 (by omega) (by omega)).trans h21
    have hCf : CM f n c := CM_o2 hF hC
    have hcb : f 181 16 = nI c := hCf.2.2.2.1
    have hd1 : 1 ≤ d := by omega
    refine at_X11_findAsides ?_
    conv => whnf
    simp only [hcb]
    refine ⟨fun q9 => absurd q9 (nI_ge (b := c) (by omega) (by omega)), fun q9 => ?_⟩
    conv => whnf
    refine smf_countsAt (v := v) (k := i) hd1 hc20 (by omega) h21f (fun y0 => ?_) (fun y0 => ?_)
    · rw [PMc_o2 hF] at y0
      conv => whnf
      (refine ⟨fun z9 => ?_, fun z9 => ?_⟩ <;> first | ((have c9 : (1 : Int32) = 0 := by with_reducible exact z9); exact absurd c9 (by decide)) | exact absurd (rfl : (0 : Int32) = 0) (by with_reducible exact z9) | exact absurd True.intro (by with_reducible exact z9) | exact False.elim (by with_reducible exact z9) | (conv => whnf))
      refine smf_isWell (n := n) (c := c) (v := v) (B := fun k => k = i) (by omega) hCf h21f (fun k hk => by rw [bit_sh (by omega) (by omega), decide_eq_true_eq]) (fun fe f1 o1 => ?_) (fun nf f1 o1 => ?_)
      · rw [FEM_o2 hF] at fe
        conv => whnf
        (refine ⟨fun z9 => ?_, fun z9 => ?_⟩ <;> first | ((have c9 : (1 : Int32) = 0 := by with_reducible exact z9); exact absurd c9 (by decide)) | exact absurd (rfl : (0 : Int32) = 0) (by with_reducible exact z9) | exact absurd True.intro (by with_reducible exact z9) | exact False.elim (by with_reducible exact z9) | (conv => whnf))
        refine ⟨by unfold vp_in; decide, ?_⟩
        conv => whnf
        exact HY1 ⟨i, by omega, y0, fe⟩ _ (o2_ui (o2_1 hF o1))
      · rw [FEM_o2 hF] at nf
        conv => whnf
        (refine ⟨fun z9 => ?_, fun z9 => ?_⟩ <;> first | ((have c9 : (1 : Int32) = 0 := by with_reducible exact z9); exact absurd c9 (by decide)) | exact absurd (rfl : (0 : Int32) = 0) (by with_reducible exact z9) | exact absurd True.intro (by with_reducible exact z9) | exact False.elim (by with_reducible exact z9) | (conv => whnf))
        exact mc1 hd hC h21 HY1 HZ k (i + 1) _ _ _ _ (by omega) (nI_1 i) (o2_1 hF o1) (fun b h2 => (Nat.lt_or_ge b i).elim (fun l => hN b l) (fun l => by have e : b = i := (by omega); subst e; exact fun z => nf z.2))
    · rw [PMc_o2 hF] at y0
      conv => whnf
      (refine ⟨fun z9 => ?_, fun z9 => ?_⟩ <;> first | ((have c9 : (1 : Int32) = 0 := by with_reducible exact z9); exact absurd c9 (by decide)) | exact absurd (rfl : (0 : Int32) = 0) (by with_reducible exact z9) | exact absurd True.intro (by with_reducible exact z9) | exact False.elim (by with_reducible exact z9) | (conv => whnf))
      exact mc1 hd hC h21 HY1 HZ k (i + 1) _ _ _ _ (by omega) (nI_1 i) hF (fun b h2 => (Nat.lt_or_ge b i).elim (fun l => hN b l) (fun l => by have e : b = i := (by omega); subst e; exact fun z => y0 z.1))
set_option maxRecDepth 100000 in
set_option maxHeartbeats 4000000 in
theorem smf_findAsides {d L : Nat} {f : Nat → Nat → Int32} {g : Nat → Nat → Int64} {n c v : Nat} {R : Option Value → mH → Prop} (hd : 4 ≤ d) (hC : CM f n c) (h21 : f 181 21 = (mayl (PMc f v) (fun m => nI m) c 0 0)) (H : ∀ r f', AS (FEM f v c n) (PMc f v) c r → o2_ f f' → R (some (.int r)) (shF L, f', g)) : Run mtab d 186 [.ref 181] (shF L, f, g) R := by
  obtain ⟨d, rfl⟩ : ∃ e, d = e + 1 := ⟨d - 1, by omega⟩
  refine go_X11_findAsides rfl ?_
  conv => whnf
  refine smf_isWell (n := n) (c := c) (v := v) (B := fun _ => False) (by omega) hC h21 (fun k hk => ⟨fun z => absurd z (zero_bit k), fun z => False.elim z⟩) (fun fe f1 o1 => ?_) (fun nf f1 o1 => ?_)
  · conv => whnf
    (refine ⟨fun z9 => ?_, fun z9 => ?_⟩ <;> first | ((have c9 : (1 : Int32) = 0 := by with_reducible exact z9); exact absurd c9 (by decide)) | exact absurd (rfl : (0 : Int32) = 0) (by with_reducible exact z9) | exact absurd True.intro (by with_reducible exact z9) | exact False.elim (by with_reducible exact z9) | (conv => whnf))
    exact H _ f1 (Or.inl ⟨fe, rfl⟩) (fun a i p _ => o1 a i p)
  · have hF1 : o2_ f f1 := fun a i p _ => o1 a i p
    conv => whnf
    (refine ⟨fun z9 => ?_, fun z9 => ?_⟩ <;> first | ((have c9 : (1 : Int32) = 0 := by with_reducible exact z9); exact absurd c9 (by decide)) | exact absurd (rfl : (0 : Int32) = 0) (by with_reducible exact z9) | exact absurd True.intro (by with_reducible exact z9) | exact False.elim (by with_reducible exact z9) | (conv => whnf))
    refine mc1 (f0 := f) (by omega) hC h21 (fun y f' o => H _ f' (Or.inr (Or.inl ⟨nf, y, rfl⟩)) o) (fun n1 x2 s2 s3 f2 hx2 o2 => ?_) c 0 _ _ _ _ (by omega) rfl hF1 (fun a h => absurd h (by omega))
    refine mb1 (f0 := f) (by omega) hC h21 (fun y f' o => H _ f' (Or.inr (Or.inr (Or.inl ⟨nf, n1, y, rfl⟩))) o) (fun n2 x3 s4 s5 f3 hx3 o3 => ?_) c 0 _ _ _ _ (by omega) hx2 o2 (fun p b h => absurd h (by omega))
    exact ma1 (f0 := f) (by omega) hC h21 (fun y f' o => H _ f' (Or.inr (Or.inr (Or.inr (Or.inl ⟨nf, n1, n2, y, rfl⟩)))) o) (fun n3 f' o => H _ f' (Or.inr (Or.inr (Or.inr (Or.inr ⟨nf, n1, n2, n3, rfl⟩)))) o) c 0 _ _ _ _ (by omega) hx3 o3 (fun p a b h => absurd h (by omega))
/-- feasible without the clues of B, by the class's tables -/
def FEC (f : Nat → Nat → Int32) (v c n : Nat) (B : Nat → Prop) : Prop := ∃ X : Nat → Int, (∀ k, k < c → Pc f v k → ¬ B k → X (f 130 k).toNatClampNeg + (f 132 k).toInt ≤ X (f 131 k).toNatClampNeg) ∧ (∀ w, Yh f 11 n w ≤ X w) ∧ ∀ w, w < n → X w ≤ Yh f 12 n w
theorem FEB_C {f f1 : Nat → Nat → Int32} {n c v m : Nat} {q : Nat → Nat} (fr : ∀ a i, (a = 11 ∨ a = 12 ∨ (130 ≤ a ∧ a ≤ 132)) → f1 a i = f a i) (h1 : ∀ j, j < m → q j < c ∧ Pc f v (q j)) (h2 : ∀ k, k < c → Pc f v k → ∃ j, j < m ∧ q j = k) : FEB f1 n m q = FEC f v c n := by
  have h130 : ∀ i, f1 130 i = f 130 i := fun i => fr 130 i (by omega)
  have h131 : ∀ i, f1 131 i = f 131 i := fun i => fr 131 i (by omega)
  have h132 : ∀ i, f1 132 i = f 132 i := fun i => fr 132 i (by omega)
  have y1 : Yh f1 11 n = Yh f 11 n := Yh_eq (fun w _ => fr 11 w (by omega))
  have y2 : Yh f1 12 n = Yh f 12 n := Yh_eq (fun w _ => fr 12 w (by omega))
  funext B
  unfold FEB FEC
  rw [y1, y2]
  refine propext ⟨fun ⟨X, x1, x2, x3⟩ => ⟨X, fun k hk hp hb => ?_, x2, x3⟩, fun ⟨X, x1, x2, x3⟩ => ⟨X, fun i hi hb => ?_, x2, x3⟩⟩
  · obtain ⟨j, hj, e⟩ := h2 k hk hp
    subst e
    have := x1 j hj hb
    rw [h130, h131, h132] at this
    exact this
  · rw [h130, h131, h132]
    exact x1 (q i) (h1 i hi).1 (h1 i hi).2 hb
theorem FEa_C {f : Nat → Nat → Int32} {n c v : Nat} : FEa (SC f v c) f 11 12 n ↔ FEC f v c n (fun _ => False) := by
  unfold FEa FEC SC
  constructor
  · rintro ⟨X, x1, x2, x3⟩
    exact ⟨X, fun k hk hp _ => x1 k hk hp, x2, x3⟩
  · rintro ⟨X, x1, x2, x3⟩
    exact ⟨X, fun k hk hp => x1 k hk hp (fun z => z), x2, x3⟩
def SX_asides (n c v : Nat) (f f2 : Nat → Nat → Int32) (r : Int32) : Prop := AS (FEC f v c n) (fun k => k < c ∧ Pc f v k) c r ∧ XI f2 ∧ kp [0] f f2
def SM_asides (n c v : Nat) (f f2 : Nat → Nat → Int32) (r : Int32) : Prop := AS (FEM f v c n) (fun k => k < c ∧ PMc f v k) c r ∧ kp [10, 22, 23] f f2
theorem AS_lt {FE : (Nat → Prop) → Prop} {Cn : Nat → Prop} {c : Nat} {r : Int32} (h : AS FE Cn c r) : AS FE (fun k => k < c ∧ Cn k) c r := by
  have e1 : (∃ a, a < c ∧ (a < c ∧ Cn a) ∧ FE (fun k => k = a)) ↔ ∃ a, a < c ∧ Cn a ∧ FE (fun k => k = a) := ⟨fun ⟨a, h1, h2, h3⟩ => ⟨a, h1, h2.2, h3⟩, fun ⟨a, h1, h2, h3⟩ => ⟨a, h1, ⟨h1, h2⟩, h3⟩⟩
  have e2 : (∃ a b, a < b ∧ b < c ∧ (a < c ∧ Cn a) ∧ (b < c ∧ Cn b) ∧ FE (fun k => k = a ∨ k = b)) ↔ ∃ a b, a < b ∧ b < c ∧ Cn a ∧ Cn b ∧ FE (fun k => k = a ∨ k = b) := ⟨fun ⟨a, b, h1, h2, h3, h4, h5⟩ => ⟨a, b, h1, h2, h3.2, h4.2, h5⟩, fun ⟨a, b, h1, h2, h3, h4, h5⟩ => ⟨a, b, h1, h2, ⟨by omega, h3⟩, ⟨h2, h4⟩, h5⟩⟩
  have e3 : (∃ a b d, a < b ∧ b < d ∧ d < c ∧ (a < c ∧ Cn a) ∧ (b < c ∧ Cn b) ∧ (d < c ∧ Cn d) ∧ FE (fun k => k = a ∨ k = b ∨ k = d)) ↔ ∃ a b d, a < b ∧ b < d ∧ d < c ∧ Cn a ∧ Cn b ∧ Cn d ∧ FE (fun k => k = a ∨ k = b ∨ k = d) := ⟨fun ⟨a, b, d, h1, h2, h3, h4, h5, h6, h7⟩ => ⟨a, b, d, h1, h2, h3, h4.2, h5.2, h6.2, h7⟩, fun ⟨a, b, d, h1, h2, h3, h4, h5, h6, h7⟩ => ⟨a, b, d, h1, h2, h3, ⟨by omega, h4⟩, ⟨by omega, h5⟩, ⟨h3, h6⟩, h7⟩⟩
  unfold AS at h ⊢
  rw [e1, e2, e3]
  exact h
set_option maxRecDepth 100000 in
set_option maxHeartbeats 4000000 in
theorem sf_asides {d L : Nat} {f : Nat → Nat → Int32} {g : Nat → Nat → Int64} {n c v : Nat} {R : Option Value → mH → Prop} (hd : 8 ≤ d) (hX : XI f) (hK : YK f n c v) (H : ∀ r f2, SX_asides n c v f f2 r → R (some (.int r)) (shF L, f2, g)) : Run mtab d 116 [.ref 5] (shF L, f, g) R := by
  obtain ⟨d, rfl⟩ : ∃ e, d = e + 1 := ⟨d - 1, by omega⟩
  refine go_X10_asides rfl ?_
  conv => whnf
  obtain ⟨hn, hnb, hvb, hv, hE, cy, hA0⟩ := hK
  refine sf_reckon (n := n) (c := c) (v := v) (by omega) hX hn hnb hvb hv hE cy hA0 (fun f1 r1 => ?_)
  conv => whnf
  have h1X := XI_rkY hX r1
  have k1 := kp_rkY r1
  obtain ⟨_, fr, ⟨m, q, hm, e11, h136, hl, ha, hi⟩, hq⟩ := r1
  have eF : FEB f1 n m q = FEC f v c n := FEB_C (fun a i h => fr a i (by omega) (by omega) (by omega) (by omega) (by omega) (by omega) (by omega)) (fun j hj => (hl j hj).2) ha
  have hC : CT f1 n m q := by
    refine ⟨hn, hm, (fr 6 13 (by omega) (by omega) (by omega) (by omega) (by omega) (by omega) (by omega)).trans hnb, e11, fun i hi => ?_, fun j hj => ?_⟩
    · obtain ⟨a1, a2, a3⟩ := hl i hi
      have := hE.1
      rw [fr 130 _ (by omega) (by omega) (by omega) (by omega) (by omega) (by omega) (by omega), fr 131 _ (by omega) (by omega) (by omega) (by omega) (by omega) (by omega) (by omega), fr 132 _ (by omega) (by omega) (by omega) (by omega) (by omega) (by omega) (by omega)]
      obtain ⟨b1, b2, b3⟩ := hE.2.2 (q i) a2
      exact ⟨by omega, a1, b1, b2, b3⟩
    · rw [fr 11 j (by omega) (by omega) (by omega) (by omega) (by omega) (by omega) (by omega), fr 12 j (by omega) (by omega) (by omega) (by omega) (by omega) (by omega) (by omega)]
      exact cy j hj
  have hZ1 : Z137 f1 := fun k => (fr 137 k (by omega) (by omega) (by omega) (by omega) (by omega) (by omega) (by omega)).trans (hA0 k)
  refine sf_findAsides (n := n) (m := m) (c := c) (q := q) (Cn := Pc f v) (by omega) h1X hC hZ1 (fun j hj => (hl j hj).2) ha hi ?_ (fun r f2 hAS x2 k2 => ?_)
  · rw [eF]
    rcases hq with ⟨e9, nf, _⟩ | ⟨e9, fe, _⟩
    · exact Or.inl ⟨e9, fun z => nf (FEa_C.mpr z)⟩
    · exact Or.inr ⟨e9, FEa_C.mp fe⟩
  · conv => whnf
    rw [eF] at hAS
    exact H r f2 ⟨AS_lt hAS, x2, kp_trans k1 (zf_kp k2)⟩
set_option maxRecDepth 100000 in
set_option maxHeartbeats 4000000 in
theorem smf_lookAside {d L : Nat} {f : Nat → Nat → Int32} {g : Nat → Nat → Int64} {n c v : Nat} {R : Option Value → mH → Prop} (hd : 7 ≤ d) (hX : XI f) (hY : MY n c v f) (H : ∀ r f2, SM_asides n c v f f2 r → XI f2 → MY n c v f2 → R (some (.int r)) (shF L, f2, g)) : Run mtab d 187 [.ref 181] (shF L, f, g) R := by
  obtain ⟨d, rfl⟩ : ∃ e, d = e + 1 := ⟨d - 1, by omega⟩
  refine go_X11_lookAside rfl ?_
  conv => whnf
  refine smq_refresh (n := n) (c := c) (v := v) (by omega) hX hY (fun f1 h1 o1 k1 y1 yc1 z1 => ?_)
  conv => whnf
  refine smf_findAsides (n := n) (c := c) (v := v) (by omega) y1.1 yc1.1 (fun r f2 hAS o2 => ?_)
  conv => whnf
  have k2 : kp [10, 22, 23] f1 f2 := fun a i h => o2 a i (fun e => by subst e; exact absurd (show true = false from h) (by decide)) (fun e => by subst e; exact absurd (show true = false from h) (by decide))
  have h2 : XI f2 := fun a i => by
    by_cases e1 : a = 200
    · subst e1
      exact True.intro
    · by_cases e2 : a = 202
      · subst e2
        exact True.intro
      · rw [o2 a i e1 e2]
        exact h1 a i
  have c2 : CM f2 n c := CM_o2 o2 y1.1
  have v2 : f2 181 48 = nI v := (o2 181 48 (by omega) (by omega)).trans y1.2.1
  refine smf_findYears (n := n) (c := c) (v := v) (by omega) c2 v2 y1.2.2.1 (fun f3 o3 e3 y3 => ?_)
  conv => whnf
  have eP : PMc f1 v = PMc f v := funext (fun k => propext (PMc_eq o1 v k))
  have eF : FEM f1 v c n = FEM f v c n := by
    funext B
    have h196 : ∀ i, f1 196 i = f 196 i := fun i => o1 196 i (by omega) (by omega) (by omega) (by omega) (by omega) (by omega)
    have h197 : ∀ i, f1 197 i = f 197 i := fun i => o1 197 i (by omega) (by omega) (by omega) (by omega) (by omega) (by omega)
    have h198 : ∀ i, f1 198 i = f 198 i := fun i => o1 198 i (by omega) (by omega) (by omega) (by omega) (by omega) (by omega)
    have w1 : Yh f1 187 n = Yh f 187 n := Yh_eq (fun w _ => o1 187 w (by omega) (by omega) (by omega) (by omega) (by omega) (by omega))
    have w2 : Yh f1 188 n = Yh f 188 n := Yh_eq (fun w _ => o1 188 w (by omega) (by omega) (by omega) (by omega) (by omega) (by omega))
    unfold FEM
    simp only [eP, h196, h197, h198, w1, w2]
  rw [eP, eF] at hAS
  exact H r f3 ⟨AS_lt hAS, kp_trans k1 (kp_trans k2 (kp_o6 o3))⟩ (XI_o6 h2 o3) ⟨CM_o o3 c2, (o3 181 48 (by omega) (by omega) (by omega) (by omega) (by omega) (by omega)).trans v2, y1.2.2.1, fun _ => y3⟩
set_option maxRecDepth 100000 in
set_option maxHeartbeats 4000000 in
theorem smf_asides {d L : Nat} {f : Nat → Nat → Int32} {g : Nat → Nat → Int64} {n c v : Nat} {R : Option Value → mH → Prop} (hd : 8 ≤ d) (hX : XI f) (hY : MY n c v f) (H : ∀ r f2, SM_asides n c v f f2 r → XI f2 → MY n c v f2 → R (some (.int r)) (shF L, f2, g)) : Run mtab d 188 [.ref 181] (shF L, f, g) R := by
  obtain ⟨d, rfl⟩ : ∃ e, d = e + 1 := ⟨d - 1, by omega⟩
  refine go_X11_asides rfl ?_
  conv => whnf
  refine smf_lookAside (n := n) (c := c) (v := v) (by omega) hX hY (fun r f2 s x2 m2 => ?_)
  conv => whnf
  exact H r f2 s x2 m2
theorem fin_asides {f f1 f2 : Nat → Nat → Int32} {n c v : Nat} {v1 v2 : Int32} (hW : RW n f) (hC : RC c f) (hV : RV v f) (s1 : SX_asides n c v f f1 v1) (s2 : SM_asides n c v f1 f2 v2) : v1 = v2 := by
  obtain ⟨a1, _, k1⟩ := s1
  obtain ⟨a2, _⟩ := s2
  have fr : ∀ a i, 182 ≤ a → hasN [0] (cmp a i) = false → f1 a i = f a i := fun a i _ h => k1 a i h
  have g196 : ∀ i, f1 196 i = f 196 i := fun i => k1 196 i rfl
  have g197 : ∀ i, f1 197 i = f 197 i := fun i => k1 197 i rfl
  have g198 : ∀ i, f1 198 i = f 198 i := fun i => k1 198 i rfl
  have g199 : ∀ i, f1 199 i = f 199 i := fun i => k1 199 i rfl
  have gP : ∀ k, k < c → (Pc f v k ↔ PMc f1 v k) := fun k hk => Pc_PM hC hV (fun a i h1 h2 => by
    have e : a = 196 ∨ a = 197 ∨ a = 198 ∨ a = 199 := by omega
    rcases e with rfl | rfl | rfl | rfl
    · exact g196 i
    · exact g197 i
    · exact g198 i
    · exact g199 i) (fun i => k1 218 i rfl) hk
  have eC : (fun k => k < c ∧ Pc f v k) = fun k => k < c ∧ PMc f1 v k := by
    funext k
    refine propext ⟨fun ⟨h1, h2⟩ => ⟨h1, (gP k h1).mp h2⟩, fun ⟨h1, h2⟩ => ⟨h1, (gP k h1).mpr h2⟩⟩
  have t11 : ∀ w, w < n → f 11 w = f1 187 w := fun w hw => ((hW.2.2.2.1 w hw).2.2.2.2.1).trans (k1 187 w rfl).symm
  have t12 : ∀ w, w < n → f 12 w = f1 188 w := fun w hw => ((hW.2.2.2.1 w hw).2.2.2.2.2.1).trans (k1 188 w rfl).symm
  have y1 : Yh f 11 n = Yh f1 187 n := Yh_eq t11
  have y2 : Yh f 12 n = Yh f1 188 n := Yh_eq t12
  have eF : FEC f v c n = FEM f1 v c n := by
    funext B
    unfold FEC FEM
    rw [y1, y2]
    refine propext ⟨fun ⟨X, x1, x2, x3⟩ => ⟨X, fun k hk hp hb => ?_, x2, x3⟩, fun ⟨X, x1, x2, x3⟩ => ⟨X, fun k hk hp hb => ?_, x2, x3⟩⟩
    · obtain ⟨b1, b2, b3, _⟩ := hC.2.2.2 k hk
      have := x1 k hk ((gP k hk).mpr hp) hb
      rw [g196, g197, g198, ← b1, ← b2, ← b3]
      exact this
    · obtain ⟨b1, b2, b3, _⟩ := hC.2.2.2 k hk
      have := x1 k hk ((gP k hk).mp hp) hb
      rw [g196, g197, g198, ← b1, ← b2, ← b3] at this
      exact this
  rw [eC, eF] at a1
  exact AS_u a1 a2
/-! how many bits are set -/
def popf : Nat → Nat → Nat
  | 0, _ => 0
  | k + 1, x => x % 2 + popf k (x / 2)
theorem popf_0 : ∀ k, popf k 0 = 0
  | 0 => rfl
  | k + 1 => by
    show 0 % 2 + popf k (0 / 2) = 0
    rw [Nat.zero_div, popf_0 k]
theorem pop_and : ∀ (k x : Nat), 0 < x → x < 2 ^ k → popf k (x &&& (x - 1)) + 1 = popf k x
  | 0, x, h, h2 => by
    rw [Nat.pow_zero] at h2
    omega
  | k + 1, x, h, h2 => by
    have d1 : (x &&& (x - 1)) / 2 = x / 2 &&& (x - 1) / 2 := Nat.and_div_two
    have m1 : (x &&& (x - 1)) % 2 = 0 := by
      rcases Nat.mod_two_eq_zero_or_one (x &&& (x - 1)) with e | e
      · exact e
      · have := Nat.and_mod_two_eq_one.mp e
        omega
    show (x &&& (x - 1)) % 2 + popf k ((x &&& (x - 1)) / 2) + 1 = x % 2 + popf k (x / 2)
    rw [m1, d1]
    by_cases o : x % 2 = 1
    · have e : (x - 1) / 2 = x / 2 := by omega
      rw [e, Nat.and_self]
      omega
    · have e : (x - 1) / 2 = x / 2 - 1 := by omega
      rw [e]
      rw [Nat.pow_succ] at h2
      have := pop_and k (x / 2) (by omega) (by omega)
      omega
theorem and_nI {a b : Nat} (ha : a < 2 ^ 31) (hb : b < 2 ^ 31) : nI a &&& nI b = nI (a &&& b) := by
  rw [bv_nI (nI a &&& nI b)]
  show nI ((nI a).toBitVec &&& (nI b).toBitVec).toNat = _
  rw [BitVec.toNat_and, nI_bv ha, nI_bv hb]
theorem onl_pop : ∀ (k x : Nat) (a : Int32), x < k → x < 2 ^ 31 → onl k (nI x) a = a + nI (popf 32 x)
  | 0, x, a, h, _ => absurd h (by omega)
  | k + 1, x, a, h, hx => by
    by_cases e : x = 0
    · subst e
      have e1 : onl (k + 1) (nI 0) a = a := if_pos rfl
      rw [e1, popf_0]
      exact (Int32.add_zero a).symm
    · have n0 : ¬ nI x = 0 := fun z => e ((nI_eq (b := 0) hx (by decide)).mp z)
      have e1 : onl (k + 1) (nI x) a = onl k (nI x &&& (nI x - 1)) (a + 1) := if_neg n0
      obtain ⟨y, rfl⟩ : ∃ y, x = y + 1 := ⟨x - 1, by omega⟩
      rw [e1, nI_pred, and_nI hx (by omega)]
      have le : (y + 1) &&& y ≤ y := Nat.and_le_right
      rw [onl_pop k _ _ (by omega) (by omega)]
      have p := pop_and 32 (y + 1) (by omega) (by omega)
      rw [show y + 1 - 1 = y by omega] at p
      rw [← p, ← nI_1, Int32.add_assoc, Int32.add_comm 1]
theorem onE_pop {x : Nat} (hx : x < 2 ^ 31) : onE (nI x) = nI (popf 32 x) := by
  unfold onE
  rw [nI_bv hx, onl_pop (x + 1) x 0 (by omega) hx, Int32.zero_add]
/-! the library's way, by bytes -/
def m55 : Nat → Nat
  | 0 => 0
  | k + 1 => 85 + 256 * m55 k
def m33 : Nat → Nat
  | 0 => 0
  | k + 1 => 51 + 256 * m33 k
def m0f : Nat → Nat
  | 0 => 0
  | k + 1 => 15 + 256 * m0f k
def sw1 (k x : Nat) : Nat := x - (x / 2 &&& m55 k)
def sw2 (k x : Nat) : Nat := (x &&& m33 k) + (x / 4 &&& m33 k)
def sw3 (k x : Nat) : Nat := (x + x / 16) &&& m0f k
theorem and256 {a b c d : Nat} (hb : b < 256) (hc : c < 256) : (256 * a + b) &&& (c + 256 * d) = 256 * (a &&& d) + (b &&& c) := by
  have e1 : ((256 * a + b) &&& (c + 256 * d)) / 2 ^ 8 = (256 * a + b) / 2 ^ 8 &&& (c + 256 * d) / 2 ^ 8 := Nat.and_div_two_pow
  have e2 : ((256 * a + b) &&& (c + 256 * d)) % 2 ^ 8 = ((256 * a + b) % 2 ^ 8) &&& ((c + 256 * d) % 2 ^ 8) := Nat.and_mod_two_pow
  have p : (2 : Nat) ^ 8 = 256 := rfl
  rw [p] at e1 e2
  rw [show (256 * a + b) / 256 = a by omega, show (c + 256 * d) / 256 = d by omega] at e1
  rw [show (256 * a + b) % 256 = b by omega, show (c + 256 * d) % 256 = c by omega] at e2
  have := Nat.div_add_mod ((256 * a + b) &&& (c + 256 * d)) 256
  rw [e1, e2] at this
  exact this.symm
theorem b55 : ∀ t, t < 2 → ∀ y, y < 128 → (128 * t + y) &&& 85 = y &&& 85 := by decide +kernel
theorem b33 : ∀ t, t < 4 → ∀ y, y < 64 → (64 * t + y) &&& 51 = y &&& 51 := by decide +kernel
theorem and15 (x : Nat) : x &&& 15 = x % 16 := Nat.and_two_pow_sub_one_eq_mod x 4
theorem sw1_s {k h l : Nat} (hl : l < 256) : sw1 (k + 1) (256 * h + l) = 256 * sw1 k h + (l - (l / 2 &&& 85)) := by
  have e : (256 * h + l) / 2 = 256 * (h / 2) + (128 * (h % 2) + l / 2) := by omega
  have u : h / 2 &&& m55 k ≤ h / 2 := Nat.and_le_left
  have w : l / 2 &&& 85 ≤ l / 2 := Nat.and_le_left
  have g : (256 * h + l) / 2 &&& m55 (k + 1) = 256 * (h / 2 &&& m55 k) + (l / 2 &&& 85) := by
    rw [e]
    show (256 * (h / 2) + (128 * (h % 2) + l / 2)) &&& (85 + 256 * m55 k) = _
    rw [and256 (by omega) (by omega), b55 _ (by omega) _ (by omega)]
  unfold sw1
  rw [g]
  omega
theorem sw2_s {k h l : Nat} (hl : l < 256) : sw2 (k + 1) (256 * h + l) = 256 * sw2 k h + ((l &&& 51) + (l / 4 &&& 51)) := by
  have e : (256 * h + l) / 4 = 256 * (h / 4) + (64 * (h % 4) + l / 4) := by omega
  have g : (256 * h + l) / 4 &&& m33 (k + 1) = 256 * (h / 4 &&& m33 k) + (l / 4 &&& 51) := by
    rw [e]
    show (256 * (h / 4) + (64 * (h % 4) + l / 4)) &&& (51 + 256 * m33 k) = _
    rw [and256 (by omega) (by omega), b33 _ (by omega) _ (by omega)]
  have g2 : (256 * h + l) &&& m33 (k + 1) = 256 * (h &&& m33 k) + (l &&& 51) := by
    show (256 * h + l) &&& (51 + 256 * m33 k) = _
    exact and256 hl (by omega)
  unfold sw2
  rw [g, g2]
  omega
theorem m33_16 : ∀ k, m33 k % 16 ≤ 3
  | 0 => by decide
  | k + 1 => by
    show (51 + 256 * m33 k) % 16 ≤ 3
    omega
theorem sw2_16 (k h : Nat) : sw2 k h % 16 ≤ 6 := by
  have a : (h &&& m33 k) % 2 ^ 4 = (h % 2 ^ 4) &&& (m33 k % 2 ^ 4) := Nat.and_mod_two_pow
  have b : (h / 4 &&& m33 k) % 2 ^ 4 = (h / 4 % 2 ^ 4) &&& (m33 k % 2 ^ 4) := Nat.and_mod_two_pow
  have a1 : (h % 2 ^ 4) &&& (m33 k % 2 ^ 4) ≤ m33 k % 2 ^ 4 := Nat.and_le_right
  have b1 : (h / 4 % 2 ^ 4) &&& (m33 k % 2 ^ 4) ≤ m33 k % 2 ^ 4 := Nat.and_le_right
  have c := m33_16 k
  have p : (2 : Nat) ^ 4 = 16 := rfl
  rw [p] at a b a1 b1
  unfold sw2
  omega
theorem sw3_s {k h l : Nat} (hl : l ≤ 102) (hh : h % 16 ≤ 6) : sw3 (k + 1) (256 * h + l) = 256 * sw3 k h + ((l + l / 16) &&& 15) := by
  have e : 256 * h + l + (256 * h + l) / 16 = 256 * (h + h / 16) + (l + 16 * (h % 16) + l / 16) := by omega
  unfold sw3
  rw [e]
  show (256 * (h + h / 16) + (l + 16 * (h % 16) + l / 16)) &&& (15 + 256 * m0f k) = _
  rw [and256 (by omega) (by omega), and15, and15]
  omega
def pbl (l : Nat) : Nat := (((l - (l / 2 &&& 85)) &&& 51) + ((l - (l / 2 &&& 85)) / 4 &&& 51) + (((l - (l / 2 &&& 85)) &&& 51) + ((l - (l / 2 &&& 85)) / 4 &&& 51)) / 16) &&& 15
theorem pbl_8 : ∀ l, l < 256 → pbl l = popf 8 l := by decide +kernel
theorem popf8_le : ∀ l, l < 256 → popf 8 l ≤ 8 := by decide +kernel
def sw (k x : Nat) : Nat := sw3 k (sw2 k (sw1 k x))
theorem sw_s {k h l : Nat} (hl : l < 256) : sw (k + 1) (256 * h + l) = 256 * sw k h + popf 8 l := by
  unfold sw
  have a1 : (l - (l / 2 &&& 85)) &&& 51 ≤ 51 := Nat.and_le_right
  have a2 : (l - (l / 2 &&& 85)) / 4 &&& 51 ≤ 51 := Nat.and_le_right
  rw [sw1_s hl, sw2_s (by omega), sw3_s (by omega) (sw2_16 k _), ← pbl_8 l hl]
  rfl
theorem sw_0 (x : Nat) : sw 0 x = 0 := by
  unfold sw sw3 sw2
  show (_ &&& 0) = 0
  exact Nat.and_zero _
theorem popf_8 (k x : Nat) : popf (k + 8) x = popf 8 (x % 256) + popf k (x / 256) := by
  have e : x / 2 / 2 / 2 / 2 / 2 / 2 / 2 / 2 = x / 256 := by omega
  show x % 2 + (x / 2 % 2 + (x / 2 / 2 % 2 + (x / 2 / 2 / 2 % 2 + (x / 2 / 2 / 2 / 2 % 2 + (x / 2 / 2 / 2 / 2 / 2 % 2 + (x / 2 / 2 / 2 / 2 / 2 / 2 % 2 + (x / 2 / 2 / 2 / 2 / 2 / 2 / 2 % 2 + popf k (x / 2 / 2 / 2 / 2 / 2 / 2 / 2 / 2)))))))) = (x % 256 % 2 + (x % 256 / 2 % 2 + (x % 256 / 2 / 2 % 2 + (x % 256 / 2 / 2 / 2 % 2 + (x % 256 / 2 / 2 / 2 / 2 % 2 + (x % 256 / 2 / 2 / 2 / 2 / 2 % 2 + (x % 256 / 2 / 2 / 2 / 2 / 2 / 2 % 2 + (x % 256 / 2 / 2 / 2 / 2 / 2 / 2 / 2 % 2 + 0)))))))) + popf k (x / 256)
  rw [e]
  omega
theorem bc_end {a b c d : Nat} (ha : a ≤ 8) (hb : b ≤ 8) (hc : c ≤ 8) (hd : d ≤ 8) {y z : Nat} (hy : y = a + 256 * b + 65536 * c + 16777216 * d) (hz : z = y + y / 256) : (z + z / 65536) % 64 = a + b + c + d := by
  have e : y / 256 = b + 256 * c + 65536 * d := by omega
  have e2 : z = (a + b) + 256 * (b + c) + 65536 * (c + d) + 16777216 * d := by omega
  have e3 : z / 65536 = (c + d) + 256 * d := by omega
  omega
theorem sub_nI {a b : Nat} (h : b ≤ a) : nI a - nI b = nI (a - b) := by
  have e : nI a = nI (a - b) + nI b := by rw [nI_add, Nat.sub_add_cancel h]
  rw [e, Int32.add_sub_cancel]
theorem us_1 {j : Nat} (h : j < 2 ^ 31) : ((nI j).toUInt32 >>> ((Int32.toUInt32 1) &&& Int32.toUInt32 31)).toInt32 = nI (j / 2) := by
  have e : (((nI j).toUInt32 >>> ((Int32.toUInt32 1) &&& Int32.toUInt32 31)).toInt32).toBitVec = (nI j).toBitVec >>> 1 := rfl
  rw [bv_nI (((nI j).toUInt32 >>> ((Int32.toUInt32 1) &&& Int32.toUInt32 31)).toInt32), e, BitVec.toNat_ushiftRight, nI_bv h, Nat.shiftRight_eq_div_pow]
theorem us_2 {j : Nat} (h : j < 2 ^ 31) : ((nI j).toUInt32 >>> ((Int32.toUInt32 2) &&& Int32.toUInt32 31)).toInt32 = nI (j / 4) := by
  have e : (((nI j).toUInt32 >>> ((Int32.toUInt32 2) &&& Int32.toUInt32 31)).toInt32).toBitVec = (nI j).toBitVec >>> 2 := rfl
  rw [bv_nI (((nI j).toUInt32 >>> ((Int32.toUInt32 2) &&& Int32.toUInt32 31)).toInt32), e, BitVec.toNat_ushiftRight, nI_bv h, Nat.shiftRight_eq_div_pow]
theorem us_4 {j : Nat} (h : j < 2 ^ 31) : ((nI j).toUInt32 >>> ((Int32.toUInt32 4) &&& Int32.toUInt32 31)).toInt32 = nI (j / 16) := by
  have e : (((nI j).toUInt32 >>> ((Int32.toUInt32 4) &&& Int32.toUInt32 31)).toInt32).toBitVec = (nI j).toBitVec >>> 4 := rfl
  rw [bv_nI (((nI j).toUInt32 >>> ((Int32.toUInt32 4) &&& Int32.toUInt32 31)).toInt32), e, BitVec.toNat_ushiftRight, nI_bv h, Nat.shiftRight_eq_div_pow]
theorem us_8 {j : Nat} (h : j < 2 ^ 31) : ((nI j).toUInt32 >>> ((Int32.toUInt32 8) &&& Int32.toUInt32 31)).toInt32 = nI (j / 256) := by
  have e : (((nI j).toUInt32 >>> ((Int32.toUInt32 8) &&& Int32.toUInt32 31)).toInt32).toBitVec = (nI j).toBitVec >>> 8 := rfl
  rw [bv_nI (((nI j).toUInt32 >>> ((Int32.toUInt32 8) &&& Int32.toUInt32 31)).toInt32), e, BitVec.toNat_ushiftRight, nI_bv h, Nat.shiftRight_eq_div_pow]
theorem us_16 {j : Nat} (h : j < 2 ^ 31) : ((nI j).toUInt32 >>> ((Int32.toUInt32 16) &&& Int32.toUInt32 31)).toInt32 = nI (j / 65536) := by
  have e : (((nI j).toUInt32 >>> ((Int32.toUInt32 16) &&& Int32.toUInt32 31)).toInt32).toBitVec = (nI j).toBitVec >>> 16 := rfl
  rw [bv_nI (((nI j).toUInt32 >>> ((Int32.toUInt32 16) &&& Int32.toUInt32 31)).toInt32), e, BitVec.toNat_ushiftRight, nI_bv h, Nat.shiftRight_eq_div_pow]
theorem bcE_pop {j : Nat} (h : j < 2 ^ 30) : bcE (nI j) = nI (popf 32 j) := by
  have k1 : (1431655765 : Int32) = nI (m55 4) := rfl
  have k2 : (858993459 : Int32) = nI (m33 4) := rfl
  have k3 : (252645135 : Int32) = nI (m0f 4) := rfl
  have k4 : (63 : Int32) = nI 63 := rfl
  have v1 : m55 4 < 2 ^ 31 := by decide
  have v2 : m33 4 < 2 ^ 31 := by decide
  have v3 : m0f 4 < 2 ^ 31 := by decide
  have c1 : bc1 (nI j) = nI (sw1 4 j) := by
    unfold bc1 sw1
    rw [us_1 (by omega), k1, and_nI (by omega) v1]
    exact sub_nI (Nat.le_trans Nat.and_le_left (by omega))
  have r1 : sw1 4 j ≤ j := by
    unfold sw1
    omega
  have q1 : sw1 4 j &&& m33 4 ≤ m33 4 := Nat.and_le_right
  have q2 : sw1 4 j / 4 &&& m33 4 ≤ m33 4 := Nat.and_le_right
  have v2' : m33 4 = 858993459 := by decide
  have c2 : bc2 (nI (sw1 4 j)) = nI (sw2 4 (sw1 4 j)) := by
    unfold bc2 sw2
    rw [us_2 (by omega), k2, and_nI (by omega) v2, and_nI (by omega) v2, nI_add]
  have r2 : sw2 4 (sw1 4 j) ≤ 1717986918 := by
    unfold sw2
    omega
  have c3 : bc3 (nI (sw2 4 (sw1 4 j))) = nI (sw 4 j) := by
    unfold bc3 sw sw3
    rw [us_4 (by omega), nI_add, k3, and_nI (by omega) v3]
  obtain ⟨a, b, c, d, ea⟩ : ∃ a b c d, (a < 256 ∧ b < 256 ∧ c < 256 ∧ d < 256) ∧ j = 256 * (256 * (256 * (256 * 0 + d) + c) + b) + a := ⟨j % 256, j / 256 % 256, j / 65536 % 256, j / 16777216, ⟨by omega, by omega, by omega, by omega⟩, by omega⟩
  obtain ⟨⟨ha, hb, hc, hd⟩, ej⟩ := ea
  have es : sw 4 j = 256 * (256 * (256 * (256 * 0 + popf 8 d) + popf 8 c) + popf 8 b) + popf 8 a := by
    rw [ej, sw_s ha, sw_s hb, sw_s hc, sw_s hd, sw_0]
  have la := popf8_le a ha
  have lb := popf8_le b hb
  have lc := popf8_le c hc
  have ld := popf8_le d hd
  have ep : popf 32 j = popf 8 a + popf 8 b + popf 8 c + popf 8 d := by
    have t1 := popf_8 24 j
    have t2 := popf_8 16 (j / 256)
    have t3 := popf_8 8 (j / 256 / 256)
    have t4 := popf_8 0 (j / 256 / 256 / 256)
    rw [show j % 256 = a by omega] at t1
    rw [show j / 256 % 256 = b by omega] at t2
    rw [show j / 256 / 256 % 256 = c by omega] at t3
    rw [show j / 256 / 256 / 256 % 256 = d by omega] at t4
    have t5 : popf 0 (j / 256 / 256 / 256 / 256) = 0 := rfl
    have t6 : popf (24 + 8) j = popf 32 j := rfl
    have t7 : popf (16 + 8) (j / 256) = popf 24 (j / 256) := rfl
    have t8 : popf (8 + 8) (j / 256 / 256) = popf 16 (j / 256 / 256) := rfl
    have t9 : popf (0 + 8) (j / 256 / 256 / 256) = popf 8 (j / 256 / 256 / 256) := rfl
    omega
  have c4 : bc4 (nI (sw 4 j)) = nI (sw 4 j + sw 4 j / 256) := by
    unfold bc4
    rw [us_8 (by omega), nI_add]
  have c5 : bc5 (nI (sw 4 j + sw 4 j / 256)) = nI (sw 4 j + sw 4 j / 256 + (sw 4 j + sw 4 j / 256) / 65536) := by
    unfold bc5
    rw [us_16 (by omega), nI_add]
  unfold bcE
  rw [c1, c2, c3, c4, c5, k4, and_nI (by omega) (by decide)]
  have e63 : ∀ x : Nat, x &&& 63 = x % 64 := fun x => Nat.and_two_pow_sub_one_eq_mod x 6
  rw [e63, ep]
  exact congrArg nI (bc_end la lb lc ld (y := sw 4 j) (z := sw 4 j + sw 4 j / 256) (by omega) rfl)
/-- both count alike -/
theorem bc_30 {x : Int32} (h : inr 0 1073741823 x) : bcE x = onE x := by
  obtain ⟨j, hj, rfl⟩ := inr_nat (n := 1073741823) rfl h
  rw [bcE_pop (by omega), onE_pop (by omega)]
theorem on_le : ∀ (k x : Nat), popf k x ≤ k
  | 0, x => Nat.le_refl _
  | k + 1, x => by
    have := on_le k (x / 2)
    show x % 2 + popf k (x / 2) ≤ k + 1
    omega
/-! sizes that fit -/
theorem i_add {x y : Int32} (h1 : -2147483648 ≤ x.toInt + y.toInt) (h2 : x.toInt + y.toInt ≤ 2147483647) : (x + y).toInt = x.toInt + y.toInt := by
  rw [Int32.toInt_add]
  exact Int.bmod_eq_of_le (by omega) (by omega)
theorem i_sub {x y : Int32} (h1 : -2147483648 ≤ x.toInt - y.toInt) (h2 : x.toInt - y.toInt ≤ 2147483647) : (x - y).toInt = x.toInt - y.toInt := by
  rw [Int32.toInt_sub]
  exact Int.bmod_eq_of_le (by omega) (by omega)
theorem i_mul {x y : Int32} (h1 : -2147483648 ≤ x.toInt * y.toInt) (h2 : x.toInt * y.toInt ≤ 2147483647) : (x * y).toInt = x.toInt * y.toInt := by
  rw [Int32.toInt_mul]
  generalize x.toInt * y.toInt = z at h1 h2 ⊢
  exact Int.bmod_eq_of_le (by omega) (by omega)
theorem i_inr {a b x : Int32} (h : inr a b x) : a.toInt ≤ x.toInt ∧ x.toInt ≤ b.toInt := ⟨Int32.le_iff_toInt_le.mp h.1, Int32.le_iff_toInt_le.mp h.2⟩
def mu_ (U : Int32) : Int := if U = 0 then 10 else 254
def fa_ (U : Int32) : Int := if U = 0 then 50 else 127
/-- a side, with a frame of f on both ends, may stand for the number told -/
def ONE (U s H : Int32) (f : Int) : Prop := H.toInt * mu_ U - fa_ U ≤ 10 * (s.toInt + 2 * f) ∧ 10 * (s.toInt + 2 * f) ≤ H.toInt * mu_ U + fa_ U
def FIT (U F h w H W : Int32) : Prop := ∃ f : Int, ((F = 0 ∧ f = 0) ∨ (¬ F = 0 ∧ 20 ≤ f ∧ f ≤ 120)) ∧ ONE U h H f ∧ ONE U w W f
def upC (H u h : Int32) : Int32 := H * u - h * 10
def leC (a b fa : Int32) : Int32 := (if a < b then b else a) - fa
def moC (a b fa : Int32) : Int32 := (if b < a then b else a) + fa
def thC (l : Int32) : Int32 := if (l + 19) / 20 < 20 then 20 else (l + 19) / 20
theorem up_10 {H h : Int32} (rH : inr 1 6000 H) (rh : inr 10 5000 h) : (upC H 10 h).toInt = H.toInt * 10 - h.toInt * 10 := by
  have a := i_inr rH
  have b := i_inr rh
  have e1 : (1 : Int32).toInt = 1 := rfl
  have e2 : (6000 : Int32).toInt = 6000 := rfl
  have e3 : (10 : Int32).toInt = 10 := rfl
  have e4 : (5000 : Int32).toInt = 5000 := rfl
  rw [e1, e2] at a
  rw [e3, e4] at b
  have m1 : (H * 10).toInt = H.toInt * 10 := by
    rw [i_mul (by rw [e3]; omega) (by rw [e3]; omega), e3]
  have m2 : (h * 10).toInt = h.toInt * 10 := by
    rw [i_mul (by rw [e3]; omega) (by rw [e3]; omega), e3]
  unfold upC
  rw [i_sub (by rw [m1, m2]; omega) (by rw [m1, m2]; omega), m1, m2]
theorem up_254 {H h : Int32} (rH : inr 1 6000 H) (rh : inr 10 5000 h) : (upC H 254 h).toInt = H.toInt * 254 - h.toInt * 10 := by
  have a := i_inr rH
  have b := i_inr rh
  have e1 : (1 : Int32).toInt = 1 := rfl
  have e2 : (6000 : Int32).toInt = 6000 := rfl
  have e3 : (10 : Int32).toInt = 10 := rfl
  have e4 : (5000 : Int32).toInt = 5000 := rfl
  have e5 : (254 : Int32).toInt = 254 := rfl
  rw [e1, e2] at a
  rw [e3, e4] at b
  have m1 : (H * 254).toInt = H.toInt * 254 := by
    rw [i_mul (by rw [e5]; omega) (by rw [e5]; omega), e5]
  have m2 : (h * 10).toInt = h.toInt * 10 := by
    rw [i_mul (by rw [e3]; omega) (by rw [e3]; omega), e3]
  unfold upC
  rw [i_sub (by rw [m1, m2]; omega) (by rw [m1, m2]; omega), m1, m2]
theorem le_i {a b fa : Int32} (ha : -100000 ≤ a.toInt ∧ a.toInt ≤ 2000000) (hb : -100000 ≤ b.toInt ∧ b.toInt ≤ 2000000) (hf : 0 ≤ fa.toInt ∧ fa.toInt ≤ 200) : (leC a b fa).toInt + fa.toInt = max a.toInt b.toInt ∧ (moC a b fa).toInt - fa.toInt = min a.toInt b.toInt := by
  unfold leC moC
  constructor
  · by_cases q : a < b
    · rw [if_pos q, i_sub (by omega) (by omega)]
      rw [Int32.lt_iff_toInt_lt] at q
      omega
    · rw [if_neg q, i_sub (by omega) (by omega)]
      rw [Int32.lt_iff_toInt_lt] at q
      omega
  · by_cases q : b < a
    · rw [if_pos q, i_add (by omega) (by omega)]
      rw [Int32.lt_iff_toInt_lt] at q
      omega
    · rw [if_neg q, i_add (by omega) (by omega)]
      rw [Int32.lt_iff_toInt_lt] at q
      omega
theorem td20 {a : Int} : (0 ≤ a → a.tdiv 20 = a / 20) ∧ (a < 0 → a.tdiv 20 ≤ 0 ∧ a ≤ 20 * a.tdiv 20) := by
  refine ⟨fun h => Int.tdiv_eq_ediv_of_nonneg h, fun h => ?_⟩
  have e : a.tdiv 20 = -((-a) / 20) := by
    rw [← Int.tdiv_eq_ediv_of_nonneg (by omega), Int.neg_tdiv, Int.neg_neg]
  rw [e]
  omega
theorem th_i {l : Int32} (hl : -200000 ≤ l.toInt ∧ l.toInt ≤ 2000000) : 20 ≤ (thC l).toInt ∧ (thC l).toInt ≤ 200000 ∧ l.toInt ≤ 20 * (thC l).toInt ∧ ∀ f : Int, 20 ≤ f → l.toInt ≤ 20 * f → (thC l).toInt ≤ f := by
  have e19 : (19 : Int32).toInt = 19 := rfl
  have e20 : (20 : Int32).toInt = 20 := rfl
  have a1 : (l + 19).toInt = l.toInt + 19 := by
    rw [i_add (by rw [e19]; omega) (by rw [e19]; omega), e19]
  have t := @td20 (l.toInt + 19)
  have b1 : ((l + 19) / 20).toInt = (l.toInt + 19).tdiv 20 := by
    rw [Int32.toInt_div, a1, e20]
    by_cases q : 0 ≤ l.toInt + 19
    · have := t.1 q
      exact Int.bmod_eq_of_le (by omega) (by omega)
    · have := t.2 (by omega)
      exact Int.bmod_eq_of_le (by omega) (by omega)
  unfold thC
  by_cases q : (l + 19) / 20 < 20
  · rw [if_pos q, e20]
    rw [Int32.lt_iff_toInt_lt, b1, e20] at q
    refine ⟨by omega, by omega, ?_, fun f h1 h2 => h1⟩
    by_cases z : 0 ≤ l.toInt + 19
    · have := t.1 z
      omega
    · omega
  · rw [if_neg q, b1]
    rw [Int32.lt_iff_toInt_lt, b1, e20] at q
    by_cases z : 0 ≤ l.toInt + 19
    · have := t.1 z
      exact ⟨by omega, by omega, by omega, fun f h1 h2 => by omega⟩
    · have := t.2 (by omega)
      omega
/-- without a frame -/
theorem fit_u {U h w H W u fa : Int32} (hU : (U = 0 ∧ u = 10 ∧ fa = 50) ∨ (U = 1 ∧ u = 254 ∧ fa = 127)) (rh : inr 10 5000 h) (rw_ : inr 10 5000 w) (rH : inr 1 6000 H) (rW : inr 1 6000 W) : FIT U 0 h w H W ↔ (¬ 0 < leC (upC H u h) (upC W u w) fa ∧ ¬ moC (upC H u h) (upC W u w) fa < 0) := by
  have a := i_inr rH
  have b := i_inr rh
  have c := i_inr rW
  have d := i_inr rw_
  have e0 : (0 : Int32).toInt = 0 := rfl
  have e1 : (1 : Int32).toInt = 1 := rfl
  have e2 : (6000 : Int32).toInt = 6000 := rfl
  have e3 : (10 : Int32).toInt = 10 := rfl
  have e4 : (5000 : Int32).toInt = 5000 := rfl
  have e5 : (50 : Int32).toInt = 50 := rfl
  have e6 : (127 : Int32).toInt = 127 := rfl
  rw [e1, e2] at a c
  rw [e3, e4] at b d
  rw [Int32.lt_iff_toInt_lt, Int32.lt_iff_toInt_lt, e0]
  rcases hU with ⟨rfl, rfl, rfl⟩ | ⟨rfl, rfl, rfl⟩
  · have u1 := up_10 rH rh
    have u2 := up_10 rW rw_
    obtain ⟨l1, l2⟩ := le_i (a := upC H 10 h) (b := upC W 10 w) (fa := 50) (by omega) (by omega) (by rw [e5]; omega)
    rw [e5] at l1 l2
    have m1 : mu_ 0 = 10 := rfl
    have m2 : fa_ 0 = 50 := rfl
    unfold FIT ONE
    rw [m1, m2]
    constructor
    · rintro ⟨f, hf, p, q⟩
      have f0 : f = 0 := by
        rcases hf with z | z
        · exact z.2
        · exact absurd rfl z.1
      subst f0
      omega
    · intro z
      exact ⟨0, Or.inl ⟨rfl, rfl⟩, by omega, by omega⟩
  · have u1 := up_254 rH rh
    have u2 := up_254 rW rw_
    obtain ⟨l1, l2⟩ := le_i (a := upC H 254 h) (b := upC W 254 w) (fa := 127) (by omega) (by omega) (by rw [e6]; omega)
    rw [e6] at l1 l2
    have m1 : mu_ 1 = 254 := rfl
    have m2 : fa_ 1 = 127 := rfl
    unfold FIT ONE
    rw [m1, m2]
    constructor
    · rintro ⟨f, hf, p, q⟩
      have f0 : f = 0 := by
        rcases hf with z | z
        · exact z.2
        · exact absurd rfl z.1
      subst f0
      omega
    · intro z
      exact ⟨0, Or.inl ⟨rfl, rfl⟩, by omega, by omega⟩
/-- with a frame -/
theorem fit_f {U F h w H W u fa : Int32} (hF : ¬ F = 0) (hU : (U = 0 ∧ u = 10 ∧ fa = 50) ∨ (U = 1 ∧ u = 254 ∧ fa = 127)) (rh : inr 10 5000 h) (rw_ : inr 10 5000 w) (rH : inr 1 6000 H) (rW : inr 1 6000 W) : FIT U F h w H W ↔ (¬ 120 < thC (leC (upC H u h) (upC W u w) fa) ∧ ¬ moC (upC H u h) (upC W u w) fa < 20 * thC (leC (upC H u h) (upC W u w) fa)) := by
  have a := i_inr rH
  have b := i_inr rh
  have c := i_inr rW
  have d := i_inr rw_
  have e1 : (1 : Int32).toInt = 1 := rfl
  have e2 : (6000 : Int32).toInt = 6000 := rfl
  have e3 : (10 : Int32).toInt = 10 := rfl
  have e4 : (5000 : Int32).toInt = 5000 := rfl
  have e5 : (50 : Int32).toInt = 50 := rfl
  have e6 : (127 : Int32).toInt = 127 := rfl
  have e7 : (120 : Int32).toInt = 120 := rfl
  have e8 : (20 : Int32).toInt = 20 := rfl
  rw [e1, e2] at a c
  rw [e3, e4] at b d
  rw [Int32.lt_iff_toInt_lt, Int32.lt_iff_toInt_lt, e7]
  rcases hU with ⟨rfl, rfl, rfl⟩ | ⟨rfl, rfl, rfl⟩
  · have u1 := up_10 rH rh
    have u2 := up_10 rW rw_
    obtain ⟨l1, l2⟩ := le_i (a := upC H 10 h) (b := upC W 10 w) (fa := 50) (by omega) (by omega) (by rw [e5]; omega)
    rw [e5] at l1 l2
    obtain ⟨t1, t2, t3, t4⟩ := th_i (l := leC (upC H 10 h) (upC W 10 w) 50) (by omega)
    have t5 : (20 * thC (leC (upC H 10 h) (upC W 10 w) 50)).toInt = 20 * (thC (leC (upC H 10 h) (upC W 10 w) 50)).toInt := by
      rw [i_mul (by rw [e8]; omega) (by rw [e8]; omega), e8]
    rw [t5]
    have m1 : mu_ 0 = 10 := rfl
    have m2 : fa_ 0 = 50 := rfl
    unfold FIT ONE
    rw [m1, m2]
    constructor
    · rintro ⟨f, hf, p, q⟩
      have f0 : 20 ≤ f ∧ f ≤ 120 := by
        rcases hf with z | z
        · exact absurd z.1 hF
        · exact z.2
      have := t4 f f0.1 (by omega)
      omega
    · intro z
      exact ⟨(thC (leC (upC H 10 h) (upC W 10 w) 50)).toInt, Or.inr ⟨hF, by omega, by omega⟩, by omega, by omega⟩
  · have u1 := up_254 rH rh
    have u2 := up_254 rW rw_
    obtain ⟨l1, l2⟩ := le_i (a := upC H 254 h) (b := upC W 254 w) (fa := 127) (by omega) (by omega) (by rw [e6]; omega)
    rw [e6] at l1 l2
    obtain ⟨t1, t2, t3, t4⟩ := th_i (l := leC (upC H 254 h) (upC W 254 w) 127) (by omega)
    have t5 : (20 * thC (leC (upC H 254 h) (upC W 254 w) 127)).toInt = 20 * (thC (leC (upC H 254 h) (upC W 254 w) 127)).toInt := by
      rw [i_mul (by rw [e8]; omega) (by rw [e8]; omega), e8]
    rw [t5]
    have m1 : mu_ 1 = 254 := rfl
    have m2 : fa_ 1 = 127 := rfl
    unfold FIT ONE
    rw [m1, m2]
    constructor
    · rintro ⟨f, hf, p, q⟩
      have f0 : 20 ≤ f ∧ f ≤ 120 := by
        rcases hf with z | z
        · exact absurd z.1 hF
        · exact z.2
      have := t4 f f0.1 (by omega)
      omega
    · intro z
      exact ⟨(thC (leC (upC H 254 h) (upC W 254 w) 127)).toInt, Or.inr ⟨hF, by omega, by omega⟩, by omega, by omega⟩
/-- the model's way: a number stands for a side -/
theorem stn_i {U u fa H : Int32} {s : Int32} {f : Nat} (hU : (U = 0 ∧ u = 10 ∧ fa = 50) ∨ (U = 1 ∧ u = 254 ∧ fa = 127)) (rs : inr 10 5000 s) (rH : inr 1 6000 H) (hf : f ≤ 200) : inr (u * H - fa) (u * H + fa) (10 * (s + 2 * nI f)) ↔ ONE U s H (f : Int) := by
  have a := i_inr rH
  have b := i_inr rs
  have e1 : (1 : Int32).toInt = 1 := rfl
  have e2 : (6000 : Int32).toInt = 6000 := rfl
  have e3 : (10 : Int32).toInt = 10 := rfl
  have e4 : (5000 : Int32).toInt = 5000 := rfl
  have e5 : (50 : Int32).toInt = 50 := rfl
  have e6 : (127 : Int32).toInt = 127 := rfl
  have e7 : (254 : Int32).toInt = 254 := rfl
  have e8 : (2 : Int32).toInt = 2 := rfl
  have ef : (nI f).toInt = (f : Int) := nI_toInt (by omega)
  rw [e1, e2] at a
  rw [e3, e4] at b
  have c1 : (2 * nI f).toInt = 2 * (f : Int) := by
    rw [i_mul (by rw [e8, ef]; omega) (by rw [e8, ef]; omega), e8, ef]
  have c2 : (s + 2 * nI f).toInt = s.toInt + 2 * (f : Int) := by
    rw [i_add (by rw [c1]; omega) (by rw [c1]; omega), c1]
  have c3 : (10 * (s + 2 * nI f)).toInt = 10 * (s.toInt + 2 * (f : Int)) := by
    rw [i_mul (by rw [e3, c2]; omega) (by rw [e3, c2]; omega), e3, c2]
  unfold inr ONE
  rw [Int32.le_iff_toInt_le, Int32.le_iff_toInt_le, c3]
  rcases hU with ⟨rfl, rfl, rfl⟩ | ⟨rfl, rfl, rfl⟩
  · have d1 : ((10 : Int32) * H).toInt = 10 * H.toInt := by
      rw [i_mul (by rw [e3]; omega) (by rw [e3]; omega), e3]
    have d2 : ((10 : Int32) * H - 50).toInt = 10 * H.toInt - 50 := by
      rw [i_sub (by rw [d1, e5]; omega) (by rw [d1, e5]; omega), d1, e5]
    have d3 : ((10 : Int32) * H + 50).toInt = 10 * H.toInt + 50 := by
      rw [i_add (by rw [d1, e5]; omega) (by rw [d1, e5]; omega), d1, e5]
    have m1 : mu_ 0 = 10 := rfl
    have m2 : fa_ 0 = 50 := rfl
    rw [d2, d3, m1, m2]
    omega
  · have d1 : ((254 : Int32) * H).toInt = 254 * H.toInt := by
      rw [i_mul (by rw [e7]; omega) (by rw [e7]; omega), e7]
    have d2 : ((254 : Int32) * H - 127).toInt = 254 * H.toInt - 127 := by
      rw [i_sub (by rw [d1, e6]; omega) (by rw [d1, e6]; omega), d1, e6]
    have d3 : ((254 : Int32) * H + 127).toInt = 254 * H.toInt + 127 := by
      rw [i_add (by rw [d1, e6]; omega) (by rw [d1, e6]; omega), d1, e6]
    have m1 : mu_ 1 = 254 := rfl
    have m2 : fa_ 1 = 127 := rfl
    rw [d2, d3, m1, m2]
    omega
noncomputable def sc4 (s : Int32) : Int32 := if s < 4 then 0 else s
/-- the score: bad: it does not fit; B: the bits that both have; hd: who holds by the mention; ow: who holds -/
noncomputable def scv (bad : Prop) (sized : Prop) (B ow hd : Int32) : Int32 :=
  ci bad 0 (ci (¬ hd < 0 ∧ ¬ ow = hd ∧ ¬ ow = -4) 0 (sc4 (ci (¬ hd < 0 ∧ ow = hd) (ci sized (4 * B + 3) (4 * B) + 5) (ci sized (4 * B + 3) (4 * B)))))
set_option maxRecDepth 100000 in
set_option maxHeartbeats 4000000 in
theorem sf_areSidesFit {d L : Nat} {f : Nat → Nat → Int32} {g : Nat → Nat → Int64} {j : Nat} {h w : Int32} {R : Option Value → mH → Prop} (hd : 2 ≤ d) (hj : j < 50) (hU : f 145 j = 0 ∨ f 145 j = 1) (hFr : f 146 j = 0 ∨ f 146 j = 1) (rh : inr 10 5000 h) (rw_ : inr 10 5000 w) (rH : inr 1 6000 (f 143 j)) (rW : inr 1 6000 (f 144 j)) (H1 : FIT (f 145 j) (f 146 j) h w (f 143 j) (f 144 j) → R (some (.int 1)) (shF L, f, g)) (H0 : ¬ FIT (f 145 j) (f 146 j) h w (f 143 j) (f 144 j) → R (some (.int 0)) (shF L, f, g)) : Run mtab d 41 [.ref 139, .int (nI j), .int h, .int w] (shF L, f, g) R := by
  obtain ⟨d, rfl⟩ : ∃ e, d = e + 1 := ⟨d - 1, by omega⟩
  refine go_X4_areSidesFit rfl ?_
  conv => whnf
  have hcl : (nI j).toNatClampNeg = j := nI_clamp (by omega)
  refine ⟨vp_in_nI (by omega) (by decide), ?_⟩
  conv => whnf
  rcases hU with eU | eU
  · simp only [hcl, eU]
    (refine ⟨fun z9 => ?_, fun z9 => ?_⟩ <;> first | ((have c9 : (1 : Int32) = 0 := by with_reducible exact z9); exact absurd c9 (by decide)) | exact absurd (rfl : (0 : Int32) = 0) (by with_reducible exact z9) | exact absurd True.intro (by with_reducible exact z9) | exact False.elim (by with_reducible exact z9) | (conv => whnf))
    refine ⟨vp_in_nI (by omega) (by decide), ?_⟩
    conv => whnf
    simp only [hcl, eU]
    (refine ⟨fun z9 => ?_, fun z9 => ?_⟩ <;> first | ((have c9 : (1 : Int32) = 0 := by with_reducible exact z9); exact absurd c9 (by decide)) | exact absurd (rfl : (0 : Int32) = 0) (by with_reducible exact z9) | exact absurd True.intro (by with_reducible exact z9) | exact False.elim (by with_reducible exact z9) | (conv => whnf))
    refine ⟨vp_in_nI (by omega) (by decide), ?_⟩
    conv => whnf
    refine ⟨vp_in_nI (by omega) (by decide), ?_⟩
    conv => whnf
    refine rp_min (by omega) ?_
    conv => whnf
    refine rp_max (by omega) ?_
    conv => whnf
    refine ⟨vp_in_nI (by omega) (by decide), ?_⟩
    conv => whnf
    simp only [hcl]
    rcases hFr with eF | eF
    · simp only [eF]
      (refine ⟨fun z9 => ?_, fun z9 => ?_⟩ <;> first | ((have c9 : (1 : Int32) = 0 := by with_reducible exact z9); exact absurd c9 (by decide)) | exact absurd (rfl : (0 : Int32) = 0) (by with_reducible exact z9) | exact absurd True.intro (by with_reducible exact z9) | exact False.elim (by with_reducible exact z9) | (conv => whnf))
      have key := fit_u (U := f 145 j) (u := 10) (fa := 50) (Or.inl ⟨eU, rfl, rfl⟩) rh rw_ rH rW
      refine ⟨fun c1 => ?_, fun c1 => ?_⟩
      · conv => whnf
        have G := H0 (fun z => (key.mp (by rw [eF] at z; exact z)).1 c1)
        first | exact ⟨Or.inl rfl, G⟩ | exact G
      · conv => whnf
        refine ⟨fun c2 => ?_, fun c2 => ?_⟩
        · conv => whnf
          have G := H0 (fun z => (key.mp (by rw [eF] at z; exact z)).2 c2)
          first | exact ⟨Or.inl rfl, G⟩ | exact G
        · conv => whnf
          have G := H1 (by rw [eF]; exact key.mpr ⟨c1, c2⟩)
          first | exact ⟨Or.inr rfl, G⟩ | exact G
    · simp only [eF]
      (refine ⟨fun z9 => ?_, fun z9 => ?_⟩ <;> first | ((have c9 : (1 : Int32) = 0 := by with_reducible exact z9); exact absurd c9 (by decide)) | exact absurd (rfl : (0 : Int32) = 0) (by with_reducible exact z9) | exact absurd True.intro (by with_reducible exact z9) | exact False.elim (by with_reducible exact z9) | (conv => whnf))
      have key := fit_f (U := f 145 j) (F := f 146 j) (u := 10) (fa := 50) (by rw [eF]; decide) (Or.inl ⟨eU, rfl, rfl⟩) rh rw_ rH rW
      refine ⟨(by decide), ?_⟩
      conv => whnf
      refine rp_max (by omega) ?_
      conv => whnf
      refine ⟨fun c1 => ?_, fun c1 => ?_⟩
      · conv => whnf
        have G := H0 (fun z => (key.mp z).1 c1)
        first | exact ⟨Or.inl rfl, G⟩ | exact G
      · conv => whnf
        refine ⟨fun c2 => ?_, fun c2 => ?_⟩
        · conv => whnf
          have G := H0 (fun z => (key.mp z).2 c2)
          first | exact ⟨Or.inl rfl, G⟩ | exact G
        · conv => whnf
          have G := H1 (key.mpr ⟨c1, c2⟩)
          first | exact ⟨Or.inr rfl, G⟩ | exact G
  · simp only [hcl, eU]
    (refine ⟨fun z9 => ?_, fun z9 => ?_⟩ <;> first | ((have c9 : (1 : Int32) = 0 := by with_reducible exact z9); exact absurd c9 (by decide)) | exact absurd (rfl : (0 : Int32) = 0) (by with_reducible exact z9) | exact absurd True.intro (by with_reducible exact z9) | exact False.elim (by with_reducible exact z9) | (conv => whnf))
    refine ⟨vp_in_nI (by omega) (by decide), ?_⟩
    conv => whnf
    simp only [hcl, eU]
    (refine ⟨fun z9 => ?_, fun z9 => ?_⟩ <;> first | ((have c9 : (1 : Int32) = 0 := by with_reducible exact z9); exact absurd c9 (by decide)) | exact absurd (rfl : (0 : Int32) = 0) (by with_reducible exact z9) | exact absurd True.intro (by with_reducible exact z9) | exact False.elim (by with_reducible exact z9) | (conv => whnf))
    refine ⟨vp_in_nI (by omega) (by decide), ?_⟩
    conv => whnf
    refine ⟨vp_in_nI (by omega) (by decide), ?_⟩
    conv => whnf
    refine rp_min (by omega) ?_
    conv => whnf
    refine rp_max (by omega) ?_
    conv => whnf
    refine ⟨vp_in_nI (by omega) (by decide), ?_⟩
    conv => whnf
    simp only [hcl]
    rcases hFr with eF | eF
    · simp only [eF]
      (refine ⟨fun z9 => ?_, fun z9 => ?_⟩ <;> first | ((have c9 : (1 : Int32) = 0 := by with_reducible exact z9); exact absurd c9 (by decide)) | exact absurd (rfl : (0 : Int32) = 0) (by with_reducible exact z9) | exact absurd True.intro (by with_reducible exact z9) | exact False.elim (by with_reducible exact z9) | (conv => whnf))
      have key := fit_u (U := f 145 j) (u := 254) (fa := 127) (Or.inr ⟨eU, rfl, rfl⟩) rh rw_ rH rW
      refine ⟨fun c1 => ?_, fun c1 => ?_⟩
      · conv => whnf
        have G := H0 (fun z => (key.mp (by rw [eF] at z; exact z)).1 c1)
        first | exact ⟨Or.inl rfl, G⟩ | exact G
      · conv => whnf
        refine ⟨fun c2 => ?_, fun c2 => ?_⟩
        · conv => whnf
          have G := H0 (fun z => (key.mp (by rw [eF] at z; exact z)).2 c2)
          first | exact ⟨Or.inl rfl, G⟩ | exact G
        · conv => whnf
          have G := H1 (by rw [eF]; exact key.mpr ⟨c1, c2⟩)
          first | exact ⟨Or.inr rfl, G⟩ | exact G
    · simp only [eF]
      (refine ⟨fun z9 => ?_, fun z9 => ?_⟩ <;> first | ((have c9 : (1 : Int32) = 0 := by with_reducible exact z9); exact absurd c9 (by decide)) | exact absurd (rfl : (0 : Int32) = 0) (by with_reducible exact z9) | exact absurd True.intro (by with_reducible exact z9) | exact False.elim (by with_reducible exact z9) | (conv => whnf))
      have key := fit_f (U := f 145 j) (F := f 146 j) (u := 254) (fa := 127) (by rw [eF]; decide) (Or.inr ⟨eU, rfl, rfl⟩) rh rw_ rH rW
      refine ⟨(by decide), ?_⟩
      conv => whnf
      refine rp_max (by omega) ?_
      conv => whnf
      refine ⟨fun c1 => ?_, fun c1 => ?_⟩
      · conv => whnf
        have G := H0 (fun z => (key.mp z).1 c1)
        first | exact ⟨Or.inl rfl, G⟩ | exact G
      · conv => whnf
        refine ⟨fun c2 => ?_, fun c2 => ?_⟩
        · conv => whnf
          have G := H0 (fun z => (key.mp z).2 c2)
          first | exact ⟨Or.inl rfl, G⟩ | exact G
        · conv => whnf
          have G := H1 (key.mpr ⟨c1, c2⟩)
          first | exact ⟨Or.inr rfl, G⟩ | exact G
def hC (f : Nat → Nat → Int32) (w : Nat) (y : Int32) : Int32 := if y < f 97 w then f 9 w else f 98 w
def wC (f : Nat → Nat → Int32) (w : Nat) (y : Int32) : Int32 := if y < f 97 w then f 10 w else f 99 w
def SFC (f : Nat → Nat → Int32) (j w : Nat) : Prop := f 143 j = 0 ∨ FIT (f 145 j) (f 146 j) (hC f w (f 142 j)) (wC f w (f 142 j)) (f 143 j) (f 144 j) ∨ (f 140 j = 2 ∧ FIT (f 145 j) (f 146 j) (wC f w (f 142 j)) (hC f w (f 142 j)) (f 143 j) (f 144 j))
/-- the sizes that a work has in a year are such -/
def SZ1 (f : Nat → Nat → Int32) (w : Nat) (y : Int32) : Prop := inr 10 5000 (hC f w y) ∧ inr 10 5000 (wC f w y)
noncomputable def scC (f : Nat → Nat → Int32) (h j w : Nat) : Int32 := scv (f 142 j < f 134 w ∨ f 127 w = 2 ∨ ¬ SFC f j w) (¬ f 143 j = 0) (bcE (f 147 j &&& titC f w (f 96 w).toNatClampNeg (f 142 j))) (ownl (fun a => ¬ a = -4) (PO f 104 105 (nI w) (f 142 j)) (fun i => f 102 i) h 0 (-4)) (f 148 j)
theorem c01 {x : Int32} (h : inr 0 1 x) : x = 0 ∨ x = 1 := by
  obtain ⟨k, hk, rfl⟩ := inr_nat (n := 1) rfl h
  have e : k = 0 ∨ k = 1 := by omega
  rcases e with rfl | rfl
  · exact Or.inl rfl
  · exact Or.inr rfl
set_option maxRecDepth 100000 in
set_option maxHeartbeats 4000000 in
theorem sf_isSizeFit {d L : Nat} {f : Nat → Nat → Int32} {g : Nat → Nat → Int64} {j w : Nat} {R : Option Value → mH → Prop} (hd : 3 ≤ d) (hj : j < 50) (hw : w < 40) (hN : RN f j) (hS : SZ1 f w (f 142 j)) (H1 : SFC f j w → R (some (.int 1)) (shF L, f, g)) (H0 : ¬ SFC f j w → R (some (.int 0)) (shF L, f, g)) : Run mtab d 40 [.ref 139, .int (nI j), .int (nI w)] (shF L, f, g) R := by
  obtain ⟨d, rfl⟩ : ∃ e, d = e + 1 := ⟨d - 1, by omega⟩
  refine go_X4_isSizeFit rfl ?_
  conv => whnf
  have hcl : (nI j).toNatClampNeg = j := nI_clamp (by omega)
  have hme := hN.2.2.2.2.2.2.2.2.2.1
  refine ⟨vp_in_nI (by omega) (by decide), ?_⟩
  conv => whnf
  simp only [hcl]
  refine ⟨fun c0 => ?_, fun c0 => ?_⟩
  · have rHW : inr 1 6000 (f 143 j) ∧ inr 1 6000 (f 144 j) := by
      rcases hme.2.1 with z | z
      · exact absurd z.1 c0
      · exact z
    conv => whnf
    refine ⟨vp_in_nI (by omega) (by decide), ?_⟩
    conv => whnf
    simp only [hcl]
    refine sf_heightIn (by omega) hw ?_
    conv => whnf
    refine ⟨vp_in_nI (by omega) (by decide), ?_⟩
    conv => whnf
    simp only [hcl]
    refine sf_widthIn (by omega) hw ?_
    conv => whnf
    refine sf_areSidesFit (by omega) hj (c01 hme.2.2.1) hN.2.2.2.2.2.2.2.2.2.2 hS.1 hS.2 rHW.1 rHW.2 (fun y => ?_) (fun n1 => ?_)
    · conv => whnf
      (refine ⟨fun z9 => ?_, fun z9 => ?_⟩ <;> first | ((have c9 : (1 : Int32) = 0 := by with_reducible exact z9); exact absurd c9 (by decide)) | exact absurd (rfl : (0 : Int32) = 0) (by with_reducible exact z9) | exact absurd True.intro (by with_reducible exact z9) | exact False.elim (by with_reducible exact z9) | (conv => whnf))
      conv => whnf
      have G := H1 (Or.inr (Or.inl y))
      first | exact ⟨Or.inr rfl, G⟩ | exact G
    · conv => whnf
      (refine ⟨fun z9 => ?_, fun z9 => ?_⟩ <;> first | ((have c9 : (1 : Int32) = 0 := by with_reducible exact z9); exact absurd c9 (by decide)) | exact absurd (rfl : (0 : Int32) = 0) (by with_reducible exact z9) | exact absurd True.intro (by with_reducible exact z9) | exact False.elim (by with_reducible exact z9) | (conv => whnf))
      refine ⟨vp_in_nI (by omega) (by decide), ?_⟩
      conv => whnf
      simp only [hcl]
      refine ⟨fun c2 => ?_, fun c2 => ?_⟩
      · conv => whnf
        have G := H0 (fun z => z.elim c0 (fun z2 => z2.elim n1 (fun z3 => c2 z3.1)))
        first | exact ⟨Or.inl rfl, G⟩ | exact G
      · conv => whnf
        refine sf_areSidesFit (by omega) hj (c01 hme.2.2.1) hN.2.2.2.2.2.2.2.2.2.2 hS.2 hS.1 rHW.1 rHW.2 (fun y => ?_) (fun n2 => ?_)
        · conv => whnf
          (refine ⟨fun z9 => ?_, fun z9 => ?_⟩ <;> first | ((have c9 : (1 : Int32) = 0 := by with_reducible exact z9); exact absurd c9 (by decide)) | exact absurd (rfl : (0 : Int32) = 0) (by with_reducible exact z9) | exact absurd True.intro (by with_reducible exact z9) | exact False.elim (by with_reducible exact z9) | (conv => whnf))
          conv => whnf
          have G := H1 (Or.inr (Or.inr ⟨c2, y⟩))
          first | exact ⟨Or.inr rfl, G⟩ | exact G
        · conv => whnf
          (refine ⟨fun z9 => ?_, fun z9 => ?_⟩ <;> first | ((have c9 : (1 : Int32) = 0 := by with_reducible exact z9); exact absurd c9 (by decide)) | exact absurd (rfl : (0 : Int32) = 0) (by with_reducible exact z9) | exact absurd True.intro (by with_reducible exact z9) | exact False.elim (by with_reducible exact z9) | (conv => whnf))
          conv => whnf
          have G := H0 (fun z => z.elim c0 (fun z2 => z2.elim n1 (fun z3 => n2 z3.2)))
          first | exact ⟨Or.inl rfl, G⟩ | exact G
  · conv => whnf
    have G := H1 (Or.inl c0)
    first | exact ⟨Or.inr rfl, G⟩ | exact G
set_option maxRecDepth 100000 in
set_option maxHeartbeats 4000000 in
theorem sf_scoreFor {d L : Nat} {f : Nat → Nat → Int32} {g : Nat → Nat → Int64} {h j w q : Nat} {R : Option Value → mH → Prop} (hd : 4 ≤ d) (hj : j < 50) (hw : w < 40) (hN : RN f j) (hS : SZ1 f w (f 142 j)) (hq : f 96 w = nI q) (hq1 : 1 ≤ q) (hq4 : q ≤ 4) (hb : f 100 6 = nI h) (hm : h ≤ 60) (H : ∀ v, v = scC f h j w → R (some (.int v)) (shF L, f, g)) : Run mtab d 37 [.ref 139, .int (nI j), .int (nI w)] (shF L, f, g) R := by
  obtain ⟨d, rfl⟩ : ∃ e, d = e + 1 := ⟨d - 1, by omega⟩
  refine go_X4_scoreFor rfl ?_
  conv => whnf
  have hcl : (nI j).toNatClampNeg = j := nI_clamp (by omega)
  have hcw : (nI w).toNatClampNeg = w := nI_clamp (by omega)
  have hqc : (f 96 w).toNatClampNeg = q := by rw [hq]; exact nI_clamp (by omega)
  refine ⟨vp_in_nI (by omega) (by decide), ?_⟩
  conv => whnf
  refine ⟨vp_in_nI (by omega) (by decide), ?_⟩
  conv => whnf
  simp only [hcl, hcw]
  refine ⟨fun c1 => ?_, fun c1 => ?_⟩
  · conv => whnf
    exact H _ (ci_t (Or.inl c1)).symm
  · conv => whnf
    refine ⟨vp_in_nI (by omega) (by decide), ?_⟩
    conv => whnf
    simp only [hcw]
    refine ⟨fun c2 => ?_, fun c2 => ?_⟩
    · conv => whnf
      exact H _ (ci_t (Or.inr (Or.inl c2))).symm
    · conv => whnf
      refine sf_isSizeFit (by omega) hj hw hN hS (fun y => ?_) (fun n1 => ?_)
      · conv => whnf
        (refine ⟨fun z9 => ?_, fun z9 => ?_⟩ <;> first | ((have c9 : (1 : Int32) = 0 := by with_reducible exact z9); exact absurd c9 (by decide)) | exact absurd (rfl : (0 : Int32) = 0) (by with_reducible exact z9) | exact absurd True.intro (by with_reducible exact z9) | exact False.elim (by with_reducible exact z9) | (conv => whnf))
        have nb : ¬ (f 142 j < f 134 w ∨ f 127 w = 2 ∨ ¬ SFC f j w) := fun z => z.elim c1 (fun z2 => z2.elim c2 (fun z3 => z3 y))
        refine ⟨vp_in_nI (by omega) (by decide), ?_⟩
        conv => whnf
        simp only [hcl]
        refine sf_titleIn (by omega) hw hq hq1 hq4 ?_
        conv => whnf
        refine sf_bitCount (by omega) ?_
        conv => whnf
        refine ⟨vp_in_nI (by omega) (by decide), ?_⟩
        conv => whnf
        simp only [hcl]
        refine ⟨fun c3 => ?_, fun c3 => ?_⟩
        · conv => whnf
          refine ⟨vp_in_nI (by omega) (by decide), ?_⟩
          conv => whnf
          simp only [hcl]
          refine ⟨fun c4 => ?_, fun c4 => ?_⟩
          · conv => whnf
            have es : scC f h j w = sc4 (4 * bcE (f 147 j &&& titC f w q (f 142 j))) := by
              unfold scC scv
              rw [hqc, ci_f nb, ci_f (fun z => z.1 c4), ci_f (fun z => z.1 c4), ci_f (fun z => z c3)]
            refine ⟨fun c7 => ?_, fun c7 => ?_⟩
            · conv => whnf
              exact H _ (by rw [es]; unfold sc4; rw [if_neg (i32_nlt.mpr c7)])
            · conv => whnf
              exact H _ (by rw [es]; unfold sc4; rw [if_pos (i32_nle.mp c7)])
          · conv => whnf
            refine sf_theOwner (by omega) hb hm ?_
            conv => whnf
            refine ⟨vp_in_nI (by omega) (by decide), ?_⟩
            conv => whnf
            simp only [hcl]
            refine ⟨fun c5 => ?_, fun c5 => ?_⟩
            · conv => whnf
              refine ⟨fun c6 => ?_, fun c6 => ?_⟩
              · conv => whnf
                have es : scC f h j w = sc4 (4 * bcE (f 147 j &&& titC f w q (f 142 j))) := by
                  unfold scC scv
                  rw [hqc, ci_f nb, ci_f (fun z => z.2.2 c6), ci_f (fun z => c5 z.2), ci_f (fun z => z c3)]
                refine ⟨fun c7 => ?_, fun c7 => ?_⟩
                · conv => whnf
                  exact H _ (by rw [es]; unfold sc4; rw [if_neg (i32_nlt.mpr c7)])
                · conv => whnf
                  exact H _ (by rw [es]; unfold sc4; rw [if_pos (i32_nle.mp c7)])
              · conv => whnf
                exact H _ ((ci_f nb).trans (ci_t ⟨c4, c5, c6⟩)).symm
            · conv => whnf
              have es : scC f h j w = sc4 (4 * bcE (f 147 j &&& titC f w q (f 142 j)) + 5) := by
                unfold scC scv
                rw [hqc, ci_f nb, ci_f (fun z => z.2.1 c5), ci_t ⟨c4, c5⟩, ci_f (fun z => z c3)]
              refine ⟨fun c7 => ?_, fun c7 => ?_⟩
              · conv => whnf
                exact H _ (by rw [es]; unfold sc4; rw [if_neg (i32_nlt.mpr c7)])
              · conv => whnf
                exact H _ (by rw [es]; unfold sc4; rw [if_pos (i32_nle.mp c7)])
        · conv => whnf
          refine ⟨vp_in_nI (by omega) (by decide), ?_⟩
          conv => whnf
          simp only [hcl]
          refine ⟨fun c4 => ?_, fun c4 => ?_⟩
          · conv => whnf
            have es : scC f h j w = sc4 (4 * bcE (f 147 j &&& titC f w q (f 142 j)) + 3) := by
              unfold scC scv
              rw [hqc, ci_f nb, ci_f (fun z => z.1 c4), ci_f (fun z => z.1 c4), ci_t c3]
            refine ⟨fun c7 => ?_, fun c7 => ?_⟩
            · conv => whnf
              exact H _ (by rw [es]; unfold sc4; rw [if_neg (i32_nlt.mpr c7)])
            · conv => whnf
              exact H _ (by rw [es]; unfold sc4; rw [if_pos (i32_nle.mp c7)])
          · conv => whnf
            refine sf_theOwner (by omega) hb hm ?_
            conv => whnf
            refine ⟨vp_in_nI (by omega) (by decide), ?_⟩
            conv => whnf
            simp only [hcl]
            refine ⟨fun c5 => ?_, fun c5 => ?_⟩
            · conv => whnf
              refine ⟨fun c6 => ?_, fun c6 => ?_⟩
              · conv => whnf
                have es : scC f h j w = sc4 (4 * bcE (f 147 j &&& titC f w q (f 142 j)) + 3) := by
                  unfold scC scv
                  rw [hqc, ci_f nb, ci_f (fun z => z.2.2 c6), ci_f (fun z => c5 z.2), ci_t c3]
                refine ⟨fun c7 => ?_, fun c7 => ?_⟩
                · conv => whnf
                  exact H _ (by rw [es]; unfold sc4; rw [if_neg (i32_nlt.mpr c7)])
                · conv => whnf
                  exact H _ (by rw [es]; unfold sc4; rw [if_pos (i32_nle.mp c7)])
              · conv => whnf
                exact H _ ((ci_f nb).trans (ci_t ⟨c4, c5, c6⟩)).symm
            · conv => whnf
              have es : scC f h j w = sc4 (4 * bcE (f 147 j &&& titC f w q (f 142 j)) + 3 + 5) := by
                unfold scC scv
                rw [hqc, ci_f nb, ci_f (fun z => z.2.1 c5), ci_t ⟨c4, c5⟩, ci_t c3]
              refine ⟨fun c7 => ?_, fun c7 => ?_⟩
              · conv => whnf
                exact H _ (by rw [es]; unfold sc4; rw [if_neg (i32_nlt.mpr c7)])
              · conv => whnf
                exact H _ (by rw [es]; unfold sc4; rw [if_pos (i32_nle.mp c7)])
      · conv => whnf
        (refine ⟨fun z9 => ?_, fun z9 => ?_⟩ <;> first | ((have c9 : (1 : Int32) = 0 := by with_reducible exact z9); exact absurd c9 (by decide)) | exact absurd (rfl : (0 : Int32) = 0) (by with_reducible exact z9) | exact absurd True.intro (by with_reducible exact z9) | exact False.elim (by with_reducible exact z9) | (conv => whnf))
        exact H _ (ci_t (Or.inr (Or.inr n1))).symm
set_option maxRecDepth 100000 in
theorem cf_lp {d L n h j : Nat} {f : Nat → Nat → Int32} {g : Nat → Nat → Int64} {R : Option Value → mH → Prop} (hd : 4 ≤ d) (hj : j < 50) (hN : RN f j) (hS : ∀ w, w < n → SZ1 f w (f 142 j)) (hT : ∀ w, w < n → ∃ q, 1 ≤ q ∧ q ≤ 4 ∧ f 96 w = nI q) (hnb : f 6 13 = nI n) (hn : n ≤ 40) (hb : f 100 6 = nI h) (hm : h ≤ 60) :
    ∀ (k i : Nat) (x a : Int32), i + k = n → x = nI i → R (some (.int (cntl (fun i => 0 < scC f h j i) k i a))) (shF L, f, g) → WPe pg_X4_countFits none (Run mtab d) R (m_drop pg_X4_countFits 4) [some (.ref 139), some (.int (nI j)), some (.int a), some (.int x)] [] (shF L, f, g)
  | 0, i, x, a, hi, hx, H => by
    have e : i = n := by omega
    subst hx
    subst e
    refine at_X4_countFits ?_
    conv => whnf
    simp only [hnb]
    refine ⟨fun c => ?_, fun c => absurd (nI_le (Nat.le_refl _) (by omega)) c⟩
    conv => whnf
    exact H
  | k + 1, i, x, a, hi, hx, H => by
    subst hx
    obtain ⟨q, hq1, hq4, hq⟩ := hT i (by omega)
    refine at_X4_countFits ?_
    conv => whnf
    simp only [hnb]
    refine ⟨fun c => absurd c (nI_ge (b := n) (by omega) (by omega)), fun c => ?_⟩
    conv => whnf
    refine sf_scoreFor (h := h) (by omega) hj (by omega) hN (hS i (by omega)) hq hq1 hq4 hb hm (fun v ev => ?_)
    subst ev
    conv => whnf
    refine ⟨fun c1 => ?_, fun c1 => ?_⟩
    · conv => whnf
      exact cf_lp hd hj hN hS hT hnb hn hb hm k (i + 1) _ _ (by omega) (nI_1 i) (by rw [cnt_n (P := (fun i => 0 < scC f h j i)) (k := k) (i := i) (a := a) (i32_nlt.mpr c1)] at H; exact H)
    · conv => whnf
      exact cf_lp hd hj hN hS hT hnb hn hb hm k (i + 1) _ _ (by omega) (nI_1 i) (by rw [cnt_y (P := (fun i => 0 < scC f h j i)) (k := k) (i := i) (a := a) (i32_nle.mp c1)] at H; exact H)
set_option maxRecDepth 100000 in
set_option maxHeartbeats 4000000 in
theorem sf_countFits {d L : Nat} {f : Nat → Nat → Int32} {g : Nat → Nat → Int64} {n h j : Nat} {R : Option Value → mH → Prop} (hd : 5 ≤ d) (hj : j < 50) (hN : RN f j) (hS : ∀ w, w < n → SZ1 f w (f 142 j)) (hT : ∀ w, w < n → ∃ q, 1 ≤ q ∧ q ≤ 4 ∧ f 96 w = nI q) (hnb : f 6 13 = nI n) (hn : n ≤ 40) (hb : f 100 6 = nI h) (hm : h ≤ 60) (H : R (some (.int (cntl (fun i => 0 < scC f h j i) n 0 0))) (shF L, f, g)) : Run mtab d 38 [.ref 139, .int (nI j)] (shF L, f, g) R := by
  obtain ⟨d, rfl⟩ : ∃ e, d = e + 1 := ⟨d - 1, by omega⟩
  refine go_X4_countFits rfl ?_
  conv => whnf
  exact cf_lp (by omega) hj hN hS hT hnb hn hb hm n 0 _ _ (by omega) rfl H
/-- the model's test of a side -/
def STN (U s H : Int32) : Prop := (U = 0 ∧ inr (10 * H - 50) (10 * H + 50) (10 * s)) ∨ (U = 1 ∧ inr (254 * H - 127) (254 * H + 127) (10 * s))
theorem STN_1 {U s H : Int32} {f : Nat} (hU : U = 0 ∨ U = 1) (rs : inr 10 5000 s) (rH : inr 1 6000 H) (hf : f ≤ 200) : STN U (s + 2 * nI f) H ↔ ONE U s H (f : Int) := by
  rcases hU with rfl | rfl
  · rw [← stn_i (Or.inl ⟨rfl, rfl, rfl⟩) rs rH hf]
    exact ⟨fun z => z.elim (fun y => y.2) (fun y => absurd y.1 (by decide)), fun z => Or.inl ⟨rfl, z⟩⟩
  · rw [← stn_i (Or.inr ⟨rfl, rfl, rfl⟩) rs rH hf]
    exact ⟨fun z => z.elim (fun y => absurd y.1 (by decide)) (fun y => y.2), fun z => Or.inr ⟨rfl, z⟩⟩
set_option maxRecDepth 100000 in
set_option maxHeartbeats 4000000 in
theorem smf_standsFor {d L : Nat} {f : Nat → Nat → Int32} {g : Nat → Nat → Int64} {U s H : Int32} {R : Option Value → mH → Prop} (hd : 2 ≤ d) (hU : U = 0 ∨ U = 1) (H1 : STN U s H → R (some (.int 1)) (shF L, f, g)) (H0 : ¬ STN U s H → R (some (.int 0)) (shF L, f, g)) : Run mtab d 191 [.int s, .int H, .int U] (shF L, f, g) R := by
  obtain ⟨d, rfl⟩ : ∃ e, d = e + 1 := ⟨d - 1, by omega⟩
  refine go_X11_standsFor rfl ?_
  conv => whnf
  rcases hU with rfl | rfl
  · (refine ⟨fun z9 => ?_, fun z9 => ?_⟩ <;> first | ((have c9 : (1 : Int32) = 0 := by with_reducible exact z9); exact absurd c9 (by decide)) | exact absurd (rfl : (0 : Int32) = 0) (by with_reducible exact z9) | exact absurd True.intro (by with_reducible exact z9) | exact False.elim (by with_reducible exact z9) | (conv => whnf))
    (refine ⟨fun z9 => ?_, fun z9 => ?_⟩ <;> first | ((have c9 : (1 : Int32) = 0 := by with_reducible exact z9); exact absurd c9 (by decide)) | exact absurd (rfl : (0 : Int32) = 0) (by with_reducible exact z9) | exact absurd True.intro (by with_reducible exact z9) | exact False.elim (by with_reducible exact z9) | (conv => whnf))
    refine ct_i_v_v (by omega) (fun p => ?_) (fun p => ?_)
    · conv => whnf
      have G := H1 (Or.inl ⟨rfl, p⟩)
      first | exact ⟨Or.inr rfl, G⟩ | exact G
    · conv => whnf
      have G := H0 (fun z => z.elim (fun y => p y.2) (fun y => absurd y.1 (by decide)))
      first | exact ⟨Or.inl rfl, G⟩ | exact G
  · (refine ⟨fun z9 => ?_, fun z9 => ?_⟩ <;> first | ((have c9 : (1 : Int32) = 0 := by with_reducible exact z9); exact absurd c9 (by decide)) | exact absurd (rfl : (0 : Int32) = 0) (by with_reducible exact z9) | exact absurd True.intro (by with_reducible exact z9) | exact False.elim (by with_reducible exact z9) | (conv => whnf))
    (refine ⟨fun z9 => ?_, fun z9 => ?_⟩ <;> first | ((have c9 : (1 : Int32) = 0 := by with_reducible exact z9); exact absurd c9 (by decide)) | exact absurd (rfl : (0 : Int32) = 0) (by with_reducible exact z9) | exact absurd True.intro (by with_reducible exact z9) | exact False.elim (by with_reducible exact z9) | (conv => whnf))
    refine ct_i_v_v (by omega) (fun p => ?_) (fun p => ?_)
    · conv => whnf
      have G := H1 (Or.inr ⟨rfl, p⟩)
      first | exact ⟨Or.inr rfl, G⟩ | exact G
    · conv => whnf
      have G := H0 (fun z => z.elim (fun y => absurd y.1 (by decide)) (fun y => p y.2))
      first | exact ⟨Or.inl rfl, G⟩ | exact G
theorem nofit0 {U h w H W : Int32} (hN : ∀ f' : Nat, 0 ≤ f' → f' < 1 → ¬ (ONE U h H (f' : Int) ∧ ONE U w W (f' : Int))) : ¬ FIT U 0 h w H W := by
  rintro ⟨f', hf, p, q⟩
  have e : 0 ≤ f' ∧ f' ≤ 0 := by
    rcases hf with z | z
    · first | exact absurd z.1 (by decide) | omega
    · first | exact absurd rfl z.1 | omega
  have c : ((f'.toNat : Nat) : Int) = f' := Int.toNat_of_nonneg (by omega)
  exact hN f'.toNat (by omega) (by omega) (by rw [c]; exact ⟨p, q⟩)
set_option maxRecDepth 100000 in
set_option maxHeartbeats 4000000 in
theorem fsf0_lp {d L : Nat} {f : Nat → Nat → Int32} {g : Nat → Nat → Int64} {U h w H W : Int32} {R : Option Value → mH → Prop} (hd : 2 ≤ d) (hU : U = 0 ∨ U = 1) (rh : inr 10 5000 h) (rw_ : inr 10 5000 w) (rH : inr 1 6000 H) (rW : inr 1 6000 W) (H1 : FIT U 0 h w H W → R (some (.int 1)) (shF L, f, g)) (H0 : ¬ FIT U 0 h w H W → R (some (.int 0)) (shF L, f, g)) :
    ∀ (k i : Nat) (x b : Int32), i + k = 1 → 0 ≤ i ∧ x = nI i → ((b = 0 ∧ ∀ f' : Nat, 0 ≤ f' → f' < i → ¬ (ONE U h H (f' : Int) ∧ ONE U w W (f' : Int))) ∨ (b = 1 ∧ FIT U 0 h w H W)) → WPe pg_X11_fitsSides none (Run mtab d) R (m_drop pg_X11_fitsSides 8) [some (.int h), some (.int w), some (.int H), some (.int W), some (.int U), some (.int 0), some (.int b), some (.int x)] [] (shF L, f, g)
  | 0, i, x, b, hk, ⟨hlo, hx⟩, hB => by
    have e : i = 1 := by omega
    subst e
    subst hx
    refine at_X11_fitsSides ?_
    conv => whnf
    (refine ⟨fun z9 => ?_, fun z9 => ?_⟩ <;> first | ((have c9 : (1 : Int32) = 0 := by with_reducible exact z9); exact absurd c9 (by decide)) | exact absurd (rfl : (0 : Int32) = 0) (by with_reducible exact z9) | exact absurd True.intro (by with_reducible exact z9) | exact False.elim (by with_reducible exact z9) | (conv => whnf))
    refine ⟨fun q9 => ?_, fun q9 => absurd (by decide) q9⟩
    rcases hB with ⟨rfl, hN⟩ | ⟨rfl, hY⟩
    · conv => whnf
      have G := H0 (nofit0 hN)
      first | exact ⟨Or.inl rfl, G⟩ | exact G
    · conv => whnf
      have G := H1 hY
      first | exact ⟨Or.inr rfl, G⟩ | exact G
  | k + 1, i, x, b, hk, ⟨hlo, hx⟩, hB => by
    subst hx
    refine at_X11_fitsSides ?_
    conv => whnf
    (refine ⟨fun z9 => ?_, fun z9 => ?_⟩ <;> first | ((have c9 : (1 : Int32) = 0 := by with_reducible exact z9); exact absurd c9 (by decide)) | exact absurd (rfl : (0 : Int32) = 0) (by with_reducible exact z9) | exact absurd True.intro (by with_reducible exact z9) | exact False.elim (by with_reducible exact z9) | (conv => whnf))
    refine ⟨fun q9 => absurd q9 (nI_nlt (a := 0) (b := i) (by omega) (by omega)), fun q9 => ?_⟩
    conv => whnf
    rcases hB with ⟨rfl, hN⟩ | ⟨rfl, hY⟩
    · (refine ⟨fun z9 => ?_, fun z9 => ?_⟩ <;> first | ((have c9 : (1 : Int32) = 0 := by with_reducible exact z9); exact absurd c9 (by decide)) | exact absurd (rfl : (0 : Int32) = 0) (by with_reducible exact z9) | exact absurd True.intro (by with_reducible exact z9) | exact False.elim (by with_reducible exact z9) | (conv => whnf))
      refine smf_standsFor (by omega) hU (fun y1 => ?_) (fun y1 => ?_)
      · conv => whnf
        (refine ⟨fun z9 => ?_, fun z9 => ?_⟩ <;> first | ((have c9 : (1 : Int32) = 0 := by with_reducible exact z9); exact absurd c9 (by decide)) | exact absurd (rfl : (0 : Int32) = 0) (by with_reducible exact z9) | exact absurd True.intro (by with_reducible exact z9) | exact False.elim (by with_reducible exact z9) | (conv => whnf))
        refine smf_standsFor (by omega) hU (fun y2 => ?_) (fun y2 => ?_)
        · conv => whnf
          (refine ⟨fun z9 => ?_, fun z9 => ?_⟩ <;> first | ((have c9 : (1 : Int32) = 0 := by with_reducible exact z9); exact absurd c9 (by decide)) | exact absurd (rfl : (0 : Int32) = 0) (by with_reducible exact z9) | exact absurd True.intro (by with_reducible exact z9) | exact False.elim (by with_reducible exact z9) | (conv => whnf))
          exact fsf0_lp hd hU rh rw_ rH rW H1 H0 k (i + 1) _ _ (by omega) ⟨by omega, nI_1 i⟩ (Or.inr ⟨rfl, ⟨(i : Int), Or.inl ⟨rfl, by omega⟩, (STN_1 hU rh rH (by omega)).mp y1, (STN_1 hU rw_ rW (by omega)).mp y2⟩⟩)
        · conv => whnf
          (refine ⟨fun z9 => ?_, fun z9 => ?_⟩ <;> first | ((have c9 : (1 : Int32) = 0 := by with_reducible exact z9); exact absurd c9 (by decide)) | exact absurd (rfl : (0 : Int32) = 0) (by with_reducible exact z9) | exact absurd True.intro (by with_reducible exact z9) | exact False.elim (by with_reducible exact z9) | (conv => whnf))
          exact fsf0_lp hd hU rh rw_ rH rW H1 H0 k (i + 1) _ _ (by omega) ⟨by omega, nI_1 i⟩ (Or.inl ⟨rfl, fun f' h1 h2 => (Nat.lt_or_ge f' i).elim (fun l => hN f' h1 l) (fun l => by have e : f' = i := (by omega); subst e; exact fun z => y2 ((STN_1 hU rw_ rW (by omega)).mpr z.2))⟩)
      · conv => whnf
        (refine ⟨fun z9 => ?_, fun z9 => ?_⟩ <;> first | ((have c9 : (1 : Int32) = 0 := by with_reducible exact z9); exact absurd c9 (by decide)) | exact absurd (rfl : (0 : Int32) = 0) (by with_reducible exact z9) | exact absurd True.intro (by with_reducible exact z9) | exact False.elim (by with_reducible exact z9) | (conv => whnf))
        exact fsf0_lp hd hU rh rw_ rH rW H1 H0 k (i + 1) _ _ (by omega) ⟨by omega, nI_1 i⟩ (Or.inl ⟨rfl, fun f' h1 h2 => (Nat.lt_or_ge f' i).elim (fun l => hN f' h1 l) (fun l => by have e : f' = i := (by omega); subst e; exact fun z => y1 ((STN_1 hU rh rH (by omega)).mpr z.1))⟩)
    · (refine ⟨fun z9 => ?_, fun z9 => ?_⟩ <;> first | ((have c9 : (1 : Int32) = 0 := by with_reducible exact z9); exact absurd c9 (by decide)) | exact absurd (rfl : (0 : Int32) = 0) (by with_reducible exact z9) | exact absurd True.intro (by with_reducible exact z9) | exact False.elim (by with_reducible exact z9) | (conv => whnf))
      have G := H1 hY
      first | exact ⟨Or.inr rfl, G⟩ | exact G
theorem nofit1 {U h w H W : Int32} (hN : ∀ f' : Nat, 20 ≤ f' → f' < 121 → ¬ (ONE U h H (f' : Int) ∧ ONE U w W (f' : Int))) : ¬ FIT U 1 h w H W := by
  rintro ⟨f', hf, p, q⟩
  have e : 20 ≤ f' ∧ f' ≤ 120 := by
    rcases hf with z | z
    · first | exact absurd z.1 (by decide) | omega
    · first | exact absurd rfl z.1 | omega
  have c : ((f'.toNat : Nat) : Int) = f' := Int.toNat_of_nonneg (by omega)
  exact hN f'.toNat (by omega) (by omega) (by rw [c]; exact ⟨p, q⟩)
set_option maxRecDepth 100000 in
set_option maxHeartbeats 4000000 in
theorem fsf1_lp {d L : Nat} {f : Nat → Nat → Int32} {g : Nat → Nat → Int64} {U h w H W : Int32} {R : Option Value → mH → Prop} (hd : 2 ≤ d) (hU : U = 0 ∨ U = 1) (rh : inr 10 5000 h) (rw_ : inr 10 5000 w) (rH : inr 1 6000 H) (rW : inr 1 6000 W) (H1 : FIT U 1 h w H W → R (some (.int 1)) (shF L, f, g)) (H0 : ¬ FIT U 1 h w H W → R (some (.int 0)) (shF L, f, g)) :
    ∀ (k i : Nat) (x b : Int32), i + k = 121 → 20 ≤ i ∧ x = nI i → ((b = 0 ∧ ∀ f' : Nat, 20 ≤ f' → f' < i → ¬ (ONE U h H (f' : Int) ∧ ONE U w W (f' : Int))) ∨ (b = 1 ∧ FIT U 1 h w H W)) → WPe pg_X11_fitsSides none (Run mtab d) R (m_drop pg_X11_fitsSides 8) [some (.int h), some (.int w), some (.int H), some (.int W), some (.int U), some (.int 1), some (.int b), some (.int x)] [] (shF L, f, g)
  | 0, i, x, b, hk, ⟨hlo, hx⟩, hB => by
    have e : i = 121 := by omega
    subst e
    subst hx
    refine at_X11_fitsSides ?_
    conv => whnf
    (refine ⟨fun z9 => ?_, fun z9 => ?_⟩ <;> first | ((have c9 : (1 : Int32) = 0 := by with_reducible exact z9); exact absurd c9 (by decide)) | exact absurd (rfl : (0 : Int32) = 0) (by with_reducible exact z9) | exact absurd True.intro (by with_reducible exact z9) | exact False.elim (by with_reducible exact z9) | (conv => whnf))
    refine ⟨fun q9 => ?_, fun q9 => absurd (by decide) q9⟩
    rcases hB with ⟨rfl, hN⟩ | ⟨rfl, hY⟩
    · conv => whnf
      have G := H0 (nofit1 hN)
      first | exact ⟨Or.inl rfl, G⟩ | exact G
    · conv => whnf
      have G := H1 hY
      first | exact ⟨Or.inr rfl, G⟩ | exact G
  | k + 1, i, x, b, hk, ⟨hlo, hx⟩, hB => by
    subst hx
    refine at_X11_fitsSides ?_
    conv => whnf
    (refine ⟨fun z9 => ?_, fun z9 => ?_⟩ <;> first | ((have c9 : (1 : Int32) = 0 := by with_reducible exact z9); exact absurd c9 (by decide)) | exact absurd (rfl : (0 : Int32) = 0) (by with_reducible exact z9) | exact absurd True.intro (by with_reducible exact z9) | exact False.elim (by with_reducible exact z9) | (conv => whnf))
    refine ⟨fun q9 => absurd q9 (nI_nlt (a := 120) (b := i) (by omega) (by omega)), fun q9 => ?_⟩
    conv => whnf
    rcases hB with ⟨rfl, hN⟩ | ⟨rfl, hY⟩
    · (refine ⟨fun z9 => ?_, fun z9 => ?_⟩ <;> first | ((have c9 : (1 : Int32) = 0 := by with_reducible exact z9); exact absurd c9 (by decide)) | exact absurd (rfl : (0 : Int32) = 0) (by with_reducible exact z9) | exact absurd True.intro (by with_reducible exact z9) | exact False.elim (by with_reducible exact z9) | (conv => whnf))
      refine smf_standsFor (by omega) hU (fun y1 => ?_) (fun y1 => ?_)
      · conv => whnf
        (refine ⟨fun z9 => ?_, fun z9 => ?_⟩ <;> first | ((have c9 : (1 : Int32) = 0 := by with_reducible exact z9); exact absurd c9 (by decide)) | exact absurd (rfl : (0 : Int32) = 0) (by with_reducible exact z9) | exact absurd True.intro (by with_reducible exact z9) | exact False.elim (by with_reducible exact z9) | (conv => whnf))
        refine smf_standsFor (by omega) hU (fun y2 => ?_) (fun y2 => ?_)
        · conv => whnf
          (refine ⟨fun z9 => ?_, fun z9 => ?_⟩ <;> first | ((have c9 : (1 : Int32) = 0 := by with_reducible exact z9); exact absurd c9 (by decide)) | exact absurd (rfl : (0 : Int32) = 0) (by with_reducible exact z9) | exact absurd True.intro (by with_reducible exact z9) | exact False.elim (by with_reducible exact z9) | (conv => whnf))
          exact fsf1_lp hd hU rh rw_ rH rW H1 H0 k (i + 1) _ _ (by omega) ⟨by omega, nI_1 i⟩ (Or.inr ⟨rfl, ⟨(i : Int), Or.inr ⟨by decide, by omega, by omega⟩, (STN_1 hU rh rH (by omega)).mp y1, (STN_1 hU rw_ rW (by omega)).mp y2⟩⟩)
        · conv => whnf
          (refine ⟨fun z9 => ?_, fun z9 => ?_⟩ <;> first | ((have c9 : (1 : Int32) = 0 := by with_reducible exact z9); exact absurd c9 (by decide)) | exact absurd (rfl : (0 : Int32) = 0) (by with_reducible exact z9) | exact absurd True.intro (by with_reducible exact z9) | exact False.elim (by with_reducible exact z9) | (conv => whnf))
          exact fsf1_lp hd hU rh rw_ rH rW H1 H0 k (i + 1) _ _ (by omega) ⟨by omega, nI_1 i⟩ (Or.inl ⟨rfl, fun f' h1 h2 => (Nat.lt_or_ge f' i).elim (fun l => hN f' h1 l) (fun l => by have e : f' = i := (by omega); subst e; exact fun z => y2 ((STN_1 hU rw_ rW (by omega)).mpr z.2))⟩)
      · conv => whnf
        (refine ⟨fun z9 => ?_, fun z9 => ?_⟩ <;> first | ((have c9 : (1 : Int32) = 0 := by with_reducible exact z9); exact absurd c9 (by decide)) | exact absurd (rfl : (0 : Int32) = 0) (by with_reducible exact z9) | exact absurd True.intro (by with_reducible exact z9) | exact False.elim (by with_reducible exact z9) | (conv => whnf))
        exact fsf1_lp hd hU rh rw_ rH rW H1 H0 k (i + 1) _ _ (by omega) ⟨by omega, nI_1 i⟩ (Or.inl ⟨rfl, fun f' h1 h2 => (Nat.lt_or_ge f' i).elim (fun l => hN f' h1 l) (fun l => by have e : f' = i := (by omega); subst e; exact fun z => y1 ((STN_1 hU rh rH (by omega)).mpr z.1))⟩)
    · (refine ⟨fun z9 => ?_, fun z9 => ?_⟩ <;> first | ((have c9 : (1 : Int32) = 0 := by with_reducible exact z9); exact absurd c9 (by decide)) | exact absurd (rfl : (0 : Int32) = 0) (by with_reducible exact z9) | exact absurd True.intro (by with_reducible exact z9) | exact False.elim (by with_reducible exact z9) | (conv => whnf))
      have G := H1 hY
      first | exact ⟨Or.inr rfl, G⟩ | exact G
set_option maxRecDepth 100000 in
set_option maxHeartbeats 4000000 in
theorem smf_fitsSides {d L : Nat} {f : Nat → Nat → Int32} {g : Nat → Nat → Int64} {U F h w H W : Int32} {R : Option Value → mH → Prop} (hd : 3 ≤ d) (hU : U = 0 ∨ U = 1) (hF : F = 0 ∨ F = 1) (rh : inr 10 5000 h) (rw_ : inr 10 5000 w) (rH : inr 1 6000 H) (rW : inr 1 6000 W) (H1 : FIT U F h w H W → R (some (.int 1)) (shF L, f, g)) (H0 : ¬ FIT U F h w H W → R (some (.int 0)) (shF L, f, g)) : Run mtab d 192 [.int h, .int w, .int H, .int W, .int U, .int F] (shF L, f, g) R := by
  obtain ⟨d, rfl⟩ : ∃ e, d = e + 1 := ⟨d - 1, by omega⟩
  refine go_X11_fitsSides rfl ?_
  conv => whnf
  rcases hF with rfl | rfl
  · (refine ⟨fun z9 => ?_, fun z9 => ?_⟩ <;> first | ((have c9 : (1 : Int32) = 0 := by with_reducible exact z9); exact absurd c9 (by decide)) | exact absurd (rfl : (0 : Int32) = 0) (by with_reducible exact z9) | exact absurd True.intro (by with_reducible exact z9) | exact False.elim (by with_reducible exact z9) | (conv => whnf))
    exact fsf0_lp (by omega) hU rh rw_ rH rW H1 H0 1 0 _ _ (by omega) ⟨by omega, rfl⟩ (Or.inl ⟨rfl, fun f' h1 h2 => absurd h2 (by omega)⟩)
  · (refine ⟨fun z9 => ?_, fun z9 => ?_⟩ <;> first | ((have c9 : (1 : Int32) = 0 := by with_reducible exact z9); exact absurd c9 (by decide)) | exact absurd (rfl : (0 : Int32) = 0) (by with_reducible exact z9) | exact absurd True.intro (by with_reducible exact z9) | exact False.elim (by with_reducible exact z9) | (conv => whnf))
    exact fsf1_lp (by omega) hU rh rw_ rH rW H1 H0 101 20 _ _ (by omega) ⟨by omega, rfl⟩ (Or.inl ⟨rfl, fun f' h1 h2 => absurd h2 (by omega)⟩)
def hM (f : Nat → Nat → Int32) (w : Nat) (y : Int32) : Int32 := if 0 < f 192 w ∧ f 192 w ≤ y then f 193 w else f 185 w
def wM (f : Nat → Nat → Int32) (w : Nat) (y : Int32) : Int32 := if 0 < f 192 w ∧ f 192 w ≤ y then f 194 w else f 186 w
def SFM (f : Nat → Nat → Int32) (m w : Nat) : Prop := FIT (f 203 (9 * m + 5)) (f 203 (9 * m + 6)) (hM f w (f 203 (9 * m + 2))) (wM f w (f 203 (9 * m + 2))) (f 203 (9 * m + 3)) (f 203 (9 * m + 4)) ∨ (f 203 (9 * m) = 2 ∧ FIT (f 203 (9 * m + 5)) (f 203 (9 * m + 6)) (wM f w (f 203 (9 * m + 2))) (hM f w (f 203 (9 * m + 2))) (f 203 (9 * m + 3)) (f 203 (9 * m + 4)))
noncomputable def scw (bad sized : Prop) (B ow hd : Int32) : Int32 := ci bad 0 (ci (¬ ow < 0 ∧ ¬ ow = hd) 0 (sc4 (4 * B + ci sized 3 0 + ci (¬ ow < 0) 5 0)))
noncomputable def scM (f : Nat → Nat → Int32) (v h m w : Nat) : Int32 := scw ((0 < f 203 (9 * m + 3) ∧ ¬ SFM f m w) ∨ f 203 (9 * m + 2) < f 200 w ∨ (smp f 9999 (nI w) v).1 = 2) (0 < f 203 (9 * m + 3)) (onE (f 203 (9 * m + 7) &&& titM f w (f 191 w).toNatClampNeg (f 203 (9 * m + 2)))) (ci (f 203 (9 * m + 8) < 0) (-4) (ownl (fun a => ¬ a < 0) (PM f 3 4 (nI w) (f 203 (9 * m + 2))) (fun i => f 195 (6 * i + 1)) h 0 (-4))) (f 203 (9 * m + 8))
set_option maxRecDepth 100000 in
set_option maxHeartbeats 4000000 in
theorem smf_fitsSizes {d L : Nat} {f : Nat → Nat → Int32} {g : Nat → Nat → Int64} {m w : Nat} {R : Option Value → mH → Prop} (hd : 4 ≤ d) (hm : m < 50) (hw : w < 40) (hU : f 203 (9 * m + 5) = 0 ∨ f 203 (9 * m + 5) = 1) (hF : f 203 (9 * m + 6) = 0 ∨ f 203 (9 * m + 6) = 1) (rH : inr 1 6000 (f 203 (9 * m + 3))) (rW : inr 1 6000 (f 203 (9 * m + 4))) (rh : inr 10 5000 (hM f w (f 203 (9 * m + 2)))) (rw_ : inr 10 5000 (wM f w (f 203 (9 * m + 2)))) (H1 : SFM f m w → R (some (.int 1)) (shF L, f, g)) (H0 : ¬ SFM f m w → R (some (.int 0)) (shF L, f, g)) : Run mtab d 193 [.ref 181, .int (nI (9 * m)), .int (nI w)] (shF L, f, g) R := by
  obtain ⟨d, rfl⟩ : ∃ e, d = e + 1 := ⟨d - 1, by omega⟩
  refine go_X11_fitsSizes rfl ?_
  conv => whnf
  have hc0 : (nI (9 * m)).toNatClampNeg = 9 * m := nI_clamp (by omega)
  have hc1 : (nI (9 * m + 1)).toNatClampNeg = 9 * m + 1 := nI_clamp (by omega)
  have hc2 : (nI (9 * m + 2)).toNatClampNeg = 9 * m + 2 := nI_clamp (by omega)
  have hc3 : (nI (9 * m + 3)).toNatClampNeg = 9 * m + 3 := nI_clamp (by omega)
  have hc4 : (nI (9 * m + 4)).toNatClampNeg = 9 * m + 4 := nI_clamp (by omega)
  have hc5 : (nI (9 * m + 5)).toNatClampNeg = 9 * m + 5 := nI_clamp (by omega)
  have hc6 : (nI (9 * m + 6)).toNatClampNeg = 9 * m + 6 := nI_clamp (by omega)
  have hc7 : (nI (9 * m + 7)).toNatClampNeg = 9 * m + 7 := nI_clamp (by omega)
  have hc8 : (nI (9 * m + 8)).toNatClampNeg = 9 * m + 8 := nI_clamp (by omega)
  (try simp only [nI_9m, nI_1, nI_k _ 2 2 rfl, nI_k _ 3 3 rfl, nI_k _ 4 4 rfl, nI_k _ 5 5 rfl, nI_k _ 6 6 rfl, nI_k _ 7 7 rfl, nI_k _ 8 8 rfl])
  refine ⟨vp_in_nI (by omega) (by decide), ?_⟩
  conv => whnf
  (try simp only [nI_9m, nI_1, nI_k _ 2 2 rfl, nI_k _ 3 3 rfl, nI_k _ 4 4 rfl, nI_k _ 5 5 rfl, nI_k _ 6 6 rfl, nI_k _ 7 7 rfl, nI_k _ 8 8 rfl])
  (try simp only [hc0, hc1, hc2, hc3, hc4, hc5, hc6, hc7, hc8])
  refine sm_heightOf (by omega) hw ?_
  conv => whnf
  (try simp only [nI_9m, nI_1, nI_k _ 2 2 rfl, nI_k _ 3 3 rfl, nI_k _ 4 4 rfl, nI_k _ 5 5 rfl, nI_k _ 6 6 rfl, nI_k _ 7 7 rfl, nI_k _ 8 8 rfl])
  refine ⟨vp_in_nI (by omega) (by decide), ?_⟩
  conv => whnf
  (try simp only [nI_9m, nI_1, nI_k _ 2 2 rfl, nI_k _ 3 3 rfl, nI_k _ 4 4 rfl, nI_k _ 5 5 rfl, nI_k _ 6 6 rfl, nI_k _ 7 7 rfl, nI_k _ 8 8 rfl])
  (try simp only [hc0, hc1, hc2, hc3, hc4, hc5, hc6, hc7, hc8])
  refine sm_widthOf (by omega) hw ?_
  conv => whnf
  (try simp only [nI_9m, nI_1, nI_k _ 2 2 rfl, nI_k _ 3 3 rfl, nI_k _ 4 4 rfl, nI_k _ 5 5 rfl, nI_k _ 6 6 rfl, nI_k _ 7 7 rfl, nI_k _ 8 8 rfl])
  refine ⟨vp_in_nI (by omega) (by decide), ?_⟩
  conv => whnf
  (try simp only [nI_9m, nI_1, nI_k _ 2 2 rfl, nI_k _ 3 3 rfl, nI_k _ 4 4 rfl, nI_k _ 5 5 rfl, nI_k _ 6 6 rfl, nI_k _ 7 7 rfl, nI_k _ 8 8 rfl])
  (try simp only [hc0, hc1, hc2, hc3, hc4, hc5, hc6, hc7, hc8])
  rcases hF with eF | eF
  · simp only [eF]
    refine ⟨fun _ => ?_, fun z9 => absurd z9 (by decide)⟩
    conv => whnf
    (try simp only [nI_9m, nI_1, nI_k _ 2 2 rfl, nI_k _ 3 3 rfl, nI_k _ 4 4 rfl, nI_k _ 5 5 rfl, nI_k _ 6 6 rfl, nI_k _ 7 7 rfl, nI_k _ 8 8 rfl])
    refine ⟨vp_in_nI (by omega) (by decide), ?_⟩
    conv => whnf
    (try simp only [nI_9m, nI_1, nI_k _ 2 2 rfl, nI_k _ 3 3 rfl, nI_k _ 4 4 rfl, nI_k _ 5 5 rfl, nI_k _ 6 6 rfl, nI_k _ 7 7 rfl, nI_k _ 8 8 rfl])
    (try simp only [hc0, hc1, hc2, hc3, hc4, hc5, hc6, hc7, hc8])
    (try simp only [nI_9m, nI_1, nI_k _ 2 2 rfl, nI_k _ 3 3 rfl, nI_k _ 4 4 rfl, nI_k _ 5 5 rfl, nI_k _ 6 6 rfl, nI_k _ 7 7 rfl, nI_k _ 8 8 rfl])
    refine ⟨vp_in_nI (by omega) (by decide), ?_⟩
    conv => whnf
    (try simp only [nI_9m, nI_1, nI_k _ 2 2 rfl, nI_k _ 3 3 rfl, nI_k _ 4 4 rfl, nI_k _ 5 5 rfl, nI_k _ 6 6 rfl, nI_k _ 7 7 rfl, nI_k _ 8 8 rfl])
    (try simp only [hc0, hc1, hc2, hc3, hc4, hc5, hc6, hc7, hc8])
    (try simp only [nI_9m, nI_1, nI_k _ 2 2 rfl, nI_k _ 3 3 rfl, nI_k _ 4 4 rfl, nI_k _ 5 5 rfl, nI_k _ 6 6 rfl, nI_k _ 7 7 rfl, nI_k _ 8 8 rfl])
    refine ⟨vp_in_nI (by omega) (by decide), ?_⟩
    conv => whnf
    (try simp only [nI_9m, nI_1, nI_k _ 2 2 rfl, nI_k _ 3 3 rfl, nI_k _ 4 4 rfl, nI_k _ 5 5 rfl, nI_k _ 6 6 rfl, nI_k _ 7 7 rfl, nI_k _ 8 8 rfl])
    (try simp only [hc0, hc1, hc2, hc3, hc4, hc5, hc6, hc7, hc8])
    refine smf_fitsSides (by omega) hU (Or.inl rfl) rh rw_ rH rW (fun y => ?_) (fun n1 => ?_)
    · conv => whnf
      (refine ⟨fun z9 => ?_, fun z9 => ?_⟩ <;> first | ((have c9 : (1 : Int32) = 0 := by with_reducible exact z9); exact absurd c9 (by decide)) | exact absurd (rfl : (0 : Int32) = 0) (by with_reducible exact z9) | exact absurd True.intro (by with_reducible exact z9) | exact False.elim (by with_reducible exact z9) | (conv => whnf))
      conv => whnf
      have G := H1 (by unfold SFM; rw [eF]; exact Or.inl y)
      first | exact ⟨Or.inr rfl, G⟩ | exact G
    · conv => whnf
      (refine ⟨fun z9 => ?_, fun z9 => ?_⟩ <;> first | ((have c9 : (1 : Int32) = 0 := by with_reducible exact z9); exact absurd c9 (by decide)) | exact absurd (rfl : (0 : Int32) = 0) (by with_reducible exact z9) | exact absurd True.intro (by with_reducible exact z9) | exact False.elim (by with_reducible exact z9) | (conv => whnf))
      (try simp only [nI_9m, nI_1, nI_k _ 2 2 rfl, nI_k _ 3 3 rfl, nI_k _ 4 4 rfl, nI_k _ 5 5 rfl, nI_k _ 6 6 rfl, nI_k _ 7 7 rfl, nI_k _ 8 8 rfl])
      refine ⟨vp_in_nI (by omega) (by decide), ?_⟩
      conv => whnf
      (try simp only [nI_9m, nI_1, nI_k _ 2 2 rfl, nI_k _ 3 3 rfl, nI_k _ 4 4 rfl, nI_k _ 5 5 rfl, nI_k _ 6 6 rfl, nI_k _ 7 7 rfl, nI_k _ 8 8 rfl])
      (try simp only [hc0, hc1, hc2, hc3, hc4, hc5, hc6, hc7, hc8])
      refine ⟨fun c2 => ?_, fun c2 => ?_⟩
      · conv => whnf
        have G := H0 (fun z => by unfold SFM at z; rw [eF] at z; exact z.elim n1 (fun z3 => c2 z3.1))
        first | exact ⟨Or.inl rfl, G⟩ | exact G
      · conv => whnf
        (try simp only [nI_9m, nI_1, nI_k _ 2 2 rfl, nI_k _ 3 3 rfl, nI_k _ 4 4 rfl, nI_k _ 5 5 rfl, nI_k _ 6 6 rfl, nI_k _ 7 7 rfl, nI_k _ 8 8 rfl])
        refine ⟨vp_in_nI (by omega) (by decide), ?_⟩
        conv => whnf
        (try simp only [nI_9m, nI_1, nI_k _ 2 2 rfl, nI_k _ 3 3 rfl, nI_k _ 4 4 rfl, nI_k _ 5 5 rfl, nI_k _ 6 6 rfl, nI_k _ 7 7 rfl, nI_k _ 8 8 rfl])
        (try simp only [hc0, hc1, hc2, hc3, hc4, hc5, hc6, hc7, hc8])
        (try simp only [nI_9m, nI_1, nI_k _ 2 2 rfl, nI_k _ 3 3 rfl, nI_k _ 4 4 rfl, nI_k _ 5 5 rfl, nI_k _ 6 6 rfl, nI_k _ 7 7 rfl, nI_k _ 8 8 rfl])
        refine ⟨vp_in_nI (by omega) (by decide), ?_⟩
        conv => whnf
        (try simp only [nI_9m, nI_1, nI_k _ 2 2 rfl, nI_k _ 3 3 rfl, nI_k _ 4 4 rfl, nI_k _ 5 5 rfl, nI_k _ 6 6 rfl, nI_k _ 7 7 rfl, nI_k _ 8 8 rfl])
        (try simp only [hc0, hc1, hc2, hc3, hc4, hc5, hc6, hc7, hc8])
        (try simp only [nI_9m, nI_1, nI_k _ 2 2 rfl, nI_k _ 3 3 rfl, nI_k _ 4 4 rfl, nI_k _ 5 5 rfl, nI_k _ 6 6 rfl, nI_k _ 7 7 rfl, nI_k _ 8 8 rfl])
        refine ⟨vp_in_nI (by omega) (by decide), ?_⟩
        conv => whnf
        (try simp only [nI_9m, nI_1, nI_k _ 2 2 rfl, nI_k _ 3 3 rfl, nI_k _ 4 4 rfl, nI_k _ 5 5 rfl, nI_k _ 6 6 rfl, nI_k _ 7 7 rfl, nI_k _ 8 8 rfl])
        (try simp only [hc0, hc1, hc2, hc3, hc4, hc5, hc6, hc7, hc8])
        refine smf_fitsSides (by omega) hU (Or.inl rfl) rw_ rh rH rW (fun y => ?_) (fun n2 => ?_)
        · conv => whnf
          (refine ⟨fun z9 => ?_, fun z9 => ?_⟩ <;> first | ((have c9 : (1 : Int32) = 0 := by with_reducible exact z9); exact absurd c9 (by decide)) | exact absurd (rfl : (0 : Int32) = 0) (by with_reducible exact z9) | exact absurd True.intro (by with_reducible exact z9) | exact False.elim (by with_reducible exact z9) | (conv => whnf))
          conv => whnf
          have G := H1 (by unfold SFM; rw [eF]; exact Or.inr ⟨c2, y⟩)
          first | exact ⟨Or.inr rfl, G⟩ | exact G
        · conv => whnf
          (refine ⟨fun z9 => ?_, fun z9 => ?_⟩ <;> first | ((have c9 : (1 : Int32) = 0 := by with_reducible exact z9); exact absurd c9 (by decide)) | exact absurd (rfl : (0 : Int32) = 0) (by with_reducible exact z9) | exact absurd True.intro (by with_reducible exact z9) | exact False.elim (by with_reducible exact z9) | (conv => whnf))
          conv => whnf
          have G := H0 (fun z => by unfold SFM at z; rw [eF] at z; exact z.elim n1 (fun z3 => n2 z3.2))
          first | exact ⟨Or.inl rfl, G⟩ | exact G
  · simp only [eF]
    (refine ⟨fun z9 => ?_, fun z9 => ?_⟩ <;> first | ((have c9 : (1 : Int32) = 0 := by with_reducible exact z9); exact absurd c9 (by decide)) | exact absurd (rfl : (0 : Int32) = 0) (by with_reducible exact z9) | exact absurd True.intro (by with_reducible exact z9) | exact False.elim (by with_reducible exact z9) | (conv => whnf))
    (try simp only [nI_9m, nI_1, nI_k _ 2 2 rfl, nI_k _ 3 3 rfl, nI_k _ 4 4 rfl, nI_k _ 5 5 rfl, nI_k _ 6 6 rfl, nI_k _ 7 7 rfl, nI_k _ 8 8 rfl])
    refine ⟨vp_in_nI (by omega) (by decide), ?_⟩
    conv => whnf
    (try simp only [nI_9m, nI_1, nI_k _ 2 2 rfl, nI_k _ 3 3 rfl, nI_k _ 4 4 rfl, nI_k _ 5 5 rfl, nI_k _ 6 6 rfl, nI_k _ 7 7 rfl, nI_k _ 8 8 rfl])
    (try simp only [hc0, hc1, hc2, hc3, hc4, hc5, hc6, hc7, hc8])
    (try simp only [nI_9m, nI_1, nI_k _ 2 2 rfl, nI_k _ 3 3 rfl, nI_k _ 4 4 rfl, nI_k _ 5 5 rfl, nI_k _ 6 6 rfl, nI_k _ 7 7 rfl, nI_k _ 8 8 rfl])
    refine ⟨vp_in_nI (by omega) (by decide), ?_⟩
    conv => whnf
    (try simp only [nI_9m, nI_1, nI_k _ 2 2 rfl, nI_k _ 3 3 rfl, nI_k _ 4 4 rfl, nI_k _ 5 5 rfl, nI_k _ 6 6 rfl, nI_k _ 7 7 rfl, nI_k _ 8 8 rfl])
    (try simp only [hc0, hc1, hc2, hc3, hc4, hc5, hc6, hc7, hc8])
    (try simp only [nI_9m, nI_1, nI_k _ 2 2 rfl, nI_k _ 3 3 rfl, nI_k _ 4 4 rfl, nI_k _ 5 5 rfl, nI_k _ 6 6 rfl, nI_k _ 7 7 rfl, nI_k _ 8 8 rfl])
    refine ⟨vp_in_nI (by omega) (by decide), ?_⟩
    conv => whnf
    (try simp only [nI_9m, nI_1, nI_k _ 2 2 rfl, nI_k _ 3 3 rfl, nI_k _ 4 4 rfl, nI_k _ 5 5 rfl, nI_k _ 6 6 rfl, nI_k _ 7 7 rfl, nI_k _ 8 8 rfl])
    (try simp only [hc0, hc1, hc2, hc3, hc4, hc5, hc6, hc7, hc8])
    refine smf_fitsSides (by omega) hU (Or.inr rfl) rh rw_ rH rW (fun y => ?_) (fun n1 => ?_)
    · conv => whnf
      (refine ⟨fun z9 => ?_, fun z9 => ?_⟩ <;> first | ((have c9 : (1 : Int32) = 0 := by with_reducible exact z9); exact absurd c9 (by decide)) | exact absurd (rfl : (0 : Int32) = 0) (by with_reducible exact z9) | exact absurd True.intro (by with_reducible exact z9) | exact False.elim (by with_reducible exact z9) | (conv => whnf))
      conv => whnf
      have G := H1 (by unfold SFM; rw [eF]; exact Or.inl y)
      first | exact ⟨Or.inr rfl, G⟩ | exact G
    · conv => whnf
      (refine ⟨fun z9 => ?_, fun z9 => ?_⟩ <;> first | ((have c9 : (1 : Int32) = 0 := by with_reducible exact z9); exact absurd c9 (by decide)) | exact absurd (rfl : (0 : Int32) = 0) (by with_reducible exact z9) | exact absurd True.intro (by with_reducible exact z9) | exact False.elim (by with_reducible exact z9) | (conv => whnf))
      (try simp only [nI_9m, nI_1, nI_k _ 2 2 rfl, nI_k _ 3 3 rfl, nI_k _ 4 4 rfl, nI_k _ 5 5 rfl, nI_k _ 6 6 rfl, nI_k _ 7 7 rfl, nI_k _ 8 8 rfl])
      refine ⟨vp_in_nI (by omega) (by decide), ?_⟩
      conv => whnf
      (try simp only [nI_9m, nI_1, nI_k _ 2 2 rfl, nI_k _ 3 3 rfl, nI_k _ 4 4 rfl, nI_k _ 5 5 rfl, nI_k _ 6 6 rfl, nI_k _ 7 7 rfl, nI_k _ 8 8 rfl])
      (try simp only [hc0, hc1, hc2, hc3, hc4, hc5, hc6, hc7, hc8])
      refine ⟨fun c2 => ?_, fun c2 => ?_⟩
      · conv => whnf
        have G := H0 (fun z => by unfold SFM at z; rw [eF] at z; exact z.elim n1 (fun z3 => c2 z3.1))
        first | exact ⟨Or.inl rfl, G⟩ | exact G
      · conv => whnf
        (try simp only [nI_9m, nI_1, nI_k _ 2 2 rfl, nI_k _ 3 3 rfl, nI_k _ 4 4 rfl, nI_k _ 5 5 rfl, nI_k _ 6 6 rfl, nI_k _ 7 7 rfl, nI_k _ 8 8 rfl])
        refine ⟨vp_in_nI (by omega) (by decide), ?_⟩
        conv => whnf
        (try simp only [nI_9m, nI_1, nI_k _ 2 2 rfl, nI_k _ 3 3 rfl, nI_k _ 4 4 rfl, nI_k _ 5 5 rfl, nI_k _ 6 6 rfl, nI_k _ 7 7 rfl, nI_k _ 8 8 rfl])
        (try simp only [hc0, hc1, hc2, hc3, hc4, hc5, hc6, hc7, hc8])
        (try simp only [nI_9m, nI_1, nI_k _ 2 2 rfl, nI_k _ 3 3 rfl, nI_k _ 4 4 rfl, nI_k _ 5 5 rfl, nI_k _ 6 6 rfl, nI_k _ 7 7 rfl, nI_k _ 8 8 rfl])
        refine ⟨vp_in_nI (by omega) (by decide), ?_⟩
        conv => whnf
        (try simp only [nI_9m, nI_1, nI_k _ 2 2 rfl, nI_k _ 3 3 rfl, nI_k _ 4 4 rfl, nI_k _ 5 5 rfl, nI_k _ 6 6 rfl, nI_k _ 7 7 rfl, nI_k _ 8 8 rfl])
        (try simp only [hc0, hc1, hc2, hc3, hc4, hc5, hc6, hc7, hc8])
        (try simp only [nI_9m, nI_1, nI_k _ 2 2 rfl, nI_k _ 3 3 rfl, nI_k _ 4 4 rfl, nI_k _ 5 5 rfl, nI_k _ 6 6 rfl, nI_k _ 7 7 rfl, nI_k _ 8 8 rfl])
        refine ⟨vp_in_nI (by omega) (by decide), ?_⟩
        conv => whnf
        (try simp only [nI_9m, nI_1, nI_k _ 2 2 rfl, nI_k _ 3 3 rfl, nI_k _ 4 4 rfl, nI_k _ 5 5 rfl, nI_k _ 6 6 rfl, nI_k _ 7 7 rfl, nI_k _ 8 8 rfl])
        (try simp only [hc0, hc1, hc2, hc3, hc4, hc5, hc6, hc7, hc8])
        refine smf_fitsSides (by omega) hU (Or.inr rfl) rw_ rh rH rW (fun y => ?_) (fun n2 => ?_)
        · conv => whnf
          (refine ⟨fun z9 => ?_, fun z9 => ?_⟩ <;> first | ((have c9 : (1 : Int32) = 0 := by with_reducible exact z9); exact absurd c9 (by decide)) | exact absurd (rfl : (0 : Int32) = 0) (by with_reducible exact z9) | exact absurd True.intro (by with_reducible exact z9) | exact False.elim (by with_reducible exact z9) | (conv => whnf))
          conv => whnf
          have G := H1 (by unfold SFM; rw [eF]; exact Or.inr ⟨c2, y⟩)
          first | exact ⟨Or.inr rfl, G⟩ | exact G
        · conv => whnf
          (refine ⟨fun z9 => ?_, fun z9 => ?_⟩ <;> first | ((have c9 : (1 : Int32) = 0 := by with_reducible exact z9); exact absurd c9 (by decide)) | exact absurd (rfl : (0 : Int32) = 0) (by with_reducible exact z9) | exact absurd True.intro (by with_reducible exact z9) | exact False.elim (by with_reducible exact z9) | (conv => whnf))
          conv => whnf
          have G := H0 (fun z => by unfold SFM at z; rw [eF] at z; exact z.elim n1 (fun z3 => n2 z3.2))
          first | exact ⟨Or.inl rfl, G⟩ | exact G
set_option maxRecDepth 100000 in
set_option maxHeartbeats 4000000 in
theorem smf_scoreOf {d L : Nat} {f : Nat → Nat → Int32} {g : Nat → Nat → Int64} {m w q v h : Nat} {R : Option Value → mH → Prop} (hd : 5 ≤ d) (hm : m < 50) (hw : w < 40) (hU : f 203 (9 * m + 5) = 0 ∨ f 203 (9 * m + 5) = 1) (hF : f 203 (9 * m + 6) = 0 ∨ f 203 (9 * m + 6) = 1) (hHW : (f 203 (9 * m + 3) = 0 ∧ f 203 (9 * m + 4) = 0) ∨ (inr 1 6000 (f 203 (9 * m + 3)) ∧ inr 1 6000 (f 203 (9 * m + 4)))) (rh : inr 10 5000 (hM f w (f 203 (9 * m + 2)))) (rw_ : inr 10 5000 (wM f w (f 203 (9 * m + 2)))) (hq : f 191 w = nI q) (hq1 : 1 ≤ q) (hq4 : q ≤ 4) (hvb : f 181 48 = nI v) (hv : v ≤ 60) (hb9 : f 181 14 = nI h) (hm9 : h ≤ 60) (H : ∀ r, r = scM f v h m w → R (some (.int r)) (shF L, f, g)) : Run mtab d 195 [.ref 181, .int (nI m), .int (nI w)] (shF L, f, g) R := by
  obtain ⟨d, rfl⟩ : ∃ e, d = e + 1 := ⟨d - 1, by omega⟩
  refine go_X11_scoreOf rfl ?_
  conv => whnf
  have hc0 : (nI (9 * m)).toNatClampNeg = 9 * m := nI_clamp (by omega)
  have hc1 : (nI (9 * m + 1)).toNatClampNeg = 9 * m + 1 := nI_clamp (by omega)
  have hc2 : (nI (9 * m + 2)).toNatClampNeg = 9 * m + 2 := nI_clamp (by omega)
  have hc3 : (nI (9 * m + 3)).toNatClampNeg = 9 * m + 3 := nI_clamp (by omega)
  have hc4 : (nI (9 * m + 4)).toNatClampNeg = 9 * m + 4 := nI_clamp (by omega)
  have hc5 : (nI (9 * m + 5)).toNatClampNeg = 9 * m + 5 := nI_clamp (by omega)
  have hc6 : (nI (9 * m + 6)).toNatClampNeg = 9 * m + 6 := nI_clamp (by omega)
  have hc7 : (nI (9 * m + 7)).toNatClampNeg = 9 * m + 7 := nI_clamp (by omega)
  have hc8 : (nI (9 * m + 8)).toNatClampNeg = 9 * m + 8 := nI_clamp (by omega)
  have hcw : (nI w).toNatClampNeg = w := nI_clamp (by omega)
  have hqc : (f 191 w).toNatClampNeg = q := by rw [hq]; exact nI_clamp (by omega)
  (try simp only [nI_9m, nI_1, nI_k _ 2 2 rfl, nI_k _ 3 3 rfl, nI_k _ 4 4 rfl, nI_k _ 5 5 rfl, nI_k _ 6 6 rfl, nI_k _ 7 7 rfl, nI_k _ 8 8 rfl])
  refine ⟨vp_in_nI (by omega) (by decide), ?_⟩
  conv => whnf
  (try simp only [nI_9m, nI_1, nI_k _ 2 2 rfl, nI_k _ 3 3 rfl, nI_k _ 4 4 rfl, nI_k _ 5 5 rfl, nI_k _ 6 6 rfl, nI_k _ 7 7 rfl, nI_k _ 8 8 rfl])
  (try simp only [hc0, hc1, hc2, hc3, hc4, hc5, hc6, hc7, hc8])
  (try simp only [nI_9m, nI_1, nI_k _ 2 2 rfl, nI_k _ 3 3 rfl, nI_k _ 4 4 rfl, nI_k _ 5 5 rfl, nI_k _ 6 6 rfl, nI_k _ 7 7 rfl, nI_k _ 8 8 rfl])
  refine ⟨vp_in_nI (by omega) (by decide), ?_⟩
  conv => whnf
  (try simp only [nI_9m, nI_1, nI_k _ 2 2 rfl, nI_k _ 3 3 rfl, nI_k _ 4 4 rfl, nI_k _ 5 5 rfl, nI_k _ 6 6 rfl, nI_k _ 7 7 rfl, nI_k _ 8 8 rfl])
  (try simp only [hc0, hc1, hc2, hc3, hc4, hc5, hc6, hc7, hc8])
  refine ⟨fun c0 => ?_, fun c0 => ?_⟩
  · conv => whnf
    have c0b : ¬ 0 < f 203 (9 * m + 3) := i32_nlt.mpr c0
    clear c0
    have c0 := c0b
    (refine ⟨fun z9 => ?_, fun z9 => ?_⟩ <;> first | ((have c9 : (1 : Int32) = 0 := by with_reducible exact z9); exact absurd c9 (by decide)) | exact absurd (rfl : (0 : Int32) = 0) (by with_reducible exact z9) | exact absurd True.intro (by with_reducible exact z9) | exact False.elim (by with_reducible exact z9) | (conv => whnf))
    refine ⟨vp_in_nI (by omega) (by decide), ?_⟩
    conv => whnf
    simp only [hcw]
    refine ⟨fun c1 => ?_, fun c1 => ?_⟩
    · conv => whnf
      exact H _ (ci_t (Or.inr (Or.inl c1))).symm
    · conv => whnf
      (try simp only [hvb])
      refine smf_stateOf (by omega) hv ?_
      conv => whnf
      refine ⟨fun c2 => ?_, fun c2 => ?_⟩
      · conv => whnf
        have nb : ¬ ((0 < f 203 (9 * m + 3) ∧ ¬ SFM f m w) ∨ f 203 (9 * m + 2) < f 200 w ∨ (smp f 9999 (nI w) v).1 = 2) := fun z => z.elim (fun y => c0 y.1) (fun z2 => z2.elim c1 c2)
        (try simp only [nI_9m, nI_1, nI_k _ 2 2 rfl, nI_k _ 3 3 rfl, nI_k _ 4 4 rfl, nI_k _ 5 5 rfl, nI_k _ 6 6 rfl, nI_k _ 7 7 rfl, nI_k _ 8 8 rfl])
        refine ⟨vp_in_nI (by omega) (by decide), ?_⟩
        conv => whnf
        (try simp only [nI_9m, nI_1, nI_k _ 2 2 rfl, nI_k _ 3 3 rfl, nI_k _ 4 4 rfl, nI_k _ 5 5 rfl, nI_k _ 6 6 rfl, nI_k _ 7 7 rfl, nI_k _ 8 8 rfl])
        (try simp only [hc0, hc1, hc2, hc3, hc4, hc5, hc6, hc7, hc8])
        refine ⟨fun c4 => ?_, fun c4 => ?_⟩
        · conv => whnf
          have c4b : ¬ f 203 (9 * m + 8) < 0 := i32_nlt.mpr c4
          clear c4
          have c4 := c4b
          refine smf_ownerOf (by omega) hb9 hm9 ?_
          conv => whnf
          refine ⟨fun c5 => ?_, fun c5 => ?_⟩
          · conv => whnf
            (try simp only [nI_9m, nI_1, nI_k _ 2 2 rfl, nI_k _ 3 3 rfl, nI_k _ 4 4 rfl, nI_k _ 5 5 rfl, nI_k _ 6 6 rfl, nI_k _ 7 7 rfl, nI_k _ 8 8 rfl])
            refine ⟨vp_in_nI (by omega) (by decide), ?_⟩
            conv => whnf
            (try simp only [nI_9m, nI_1, nI_k _ 2 2 rfl, nI_k _ 3 3 rfl, nI_k _ 4 4 rfl, nI_k _ 5 5 rfl, nI_k _ 6 6 rfl, nI_k _ 7 7 rfl, nI_k _ 8 8 rfl])
            (try simp only [hc0, hc1, hc2, hc3, hc4, hc5, hc6, hc7, hc8])
            refine sm_titleOf (by omega) hw hq hq1 hq4 ?_
            conv => whnf
            refine smf_ones (by omega) ?_
            conv => whnf
            (refine ⟨fun z9 => ?_, fun z9 => ?_⟩ <;> first | ((have c9 : (1 : Int32) = 0 := by with_reducible exact z9); exact absurd c9 (by decide)) | exact absurd (rfl : (0 : Int32) = 0) (by with_reducible exact z9) | exact absurd True.intro (by with_reducible exact z9) | exact False.elim (by with_reducible exact z9) | (conv => whnf))
            refine ⟨fun _ => ?_, fun c9 => absurd c5 c9⟩
            conv => whnf
            have es : scM f v h m w = sc4 (4 * onE (f 203 (9 * m + 7) &&& titM f w q (f 203 (9 * m + 2))) + 0 + 0) := by
              unfold scM scw
              rw [hqc, ci_f c4, ci_f nb, ci_f (fun z => z.1 c5), ci_f c0, ci_f (fun z => z c5)]
            refine ⟨fun c7 => ?_, fun c7 => ?_⟩
            · conv => whnf
              exact H _ (by rw [es]; unfold sc4; rw [if_neg (i32_nlt.mpr c7)])
            · conv => whnf
              exact H _ (by rw [es]; unfold sc4; rw [if_pos (i32_nle.mp c7)])
          · conv => whnf
            (try simp only [nI_9m, nI_1, nI_k _ 2 2 rfl, nI_k _ 3 3 rfl, nI_k _ 4 4 rfl, nI_k _ 5 5 rfl, nI_k _ 6 6 rfl, nI_k _ 7 7 rfl, nI_k _ 8 8 rfl])
            refine ⟨vp_in_nI (by omega) (by decide), ?_⟩
            conv => whnf
            (try simp only [nI_9m, nI_1, nI_k _ 2 2 rfl, nI_k _ 3 3 rfl, nI_k _ 4 4 rfl, nI_k _ 5 5 rfl, nI_k _ 6 6 rfl, nI_k _ 7 7 rfl, nI_k _ 8 8 rfl])
            (try simp only [hc0, hc1, hc2, hc3, hc4, hc5, hc6, hc7, hc8])
            refine ⟨fun c6 => ?_, fun c6 => ?_⟩
            · conv => whnf
              (try simp only [nI_9m, nI_1, nI_k _ 2 2 rfl, nI_k _ 3 3 rfl, nI_k _ 4 4 rfl, nI_k _ 5 5 rfl, nI_k _ 6 6 rfl, nI_k _ 7 7 rfl, nI_k _ 8 8 rfl])
              refine ⟨vp_in_nI (by omega) (by decide), ?_⟩
              conv => whnf
              (try simp only [nI_9m, nI_1, nI_k _ 2 2 rfl, nI_k _ 3 3 rfl, nI_k _ 4 4 rfl, nI_k _ 5 5 rfl, nI_k _ 6 6 rfl, nI_k _ 7 7 rfl, nI_k _ 8 8 rfl])
              (try simp only [hc0, hc1, hc2, hc3, hc4, hc5, hc6, hc7, hc8])
              refine sm_titleOf (by omega) hw hq hq1 hq4 ?_
              conv => whnf
              refine smf_ones (by omega) ?_
              conv => whnf
              (refine ⟨fun z9 => ?_, fun z9 => ?_⟩ <;> first | ((have c9 : (1 : Int32) = 0 := by with_reducible exact z9); exact absurd c9 (by decide)) | exact absurd (rfl : (0 : Int32) = 0) (by with_reducible exact z9) | exact absurd True.intro (by with_reducible exact z9) | exact False.elim (by with_reducible exact z9) | (conv => whnf))
              refine ⟨fun c9 => absurd c9 c5, fun _ => ?_⟩
              conv => whnf
              have es : scM f v h m w = sc4 (4 * onE (f 203 (9 * m + 7) &&& titM f w q (f 203 (9 * m + 2))) + 0 + 5) := by
                unfold scM scw
                rw [hqc, ci_f c4, ci_f nb, ci_f (fun z => z.2 c6), ci_f c0, ci_t c5]
              refine ⟨fun c7 => ?_, fun c7 => ?_⟩
              · conv => whnf
                exact H _ (by rw [es]; unfold sc4; rw [if_neg (i32_nlt.mpr c7)])
              · conv => whnf
                exact H _ (by rw [es]; unfold sc4; rw [if_pos (i32_nle.mp c7)])
            · conv => whnf
              exact H _ (by unfold scM scw; rw [ci_f c4, ci_f nb]; exact (ci_t ⟨c5, c6⟩).symm)
        · conv => whnf
          have c4b : f 203 (9 * m + 8) < 0 := i32_nle.mp c4
          clear c4
          have c4 := c4b
          refine ⟨fun _ => ?_, fun z9 => absurd (by decide) z9⟩
          conv => whnf
          (try simp only [nI_9m, nI_1, nI_k _ 2 2 rfl, nI_k _ 3 3 rfl, nI_k _ 4 4 rfl, nI_k _ 5 5 rfl, nI_k _ 6 6 rfl, nI_k _ 7 7 rfl, nI_k _ 8 8 rfl])
          refine ⟨vp_in_nI (by omega) (by decide), ?_⟩
          conv => whnf
          (try simp only [nI_9m, nI_1, nI_k _ 2 2 rfl, nI_k _ 3 3 rfl, nI_k _ 4 4 rfl, nI_k _ 5 5 rfl, nI_k _ 6 6 rfl, nI_k _ 7 7 rfl, nI_k _ 8 8 rfl])
          (try simp only [hc0, hc1, hc2, hc3, hc4, hc5, hc6, hc7, hc8])
          refine sm_titleOf (by omega) hw hq hq1 hq4 ?_
          conv => whnf
          refine smf_ones (by omega) ?_
          conv => whnf
          (refine ⟨fun z9 => ?_, fun z9 => ?_⟩ <;> first | ((have c9 : (1 : Int32) = 0 := by with_reducible exact z9); exact absurd c9 (by decide)) | exact absurd (rfl : (0 : Int32) = 0) (by with_reducible exact z9) | exact absurd True.intro (by with_reducible exact z9) | exact False.elim (by with_reducible exact z9) | (conv => whnf))
          refine ⟨fun _ => ?_, fun z9 => absurd (by decide) z9⟩
          conv => whnf
          have es : scM f v h m w = sc4 (4 * onE (f 203 (9 * m + 7) &&& titM f w q (f 203 (9 * m + 2))) + 0 + 0) := by
            unfold scM scw
            rw [hqc, ci_t c4, ci_f nb, ci_f (fun z => z.1 (by decide)), ci_f c0, ci_f (fun z => z (by decide))]
          refine ⟨fun c7 => ?_, fun c7 => ?_⟩
          · conv => whnf
            exact H _ (by rw [es]; unfold sc4; rw [if_neg (i32_nlt.mpr c7)])
          · conv => whnf
            exact H _ (by rw [es]; unfold sc4; rw [if_pos (i32_nle.mp c7)])
      · conv => whnf
        exact H _ (ci_t (Or.inr (Or.inr c2))).symm
  · conv => whnf
    have c0b : 0 < f 203 (9 * m + 3) := i32_nle.mp c0
    clear c0
    have c0 := c0b
    (refine ⟨fun z9 => ?_, fun z9 => ?_⟩ <;> first | ((have c9 : (1 : Int32) = 0 := by with_reducible exact z9); exact absurd c9 (by decide)) | exact absurd (rfl : (0 : Int32) = 0) (by with_reducible exact z9) | exact absurd True.intro (by with_reducible exact z9) | exact False.elim (by with_reducible exact z9) | (conv => whnf))
    have rHW : inr 1 6000 (f 203 (9 * m + 3)) ∧ inr 1 6000 (f 203 (9 * m + 4)) := by
      rcases hHW with z | z
      · exact absurd (show (0 : Int32) < 0 by rw [z.1] at c0; exact c0) (by decide)
      · exact z
    refine smf_fitsSizes (by omega) hm hw hU hF rHW.1 rHW.2 rh rw_ (fun yS => ?_) (fun nS => ?_)
    · conv => whnf
      (refine ⟨fun z9 => ?_, fun z9 => ?_⟩ <;> first | ((have c9 : (1 : Int32) = 0 := by with_reducible exact z9); exact absurd c9 (by decide)) | exact absurd (rfl : (0 : Int32) = 0) (by with_reducible exact z9) | exact absurd True.intro (by with_reducible exact z9) | exact False.elim (by with_reducible exact z9) | (conv => whnf))
      refine ⟨vp_in_nI (by omega) (by decide), ?_⟩
      conv => whnf
      simp only [hcw]
      refine ⟨fun c1 => ?_, fun c1 => ?_⟩
      · conv => whnf
        exact H _ (ci_t (Or.inr (Or.inl c1))).symm
      · conv => whnf
        (try simp only [hvb])
        refine smf_stateOf (by omega) hv ?_
        conv => whnf
        refine ⟨fun c2 => ?_, fun c2 => ?_⟩
        · conv => whnf
          have nb : ¬ ((0 < f 203 (9 * m + 3) ∧ ¬ SFM f m w) ∨ f 203 (9 * m + 2) < f 200 w ∨ (smp f 9999 (nI w) v).1 = 2) := fun z => z.elim (fun y => y.2 yS) (fun z2 => z2.elim c1 c2)
          (try simp only [nI_9m, nI_1, nI_k _ 2 2 rfl, nI_k _ 3 3 rfl, nI_k _ 4 4 rfl, nI_k _ 5 5 rfl, nI_k _ 6 6 rfl, nI_k _ 7 7 rfl, nI_k _ 8 8 rfl])
          refine ⟨vp_in_nI (by omega) (by decide), ?_⟩
          conv => whnf
          (try simp only [nI_9m, nI_1, nI_k _ 2 2 rfl, nI_k _ 3 3 rfl, nI_k _ 4 4 rfl, nI_k _ 5 5 rfl, nI_k _ 6 6 rfl, nI_k _ 7 7 rfl, nI_k _ 8 8 rfl])
          (try simp only [hc0, hc1, hc2, hc3, hc4, hc5, hc6, hc7, hc8])
          refine ⟨fun c4 => ?_, fun c4 => ?_⟩
          · conv => whnf
            have c4b : ¬ f 203 (9 * m + 8) < 0 := i32_nlt.mpr c4
            clear c4
            have c4 := c4b
            refine smf_ownerOf (by omega) hb9 hm9 ?_
            conv => whnf
            refine ⟨fun c5 => ?_, fun c5 => ?_⟩
            · conv => whnf
              (try simp only [nI_9m, nI_1, nI_k _ 2 2 rfl, nI_k _ 3 3 rfl, nI_k _ 4 4 rfl, nI_k _ 5 5 rfl, nI_k _ 6 6 rfl, nI_k _ 7 7 rfl, nI_k _ 8 8 rfl])
              refine ⟨vp_in_nI (by omega) (by decide), ?_⟩
              conv => whnf
              (try simp only [nI_9m, nI_1, nI_k _ 2 2 rfl, nI_k _ 3 3 rfl, nI_k _ 4 4 rfl, nI_k _ 5 5 rfl, nI_k _ 6 6 rfl, nI_k _ 7 7 rfl, nI_k _ 8 8 rfl])
              (try simp only [hc0, hc1, hc2, hc3, hc4, hc5, hc6, hc7, hc8])
              refine sm_titleOf (by omega) hw hq hq1 hq4 ?_
              conv => whnf
              refine smf_ones (by omega) ?_
              conv => whnf
              (refine ⟨fun z9 => ?_, fun z9 => ?_⟩ <;> first | ((have c9 : (1 : Int32) = 0 := by with_reducible exact z9); exact absurd c9 (by decide)) | exact absurd (rfl : (0 : Int32) = 0) (by with_reducible exact z9) | exact absurd True.intro (by with_reducible exact z9) | exact False.elim (by with_reducible exact z9) | (conv => whnf))
              refine ⟨fun _ => ?_, fun c9 => absurd c5 c9⟩
              conv => whnf
              have es : scM f v h m w = sc4 (4 * onE (f 203 (9 * m + 7) &&& titM f w q (f 203 (9 * m + 2))) + 3 + 0) := by
                unfold scM scw
                rw [hqc, ci_f c4, ci_f nb, ci_f (fun z => z.1 c5), ci_t c0, ci_f (fun z => z c5)]
              refine ⟨fun c7 => ?_, fun c7 => ?_⟩
              · conv => whnf
                exact H _ (by rw [es]; unfold sc4; rw [if_neg (i32_nlt.mpr c7)])
              · conv => whnf
                exact H _ (by rw [es]; unfold sc4; rw [if_pos (i32_nle.mp c7)])
            · conv => whnf
              (try simp only [nI_9m, nI_1, nI_k _ 2 2 rfl, nI_k _ 3 3 rfl, nI_k _ 4 4 rfl, nI_k _ 5 5 rfl, nI_k _ 6 6 rfl, nI_k _ 7 7 rfl, nI_k _ 8 8 rfl])
              refine ⟨vp_in_nI (by omega) (by decide), ?_⟩
              conv => whnf
              (try simp only [nI_9m, nI_1, nI_k _ 2 2 rfl, nI_k _ 3 3 rfl, nI_k _ 4 4 rfl, nI_k _ 5 5 rfl, nI_k _ 6 6 rfl, nI_k _ 7 7 rfl, nI_k _ 8 8 rfl])
              (try simp only [hc0, hc1, hc2, hc3, hc4, hc5, hc6, hc7, hc8])
              refine ⟨fun c6 => ?_, fun c6 => ?_⟩
              · conv => whnf
                (try simp only [nI_9m, nI_1, nI_k _ 2 2 rfl, nI_k _ 3 3 rfl, nI_k _ 4 4 rfl, nI_k _ 5 5 rfl, nI_k _ 6 6 rfl, nI_k _ 7 7 rfl, nI_k _ 8 8 rfl])
                refine ⟨vp_in_nI (by omega) (by decide), ?_⟩
                conv => whnf
                (try simp only [nI_9m, nI_1, nI_k _ 2 2 rfl, nI_k _ 3 3 rfl, nI_k _ 4 4 rfl, nI_k _ 5 5 rfl, nI_k _ 6 6 rfl, nI_k _ 7 7 rfl, nI_k _ 8 8 rfl])
                (try simp only [hc0, hc1, hc2, hc3, hc4, hc5, hc6, hc7, hc8])
                refine sm_titleOf (by omega) hw hq hq1 hq4 ?_
                conv => whnf
                refine smf_ones (by omega) ?_
                conv => whnf
                (refine ⟨fun z9 => ?_, fun z9 => ?_⟩ <;> first | ((have c9 : (1 : Int32) = 0 := by with_reducible exact z9); exact absurd c9 (by decide)) | exact absurd (rfl : (0 : Int32) = 0) (by with_reducible exact z9) | exact absurd True.intro (by with_reducible exact z9) | exact False.elim (by with_reducible exact z9) | (conv => whnf))
                refine ⟨fun c9 => absurd c9 c5, fun _ => ?_⟩
                conv => whnf
                have es : scM f v h m w = sc4 (4 * onE (f 203 (9 * m + 7) &&& titM f w q (f 203 (9 * m + 2))) + 3 + 5) := by
                  unfold scM scw
                  rw [hqc, ci_f c4, ci_f nb, ci_f (fun z => z.2 c6), ci_t c0, ci_t c5]
                refine ⟨fun c7 => ?_, fun c7 => ?_⟩
                · conv => whnf
                  exact H _ (by rw [es]; unfold sc4; rw [if_neg (i32_nlt.mpr c7)])
                · conv => whnf
                  exact H _ (by rw [es]; unfold sc4; rw [if_pos (i32_nle.mp c7)])
              · conv => whnf
                exact H _ (by unfold scM scw; rw [ci_f c4, ci_f nb]; exact (ci_t ⟨c5, c6⟩).symm)
          · conv => whnf
            have c4b : f 203 (9 * m + 8) < 0 := i32_nle.mp c4
            clear c4
            have c4 := c4b
            refine ⟨fun _ => ?_, fun z9 => absurd (by decide) z9⟩
            conv => whnf
            (try simp only [nI_9m, nI_1, nI_k _ 2 2 rfl, nI_k _ 3 3 rfl, nI_k _ 4 4 rfl, nI_k _ 5 5 rfl, nI_k _ 6 6 rfl, nI_k _ 7 7 rfl, nI_k _ 8 8 rfl])
            refine ⟨vp_in_nI (by omega) (by decide), ?_⟩
            conv => whnf
            (try simp only [nI_9m, nI_1, nI_k _ 2 2 rfl, nI_k _ 3 3 rfl, nI_k _ 4 4 rfl, nI_k _ 5 5 rfl, nI_k _ 6 6 rfl, nI_k _ 7 7 rfl, nI_k _ 8 8 rfl])
            (try simp only [hc0, hc1, hc2, hc3, hc4, hc5, hc6, hc7, hc8])
            refine sm_titleOf (by omega) hw hq hq1 hq4 ?_
            conv => whnf
            refine smf_ones (by omega) ?_
            conv => whnf
            (refine ⟨fun z9 => ?_, fun z9 => ?_⟩ <;> first | ((have c9 : (1 : Int32) = 0 := by with_reducible exact z9); exact absurd c9 (by decide)) | exact absurd (rfl : (0 : Int32) = 0) (by with_reducible exact z9) | exact absurd True.intro (by with_reducible exact z9) | exact False.elim (by with_reducible exact z9) | (conv => whnf))
            refine ⟨fun _ => ?_, fun z9 => absurd (by decide) z9⟩
            conv => whnf
            have es : scM f v h m w = sc4 (4 * onE (f 203 (9 * m + 7) &&& titM f w q (f 203 (9 * m + 2))) + 3 + 0) := by
              unfold scM scw
              rw [hqc, ci_t c4, ci_f nb, ci_f (fun z => z.1 (by decide)), ci_t c0, ci_f (fun z => z (by decide))]
            refine ⟨fun c7 => ?_, fun c7 => ?_⟩
            · conv => whnf
              exact H _ (by rw [es]; unfold sc4; rw [if_neg (i32_nlt.mpr c7)])
            · conv => whnf
              exact H _ (by rw [es]; unfold sc4; rw [if_pos (i32_nle.mp c7)])
        · conv => whnf
          exact H _ (ci_t (Or.inr (Or.inr c2))).symm
    · conv => whnf
      (refine ⟨fun z9 => ?_, fun z9 => ?_⟩ <;> first | ((have c9 : (1 : Int32) = 0 := by with_reducible exact z9); exact absurd c9 (by decide)) | exact absurd (rfl : (0 : Int32) = 0) (by with_reducible exact z9) | exact absurd True.intro (by with_reducible exact z9) | exact False.elim (by with_reducible exact z9) | (conv => whnf))
      exact H _ (ci_t (Or.inl ⟨c0, nS⟩)).symm
set_option maxRecDepth 100000 in
theorem rvf_lp {d L n v h m : Nat} {f : Nat → Nat → Int32} {g : Nat → Nat → Int64} {R : Option Value → mH → Prop} (hd : 5 ≤ d) (hm : m < 50) (hU : f 203 (9 * m + 5) = 0 ∨ f 203 (9 * m + 5) = 1) (hF : f 203 (9 * m + 6) = 0 ∨ f 203 (9 * m + 6) = 1) (hHW : (f 203 (9 * m + 3) = 0 ∧ f 203 (9 * m + 4) = 0) ∨ (inr 1 6000 (f 203 (9 * m + 3)) ∧ inr 1 6000 (f 203 (9 * m + 4)))) (hS : ∀ w, w < n → inr 10 5000 (hM f w (f 203 (9 * m + 2))) ∧ inr 10 5000 (wM f w (f 203 (9 * m + 2)))) (hT : ∀ w, w < n → ∃ q, 1 ≤ q ∧ q ≤ 4 ∧ f 191 w = nI q) (hnb : f 181 0 = nI n) (hn : n ≤ 40) (hvb : f 181 48 = nI v) (hv : v ≤ 60) (hb9 : f 181 14 = nI h) (hm9 : h ≤ 60) :
    ∀ (k i : Nat) (x a : Int32), i + k = n → x = nI i → R (some (.int (cntl (fun i => 0 < scM f v h m i) k i a))) (shF L, f, g) → WPe pg_X11_rivalsOf none (Run mtab d) R (m_drop pg_X11_rivalsOf 4) [some (.ref 181), some (.int (nI m)), some (.int a), some (.int x)] [] (shF L, f, g)
  | 0, i, x, a, hi, hx, H => by
    have e : i = n := by omega
    subst hx
    subst e
    refine at_X11_rivalsOf ?_
    conv => whnf
    simp only [hnb]
    refine ⟨fun c => ?_, fun c => absurd (nI_le (Nat.le_refl _) (by omega)) c⟩
    conv => whnf
    exact H
  | k + 1, i, x, a, hi, hx, H => by
    subst hx
    obtain ⟨q, hq1, hq4, hq⟩ := hT i (by omega)
    refine at_X11_rivalsOf ?_
    conv => whnf
    simp only [hnb]
    refine ⟨fun c => absurd c (nI_ge (b := n) (by omega) (by omega)), fun c => ?_⟩
    conv => whnf
    refine smf_scoreOf (v := v) (h := h) (by omega) hm (by omega) hU hF hHW (hS i (by omega)).1 (hS i (by omega)).2 hq hq1 hq4 hvb hv hb9 hm9 (fun r er => ?_)
    subst er
    conv => whnf
    refine ⟨fun c1 => ?_, fun c1 => ?_⟩
    · conv => whnf
      exact rvf_lp hd hm hU hF hHW hS hT hnb hn hvb hv hb9 hm9 k (i + 1) _ (a + 0) (by omega) (nI_1 i) (by rw [cnt_n (P := (fun i => 0 < scM f v h m i)) (k := k) (i := i) (a := a) (i32_nlt.mpr c1)] at H; rw [Int32.add_zero]; exact H)
    · conv => whnf
      exact rvf_lp hd hm hU hF hHW hS hT hnb hn hvb hv hb9 hm9 k (i + 1) _ (a + 1) (by omega) (nI_1 i) (by rw [cnt_y (P := (fun i => 0 < scM f v h m i)) (k := k) (i := i) (a := a) (i32_nle.mp c1)] at H; exact H)
set_option maxRecDepth 100000 in
set_option maxHeartbeats 4000000 in
theorem smf_rivalsOf {d L : Nat} {f : Nat → Nat → Int32} {g : Nat → Nat → Int64} {n v h m : Nat} {R : Option Value → mH → Prop} (hd : 6 ≤ d) (hm : m < 50) (hU : f 203 (9 * m + 5) = 0 ∨ f 203 (9 * m + 5) = 1) (hF : f 203 (9 * m + 6) = 0 ∨ f 203 (9 * m + 6) = 1) (hHW : (f 203 (9 * m + 3) = 0 ∧ f 203 (9 * m + 4) = 0) ∨ (inr 1 6000 (f 203 (9 * m + 3)) ∧ inr 1 6000 (f 203 (9 * m + 4)))) (hS : ∀ w, w < n → inr 10 5000 (hM f w (f 203 (9 * m + 2))) ∧ inr 10 5000 (wM f w (f 203 (9 * m + 2)))) (hT : ∀ w, w < n → ∃ q, 1 ≤ q ∧ q ≤ 4 ∧ f 191 w = nI q) (hnb : f 181 0 = nI n) (hn : n ≤ 40) (hvb : f 181 48 = nI v) (hv : v ≤ 60) (hb9 : f 181 14 = nI h) (hm9 : h ≤ 60) (H : R (some (.int (cntl (fun i => 0 < scM f v h m i) n 0 0))) (shF L, f, g)) : Run mtab d 198 [.ref 181, .int (nI m)] (shF L, f, g) R := by
  obtain ⟨d, rfl⟩ : ∃ e, d = e + 1 := ⟨d - 1, by omega⟩
  refine go_X11_rivalsOf rfl ?_
  conv => whnf
  exact rvf_lp (by omega) hm hU hF hHW hS hT hnb hn hvb hv hb9 hm9 n 0 _ _ (by omega) rfl H
/-- sizes are as told -/
def SZ (n : Nat) (f : Nat → Nat → Int32) : Prop := ∀ j, j < n → inr 10 5000 (f 185 j) ∧ inr 10 5000 (f 186 j) ∧ (0 < f 192 j → inr 10 5000 (f 193 j) ∧ inr 10 5000 (f 194 j))
def SZe (f : Nat → Nat → Int32) : Prop := ∃ n, n ≤ 40 ∧ f 181 0 = nI n ∧ SZ n f
theorem SZ_q {f f' : Nat → Nat → Int32} {n : Nat} (h : ∀ a i, (a = 185 ∨ a = 186 ∨ a = 192 ∨ a = 193 ∨ a = 194) → f' a i = f a i) (s : SZ n f) : SZ n f' := fun j hj => by
  rw [h 185 j (by omega), h 186 j (by omega), h 192 j (by omega), h 193 j (by omega), h 194 j (by omega)]
  exact s j hj
def ok11 (l : List Nat) : Bool := !hasN l 11
theorem SZe_kp {l : List Nat} {f f' : Nat → Nat → Int32} (k : kp l f f') (hl : ok11 l = true) (h : SZe f) : SZe f' := by
  unfold ok11 at hl
  simp only [Bool.not_eq_true'] at hl
  obtain ⟨n, hn, e, s⟩ := h
  refine ⟨n, hn, (k 181 0 (by exact hl)).trans e, SZ_q (fun a i z => ?_) s⟩
  rcases z with rfl | rfl | rfl | rfl | rfl
  · exact k 185 i (by exact hl)
  · exact k 186 i (by exact hl)
  · exact k 192 i (by exact hl)
  · exact k 193 i (by exact hl)
  · exact k 194 i (by exact hl)
theorem SZ_kp {l : List Nat} {f f' : Nat → Nat → Int32} {n : Nat} (k : kp l f f') (hl : ok11 l = true) (s : SZ n f) : SZ n f' := by
  unfold ok11 at hl
  simp only [Bool.not_eq_true'] at hl
  refine SZ_q (fun a i z => ?_) s
  rcases z with rfl | rfl | rfl | rfl | rfl
  · exact k 185 i (by exact hl)
  · exact k 186 i (by exact hl)
  · exact k 192 i (by exact hl)
  · exact k 193 i (by exact hl)
  · exact k 194 i (by exact hl)
theorem SZ_at {f : Nat → Nat → Int32} {n : Nat} (h : SZe f) (hR : RW n f) : SZ n f := by
  obtain ⟨n', hn, e, s⟩ := h
  have a := hR.1
  have e1 : n' = n := (nI_eq (by omega) (by omega)).mp (e.symm.trans hR.2.2.1)
  subst e1
  exact s
theorem SZ_add {n : Nat} {f f1 : Nat → Nat → Int32} {kind of tu h w t lo hi r : Int32} (hn : n ≤ 40) (e : f 181 0 = nI n) (hz : ∀ j, n ≤ j → f 192 j = 0) (s : SZ n f) (ht : toldw h w t lo hi) (a : AddM n f f1 kind of tu h w t lo hi r) : SZe f1 := by
  rcases a with ⟨_, _, rfl⟩ | ⟨hn4, _, rfl⟩
  · exact ⟨n, hn, e, s⟩
  · refine ⟨n + 1, by omega, ?_, fun j hj => ?_⟩
    · unfold madd
      rw [m_ui_o (by omega), m_ui_s]
      exact nI_1 n
    · unfold madd
      by_cases q : j = n
      · subst q
        have e1 : ∀ g : Nat → Nat → Int32, m_ui (m_ui (m_ui (m_ui (m_ui (m_ui (m_ui (m_ui g 185 j h) 186 j w) 187 j lo) 188 j hi) 189 (4 * j) t) 191 j 1) 181 0 (nI j + 1)) 181 29 0 185 j = h := fun g => by rw [m_ui_o (by omega), m_ui_o (by omega), m_ui_o (by omega), m_ui_o (by omega), m_ui_o (by omega), m_ui_o (by omega), m_ui_o (by omega), m_ui_s]
        have e2 : ∀ g : Nat → Nat → Int32, m_ui (m_ui (m_ui (m_ui (m_ui (m_ui (m_ui g 186 j w) 187 j lo) 188 j hi) 189 (4 * j) t) 191 j 1) 181 0 (nI j + 1)) 181 29 0 186 j = w := fun g => by rw [m_ui_o (by omega), m_ui_o (by omega), m_ui_o (by omega), m_ui_o (by omega), m_ui_o (by omega), m_ui_o (by omega), m_ui_s]
        rw [e1, e2]
        refine ⟨ht.1, ht.2.1, fun z => ?_⟩
        rw [m_ui_o (by omega), m_ui_o (by omega), m_ui_o (by omega), m_ui_o (by omega), m_ui_o (by omega), m_ui_o (by omega), m_ui_o (by omega), m_ui_o (by omega), m_ui_o (by omega), m_ui_o (by omega), m_ui_o (by omega), hz j (Nat.le_refl _)] at z
        exact absurd z (by decide)
      · have y := s j (by omega)
        rw [m_ui_o (by omega), m_ui_o (by omega), m_ui_o (by omega), m_ui_o (by omega), m_ui_o (by omega), m_ui_o (by omega), m_ui_o (by omega), m_ui_o (by omega), m_ui_o (by omega), m_ui_o (by omega), m_ui_o (by omega)]
        rw [m_ui_o (by omega), m_ui_o (by omega), m_ui_o (by omega), m_ui_o (by omega), m_ui_o (by omega), m_ui_o (by omega), m_ui_o (by omega), m_ui_o (by omega), m_ui_o (by omega), m_ui_o (by omega), m_ui_o (by omega)]
        rw [m_ui_o (by omega), m_ui_o (by omega), m_ui_o (by omega), m_ui_o (by omega), m_ui_o (by omega), m_ui_o (by omega), m_ui_o (by omega), m_ui_o (by omega), m_ui_o (by omega), m_ui_o (by omega), m_ui_o (by omega)]
        rw [m_ui_o (by omega), m_ui_o (by omega), m_ui_o (by omega), m_ui_o (by omega), m_ui_o (by omega), m_ui_o (by omega), m_ui_o (by omega), m_ui_o (by omega), m_ui_o (by omega), m_ui_o (by omega), m_ui_o (by omega)]
        rw [m_ui_o (by omega), m_ui_o (by omega), m_ui_o (by omega), m_ui_o (by omega), m_ui_o (by omega), m_ui_o (by omega), m_ui_o (by omega), m_ui_o (by omega), m_ui_o (by omega), m_ui_o (by omega), m_ui_o (by omega)]
        exact y
theorem SZ_work {n : Nat} {f f1 : Nat → Nat → Int32} {x1 x2 x3 x4 x5 x6 r : Int32} (hn : n ≤ 40) (e : f 181 0 = nI n) (hz : ∀ j, n ≤ j → f 192 j = 0) (s : SZ n f) (q : SM_work n f f1 x1 x2 x3 x4 x5 x6 r) : SZe f1 := by
  rcases q with ⟨_, _, rfl⟩ | ⟨⟨_, ht⟩, a⟩
  · exact ⟨n, hn, e, s⟩
  · exact SZ_add hn e hz s ht a
theorem SZ_version {n : Nat} {f f1 : Nat → Nat → Int32} {x1 x2 x3 x4 x5 x6 r : Int32} (hn : n ≤ 40) (e : f 181 0 = nI n) (hz : ∀ j, n ≤ j → f 192 j = 0) (s : SZ n f) (q : SM_version n f f1 x1 x2 x3 x4 x5 x6 r) : SZe f1 := by
  rcases q with ⟨_, _, rfl⟩ | ⟨j, _, _, ht, ⟨_, _, rfl⟩ | ⟨_, a⟩⟩
  · exact ⟨n, hn, e, s⟩
  · exact ⟨n, hn, e, s⟩
  · exact SZ_add hn e hz s ht a
theorem SZ_print {n : Nat} {f f1 : Nat → Nat → Int32} {x1 x2 x3 x4 x5 x6 x7 r : Int32} (hn : n ≤ 40) (e : f 181 0 = nI n) (hz : ∀ j, n ≤ j → f 192 j = 0) (s : SZ n f) (q : SM_print n f f1 x1 x2 x3 x4 x5 x6 x7 r) : SZe f1 := by
  rcases q with ⟨_, _, rfl⟩ | ⟨j, _, _, ht, a⟩
  · exact ⟨n, hn, e, s⟩
  · exact SZ_add hn e hz s ht a
theorem SZ_retitle {n : Nat} {f f1 : Nat → Nat → Int32} {x1 x2 x3 v : Int32} (hn : n ≤ 40) (e : f 181 0 = nI n) (hz : ∀ j, n ≤ j → f 192 j = 0) (s : SZ n f) (q : SM_retitle n f f1 x1 x2 x3 v) : SZe f1 := by
  rcases q with ⟨_, _, rfl⟩ | ⟨j, q, _, _, _, _, _, _, _, ⟨_, _, rfl⟩ | ⟨_, _, _, rfl⟩ | ⟨_, _, _, rfl⟩⟩
  · exact ⟨n, hn, e, s⟩
  · exact ⟨n, hn, e, s⟩
  · exact ⟨n, hn, e, s⟩
  · unfold mtit
    refine ⟨n, hn, ?_, SZ_q (fun a i z => ?_) s⟩
    · rw [m_ui_o (by omega), m_ui_o (by omega), m_ui_o (by omega), m_ui_o (by omega)]
      exact e
    · rw [m_ui_o (by omega), m_ui_o (by omega), m_ui_o (by omega), m_ui_o (by omega)]
theorem SZ_cut {n : Nat} {f f1 : Nat → Nat → Int32} {x1 x2 x3 x4 v : Int32} (hn : n ≤ 40) (e : f 181 0 = nI n) (hz : ∀ j, n ≤ j → f 192 j = 0) (s : SZ n f) (q : SM_cut n f f1 x1 x2 x3 x4 v) : SZe f1 := by
  rcases q with ⟨_, _, rfl⟩ | ⟨j, hj, _, _, r3, r4, ⟨_, _, rfl⟩ | ⟨_, _, _, rfl⟩ | ⟨_, _, _, rfl⟩⟩
  · exact ⟨n, hn, e, s⟩
  · exact ⟨n, hn, e, s⟩
  · exact ⟨n, hn, e, s⟩
  · unfold mcut
    refine ⟨n, hn, ?_, fun i hi => ?_⟩
    · rw [m_ui_o (by omega), m_ui_o (by omega), m_ui_o (by omega), m_ui_o (by omega)]
      exact e
    · have y := s i hi
      by_cases q : i = j
      · subst q
        rw [m_ui_o (by omega), m_ui_o (by omega), m_ui_o (by omega), m_ui_o (by omega)]
        rw [m_ui_o (by omega), m_ui_o (by omega), m_ui_o (by omega), m_ui_o (by omega)]
        refine ⟨y.1, y.2.1, fun _ => ⟨?_, ?_⟩⟩
        · rw [m_ui_o (by omega), m_ui_o (by omega), m_ui_s]
          exact r3
        · rw [m_ui_o (by omega), m_ui_s]
          exact r4
      · rw [m_ui_o (by omega), m_ui_o (by omega), m_ui_o (by omega), m_ui_o (by omega)]
        rw [m_ui_o (by omega), m_ui_o (by omega), m_ui_o (by omega), m_ui_o (by omega)]
        rw [m_ui_o (by omega), m_ui_o (by omega), m_ui_o (by omega), m_ui_o (by omega)]
        rw [m_ui_o (by omega), m_ui_o (by omega), m_ui_o (by omega), m_ui_o (by omega)]
        rw [m_ui_o (by omega), m_ui_o (by omega), m_ui_o (by omega), m_ui_o (by omega)]
        exact y
theorem hM_in {n w : Nat} {f : Nat → Nat → Int32} {y : Int32} (s : SZ n f) (hw : w < n) : inr 10 5000 (hM f w y) ∧ inr 10 5000 (wM f w y) := by
  obtain ⟨a, b, c⟩ := s w hw
  unfold hM wM
  by_cases q : 0 < f 192 w ∧ f 192 w ≤ y
  · rw [if_pos q, if_pos q]
    exact c q.1
  · rw [if_neg q, if_neg q]
    exact ⟨a, b⟩
theorem hC_hM {n w : Nat} {f : Nat → Nat → Int32} {y : Int32} (hR : RW n f) (hw : w < n) (hy : inr 1800 1999 y) : hC f w y = hM f w y ∧ wC f w y = wM f w y := by
  obtain ⟨c1, c2, c3, c4, c5, c6, _, _, c9⟩ := hR.2.2.2.1 w hw
  exact ⟨cut_eq (c9.imp id (fun z => ⟨z.1, z.2.1, z.2.2.1⟩)) c3 hy, cut_eq (c9.imp id (fun z => ⟨z.1, z.2.1, z.2.2.2⟩)) c4 hy⟩
theorem own_r {N : Int32 → Prop} {P : Nat → Prop} {D : Nat → Int32} (hD : ∀ i, i < 60 → ¬ D i < 0) : ∀ (k i : Nat) (a : Int32), i + k ≤ 60 → (a = -4 ∨ ¬ a < 0) → (ownl N P D k i a = -4 ∨ ¬ ownl N P D k i a < 0)
  | 0, i, a, _, ha => ha
  | k + 1, i, a, hk, ha => by
    by_cases q : P i
    · by_cases z : N a ∧ ¬ a = D i
      · rw [own_q q z]
        exact Or.inl rfl
      · rw [own_y q z]
        exact own_r hD k (i + 1) _ (by omega) (Or.inr (hD i (by omega)))
    · rw [own_n q]
      exact own_r hD k (i + 1) _ (by omega) ha
theorem scw_eq {bad sized : Prop} {B ow hd : Int32} (h : ow = -4 ∨ ¬ ow < 0) : scw bad sized B (ci (hd < 0) (-4) ow) hd = scv bad sized B ow hd := by
  unfold scw scv
  by_cases b : bad
  · rw [ci_t b, ci_t b]
  · rw [ci_f b, ci_f b]
    have z3 : ∀ x : Int32, x + ci sized 3 0 = ci sized (x + 3) x := fun x => by
      by_cases s : sized
      · rw [ci_t s, ci_t s]
      · rw [ci_f s, ci_f s, Int32.add_zero]
    rw [z3]
    generalize ci sized (4 * B + 3) (4 * B) = S
    by_cases q : hd < 0
    · rw [ci_t q, ci_f (p := ¬ (-4 : Int32) < 0 ∧ ¬ (-4 : Int32) = hd) (fun z => z.1 (by decide)), ci_f (p := ¬ (-4 : Int32) < 0) (fun z => z (by decide)), ci_f (p := ¬ hd < 0 ∧ ¬ ow = hd ∧ ¬ ow = -4) (fun z => z.1 q), ci_f (p := ¬ hd < 0 ∧ ow = hd) (fun z => z.1 q), Int32.add_zero]
    · rw [ci_f (p := hd < 0) q]
      rcases h with e | e
      · have hn : ¬ ow = hd := fun z => q (by rw [← z, e]; decide)
        rw [ci_f (p := ¬ ow < 0 ∧ ¬ ow = hd) (fun z => z.1 (by rw [e]; decide)), ci_f (p := ¬ ow < 0) (fun z => z (by rw [e]; decide)), ci_f (p := ¬ hd < 0 ∧ ¬ ow = hd ∧ ¬ ow = -4) (fun z => z.2.2 e), ci_f (p := ¬ hd < 0 ∧ ow = hd) (fun z => hn z.2), Int32.add_zero]
      · by_cases g : ow = hd
        · rw [ci_f (p := ¬ ow < 0 ∧ ¬ ow = hd) (fun z => z.2 g), ci_t (p := ¬ ow < 0) e, ci_f (p := ¬ hd < 0 ∧ ¬ ow = hd ∧ ¬ ow = -4) (fun z => z.2.1 g), ci_t (p := ¬ hd < 0 ∧ ow = hd) ⟨q, g⟩]
        · rw [ci_t (p := ¬ ow < 0 ∧ ¬ ow = hd) ⟨e, g⟩, ci_t (p := ¬ hd < 0 ∧ ¬ ow = hd ∧ ¬ ow = -4) ⟨q, g, fun z => e (by rw [z]; decide)⟩]
theorem cnt_lt {x : Int32} (h : x = 0 ∨ inr 1 6000 x) : (0 < x) ↔ ¬ x = 0 := by
  rcases h with e | e
  · rw [e]
    exact ⟨fun z => absurd z (by decide), fun z => absurd rfl z⟩
  · have a := (i_inr e).1
    have e1 : (1 : Int32).toInt = 1 := rfl
    have e0 : (0 : Int32).toInt = 0 := rfl
    have p : 0 < x := by
      rw [Int32.lt_iff_toInt_lt]
      omega
    exact ⟨fun _ z => by rw [z] at p; exact absurd p (by decide), fun _ => p⟩
theorem and_30 {x y : Int32} (h : inr 0 1073741823 x) : inr 0 1073741823 (x &&& y) := by
  obtain ⟨j, hj, rfl⟩ := inr_nat (n := 1073741823) rfl h
  rw [bv_nI (nI j &&& y)]
  refine inr_n (m := 1073741823) ?_ rfl (by decide)
  show ((nI j).toBitVec &&& y.toBitVec).toNat ≤ 1073741823
  rw [BitVec.toNat_and, nI_bv (by omega)]
  exact Nat.le_trans Nat.and_le_left hj
theorem own_r2 {f : Nat → Nat → Int32} {h : Nat} (hO : RO h f) (P : Nat → Prop) : ownl (fun a => ¬ a = -4) P (fun i => f 102 i) h 0 (-4) = -4 ∨ ¬ ownl (fun a => ¬ a = -4) P (fun i => f 102 i) h 0 (-4) < 0 := by
  have key : ∀ (k i : Nat) (a : Int32), i + k = h → (a = -4 ∨ ¬ a < 0) → (ownl (fun a => ¬ a = -4) P (fun i => f 102 i) k i a = -4 ∨ ¬ ownl (fun a => ¬ a = -4) P (fun i => f 102 i) k i a < 0) := by
    intro k
    induction k with
    | zero => exact fun i a _ ha => ha
    | succ k ih =>
      intro i a hk ha
      by_cases q : P i
      · by_cases z : (fun a => ¬ a = -4) a ∧ ¬ a = (fun i => f 102 i) i
        · rw [own_q q z]
          exact Or.inl rfl
        · rw [own_y q z]
          exact ih (i + 1) _ (by omega) (Or.inr (i32_nlt.mpr (hO.2.2.2 i (by omega)).2.2.1.1))
      · rw [own_n q]
        exact ih (i + 1) _ (by omega) ha
  exact key h 0 (-4) (by omega) (Or.inl rfl)
/-- both sides' scores are the same -/
theorem sce_eq {f f1 f2 : Nat → Nat → Int32} {n c v h m j w : Nat} (hW : RW n f) (hCc : RC c f) (hV : RV v f) (hO : RO h f) (hMm : RM m f) (hj : j < m) (hw : w < n) (r1 : rkY f f1 n c v) (o : o6 f1 f2) (y : YC f2 n c v) : scC f1 h j w = scM f2 v h j w := by
  have hn40 := hW.1
  have fr1 : ∀ a i, (a < 127 ∨ 137 < a) → f1 a i = f a i := fun a i z => r1.2.1 a i (by omega) (by omega) (by omega) (by omega) (by omega) (by omega) (by omega)
  have fr2 : ∀ a i, 182 ≤ a → ¬ a = 200 → ¬ a = 201 → f2 a i = f a i := fun a i h1 h2 h3 => (o a i h2 h3 (by omega) (by omega) (by omega) (by omega)).trans (fr1 a i (by omega))
  obtain ⟨ye, yw⟩ := years_eq hW hCc hV r1 o y
  obtain ⟨b0, b1, b2, b3, b4, b5, b6, b7, b8, bm, bf⟩ := hMm.2.2.2 j hj
  have p1 : inr 1800 1999 (f 142 j) := bm.1.2.2
  have m0 : f1 140 j = f2 203 (9 * j) := (fr1 140 j (by omega)).trans (b0.trans (fr2 203 _ (by omega) (by omega) (by omega)).symm)
  have m2 : f1 142 j = f2 203 (9 * j + 2) := (fr1 142 j (by omega)).trans (b2.trans (fr2 203 _ (by omega) (by omega) (by omega)).symm)
  have m3 : f1 143 j = f2 203 (9 * j + 3) := (fr1 143 j (by omega)).trans (b3.trans (fr2 203 _ (by omega) (by omega) (by omega)).symm)
  have m4 : f1 144 j = f2 203 (9 * j + 4) := (fr1 144 j (by omega)).trans (b4.trans (fr2 203 _ (by omega) (by omega) (by omega)).symm)
  have m5 : f1 145 j = f2 203 (9 * j + 5) := (fr1 145 j (by omega)).trans (b5.trans (fr2 203 _ (by omega) (by omega) (by omega)).symm)
  have m6 : f1 146 j = f2 203 (9 * j + 6) := (fr1 146 j (by omega)).trans (b6.trans (fr2 203 _ (by omega) (by omega) (by omega)).symm)
  have m7 : f1 147 j = f2 203 (9 * j + 7) := (fr1 147 j (by omega)).trans (b7.trans (fr2 203 _ (by omega) (by omega) (by omega)).symm)
  have m8 : f1 148 j = f2 203 (9 * j + 8) := (fr1 148 j (by omega)).trans (b8.trans (fr2 203 _ (by omega) (by omega) (by omega)).symm)
  have e142 : f1 142 j = f 142 j := fr1 142 j (by omega)
  -- sizes
  obtain ⟨z1, z2⟩ := hC_hM (w := w) (y := f 142 j) hW hw p1
  have hc : hC f1 w (f1 142 j) = hM f2 w (f2 203 (9 * j + 2)) := by
    rw [← m2, e142]
    unfold hC
    rw [fr1 97 w (by omega), fr1 9 w (by omega), fr1 98 w (by omega)]
    refine Eq.trans (show _ = hC f w (f 142 j) from rfl) (z1.trans ?_)
    unfold hM
    rw [fr2 192 w (by omega) (by omega) (by omega), fr2 193 w (by omega) (by omega) (by omega), fr2 185 w (by omega) (by omega) (by omega)]
  have wc : wC f1 w (f1 142 j) = wM f2 w (f2 203 (9 * j + 2)) := by
    rw [← m2, e142]
    unfold wC
    rw [fr1 97 w (by omega), fr1 10 w (by omega), fr1 99 w (by omega)]
    refine Eq.trans (show _ = wC f w (f 142 j) from rfl) (z2.trans ?_)
    unfold wM
    rw [fr2 192 w (by omega) (by omega) (by omega), fr2 194 w (by omega) (by omega) (by omega), fr2 186 w (by omega) (by omega) (by omega)]
  -- the title
  obtain ⟨_, _, _, _, _, _, _, ⟨q, TT⟩, _⟩ := hW.2.2.2.1 w hw
  have q96 : (f1 96 w).toNatClampNeg = q := by
    rw [fr1 96 w (by omega), TT.2.2.1]
    exact nI_clamp (by have := TT.2.1; omega)
  have q191 : (f2 191 w).toNatClampNeg = q := by
    rw [fr2 191 w (by omega) (by omega) (by omega), TT.2.2.2.1]
    exact nI_clamp (by have := TT.2.1; omega)
  have te : titC f1 w q (f 142 j) = titM f2 w q (f 142 j) := by
    have t1 : titC f1 w q (f 142 j) = titC f w q (f 142 j) := by
      have e := lat_congr (p := fun i => f1 (56 + w) i ≤ f 142 j) (p' := fun i => f (56 + w) i ≤ f 142 j) (q - 1) (fun i h1 h2 => by
        show f1 (56 + w) i ≤ f 142 j ↔ f (56 + w) i ≤ f 142 j
        rw [fr1 (56 + w) i (by omega)])
      unfold titC
      rw [e, fr1 (15 + w) _ (by omega)]
    have t2 : titM f2 w q (f 142 j) = titM f w q (f 142 j) := by
      have e := lat_congr (p := fun i => f2 190 (4 * w + i) ≤ f 142 j) (p' := fun i => f 190 (4 * w + i) ≤ f 142 j) (q - 1) (fun i h1 h2 => by
        show f2 190 (4 * w + i) ≤ f 142 j ↔ f 190 (4 * w + i) ≤ f 142 j
        rw [fr2 190 _ (by omega) (by omega) (by omega)])
      unfold titM
      rw [e, fr2 189 _ (by omega) (by omega) (by omega)]
    rw [t1, t2]
    exact tit_eq TT
  -- the owner
  have oe : ownl (fun a => ¬ a = -4) (PO f1 104 105 (nI w) (f 142 j)) (fun i => f1 102 i) h 0 (-4) = ownl (fun a => ¬ a < 0) (PM f2 3 4 (nI w) (f 142 j)) (fun i => f2 195 (6 * i + 1)) h 0 (-4) := by
    have t1 : PO f1 104 105 (nI w) (f 142 j) = PO f 104 105 (nI w) (f 142 j) := funext (fun i => by unfold PO; rw [fr1 101 i (by omega), fr1 104 i (by omega), fr1 105 i (by omega)])
    have t2 : (fun i => f1 102 i) = fun i => f 102 i := funext (fun i => fr1 102 i (by omega))
    have t3 : PM f2 3 4 (nI w) (f 142 j) = PM f 3 4 (nI w) (f 142 j) := funext (fun i => by unfold PM; rw [fr2 195 _ (by omega) (by omega) (by omega), fr2 195 _ (by omega) (by omega) (by omega), fr2 195 _ (by omega) (by omega) (by omega)])
    have t4 : (fun i => f2 195 (6 * i + 1)) = fun i => f 195 (6 * i + 1) := funext (fun i => fr2 195 _ (by omega) (by omega) (by omega))
    rw [t1, t2, t3, t4]
    exact own_RO hO _ _
  have orr : ownl (fun a => ¬ a = -4) (PO f1 104 105 (nI w) (f 142 j)) (fun i => f1 102 i) h 0 (-4) = -4 ∨ ¬ ownl (fun a => ¬ a = -4) (PO f1 104 105 (nI w) (f 142 j)) (fun i => f1 102 i) h 0 (-4) < 0 := by
    rw [show (fun i => f1 102 i) = fun i => f 102 i from funext (fun i => fr1 102 i (by omega))]
    exact own_r2 hO (PO f1 104 105 (nI w) (f 142 j))
  -- states
  have se : f1 127 w = (smp f2 9999 (nI w) v).1 := by
    rw [r1.1 w (by omega), smp_kp (fun i => fr2 218 i (by omega) (by omega) (by omega))]
    exact (st_eq hV 9999 (nI w) v (Nat.le_refl _)).1
  have hs : (0 < f2 203 (9 * j + 3)) ↔ ¬ f1 143 j = 0 := by
    rw [← m3, fr1 143 j (by omega)]
    exact cnt_lt (bm.2.1.imp (fun z => z.1) (fun z => z.1))
  have hf : SFC f1 j w ↔ (f1 143 j = 0 ∨ SFM f2 j w) := by
    unfold SFC SFM
    rw [hc, wc, m5, m6, m4, m0, ← m3]
  have hb : (f1 142 j < f1 134 w ∨ f1 127 w = 2 ∨ ¬ SFC f1 j w) ↔ ((0 < f2 203 (9 * j + 3) ∧ ¬ SFM f2 j w) ∨ f2 203 (9 * j + 2) < f2 200 w ∨ (smp f2 9999 (nI w) v).1 = 2) := by
    rw [hf, hs, se, m2, (yw w hw).1]
    constructor
    · rintro (a | a | a)
      · exact Or.inr (Or.inl a)
      · exact Or.inr (Or.inr a)
      · exact Or.inl ⟨fun z => a (Or.inl z), fun z => a (Or.inr z)⟩
    · rintro (a | a | a)
      · exact Or.inr (Or.inr (fun z => z.elim a.1 a.2))
      · exact Or.inl a
      · exact Or.inr (Or.inl a)
  have be : bcE (f1 147 j &&& titC f1 w (f1 96 w).toNatClampNeg (f1 142 j)) = onE (f2 203 (9 * j + 7) &&& titM f2 w (f2 191 w).toNatClampNeg (f2 203 (9 * j + 2))) := by
    rw [q96, q191, ← m2, e142, te, ← m7]
    exact bc_30 (and_30 (by rw [fr1 147 j (by omega)]; exact bm.2.2.2.1))
  have h8 : f1 148 j = f2 203 (9 * j + 8) := m8
  have os : ownl (fun a => ¬ a < 0) (PM f2 3 4 (nI w) (f2 203 (9 * j + 2))) (fun i => f2 195 (6 * i + 1)) h 0 (-4) = ownl (fun a => ¬ a = -4) (PO f1 104 105 (nI w) (f1 142 j)) (fun i => f1 102 i) h 0 (-4) := by
    rw [← m2, e142]
    exact oe.symm
  have orr' : ownl (fun a => ¬ a = -4) (PO f1 104 105 (nI w) (f1 142 j)) (fun i => f1 102 i) h 0 (-4) = -4 ∨ ¬ ownl (fun a => ¬ a = -4) (PO f1 104 105 (nI w) (f1 142 j)) (fun i => f1 102 i) h 0 (-4) < 0 := by
    rw [e142]
    exact orr
  unfold scC scM
  rw [os, scw_eq orr', ← propext hb, propext hs, ← be, ← h8]
def SX_score (n c v h m : Nat) (f f1 : Nat → Nat → Int32) (x1 x2 r : Int32) : Prop := (¬ (hasw m x1 ∧ hasw n x2) ∧ r = -1 ∧ f1 = f) ∨ (∃ j w, j < m ∧ w < n ∧ x1 = nI j ∧ x2 = nI w ∧ rkY f f1 n c v ∧ r = scC f1 h j w)
def SM_score (n c v h m : Nat) (f f1 : Nat → Nat → Int32) (x1 x2 r : Int32) : Prop := (¬ (hasw m x1 ∧ hasw n x2) ∧ r = -1 ∧ f1 = f) ∨ (∃ j w, j < m ∧ w < n ∧ x1 = nI j ∧ x2 = nI w ∧ o6 f f1 ∧ YC f1 n c v ∧ r = scM f1 v h j w)
def SX_rivals (n c v h m : Nat) (f f1 : Nat → Nat → Int32) (x1 r : Int32) : Prop := (¬ hasw m x1 ∧ r = -1 ∧ f1 = f) ∨ (∃ j, j < m ∧ x1 = nI j ∧ rkY f f1 n c v ∧ r = cntl (fun i => 0 < scC f1 h j i) n 0 0)
def SM_rivals (n c v h m : Nat) (f f1 : Nat → Nat → Int32) (x1 r : Int32) : Prop := (¬ hasw m x1 ∧ r = -1 ∧ f1 = f) ∨ (∃ j, j < m ∧ x1 = nI j ∧ o6 f f1 ∧ YC f1 n c v ∧ r = cntl (fun i => 0 < scM f1 v h j i) n 0 0)
set_option maxRecDepth 100000 in
set_option maxHeartbeats 4000000 in
theorem sf_score {d L : Nat} {f : Nat → Nat → Int32} {g : Nat → Nat → Int64} {n c v h m : Nat} {x1 x2 : Int32} {R : Option Value → mH → Prop} (hd : 6 ≤ d) (hX : XI f) (hW : RW n f) (hC : RC c f) (hV : RV v f) (hO : RO h f) (hMm : RM m f) (hSz : SZ n f) (hRY : RY n c v f) (H : ∀ r f1, SX_score n c v h m f f1 x1 x2 r → R (some (.int r)) (shF L, f1, g)) : Run mtab d 105 [.ref 5, .int x1, .int x2] (shF L, f, g) R := by
  obtain ⟨d, rfl⟩ : ∃ e, d = e + 1 := ⟨d - 1, by omega⟩
  refine go_X10_score rfl ?_
  conv => whnf
  obtain ⟨hn, hnb, hvb, hv, hE, cy, hA0⟩ := YK_of hW hC hV hRY
  have hm50 := hMm.1
  refine ct_shas (by omega) hMm.2.1 hMm.1 (fun j hj e => ?_) (fun q => ?_)
  · subst e
    conv => whnf
    (refine ⟨fun z9 => ?_, fun z9 => ?_⟩ <;> first | ((have c9 : (1 : Int32) = 0 := by with_reducible exact z9); exact absurd c9 (by decide)) | exact absurd (rfl : (0 : Int32) = 0) (by with_reducible exact z9) | exact absurd True.intro (by with_reducible exact z9) | exact False.elim (by with_reducible exact z9) | (conv => whnf))
    refine ct_has (by omega) hnb hn (fun w hw e => ?_) (fun q => ?_)
    · subst e
      conv => whnf
      (refine ⟨fun z9 => ?_, fun z9 => ?_⟩ <;> first | ((have c9 : (1 : Int32) = 0 := by with_reducible exact z9); exact absurd c9 (by decide)) | exact absurd (rfl : (0 : Int32) = 0) (by with_reducible exact z9) | exact absurd True.intro (by with_reducible exact z9) | exact False.elim (by with_reducible exact z9) | (conv => whnf))
      refine sf_reckon (n := n) (c := c) (v := v) (by omega) hX hn hnb hvb hv hE cy hA0 (fun f1 r1 => ?_)
      conv => whnf
      have fr1 : ∀ a i, (a < 127 ∨ 137 < a) → f1 a i = f a i := fun a i z => r1.2.1 a i (by omega) (by omega) (by omega) (by omega) (by omega) (by omega) (by omega)
      have hW1 : RW n f1 := RW_kp (kp_rkY r1) rfl rfl hW
      have hN1 : RN f1 j := (RM_kp (kp_rkY r1) rfl rfl hMm).2.2.2 j hj
      have hS1 : SZ n f1 := SZ_q (fun a i z => fr1 a i (by omega)) hSz
      have hO1 : f1 100 6 = nI h := (fr1 100 6 (by omega)).trans hO.2.1
      have hSC : ∀ w, w < n → SZ1 f1 w (f1 142 j) := fun w hw => by
        obtain ⟨e1, e2⟩ := hC_hM (w := w) (y := f1 142 j) hW1 hw hN1.2.2.2.2.2.2.2.2.2.1.1.2.2
        unfold SZ1
        rw [e1, e2]
        exact hM_in hS1 hw
      obtain ⟨q, hq1, hq4, hq⟩ := RW_T hW1 w hw
      refine sf_scoreFor (h := h) (by omega) (by omega) (by omega) hN1 (hSC w hw) hq hq1 hq4 hO1 hO.1 (fun r er => ?_)
      conv => whnf
      exact H _ _ (Or.inr ⟨j, w, hj, hw, rfl, rfl, r1, er⟩)
    · conv => whnf
      (refine ⟨fun z9 => ?_, fun z9 => ?_⟩ <;> first | ((have c9 : (1 : Int32) = 0 := by with_reducible exact z9); exact absurd c9 (by decide)) | exact absurd (rfl : (0 : Int32) = 0) (by with_reducible exact z9) | exact absurd True.intro (by with_reducible exact z9) | exact False.elim (by with_reducible exact z9) | (conv => whnf))
      exact H _ _ (Or.inl ⟨fun hh => nhasw q hh.2, rfl, rfl⟩)
  · conv => whnf
    (refine ⟨fun z9 => ?_, fun z9 => ?_⟩ <;> first | ((have c9 : (1 : Int32) = 0 := by with_reducible exact z9); exact absurd c9 (by decide)) | exact absurd (rfl : (0 : Int32) = 0) (by with_reducible exact z9) | exact absurd True.intro (by with_reducible exact z9) | exact False.elim (by with_reducible exact z9) | (conv => whnf))
    exact H _ _ (Or.inl ⟨fun hh => nhasw q hh.1, rfl, rfl⟩)
set_option maxRecDepth 100000 in
set_option maxHeartbeats 4000000 in
theorem sf_rivals {d L : Nat} {f : Nat → Nat → Int32} {g : Nat → Nat → Int64} {n c v h m : Nat} {x1 : Int32} {R : Option Value → mH → Prop} (hd : 6 ≤ d) (hX : XI f) (hW : RW n f) (hC : RC c f) (hV : RV v f) (hO : RO h f) (hMm : RM m f) (hSz : SZ n f) (hRY : RY n c v f) (H : ∀ r f1, SX_rivals n c v h m f f1 x1 r → R (some (.int r)) (shF L, f1, g)) : Run mtab d 106 [.ref 5, .int x1] (shF L, f, g) R := by
  obtain ⟨d, rfl⟩ : ∃ e, d = e + 1 := ⟨d - 1, by omega⟩
  refine go_X10_rivals rfl ?_
  conv => whnf
  obtain ⟨hn, hnb, hvb, hv, hE, cy, hA0⟩ := YK_of hW hC hV hRY
  have hm50 := hMm.1
  refine ct_shas (by omega) hMm.2.1 hMm.1 (fun j hj e => ?_) (fun q => ?_)
  · subst e
    conv => whnf
    (refine ⟨fun z9 => ?_, fun z9 => ?_⟩ <;> first | ((have c9 : (1 : Int32) = 0 := by with_reducible exact z9); exact absurd c9 (by decide)) | exact absurd (rfl : (0 : Int32) = 0) (by with_reducible exact z9) | exact absurd True.intro (by with_reducible exact z9) | exact False.elim (by with_reducible exact z9) | (conv => whnf))
    refine sf_reckon (n := n) (c := c) (v := v) (by omega) hX hn hnb hvb hv hE cy hA0 (fun f1 r1 => ?_)
    conv => whnf
    have fr1 : ∀ a i, (a < 127 ∨ 137 < a) → f1 a i = f a i := fun a i z => r1.2.1 a i (by omega) (by omega) (by omega) (by omega) (by omega) (by omega) (by omega)
    have hW1 : RW n f1 := RW_kp (kp_rkY r1) rfl rfl hW
    have hN1 : RN f1 j := (RM_kp (kp_rkY r1) rfl rfl hMm).2.2.2 j hj
    have hS1 : SZ n f1 := SZ_q (fun a i z => fr1 a i (by omega)) hSz
    have hO1 : f1 100 6 = nI h := (fr1 100 6 (by omega)).trans hO.2.1
    have hSC : ∀ w, w < n → SZ1 f1 w (f1 142 j) := fun w hw => by
      obtain ⟨e1, e2⟩ := hC_hM (w := w) (y := f1 142 j) hW1 hw hN1.2.2.2.2.2.2.2.2.2.1.1.2.2
      unfold SZ1
      rw [e1, e2]
      exact hM_in hS1 hw
    refine sf_countFits (n := n) (h := h) (by omega) (by omega) hN1 hSC (RW_T hW1) hW1.2.1 hW1.1 hO1 hO.1 ?_
    conv => whnf
    exact H _ _ (Or.inr ⟨j, hj, rfl, r1, rfl⟩)
  · conv => whnf
    (refine ⟨fun z9 => ?_, fun z9 => ?_⟩ <;> first | ((have c9 : (1 : Int32) = 0 := by with_reducible exact z9); exact absurd c9 (by decide)) | exact absurd (rfl : (0 : Int32) = 0) (by with_reducible exact z9) | exact absurd True.intro (by with_reducible exact z9) | exact False.elim (by with_reducible exact z9) | (conv => whnf))
    exact H _ _ (Or.inl ⟨fun hh => nhasw q hh, rfl, rfl⟩)
set_option maxRecDepth 100000 in
set_option maxHeartbeats 4000000 in
theorem smf_score {d L : Nat} {f : Nat → Nat → Int32} {g : Nat → Nat → Int64} {n c v h m : Nat} {x1 x2 : Int32} {R : Option Value → mH → Prop} (hd : 7 ≤ d) (hX : XI f) (hW : RW n f) (hO : RO h f) (hMm : RM m f) (hSz : SZ n f) (hY : MY n c v f) (H : ∀ r f1, SM_score n c v h m f f1 x1 x2 r → XI f1 → MY n c v f1 → R (some (.int r)) (shF L, f1, g)) : Run mtab d 197 [.ref 181, .int x1, .int x2] (shF L, f, g) R := by
  obtain ⟨d, rfl⟩ : ∃ e, d = e + 1 := ⟨d - 1, by omega⟩
  refine go_X11_score rfl ?_
  conv => whnf
  have hm50 := hMm.1
  have hn40 := hW.1
  refine sm_isMention (by omega) hMm.2.2.1 hMm.1 (fun j hj e => ?_) (fun q => ?_)
  · subst e
    conv => whnf
    (refine ⟨fun z9 => ?_, fun z9 => ?_⟩ <;> first | ((have c9 : (1 : Int32) = 0 := by with_reducible exact z9); exact absurd c9 (by decide)) | exact absurd (rfl : (0 : Int32) = 0) (by with_reducible exact z9) | exact absurd True.intro (by with_reducible exact z9) | exact False.elim (by with_reducible exact z9) | (conv => whnf))
    refine ct_mIsWork (by omega) hW.2.2.1 hW.1 (fun w hw e => ?_) (fun q => ?_)
    · subst e
      conv => whnf
      (refine ⟨fun z9 => ?_, fun z9 => ?_⟩ <;> first | ((have c9 : (1 : Int32) = 0 := by with_reducible exact z9); exact absurd c9 (by decide)) | exact absurd (rfl : (0 : Int32) = 0) (by with_reducible exact z9) | exact absurd True.intro (by with_reducible exact z9) | exact False.elim (by with_reducible exact z9) | (conv => whnf))
      refine smq_refresh (n := n) (c := c) (v := v) (by omega) hX hY (fun f1 h1 o1 k1 y1 yc1 z1 => ?_)
      conv => whnf
      have fr1 : ∀ a i, 182 ≤ a → ¬ a = 200 → ¬ a = 201 → f1 a i = f a i := fun a i a1 a2 a3 => o1 a i a2 a3 (by omega) (by omega) (by omega) (by omega)
      have hW1 : RW n f1 := RW_kp k1 rfl rfl hW
      have hN1 : RN f1 j := (RM_kp k1 rfl rfl hMm).2.2.2 j hj
      have hS1 : SZ n f1 := SZ_q (fun a i z => fr1 a i (by omega) (by omega) (by omega)) hSz
      have hO1 : f1 181 14 = nI h := (o1 181 14 (by omega) (by omega) (by omega) (by omega) (by omega) (by omega)).trans hO.2.2.1
      obtain ⟨b0, b1, b2, b3, b4, b5, b6, b7, b8, bm, bf⟩ := hN1
      have gU : f1 203 (9 * j + 5) = 0 ∨ f1 203 (9 * j + 5) = 1 := by rw [← b5]; exact c01 bm.2.2.1
      have gF : f1 203 (9 * j + 6) = 0 ∨ f1 203 (9 * j + 6) = 1 := by rw [← b6]; exact bf
      have gH : (f1 203 (9 * j + 3) = 0 ∧ f1 203 (9 * j + 4) = 0) ∨ (inr 1 6000 (f1 203 (9 * j + 3)) ∧ inr 1 6000 (f1 203 (9 * j + 4))) := by rw [← b3, ← b4]; exact bm.2.1
      obtain ⟨q, hq1, hq4, hq⟩ := RW_M hW1 w hw
      refine smf_scoreOf (v := v) (h := h) (by omega) (by omega) (by omega) gU gF gH (hM_in hS1 hw).1 (hM_in hS1 hw).2 hq hq1 hq4 y1.2.1 y1.2.2.1 hO1 hO.1 (fun r er => ?_)
      conv => whnf
      exact H _ _ (Or.inr ⟨j, w, hj, hw, rfl, rfl, o1, yc1, er⟩) h1 y1
    · conv => whnf
      (refine ⟨fun z9 => ?_, fun z9 => ?_⟩ <;> first | ((have c9 : (1 : Int32) = 0 := by with_reducible exact z9); exact absurd c9 (by decide)) | exact absurd (rfl : (0 : Int32) = 0) (by with_reducible exact z9) | exact absurd True.intro (by with_reducible exact z9) | exact False.elim (by with_reducible exact z9) | (conv => whnf))
      exact H _ _ (Or.inl ⟨fun hh => nhasw q hh.2, rfl, rfl⟩) hX hY
  · conv => whnf
    (refine ⟨fun z9 => ?_, fun z9 => ?_⟩ <;> first | ((have c9 : (1 : Int32) = 0 := by with_reducible exact z9); exact absurd c9 (by decide)) | exact absurd (rfl : (0 : Int32) = 0) (by with_reducible exact z9) | exact absurd True.intro (by with_reducible exact z9) | exact False.elim (by with_reducible exact z9) | (conv => whnf))
    exact H _ _ (Or.inl ⟨fun hh => nhasw q hh.1, rfl, rfl⟩) hX hY
set_option maxRecDepth 100000 in
set_option maxHeartbeats 4000000 in
theorem smf_rivals {d L : Nat} {f : Nat → Nat → Int32} {g : Nat → Nat → Int64} {n c v h m : Nat} {x1 : Int32} {R : Option Value → mH → Prop} (hd : 7 ≤ d) (hX : XI f) (hW : RW n f) (hO : RO h f) (hMm : RM m f) (hSz : SZ n f) (hY : MY n c v f) (H : ∀ r f1, SM_rivals n c v h m f f1 x1 r → XI f1 → MY n c v f1 → R (some (.int r)) (shF L, f1, g)) : Run mtab d 199 [.ref 181, .int x1] (shF L, f, g) R := by
  obtain ⟨d, rfl⟩ : ∃ e, d = e + 1 := ⟨d - 1, by omega⟩
  refine go_X11_rivals rfl ?_
  conv => whnf
  have hm50 := hMm.1
  refine sm_isMention (by omega) hMm.2.2.1 hMm.1 (fun j hj e => ?_) (fun q => ?_)
  · subst e
    conv => whnf
    (refine ⟨fun z9 => ?_, fun z9 => ?_⟩ <;> first | ((have c9 : (1 : Int32) = 0 := by with_reducible exact z9); exact absurd c9 (by decide)) | exact absurd (rfl : (0 : Int32) = 0) (by with_reducible exact z9) | exact absurd True.intro (by with_reducible exact z9) | exact False.elim (by with_reducible exact z9) | (conv => whnf))
    refine smq_refresh (n := n) (c := c) (v := v) (by omega) hX hY (fun f1 h1 o1 k1 y1 yc1 z1 => ?_)
    conv => whnf
    have fr1 : ∀ a i, 182 ≤ a → ¬ a = 200 → ¬ a = 201 → f1 a i = f a i := fun a i a1 a2 a3 => o1 a i a2 a3 (by omega) (by omega) (by omega) (by omega)
    have hW1 : RW n f1 := RW_kp k1 rfl rfl hW
    have hN1 : RN f1 j := (RM_kp k1 rfl rfl hMm).2.2.2 j hj
    have hS1 : SZ n f1 := SZ_q (fun a i z => fr1 a i (by omega) (by omega) (by omega)) hSz
    have hO1 : f1 181 14 = nI h := (o1 181 14 (by omega) (by omega) (by omega) (by omega) (by omega) (by omega)).trans hO.2.2.1
    obtain ⟨b0, b1, b2, b3, b4, b5, b6, b7, b8, bm, bf⟩ := hN1
    have gU : f1 203 (9 * j + 5) = 0 ∨ f1 203 (9 * j + 5) = 1 := by rw [← b5]; exact c01 bm.2.2.1
    have gF : f1 203 (9 * j + 6) = 0 ∨ f1 203 (9 * j + 6) = 1 := by rw [← b6]; exact bf
    have gH : (f1 203 (9 * j + 3) = 0 ∧ f1 203 (9 * j + 4) = 0) ∨ (inr 1 6000 (f1 203 (9 * j + 3)) ∧ inr 1 6000 (f1 203 (9 * j + 4))) := by rw [← b3, ← b4]; exact bm.2.1
    refine smf_rivalsOf (n := n) (v := v) (h := h) (by omega) (by omega) gU gF gH (fun w hw => hM_in hS1 hw) (RW_M hW1) hW1.2.2.1 hW1.1 y1.2.1 y1.2.2.1 hO1 hO.1 ?_
    conv => whnf
    exact H _ _ (Or.inr ⟨j, hj, rfl, o1, yc1, rfl⟩) h1 y1
  · conv => whnf
    (refine ⟨fun z9 => ?_, fun z9 => ?_⟩ <;> first | ((have c9 : (1 : Int32) = 0 := by with_reducible exact z9); exact absurd c9 (by decide)) | exact absurd (rfl : (0 : Int32) = 0) (by with_reducible exact z9) | exact absurd True.intro (by with_reducible exact z9) | exact False.elim (by with_reducible exact z9) | (conv => whnf))
    exact H _ _ (Or.inl ⟨fun hh => nhasw q hh, rfl, rfl⟩) hX hY
theorem kx_score {f f1 : Nat → Nat → Int32} {n c v h m : Nat} {x1 x2 r : Int32} (s : SX_score n c v h m f f1 x1 x2 r) : kp [0] f f1 := by
  rcases s with ⟨_, _, rfl⟩ | ⟨j, w, _, _, _, _, y, _⟩
  · exact kp_refl _ _
  · exact kp_rkY y
theorem XI_score {f f1 : Nat → Nat → Int32} {n c v h m : Nat} {x1 x2 r : Int32} (hX : XI f) (s : SX_score n c v h m f f1 x1 x2 r) : XI f1 := by
  rcases s with ⟨_, _, rfl⟩ | ⟨j, w, _, _, _, _, y, _⟩
  · exact hX
  · exact XI_rkY hX y
theorem km_score {f f1 : Nat → Nat → Int32} {n c v h m : Nat} {x1 x2 r : Int32} (s : SM_score n c v h m f f1 x1 x2 r) : kp [10, 22, 23] f f1 := by
  rcases s with ⟨_, _, rfl⟩ | ⟨j, w, _, _, _, _, y, _⟩
  · exact kp_refl _ _
  · exact kp_o6 y
theorem kx_rivals {f f1 : Nat → Nat → Int32} {n c v h m : Nat} {x1 r : Int32} (s : SX_rivals n c v h m f f1 x1 r) : kp [0] f f1 := by
  rcases s with ⟨_, _, rfl⟩ | ⟨j, _, _, y, _⟩
  · exact kp_refl _ _
  · exact kp_rkY y
theorem XI_rivals {f f1 : Nat → Nat → Int32} {n c v h m : Nat} {x1 r : Int32} (hX : XI f) (s : SX_rivals n c v h m f f1 x1 r) : XI f1 := by
  rcases s with ⟨_, _, rfl⟩ | ⟨j, _, _, y, _⟩
  · exact hX
  · exact XI_rkY hX y
theorem km_rivals {f f1 : Nat → Nat → Int32} {n c v h m : Nat} {x1 r : Int32} (s : SM_rivals n c v h m f f1 x1 r) : kp [10, 22, 23] f f1 := by
  rcases s with ⟨_, _, rfl⟩ | ⟨j, _, _, y, _⟩
  · exact kp_refl _ _
  · exact kp_o6 y
theorem fin_score {f f1 f2 : Nat → Nat → Int32} {n c v h m : Nat} {x1 x2 v1 v2 : Int32} (hW : RW n f) (hC : RC c f) (hV : RV v f) (hO : RO h f) (hMm : RM m f) (s1 : SX_score n c v h m f f1 x1 x2 v1) (s2 : SM_score n c v h m f1 f2 x1 x2 v2) : v1 = v2 := by
  have hn := hW.1
  have hm50 := hMm.1
  rcases s1 with ⟨q1, rfl, rfl⟩ | ⟨j, w, hj, hw, e1, e2, r1, rfl⟩
  · rcases s2 with ⟨q2, rfl, rfl⟩ | ⟨j, w, hj, hw, e1, e2, _⟩
    · rfl
    · exact absurd ⟨⟨j, hj, e1⟩, ⟨w, hw, e2⟩⟩ q1
  · rcases s2 with ⟨q2, _⟩ | ⟨j', w', hj', hw', e1', e2', o, y, rfl⟩
    · exact absurd ⟨⟨j, hj, e1⟩, ⟨w, hw, e2⟩⟩ q2
    · have a : j = j' := (nI_eq (by omega) (by omega)).mp (e1.symm.trans e1')
      have b : w = w' := (nI_eq (by omega) (by omega)).mp (e2.symm.trans e2')
      subst a
      subst b
      exact sce_eq hW hC hV hO hMm hj hw r1 o y
theorem fin_rivals {f f1 f2 : Nat → Nat → Int32} {n c v h m : Nat} {x1 v1 v2 : Int32} (hW : RW n f) (hC : RC c f) (hV : RV v f) (hO : RO h f) (hMm : RM m f) (s1 : SX_rivals n c v h m f f1 x1 v1) (s2 : SM_rivals n c v h m f1 f2 x1 v2) : v1 = v2 := by
  have hm50 := hMm.1
  rcases s1 with ⟨q1, rfl, rfl⟩ | ⟨j, hj, e1, r1, rfl⟩
  · rcases s2 with ⟨q2, rfl, rfl⟩ | ⟨j, hj, e1, _⟩
    · rfl
    · exact absurd ⟨j, hj, e1⟩ q1
  · rcases s2 with ⟨q2, _⟩ | ⟨j', hj', e1', o, y, rfl⟩
    · exact absurd ⟨j, hj, e1⟩ q2
    · have a : j = j' := (nI_eq (by omega) (by omega)).mp (e1.symm.trans e1')
      subst a
      exact cntl_eq n (fun i hi => by rw [sce_eq hW hC hV hO hMm hj hi r1 o y]) n 0 0 (by omega)
/-- what holds between calls, with the sizes -/
def GS (f : Nat → Nat → Int32) : Prop := GM f ∧ SZe f
theorem GS_x {l : List Nat} {f f' : Nat → Nat → Int32} (h : GS f) (x : XI f') (k : kp l f f') (hl : (((okg l && oke l) && (okm l && ok21 l)) && ok11 l) = true) : GS f' := by
  rw [Bool.and_eq_true] at hl
  exact ⟨GM_x h.1 x k hl.1, SZe_kp k hl.2 h.2⟩
theorem GS_m {l : List Nat} {f f' : Nat → Nat → Int32} (h : GS f) (x : XI f') (k : kp l f f') (m : ∃ n c v, MY n c v f') (hl : (((okg l && oke l) && ok21 l) && ok11 l) = true) : GS f' := by
  rw [Bool.and_eq_true] at hl
  exact ⟨GM_m h.1 x k m hl.1, SZe_kp k hl.2 h.2⟩
theorem GS_s {l l' : List Nat} {f f1 f2 : Nat → Nat → Int32} (h : GS f) (k1 : kp l f f1) (k2 : kp l' f1 f2) (j : GK f2) (m : ∃ n c v, MY n c v f2) (hl : (((okw l && oke l) && ok21 l) && ok11 l) = true) (hl' : (((okw l' && oke l') && ok21 l') && ok11 l') = true) : GS f2 := by
  rw [Bool.and_eq_true] at hl hl'
  exact ⟨GM_s h.1 k1 k2 j m hl.1 hl'.1, SZe_kp k2 hl'.2 (SZe_kp k1 hl.2 h.2)⟩
theorem GS_w {l l' : List Nat} {f f1 f2 : Nat → Nat → Int32} (h : GS f) (k1 : kp l f f1) (k2 : kp l' f1 f2) (j : GK f2) (m : ∃ n c v, MY n c v f2) (z : SZe f2) (hl : ((okw l && oke l) && ok21 l) = true) (hl' : ((okw l' && oke l') && ok21 l') = true) : GS f2 := ⟨GM_s h.1 k1 k2 j m hl hl', z⟩
theorem GS_j {l l' : List Nat} {f f1 f2 : Nat → Nat → Int32} (h : GS f) (k1 : kp l f f1) (k2 : kp l' f1 f2) (j : GK f2) (hl : (((okw l && oke l) && (okm l && ok21 l)) && ok11 l) = true) (hl' : (((okw l' && oke l') && (okm l' && ok21 l')) && ok11 l') = true) : GS f2 := by
  rw [Bool.and_eq_true] at hl hl'
  exact ⟨GM_j h.1 k1 k2 j hl.1 hl'.1, SZe_kp k2 hl'.2 (SZe_kp k1 hl.2 h.2)⟩
theorem GS_v {f f1 f2 : Nat → Nat → Int32} (h : GS f) (k1 : kp [4] f f1) (k2 : kp [10, 14, 22] f1 f2) (x : XI f2) (r : ∃ v, RV v f2) (m : ∃ n c v, MY n c v f2) : GS f2 := ⟨GM_v h.1 k1 k2 x r m, SZe_kp k2 rfl (SZe_kp k1 rfl h.2)⟩
theorem GS_ed {f f1 f2 : Nat → Nat → Int32} (h : GS f) (x1 : XI f1) (k1 : kp [0, 7] f f1) (e1 : EI f1) (q1 : f1 168 7 = edn (f 168 7)) (x2 : XI f2) (k2 : kp [10, 17, 22, 23] f1 f2) (m : ∃ n c v, MY n c v f2) (q2 : f2 181 50 = edn (f1 181 50)) : GS f2 := ⟨GM_ed h.1 x1 k1 e1 q1 x2 k2 m q2, SZe_kp k2 rfl (SZe_kp k1 rfl h.2)⟩
theorem GS_ini {f : Nat → Nat → Int32} (hf : ∀ a i, 6 ≤ a → f a i = if a < 227 then inix a i else 0) (h3 : ab3 f) (h2 : ab2 f) : GS f := by
  refine ⟨GM_ini hf h3 h2, 0, by omega, ?_, fun j hj => absurd hj (by omega)⟩
  rw [hf 181 0 (by omega), if_pos (by omega), inix_0 _ (by decide)]
  rfl
/-! the order of an edition -/
def insP (mid : Nat → Int32) (o : Nat → Nat) (w : Nat) : Nat → Nat
  | 0 => 0
  | t + 1 => if mid w < mid (o t) then insP mid o w t else t + 1
def insO (o : Nat → Nat) (t w : Nat) : Nat → Nat := fun i => if i < t then o i else if i = t then w else o (i - 1)
noncomputable def srt (mid : Nat → Int32) (inn : Nat → Prop) : Nat → Nat × (Nat → Nat)
  | 0 => (0, fun _ => 0)
  | w + 1 => @ite _ (inn w) (Classical.propDecidable _) ((srt mid inn w).1 + 1, insO (srt mid inn w).2 (insP mid (srt mid inn w).2 w (srt mid inn w).1) w) (srt mid inn w)
theorem srt_y {mid : Nat → Int32} {inn : Nat → Prop} {w : Nat} (h : inn w) : srt mid inn (w + 1) = ((srt mid inn w).1 + 1, insO (srt mid inn w).2 (insP mid (srt mid inn w).2 w (srt mid inn w).1) w) := @if_pos _ (Classical.propDecidable _) h _ _ _
theorem srt_n {mid : Nat → Int32} {inn : Nat → Prop} {w : Nat} (h : ¬ inn w) : srt mid inn (w + 1) = srt mid inn w := @if_neg _ (Classical.propDecidable _) h _ _ _
theorem insP_le {mid : Nat → Int32} {o : Nat → Nat} {w : Nat} : ∀ t, insP mid o w t ≤ t
  | 0 => Nat.le_refl _
  | t + 1 => by
    have := insP_le (mid := mid) (o := o) (w := w) t
    show (if mid w < mid (o t) then insP mid o w t else t + 1) ≤ t + 1
    by_cases q : mid w < mid (o t)
    · rw [if_pos q]
      omega
    · rw [if_neg q]
      omega
theorem insP_y {mid : Nat → Int32} {o : Nat → Nat} {w t : Nat} (h : mid w < mid (o t)) : insP mid o w (t + 1) = insP mid o w t := if_pos h
theorem insP_n {mid : Nat → Int32} {o : Nat → Nat} {w t : Nat} (h : ¬ mid w < mid (o t)) : insP mid o w (t + 1) = t + 1 := if_neg h
/-- what is in the order: lesser than w, each once -/
theorem srtI {mid : Nat → Int32} {inn : Nat → Prop} : ∀ w, (srt mid inn w).1 ≤ w ∧ (∀ i, i < (srt mid inn w).1 → (srt mid inn w).2 i < w) ∧ ∀ i j, i < j → j < (srt mid inn w).1 → ¬ (srt mid inn w).2 i = (srt mid inn w).2 j
  | 0 => ⟨Nat.le_refl _, fun i hi => absurd hi (Nat.not_lt_zero i), fun i j _ hj => absurd hj (Nat.not_lt_zero j)⟩
  | w + 1 => by
    obtain ⟨a, b, c⟩ := srtI (mid := mid) (inn := inn) w
    by_cases h : inn w
    · rw [srt_y h]
      generalize hs : srt mid inn w = s at a b c
      obtain ⟨m, o⟩ := s
      have lt := insP_le (mid := mid) (o := o) (w := w) m
      generalize insP mid o w m = t at lt
      have key : ∀ i, i < m + 1 → (i < t ∧ insO o t w i = o i) ∨ (i = t ∧ insO o t w i = w) ∨ (t < i ∧ insO o t w i = o (i - 1)) := fun i _ => by
        unfold insO
        rcases Nat.lt_trichotomy i t with q | q | q
        · exact Or.inl ⟨q, if_pos q⟩
        · exact Or.inr (Or.inl ⟨q, by rw [if_neg (by omega), if_pos q]⟩)
        · exact Or.inr (Or.inr ⟨q, by rw [if_neg (by omega), if_neg (by omega)]⟩)
      refine ⟨Nat.succ_le_succ a, fun i hi => ?_, fun i j hij hj => ?_⟩
      · show insO o t w i < w + 1
        have hi' : i < m + 1 := hi
        rcases key i hi' with ⟨q, e⟩ | ⟨q, e⟩ | ⟨q, e⟩
        · rw [e]
          have := b i (show i < m by omega)
          exact Nat.lt_succ_of_lt this
        · rw [e]
          omega
        · rw [e]
          have := b (i - 1) (show i - 1 < m by omega)
          exact Nat.lt_succ_of_lt this
      · show ¬ insO o t w i = insO o t w j
        have hj' : j < m + 1 := hj
        rcases key i (by omega) with ⟨q, e⟩ | ⟨q, e⟩ | ⟨q, e⟩ <;> rcases key j hj' with ⟨q', e'⟩ | ⟨q', e'⟩ | ⟨q', e'⟩ <;> rw [e, e']
        · exact c i j hij (show j < m by omega)
        · have : o i < w := b i (show i < m by omega)
          omega
        · by_cases z : i < j - 1
          · exact c i (j - 1) z (show j - 1 < m by omega)
          · omega
        · omega
        · omega
        · have : o (j - 1) < w := b (j - 1) (show j - 1 < m by omega)
          omega
        · omega
        · omega
        · exact c (i - 1) (j - 1) (by omega) (show j - 1 < m by omega)
    · rw [srt_n h]
      exact ⟨by omega, fun i hi => Nat.lt_succ_of_lt (b i hi), c⟩
theorem srt_congr {mid mid' : Nat → Int32} {inn inn' : Nat → Prop} : ∀ n, (∀ w, w < n → mid w = mid' w) → (∀ w, w < n → (inn w ↔ inn' w)) → srt mid inn n = srt mid' inn' n
  | 0, _, _ => rfl
  | w + 1, h1, h2 => by
    have ih := srt_congr w (fun u hu => h1 u (by omega)) (fun u hu => h2 u (by omega))
    by_cases h : inn w
    · rw [srt_y h, srt_y ((h2 w (by omega)).mp h), ih]
      have e : ∀ t, t ≤ (srt mid' inn' w).1 → insP mid (srt mid' inn' w).2 w t = insP mid' (srt mid' inn' w).2 w t := by
        intro t
        induction t with
        | zero => exact fun _ => rfl
        | succ t iht =>
          intro ht
          have lt := (srtI (mid := mid') (inn := inn') w).2.1 t (by omega)
          have a := h1 w (by omega)
          have b := h1 ((srt mid' inn' w).2 t) (by omega)
          by_cases q : mid w < mid ((srt mid' inn' w).2 t)
          · rw [insP_y q, insP_y (by rw [← a, ← b]; exact q)]
            exact iht (by omega)
          · rw [insP_n q, insP_n (by rw [← a, ← b]; exact q)]
      rw [e _ (Nat.le_refl _)]
    · rw [srt_n h, srt_n (fun z => h ((h2 w (by omega)).mpr z)), ih]
/-! numbers and letters: N w the number or -4, l w the letter, v k the letters given with a number; a: the number ahead, g: how many got one -/
abbrev EdS := (Nat → Int32) × (Nat → Int32) × (Nat → Int32) × Int32 × Int32
def up1 (f : Nat → Int32) (k : Nat) (x : Int32) : Nat → Int32 := fun i => if i = k then x else f i
theorem up1_s {f : Nat → Int32} {k : Nat} {x : Int32} : up1 f k x k = x := if_pos rfl
theorem up1_o {f : Nat → Int32} {k i : Nat} {x : Int32} (h : ¬ i = k) : up1 f k x i = f i := if_neg h
/-- a work's turn in the first edition -/
def ed1 (w : Nat) (s : EdS) : EdS := if s.1 w = -4 then (up1 s.1 w (s.2.2.2.1 + 1), s.2.1, s.2.2.1, s.2.2.2.1 + 1, s.2.2.2.2 + 1) else (s.1, s.2.1, s.2.2.1, s.1 w, s.2.2.2.2)
/-- a work's turn in a later one -/
def edL (w : Nat) (s : EdS) : EdS := if s.1 w = -4 then (if s.2.2.1 s.2.2.2.1.toNatClampNeg = 26 then s else (up1 s.1 w s.2.2.2.1, up1 s.2.1 w (s.2.2.1 s.2.2.2.1.toNatClampNeg + 1), up1 s.2.2.1 s.2.2.2.1.toNatClampNeg (s.2.2.1 s.2.2.2.1.toNatClampNeg + 1), s.2.2.2.1, s.2.2.2.2 + 1)) else (s.1, s.2.1, s.2.2.1, s.1 w, s.2.2.2.2)
def edR (st : Nat → EdS → EdS) (o : Nat → Nat) (s : EdS) : Nat → EdS
  | 0 => s
  | i + 1 => st (o i) (edR st o s i)
