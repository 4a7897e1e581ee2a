/-- feasible without the clues of B -/
def FEM (f : Nat → Nat → Int32) (v c n : Nat) (B : Nat → Prop) : Prop := ∃ X : Nat → Int, (∀ k, k < c → PMc f v k → ¬ B k → X (f 196 k).toNatClampNeg + (f 198 k).toInt ≤ X (f 197 k).toNatClampNeg) ∧ (∀ w, Yh f 187 n w ≤ X w) ∧ ∀ w, w < n → X w ≤ Yh f 188 n w
def o2_ (f f' : Nat → Nat → Int32) : Prop := ∀ a i, ¬ a = 200 → ¬ a = 202 → f' a i = f a i
theorem PMc_o2 {f f' : Nat → Nat → Int32} (h : o2_ f f') (v k : Nat) : PMc f' v k = PMc f v k := by
  unfold PMc
  rw [smp_kp (fun i => h 218 i (by omega) (by omega)), smp_kp (fun i => h 218 i (by omega) (by omega)), h 199 k (by omega) (by omega), h 196 k (by omega) (by omega), h 197 k (by omega) (by omega)]
theorem FEM_o2 {f f' : Nat → Nat → Int32} {v c n : Nat} (h : o2_ f f') (B : Nat → Prop) : FEM f' v c n B = FEM f v c n B := by
  have hP := PMc_o2 h v
  have h196 : ∀ i, f' 196 i = f 196 i := fun i => h 196 i (by omega) (by omega)
  have h197 : ∀ i, f' 197 i = f 197 i := fun i => h 197 i (by omega) (by omega)
  have h198 : ∀ i, f' 198 i = f 198 i := fun i => h 198 i (by omega) (by omega)
  have y1 : Yh f' 187 n = Yh f 187 n := Yh_eq (fun w _ => h 187 w (by omega) (by omega))
  have y2 : Yh f' 188 n = Yh f 188 n := Yh_eq (fun w _ => h 188 w (by omega) (by omega))
  unfold FEM
  simp only [hP, h196, h197, h198, y1, y2]
theorem CM_o2 {f f' : Nat → Nat → Int32} {n c : Nat} (h : o2_ f f') (m : CM f n c) : CM f' n c := CM_q (fun a i z => h a i (by omega) (by omega)) (h 181 0 (by omega) (by omega)) (h 181 16 (by omega) (by omega)) m
theorem o2_1 {f f1 f2 : Nat → Nat → Int32} (h : o2_ f f1) (k : o200 f1 f2) : o2_ f f2 := fun a i p q => (k a i p).trans (h a i p q)
theorem o2_ui {f f1 : Nat → Nat → Int32} {j : Nat} {v : Int32} (h : o2_ f f1) : o2_ f (m_ui f1 202 j v) := fun a i p q => (m_ui_o (fun e => q e.1)).trans (h a i p q)
theorem bit_not (w : Int32) {k : Nat} (hk : k < 32) : (w ^^^ -1).toBitVec.getLsbD k = !(w.toBitVec.getLsbD k) := by
  have key : ∀ k : Nat, k < 32 → (-1 : Int32).toBitVec.getLsbD k = true := by decide +kernel
  show (w.toBitVec ^^^ (-1 : Int32).toBitVec).getLsbD k = _
  rw [BitVec.getLsbD_xor, key k hk]
  cases w.toBitVec.getLsbD k <;> rfl
theorem bit_sh {j k : Nat} (hj : j < 32) (hk : k < 32) : ((1 : Int32) <<< (nI j &&& 31)).toBitVec.getLsbD k = decide (k = j) := by
  have key : ∀ j : Nat, j < 32 → ∀ k : Nat, k < 32 → ((1 : Int32) <<< (nI j &&& 31)).toBitVec.getLsbD k = decide (k = j) := by decide +kernel
  exact key j hj k hk
theorem mA_w {f : Nat → Nat → Int32} {v c k : Nat} {w : Int32} {B : Nat → Prop} (hc : c ≤ 20) (hk : k < c) (h21 : f 181 21 = (mayl (PMc f v) (fun m => nI m) c 0 0)) (hB : w.toBitVec.getLsbD k = true ↔ B k) : mA_ (f 181 21 &&& (w ^^^ -1)) k = true ↔ (PMc f v k ∧ ¬ B k) := by
  have hP := bits_P (f := f) (v := v) hc hk
  unfold mA_ at hP ⊢
  rw [decide_eq_true_eq, bit_at _ (by omega)] at hP ⊢
  rw [h21]
  show (((mayl (PMc f v) (fun m => nI m) c 0 0)).toBitVec &&& (w ^^^ -1).toBitVec).getLsbD k = true ↔ _
  rw [BitVec.getLsbD_and, Bool.and_eq_true, hP, bit_not w (by omega), Bool.not_eq_true', ← hB]
  refine and_congr Iff.rfl ?_
  cases w.toBitVec.getLsbD k
  · exact ⟨fun _ z => (by cases z), fun _ => rfl⟩
  · exact ⟨fun z => (by cases z), fun z => absurd rfl z⟩
theorem fe_w {f : Nat → Nat → Int32} {v c n : Nat} {w : Int32} {B : Nat → Prop} (hc : c ≤ 20) (h21 : f 181 21 = (mayl (PMc f v) (fun m => nI m) c 0 0)) (hB : ∀ k, k < c → (w.toBitVec.getLsbD k = true ↔ B k)) : (∃ X, Sol c (mA_ (f 181 21 &&& (w ^^^ -1))) (mU_ f) (mV_ f) (mD_ f) X ∧ (∀ u, Yh f 187 n u ≤ X u) ∧ ∀ u, u < n → X u ≤ Yh f 188 n u) ↔ FEM f v c n B := by
  constructor
  · rintro ⟨X, x1, x2, x3⟩
    exact ⟨X, fun k hk hp hb => x1 k hk ((mA_w hc hk h21 (hB k hk)).mpr ⟨hp, hb⟩), x2, x3⟩
  · rintro ⟨X, x1, x2, x3⟩
    refine ⟨X, fun k hk hA => ?_, x2, x3⟩
    obtain ⟨a, b⟩ := (mA_w hc hk h21 (hB k hk)).mp hA
    exact x1 k hk a b
set_option maxRecDepth 100000 in
set_option maxHeartbeats 4000000 in
theorem smf_isWell {d L : Nat} {f : Nat → Nat → Int32} {g : Nat → Nat → Int64} {n c v : Nat} {w : Int32} {B : Nat → Prop} {R : Option Value → mH → Prop} (hd : 2 ≤ d) (hC : CM f n c) (h21 : f 181 21 = (mayl (PMc f v) (fun m => nI m) c 0 0)) (hB : ∀ k, k < c → (w.toBitVec.getLsbD k = true ↔ B k)) (H1 : FEM f v c n B → ∀ f', o200 f f' → R (some (.int 1)) (shF L, f', g)) (H0 : ¬ FEM f v c n B → ∀ f', o200 f f' → R (some (.int 0)) (shF L, f', g)) : Run mtab d 184 [.ref 181, .int w] (shF L, f, g) R := by
  obtain ⟨d, rfl⟩ : ∃ e, d = e + 1 := ⟨d - 1, by omega⟩
  refine go_X11_isWell rfl ?_
  conv => whnf
  have fe := fe_w (n := n) hC.2.1 h21 hB
  refine smf_findLeast (n := n) (c := c) (bits := (f 181 21 &&& (w ^^^ -1))) (by omega) hC (fun nf f1 h1 => ?_) (fun f1 h1 r1 L1 => ?_)
  · conv => whnf
    have G := H0 (fun z => nf (fe.mpr z)) f1 h1
    first | exact ⟨Or.inl rfl, G⟩ | exact G
  · conv => whnf
    have G := H1 (fe.mp ⟨_, L1.1, L1.2.1, fun u hu => by
      rw [Yh_t hu, Yh_t hu]
      exact Int32.le_iff_toInt_le.mp (r1 u hu).2⟩) f1 h1
    first | exact ⟨Or.inr rfl, G⟩ | exact G
set_option maxRecDepth 100000 in
set_option maxHeartbeats 4000000 in
theorem smf_countsAt {d L : Nat} {f : Nat → Nat → Int32} {g : Nat → Nat → Int64} {c v k : Nat} {R : Option Value → mH → Prop} (hd : 1 ≤ d) (hc : c ≤ 20) (hk : k < c) (h21 : f 181 21 = (mayl (PMc f v) (fun m => nI m) c 0 0)) (H1 : PMc f v k → R (some (.int 1)) (shF L, f, g)) (H0 : ¬ PMc f v k → R (some (.int 0)) (shF L, f, g)) : Run mtab d 185 [.ref 181, .int (nI k)] (shF L, f, g) R := by
  obtain ⟨d, rfl⟩ : ∃ e, d = e + 1 := ⟨d - 1, by omega⟩
  refine go_X11_countsAt rfl ?_
  conv => whnf
  have hP := bits_P (f := f) (v := v) hc hk
  unfold mA_ at hP
  rw [decide_eq_true_eq, ← h21] at hP
  refine ⟨fun z => ?_, fun z => ?_⟩
  · conv => whnf
    have G := H0 (fun y => z (hP.mpr y))
    first | exact ⟨Or.inl rfl, G⟩ | exact G
  · conv => whnf
    have G := H1 (hP.mp z)
    first | exact ⟨Or.inr rfl, G⟩ | exact G
set_option maxRecDepth 100000 in
set_option maxHeartbeats 4000000 in
theorem ma3 {d L n c v : Nat} {f0 : Nat → Nat → Int32} {g : Nat → Nat → Int64} {p q : Nat} {R : Option Value → mH → Prop} (hd : 3 ≤ d) (hC : CM f0 n c) (h21 : f0 181 21 = (mayl (PMc f0 v) (fun m => nI m) c 0 0)) (hpq : p < q) (hqi : q < c) (HY3 : (∃ a b d, a < b ∧ b < d ∧ d < c ∧ PMc f0 v a ∧ PMc f0 v b ∧ PMc f0 v d ∧ FEM f0 v c n (fun k => k = a ∨ k = b ∨ k = d)) → ∀ f', o2_ f0 f' → R (some (.int 3)) (shF L, f', g)) (HO : (∀ b, q < b → b < c → ¬ (PMc f0 v p ∧ PMc f0 v q ∧ PMc f0 v b ∧ FEM f0 v c n (fun k => k = p ∨ k = q ∨ k = b))) → ∀ (x' : Int32) (s3 : Option Value) (f' : Nat → Nat → Int32), x' = nI (q + 1) → o2_ f0 f' → WPe pg_X11_findAsides none (Run mtab d) R (m_drop pg_X11_findAsides 89) [some (.ref 181), some (.int (nI p)), some (.int x'), s3] [] (shF L, f', g)) :
    ∀ (k i : Nat) (x : Int32) (f : Nat → Nat → Int32), i + k = c → q < i ∧ x = nI i → o2_ f0 f → (∀ b, q < b → b < i → ¬ (PMc f0 v p ∧ PMc f0 v q ∧ PMc f0 v b ∧ FEM f0 v c n (fun k => k = p ∨ k = q ∨ k = b))) → WPe pg_X11_findAsides none (Run mtab d) R (m_drop pg_X11_findAsides 97) [some (.ref 181), some (.int (nI p)), some (.int (nI q)), some (.int x)] [] (shF L, f, g)
  | 0, i, x, f, hi, ⟨hqi2, hx⟩, hF, hN => by
    have e : i = c := by omega
    subst hx
    subst e
    have hc20 := hC.2.1
    have hcb : f 181 16 = nI i := (CM_o2 hF hC).2.2.2.1
    refine at_X11_findAsides ?_
    conv => whnf
    simp only [hcb]
    refine ⟨fun q9 => ?_, fun q9 => absurd (nI_le (Nat.le_refl _) (by omega)) q9⟩
    conv => whnf
    exact HO hN _ _ _ (nI_1 q) hF
  | k + 1, i, x, f, hi, ⟨hqi2, hx⟩, hF, hN => by
    subst hx
    have hc20 := hC.2.1
    have h21f : f 181 21 = (mayl (PMc f v) (fun m => nI m) c 0 0) := by
      rw [show PMc f v = PMc f0 v from funext (PMc_o2 hF v)]
      exact (hF 181 21 (by omega) (by omega)).trans h21
    have hCf : CM f n c := CM_o2 hF hC
    have hcb : f 181 16 = nI c := hCf.2.2.2.1
    have hd1 : 1 ≤ d := by omega
    refine at_X11_findAsides ?_
    conv => whnf
    simp only [hcb]
    refine ⟨fun q9 => absurd q9 (nI_ge (b := c) (by omega) (by omega)), fun q9 => ?_⟩
    conv => whnf
    refine smf_countsAt (v := v) (k := p) hd1 hc20 (by omega) h21f (fun y0 => ?_) (fun y0 => ?_)
    · rw [PMc_o2 hF] at y0
      conv => whnf
      (refine ⟨fun z9 => ?_, fun z9 => ?_⟩ <;> first | ((have c9 : (1 : Int32) = 0 := by with_reducible exact z9); exact absurd c9 (by decide)) | exact absurd (rfl : (0 : Int32) = 0) (by with_reducible exact z9) | exact absurd True.intro (by with_reducible exact z9) | exact False.elim (by with_reducible exact z9) | (conv => whnf))
      refine smf_countsAt (v := v) (k := q) hd1 hc20 (by omega) h21f (fun y1 => ?_) (fun y1 => ?_)
      · rw [PMc_o2 hF] at y1
        conv => whnf
        (refine ⟨fun z9 => ?_, fun z9 => ?_⟩ <;> first | ((have c9 : (1 : Int32) = 0 := by with_reducible exact z9); exact absurd c9 (by decide)) | exact absurd (rfl : (0 : Int32) = 0) (by with_reducible exact z9) | exact absurd True.intro (by with_reducible exact z9) | exact False.elim (by with_reducible exact z9) | (conv => whnf))
        refine smf_countsAt (v := v) (k := i) hd1 hc20 (by omega) h21f (fun y2 => ?_) (fun y2 => ?_)
        · rw [PMc_o2 hF] at y2
          conv => whnf
          (refine ⟨fun z9 => ?_, fun z9 => ?_⟩ <;> first | ((have c9 : (1 : Int32) = 0 := by with_reducible exact z9); exact absurd c9 (by decide)) | exact absurd (rfl : (0 : Int32) = 0) (by with_reducible exact z9) | exact absurd True.intro (by with_reducible exact z9) | exact False.elim (by with_reducible exact z9) | (conv => whnf))
          refine smf_isWell (n := n) (c := c) (v := v) (B := fun k => k = p ∨ k = q ∨ k = i) (by omega) hCf h21f (fun k hk => by rw [bit_or _ (by omega) (by omega), bit_or _ (by omega) (by omega), bit_sh (by omega) (by omega), Bool.or_eq_true, Bool.or_eq_true, decide_eq_true_eq, decide_eq_true_eq, decide_eq_true_eq, or_assoc]) (fun fe f1 o1 => ?_) (fun nf f1 o1 => ?_)
          · rw [FEM_o2 hF] at fe
            conv => whnf
            (refine ⟨fun z9 => ?_, fun z9 => ?_⟩ <;> first | ((have c9 : (1 : Int32) = 0 := by with_reducible exact z9); exact absurd c9 (by decide)) | exact absurd (rfl : (0 : Int32) = 0) (by with_reducible exact z9) | exact absurd True.intro (by with_reducible exact z9) | exact False.elim (by with_reducible exact z9) | (conv => whnf))
            refine ⟨by unfold vp_in; decide, ?_⟩
            conv => whnf
            refine ⟨by unfold vp_in; decide, ?_⟩
            conv => whnf
            refine ⟨by unfold vp_in; decide, ?_⟩
            conv => whnf
            exact HY3 ⟨p, q, i, hpq, by omega, by omega, y0, y1, y2, fe⟩ _ (o2_ui (o2_ui (o2_ui (o2_1 hF o1))))
          · rw [FEM_o2 hF] at nf
            conv => whnf
            (refine ⟨fun z9 => ?_, fun z9 => ?_⟩ <;> first | ((have c9 : (1 : Int32) = 0 := by with_reducible exact z9); exact absurd c9 (by decide)) | exact absurd (rfl : (0 : Int32) = 0) (by with_reducible exact z9) | exact absurd True.intro (by with_reducible exact z9) | exact False.elim (by with_reducible exact z9) | (conv => whnf))
            exact ma3 hd hC h21 hpq hqi HY3 HO k (i + 1) _ _ (by omega) ⟨by omega, nI_1 i⟩ (o2_1 hF o1) (fun b h1 h2 => (Nat.lt_or_ge b i).elim (fun l => hN b h1 l) (fun l => by have e : b = i := (by omega); subst e; exact fun z => nf z.2.2.2))
        · rw [PMc_o2 hF] at y2
          conv => whnf
          (refine ⟨fun z9 => ?_, fun z9 => ?_⟩ <;> first | ((have c9 : (1 : Int32) = 0 := by with_reducible exact z9); exact absurd c9 (by decide)) | exact absurd (rfl : (0 : Int32) = 0) (by with_reducible exact z9) | exact absurd True.intro (by with_reducible exact z9) | exact False.elim (by with_reducible exact z9) | (conv => whnf))
          exact ma3 hd hC h21 hpq hqi HY3 HO k (i + 1) _ _ (by omega) ⟨by omega, nI_1 i⟩ hF (fun b h1 h2 => (Nat.lt_or_ge b i).elim (fun l => hN b h1 l) (fun l => by have e : b = i := (by omega); subst e; exact fun z => y2 z.2.2.1))
      · rw [PMc_o2 hF] at y1
        conv => whnf
        (refine ⟨fun z9 => ?_, fun z9 => ?_⟩ <;> first | ((have c9 : (1 : Int32) = 0 := by with_reducible exact z9); exact absurd c9 (by decide)) | exact absurd (rfl : (0 : Int32) = 0) (by with_reducible exact z9) | exact absurd True.intro (by with_reducible exact z9) | exact False.elim (by with_reducible exact z9) | (conv => whnf))
        exact ma3 hd hC h21 hpq hqi HY3 HO k (i + 1) _ _ (by omega) ⟨by omega, nI_1 i⟩ hF (fun b h1 h2 => (Nat.lt_or_ge b i).elim (fun l => hN b h1 l) (fun l => by have e : b = i := (by omega); subst e; exact fun z => y1 z.2.1))
    · rw [PMc_o2 hF] at y0
      conv => whnf
      (refine ⟨fun z9 => ?_, fun z9 => ?_⟩ <;> first | ((have c9 : (1 : Int32) = 0 := by with_reducible exact z9); exact absurd c9 (by decide)) | exact absurd (rfl : (0 : Int32) = 0) (by with_reducible exact z9) | exact absurd True.intro (by with_reducible exact z9) | exact False.elim (by with_reducible exact z9) | (conv => whnf))
      exact ma3 hd hC h21 hpq hqi HY3 HO k (i + 1) _ _ (by omega) ⟨by omega, nI_1 i⟩ hF (fun b h1 h2 => (Nat.lt_or_ge b i).elim (fun l => hN b h1 l) (fun l => by have e : b = i := (by omega); subst e; exact fun z => y0 z.1))
set_option maxRecDepth 100000 in
set_option maxHeartbeats 4000000 in
theorem ma2 {d L n c v : Nat} {f0 : Nat → Nat → Int32} {g : Nat → Nat → Int64} {p : Nat} {R : Option Value → mH → Prop} (hd : 3 ≤ d) (hC : CM f0 n c) (h21 : f0 181 21 = (mayl (PMc f0 v) (fun m => nI m) c 0 0)) (hpc : p < c) (HY3 : (∃ a b d, a < b ∧ b < d ∧ d < c ∧ PMc f0 v a ∧ PMc f0 v b ∧ PMc f0 v d ∧ FEM f0 v c n (fun k => k = a ∨ k = b ∨ k = d)) → ∀ f', o2_ f0 f' → R (some (.int 3)) (shF L, f', g)) (HO : (∀ a b, p < a → a < b → b < c → ¬ (PMc f0 v p ∧ PMc f0 v a ∧ PMc f0 v b ∧ FEM f0 v c n (fun k => k = p ∨ k = a ∨ k = b))) → ∀ (x' : Int32) (s2 s3 : Option Value) (f' : Nat → Nat → Int32), x' = nI (p + 1) → o2_ f0 f' → WPe pg_X11_findAsides none (Run mtab d) R (m_drop pg_X11_findAsides 81) [some (.ref 181), some (.int x'), s2, s3] [] (shF L, f', g)) :
    ∀ (k i : Nat) (x : Int32) (s3 : Option Value) (f : Nat → Nat → Int32), i + k = c → p < i ∧ x = nI i → o2_ f0 f → (∀ a b, p < a → a < i → a < b → b < c → ¬ (PMc f0 v p ∧ PMc f0 v a ∧ PMc f0 v b ∧ FEM f0 v c n (fun k => k = p ∨ k = a ∨ k = b))) → WPe pg_X11_findAsides none (Run mtab d) R (m_drop pg_X11_findAsides 89) [some (.ref 181), some (.int (nI p)), some (.int x), s3] [] (shF L, f, g)
  | 0, i, x, s3, f, hi, ⟨hpi, hx⟩, hF, hN => by
    have e : i = c := by omega
    subst hx
    subst e
    have hc20 := hC.2.1
    have hcb : f 181 16 = nI i := (CM_o2 hF hC).2.2.2.1
    refine at_X11_findAsides ?_
    conv => whnf
    simp only [hcb]
    refine ⟨fun q9 => ?_, fun q9 => absurd (nI_le (Nat.le_refl _) (by omega)) q9⟩
    conv => whnf
    exact HO (fun a b h1 h2 h3 => hN a b h1 (by omega) h2 h3) _ _ _ _ (nI_1 p) hF
  | k + 1, i, x, s3, f, hi, ⟨hpi, hx⟩, hF, hN => by
    subst hx
    have hc20 := hC.2.1
    have h21f : f 181 21 = (mayl (PMc f v) (fun m => nI m) c 0 0) := by
      rw [show PMc f v = PMc f0 v from funext (PMc_o2 hF v)]
      exact (hF 181 21 (by omega) (by omega)).trans h21
    have hCf : CM f n c := CM_o2 hF hC
    have hcb : f 181 16 = nI c := hCf.2.2.2.1
    have hd1 : 1 ≤ d := by omega
    refine at_X11_findAsides ?_
    conv => whnf
    simp only [hcb]
    refine ⟨fun q9 => absurd q9 (nI_ge (b := c) (by omega) (by omega)), fun q9 => ?_⟩
    conv => whnf
    exact ma3 (p := p) (q := i) hd hC h21 (by omega) (by omega) HY3 (fun no x' s3 f' hx' hF' => ma2 hd hC h21 hpc HY3 HO k (i + 1) x' s3 f' (by omega) ⟨by omega, hx'⟩ hF' (fun a b h1 h2 h3 h4 => (Nat.lt_or_ge a i).elim (fun l => hN a b h1 l h3 h4) (fun l => by have e : a = i := (by omega); subst e; exact no b h3 h4))) (c - (i + 1)) (i + 1) _ _ (by omega) ⟨by omega, nI_1 i⟩ hF (fun b h1 h2 => absurd h1 (by omega))
set_option maxRecDepth 100000 in
set_option maxHeartbeats 4000000 in
theorem ma1 {d L n c v : Nat} {f0 : Nat → Nat → Int32} {g : Nat → Nat → Int64} {R : Option Value → mH → Prop} (hd : 3 ≤ d) (hC : CM f0 n c) (h21 : f0 181 21 = (mayl (PMc f0 v) (fun m => nI m) c 0 0)) (HY3 : (∃ a b d, a < b ∧ b < d ∧ d < c ∧ PMc f0 v a ∧ PMc f0 v b ∧ PMc f0 v d ∧ FEM f0 v c n (fun k => k = a ∨ k = b ∨ k = d)) → ∀ f', o2_ f0 f' → R (some (.int 3)) (shF L, f', g)) (HZ : ¬ (∃ a b d, a < b ∧ b < d ∧ d < c ∧ PMc f0 v a ∧ PMc f0 v b ∧ PMc f0 v d ∧ FEM f0 v c n (fun k => k = a ∨ k = b ∨ k = d)) → ∀ f', o2_ f0 f' → R (some (.int (-4))) (shF L, f', g)) :
    ∀ (k i : Nat) (x : Int32) (s2 : Option Value) (s3 : Option Value) (f : Nat → Nat → Int32), i + k = c → x = nI i → o2_ f0 f → (∀ p a b, p < i → p < a → a < b → b < c → ¬ (PMc f0 v p ∧ PMc f0 v a ∧ PMc f0 v b ∧ FEM f0 v c n (fun k => k = p ∨ k = a ∨ k = b))) → WPe pg_X11_findAsides none (Run mtab d) R (m_drop pg_X11_findAsides 81) [some (.ref 181), some (.int x), s2, s3] [] (shF L, f, g)
  | 0, i, x, s2, s3, f, hi, hx, hF, hN => by
    have e : i = c := by omega
    subst hx
    subst e
    have hc20 := hC.2.1
    have hcb : f 181 16 = nI i := (CM_o2 hF hC).2.2.2.1
    refine at_X11_findAsides ?_
    conv => whnf
    simp only [hcb]
    refine ⟨fun q9 => ?_, fun q9 => absurd (nI_le (Nat.le_refl _) (by omega)) q9⟩
    conv => whnf
    exact HZ (fun ⟨p, a, b, h1, h2, h3, h4⟩ => hN p a b (by omega) h1 h2 h3 h4) _ hF
  | k + 1, i, x, s2, s3, f, hi, hx, hF, hN => by
    subst hx
    have hc20 := hC.2.1
    have h21f : f 181 21 = (mayl (PMc f v) (fun m => nI m) c 0 0) := by
      rw [show PMc f v = PMc f0 v from funext (PMc_o2 hF v)]
      exact (hF 181 21 (by omega) (by omega)).trans h21
    have hCf : CM f n c := CM_o2 hF hC
    have hcb : f 181 16 = nI c := hCf.2.2.2.1
    have hd1 : 1 ≤ d := by omega
    refine at_X11_findAsides ?_
    conv => whnf
    simp only [hcb]
    refine ⟨fun q9 => absurd q9 (nI_ge (b := c) (by omega) (by omega)), fun q9 => ?_⟩
    conv => whnf
    exact ma2 (p := i) hd hC h21 (by omega) HY3 (fun no x' s2 s3 f' hx' hF' => ma1 hd hC h21 HY3 HZ k (i + 1) x' s2 s3 f' (by omega) hx' hF' (fun p a b h1 h2 h3 h4 => (Nat.lt_or_ge p i).elim (fun l => hN p a b l h2 h3 h4) (fun l => by have e : p = i := (by omega); subst e; exact no a b h2 h3 h4))) (c - (i + 1)) (i + 1) _ _ _ (by omega) ⟨by omega, nI_1 i⟩ hF (fun a b h1 h2 => absurd h1 (by omega))
set_option maxRecDepth 100000 in
set_option maxHeartbeats 4000000 in
theorem mb2 {d L n c v : Nat} {f0 : Nat → Nat → Int32} {g : Nat → Nat → Int64} {p : Nat} {R : Option Value → mH → Prop} (hd : 3 ≤ d) (hC : CM f0 n c) (h21 : f0 181 21 = (mayl (PMc f0 v) (fun m => nI m) c 0 0)) (hpc : p < c) (HY2 : (∃ a b, a < b ∧ b < c ∧ PMc f0 v a ∧ PMc f0 v b ∧ FEM f0 v c n (fun k => k = a ∨ k = b)) → ∀ f', o2_ f0 f' → R (some (.int 2)) (shF L, f', g)) (HO : (∀ b, p < b → b < c → ¬ (PMc f0 v p ∧ PMc f0 v b ∧ FEM f0 v c n (fun k => k = p ∨ k = b))) → ∀ (x' : Int32) (s2 s3 : Option Value) (f' : Nat → Nat → Int32), x' = nI (p + 1) → o2_ f0 f' → WPe pg_X11_findAsides none (Run mtab d) R (m_drop pg_X11_findAsides 33) [some (.ref 181), some (.int x'), s2, s3] [] (shF L, f', g)) :
    ∀ (k i : Nat) (x : Int32) (s3 : Option Value) (f : Nat → Nat → Int32), i + k = c → p < i ∧ x = nI i → o2_ f0 f → (∀ b, p < b → b < i → ¬ (PMc f0 v p ∧ PMc f0 v b ∧ FEM f0 v c n (fun k => k = p ∨ k = b))) → WPe pg_X11_findAsides none (Run mtab d) R (m_drop pg_X11_findAsides 41) [some (.ref 181), some (.int (nI p)), some (.int x), s3] [] (shF L, f, g)
  | 0, i, x, s3, f, hi, ⟨hpi, hx⟩, hF, hN => by
    have e : i = c := by omega
    subst hx
    subst e
    have hc20 := hC.2.1
    have hcb : f 181 16 = nI i := (CM_o2 hF hC).2.2.2.1
    refine at_X11_findAsides ?_
    conv => whnf
    simp only [hcb]
    refine ⟨fun q9 => ?_, fun q9 => absurd (nI_le (Nat.le_refl _) (by omega)) q9⟩
    conv => whnf
    exact HO hN _ _ _ _ (nI_1 p) hF
  | k + 1, i, x, s3, f, hi, ⟨hpi, hx⟩, hF, hN => by
    subst hx
    have hc20 := hC.2.1
    have h21f : f 181 21 = (mayl (PMc f v) (fun m => nI m) c 0 0) := by
      rw [show PMc f v = PMc f0 v from funext (PMc_o2 hF v)]
      exact (hF 181 21 (by omega) (by omega)).trans h21
    have hCf : CM f n c := CM_o2 hF hC
    have hcb : f 181 16 = nI c := hCf.2.2.2.1
    have hd1 : 1 ≤ d := by omega
    refine at_X11_findAsides ?_
    conv => whnf
    simp only [hcb]
    refine ⟨fun q9 => absurd q9 (nI_ge (b := c) (by omega) (by omega)), fun q9 => ?_⟩
    conv => whnf
    refine smf_countsAt (v := v) (k := p) hd1 hc20 (by omega) h21f (fun y0 => ?_) (fun y0 => ?_)
    · rw [PMc_o2 hF] at y0
      conv => whnf
      (refine ⟨fun z9 => ?_, fun z9 => ?_⟩ <;> first | ((have c9 : (1 : Int32) = 0 := by with_reducible exact z9); exact absurd c9 (by decide)) | exact absurd (rfl : (0 : Int32) = 0) (by with_reducible exact z9) | exact absurd True.intro (by with_reducible exact z9) | exact False.elim (by with_reducible exact z9) | (conv => whnf))
      refine smf_countsAt (v := v) (k := i) hd1 hc20 (by omega) h21f (fun y1 => ?_) (fun y1 => ?_)
      · rw [PMc_o2 hF] at y1
        conv => whnf
        (refine ⟨fun z9 => ?_, fun z9 => ?_⟩ <;> first | ((have c9 : (1 : Int32) = 0 := by with_reducible exact z9); exact absurd c9 (by decide)) | exact absurd (rfl : (0 : Int32) = 0) (by with_reducible exact z9) | exact absurd True.intro (by with_reducible exact z9) | exact False.elim (by with_reducible exact z9) | (conv => whnf))
        refine smf_isWell (n := n) (c := c) (v := v) (B := fun k => k = p ∨ k = i) (by omega) hCf h21f (fun k hk => by rw [bit_or _ (by omega) (by omega), bit_sh (by omega) (by omega), Bool.or_eq_true, decide_eq_true_eq, decide_eq_true_eq]) (fun fe f1 o1 => ?_) (fun nf f1 o1 => ?_)
        · rw [FEM_o2 hF] at fe
          conv => whnf
          (refine ⟨fun z9 => ?_, fun z9 => ?_⟩ <;> first | ((have c9 : (1 : Int32) = 0 := by with_reducible exact z9); exact absurd c9 (by decide)) | exact absurd (rfl : (0 : Int32) = 0) (by with_reducible exact z9) | exact absurd True.intro (by with_reducible exact z9) | exact False.elim (by with_reducible exact z9) | (conv => whnf))
          refine ⟨by unfold vp_in; decide, ?_⟩
          conv => whnf
          refine ⟨by unfold vp_in; decide, ?_⟩
          conv => whnf
          exact HY2 ⟨p, i, by omega, by omega, y0, y1, fe⟩ _ (o2_ui (o2_ui (o2_1 hF o1)))
        · rw [FEM_o2 hF] at nf
          conv => whnf
          (refine ⟨fun z9 => ?_, fun z9 => ?_⟩ <;> first | ((have c9 : (1 : Int32) = 0 := by with_reducible exact z9); exact absurd c9 (by decide)) | exact absurd (rfl : (0 : Int32) = 0) (by with_reducible exact z9) | exact absurd True.intro (by with_reducible exact z9) | exact False.elim (by with_reducible exact z9) | (conv => whnf))
          exact mb2 hd hC h21 hpc HY2 HO k (i + 1) _ _ _ (by omega) ⟨by omega, nI_1 i⟩ (o2_1 hF o1) (fun b h1 h2 => (Nat.lt_or_ge b i).elim (fun l => hN b h1 l) (fun l => by have e : b = i := (by omega); subst e; exact fun z => nf z.2.2))
      · rw [PMc_o2 hF] at y1
        conv => whnf
        (refine ⟨fun z9 => ?_, fun z9 => ?_⟩ <;> first | ((have c9 : (1 : Int32) = 0 := by with_reducible exact z9); exact absurd c9 (by decide)) | exact absurd (rfl : (0 : Int32) = 0) (by with_reducible exact z9) | exact absurd True.intro (by with_reducible exact z9) | exact False.elim (by with_reducible exact z9) | (conv => whnf))
        exact mb2 hd hC h21 hpc HY2 HO k (i + 1) _ _ _ (by omega) ⟨by omega, nI_1 i⟩ hF (fun b h1 h2 => (Nat.lt_or_ge b i).elim (fun l => hN b h1 l) (fun l => by have e : b = i := (by omega); subst e; exact fun z => y1 z.2.1))
    · rw [PMc_o2 hF] at y0
      conv => whnf
      (refine ⟨fun z9 => ?_, fun z9 => ?_⟩ <;> first | ((have c9 : (1 : Int32) = 0 := by with_reducible exact z9); exact absurd c9 (by decide)) | exact absurd (rfl : (0 : Int32) = 0) (by with_reducible exact z9) | exact absurd True.intro (by with_reducible exact z9) | exact False.elim (by with_reducible exact z9) | (conv => whnf))
      exact mb2 hd hC h21 hpc HY2 HO k (i + 1) _ _ _ (by omega) ⟨by omega, nI_1 i⟩ hF (fun b h1 h2 => (Nat.lt_or_ge b i).elim (fun l => hN b h1 l) (fun l => by have e : b = i := (by omega); subst e; exact fun z => y0 z.1))
set_option maxRecDepth 100000 in
set_option maxHeartbeats 4000000 in
theorem mb1 {d L n c v : Nat} {f0 : Nat → Nat → Int32} {g : Nat → Nat → Int64} {R : Option Value → mH → Prop} (hd : 3 ≤ d) (hC : CM f0 n c) (h21 : f0 181 21 = (mayl (PMc f0 v) (fun m => nI m) c 0 0)) (HY2 : (∃ a b, a < b ∧ b < c ∧ PMc f0 v a ∧ PMc f0 v b ∧ FEM f0 v c n (fun k => k = a ∨ k = b)) → ∀ f', o2_ f0 f' → R (some (.int 2)) (shF L, f', g)) (HZ : ¬ (∃ a b, a < b ∧ b < c ∧ PMc f0 v a ∧ PMc f0 v b ∧ FEM f0 v c n (fun k => k = a ∨ k = b)) → ∀ (x' : Int32) (s2 s3 : Option Value) (f' : Nat → Nat → Int32), x' = nI 0 → o2_ f0 f' → WPe pg_X11_findAsides none (Run mtab d) R (m_drop pg_X11_findAsides 81) [some (.ref 181), some (.int x'), s2, s3] [] (shF L, f', g)) :
    ∀ (k i : Nat) (x : Int32) (s2 : Option Value) (s3 : Option Value) (f : Nat → Nat → Int32), i + k = c → x = nI i → o2_ f0 f → (∀ p b, p < i → p < b → b < c → ¬ (PMc f0 v p ∧ PMc f0 v b ∧ FEM f0 v c n (fun k => k = p ∨ k = b))) → WPe pg_X11_findAsides none (Run mtab d) R (m_drop pg_X11_findAsides 33) [some (.ref 181), some (.int x), s2, s3] [] (shF L, f, g)
  | 0, i, x, s2, s3, f, hi, hx, hF, hN => by
    have e : i = c := by omega
    subst hx
    subst e
    have hc20 := hC.2.1
    have hcb : f 181 16 = nI i := (CM_o2 hF hC).2.2.2.1
    refine at_X11_findAsides ?_
    conv => whnf
    simp only [hcb]
    refine ⟨fun q9 => ?_, fun q9 => absurd (nI_le (Nat.le_refl _) (by omega)) q9⟩
    conv => whnf
    exact HZ (fun ⟨p, b, h1, h2, h3⟩ => hN p b (by omega) h1 h2 h3) _ _ _ _ rfl hF
  | k + 1, i, x, s2, s3, f, hi, hx, hF, hN => by
    subst hx
    have hc20 := hC.2.1
    have h21f : f 181 21 = (mayl (PMc f v) (fun m => nI m) c 0 0) := by
      rw [show PMc f v = PMc f0 v from funext (PMc_o2 hF v)]
      exact (hF 181 21 (by omega) (by omega)).trans h21
    have hCf : CM f n c := CM_o2 hF hC
    have hcb : f 181 16 = nI c := hCf.2.2.2.1
    have hd1 : 1 ≤ d := by omega
    refine at_X11_findAsides ?_
    conv => whnf
    simp only [hcb]
    refine ⟨fun q9 => absurd q9 (nI_ge (b := c) (by omega) (by omega)), fun q9 => ?_⟩
    conv => whnf
    exact mb2 (p := i) hd hC h21 (by omega) HY2 (fun no x' s2 s3 f' hx' hF' => mb1 hd hC h21 HY2 HZ k (i + 1) x' s2 s3 f' (by omega) hx' hF' (fun p b h1 h2 h3 => (Nat.lt_or_ge p i).elim (fun l => hN p b l h2 h3) (fun l => by have e : p = i := (by omega); subst e; exact no b h2 h3))) (c - (i + 1)) (i + 1) _ _ _ (by omega) ⟨by omega, nI_1 i⟩ hF (fun b h1 h2 => absurd h1 (by omega))
set_option maxRecDepth 100000 in
set_option maxHeartbeats 4000000 in
theorem mc1 {d L n c v : Nat} {f0 : Nat → Nat → Int32} {g : Nat → Nat → Int64} {R : Option Value → mH → Prop} (hd : 3 ≤ d) (hC : CM f0 n c) (h21 : f0 181 21 = (mayl (PMc f0 v) (fun m => nI m) c 0 0)) (HY1 : (∃ a, a < c ∧ PMc f0 v a ∧ FEM f0 v c n (fun k => k = a)) → ∀ f', o2_ f0 f' → R (some (.int 1)) (shF L, f', g)) (HZ : ¬ (∃ a, a < c ∧ PMc f0 v a ∧ FEM f0 v c n (fun k => k = a)) → ∀ (x' : Int32) (s2 s3 : Option Value) (f' : Nat → Nat → Int32), x' = nI 0 → o2_ f0 f' → WPe pg_X11_findAsides none (Run mtab d) R (m_drop pg_X11_findAsides 33) [some (.ref 181), some (.int x'), s2, s3] [] (shF L, f', g)) :
    ∀ (k i : Nat) (x : Int32) (s2 : Option Value) (s3 : Option Value) (f : Nat → Nat → Int32), i + k = c → x = nI i → o2_ f0 f → (∀ a, a < i → ¬ (PMc f0 v a ∧ FEM f0 v c n (fun k => k = a))) → WPe pg_X11_findAsides none (Run mtab d) R (m_drop pg_X11_findAsides 8) [some (.ref 181), some (.int x), s2, s3] [] (shF L, f, g)
  | 0, i, x, s2, s3, f, hi, hx, hF, hN => by
    have e : i = c := by omega
    subst hx
    subst e
    have hc20 := hC.2.1
    have hcb : f 181 16 = nI i := (CM_o2 hF hC).2.2.2.1
    refine at_X11_findAsides ?_
    conv => whnf
    simp only [hcb]
    refine ⟨fun q9 => ?_, fun q9 => absurd (nI_le (Nat.le_refl _) (by omega)) q9⟩
    conv => whnf
    exact HZ (fun ⟨a, h1, h2⟩ => hN a h1 h2) _ _ _ _ rfl hF
  | k + 1, i, x, s2, s3, f, hi, hx, hF, hN => by
    subst hx
    have hc20 := hC.2.1
    have h21f : f 181 21 = (mayl (PMc f v) (fun m => nI m) c 0 0) := by
      rw [show PMc f v = PMc f0 v from funext (PMc_o2 hF v)]
      exact (hF 181 21 (by omega) (by omega)).trans h21
    have hCf : CM f n c := CM_o2 hF hC
    have hcb : f 181 16 = nI c := hCf.2.2.2.1
    have hd1 : 1 ≤ d := by omega
    refine at_X11_findAsides ?_
    conv => whnf
    simp only [hcb]
    refine ⟨fun q9 => absurd q9 (nI_ge (b := c) (by omega) (by omega)), fun q9 => ?_⟩
    conv => whnf
    refine smf_countsAt (v := v) (k := i) hd1 hc20 (by omega) h21f (fun y0 => ?_) (fun y0 => ?_)
    · rw [PMc_o2 hF] at y0
      conv => whnf
      (refine ⟨fun z9 => ?_, fun z9 => ?_⟩ <;> first | ((have c9 : (1 : Int32) = 0 := by with_reducible exact z9); exact absurd c9 (by decide)) | exact absurd (rfl : (0 : Int32) = 0) (by with_reducible exact z9) | exact absurd True.intro (by with_reducible exact z9) | exact False.elim (by with_reducible exact z9) | (conv => whnf))
      refine smf_isWell (n := n) (c := c) (v := v) (B := fun k => k = i) (by omega) hCf h21f (fun k hk => by rw [bit_sh (by omega) (by omega), decide_eq_true_eq]) (fun fe f1 o1 => ?_) (fun nf f1 o1 => ?_)
      · rw [FEM_o2 hF] at fe
        conv => whnf
        (refine ⟨fun z9 => ?_, fun z9 => ?_⟩ <;> first | ((have c9 : (1 : Int32) = 0 := by with_reducible exact z9); exact absurd c9 (by decide)) | exact absurd (rfl : (0 : Int32) = 0) (by with_reducible exact z9) | exact absurd True.intro (by with_reducible exact z9) | exact False.elim (by with_reducible exact z9) | (conv => whnf))
        refine ⟨by unfold vp_in; decide, ?_⟩
        conv => whnf
        exact HY1 ⟨i, by omega, y0, fe⟩ _ (o2_ui (o2_1 hF o1))
      · rw [FEM_o2 hF] at nf
        conv => whnf
        (refine ⟨fun z9 => ?_, fun z9 => ?_⟩ <;> first | ((have c9 : (1 : Int32) = 0 := by with_reducible exact z9); exact absurd c9 (by decide)) | exact absurd (rfl : (0 : Int32) = 0) (by with_reducible exact z9) | exact absurd True.intro (by with_reducible exact z9) | exact False.elim (by with_reducible exact z9) | (conv => whnf))
        exact mc1 hd hC h21 HY1 HZ k (i + 1) _ _ _ _ (by omega) (nI_1 i) (o2_1 hF o1) (fun b h2 => (Nat.lt_or_ge b i).elim (fun l => hN b l) (fun l => by have e : b = i := (by omega); subst e; exact fun z => nf z.2))
    · rw [PMc_o2 hF] at y0
      conv => whnf
      (refine ⟨fun z9 => ?_, fun z9 => ?_⟩ <;> first | ((have c9 : (1 : Int32) = 0 := by with_reducible exact z9); exact absurd c9 (by decide)) | exact absurd (rfl : (0 : Int32) = 0) (by with_reducible exact z9) | exact absurd True.intro (by with_reducible exact z9) | exact False.elim (by with_reducible exact z9) | (conv => whnf))
      exact mc1 hd hC h21 HY1 HZ k (i + 1) _ _ _ _ (by omega) (nI_1 i) hF (fun b h2 => (Nat.lt_or_ge b i).elim (fun l => hN b l) (fun l => by have e : b = i := (by omega); subst e; exact fun z => y0 z.1))
set_option maxRecDepth 100000 in
set_option maxHeartbeats 4000000 in
theorem smf_findAsides {d L : Nat} {f : Nat → Nat → Int32} {g : Nat → Nat → Int64} {n c v : Nat} {R : Option Value → mH → Prop} (hd : 4 ≤ d) (hC : CM f n c) (h21 : f 181 21 = (mayl (PMc f v) (fun m => nI m) c 0 0)) (H : ∀ r f', AS (FEM f v c n) (PMc f v) c r → o2_ f f' → R (some (.int r)) (shF L, f', g)) : Run mtab d 186 [.ref 181] (shF L, f, g) R := by
  obtain ⟨d, rfl⟩ : ∃ e, d = e + 1 := ⟨d - 1, by omega⟩
  refine go_X11_findAsides rfl ?_
  conv => whnf
  refine smf_isWell (n := n) (c := c) (v := v) (B := fun _ => False) (by omega) hC h21 (fun k hk => ⟨fun z => absurd z (zero_bit k), fun z => False.elim z⟩) (fun fe f1 o1 => ?_) (fun nf f1 o1 => ?_)
  · conv => whnf
    (refine ⟨fun z9 => ?_, fun z9 => ?_⟩ <;> first | ((have c9 : (1 : Int32) = 0 := by with_reducible exact z9); exact absurd c9 (by decide)) | exact absurd (rfl : (0 : Int32) = 0) (by with_reducible exact z9) | exact absurd True.intro (by with_reducible exact z9) | exact False.elim (by with_reducible exact z9) | (conv => whnf))
    exact H _ f1 (Or.inl ⟨fe, rfl⟩) (fun a i p _ => o1 a i p)
  · have hF1 : o2_ f f1 := fun a i p _ => o1 a i p
    conv => whnf
    (refine ⟨fun z9 => ?_, fun z9 => ?_⟩ <;> first | ((have c9 : (1 : Int32) = 0 := by with_reducible exact z9); exact absurd c9 (by decide)) | exact absurd (rfl : (0 : Int32) = 0) (by with_reducible exact z9) | exact absurd True.intro (by with_reducible exact z9) | exact False.elim (by with_reducible exact z9) | (conv => whnf))
    refine mc1 (f0 := f) (by omega) hC h21 (fun y f' o => H _ f' (Or.inr (Or.inl ⟨nf, y, rfl⟩)) o) (fun n1 x2 s2 s3 f2 hx2 o2 => ?_) c 0 _ _ _ _ (by omega) rfl hF1 (fun a h => absurd h (by omega))
    refine mb1 (f0 := f) (by omega) hC h21 (fun y f' o => H _ f' (Or.inr (Or.inr (Or.inl ⟨nf, n1, y, rfl⟩))) o) (fun n2 x3 s4 s5 f3 hx3 o3 => ?_) c 0 _ _ _ _ (by omega) hx2 o2 (fun p b h => absurd h (by omega))
    exact ma1 (f0 := f) (by omega) hC h21 (fun y f' o => H _ f' (Or.inr (Or.inr (Or.inr (Or.inl ⟨nf, n1, n2, y, rfl⟩)))) o) (fun n3 f' o => H _ f' (Or.inr (Or.inr (Or.inr (Or.inr ⟨nf, n1, n2, n3, rfl⟩)))) o) c 0 _ _ _ _ (by omega) hx3 o3 (fun p a b h => absurd h (by omega))
/-- feasible without the clues of B, by the class's tables -/
def FEC (f : Nat → Nat → Int32) (v c n : Nat) (B : Nat → Prop) : Prop := ∃ X : Nat → Int, (∀ k, k < c → Pc f v k → ¬ B k → X (f 130 k).toNatClampNeg + (f 132 k).toInt ≤ X (f 131 k).toNatClampNeg) ∧ (∀ w, Yh f 11 n w ≤ X w) ∧ ∀ w, w < n → X w ≤ Yh f 12 n w
theorem FEB_C {f f1 : Nat → Nat → Int32} {n c v m : Nat} {q : Nat → Nat} (fr : ∀ a i, (a = 11 ∨ a = 12 ∨ (130 ≤ a ∧ a ≤ 132)) → f1 a i = f a i) (h1 : ∀ j, j < m → q j < c ∧ Pc f v (q j)) (h2 : ∀ k, k < c → Pc f v k → ∃ j, j < m ∧ q j = k) : FEB f1 n m q = FEC f v c n := by
  have h130 : ∀ i, f1 130 i = f 130 i := fun i => fr 130 i (by omega)
  have h131 : ∀ i, f1 131 i = f 131 i := fun i => fr 131 i (by omega)
  have h132 : ∀ i, f1 132 i = f 132 i := fun i => fr 132 i (by omega)
  have y1 : Yh f1 11 n = Yh f 11 n := Yh_eq (fun w _ => fr 11 w (by omega))
  have y2 : Yh f1 12 n = Yh f 12 n := Yh_eq (fun w _ => fr 12 w (by omega))
  funext B
  unfold FEB FEC
  rw [y1, y2]
  refine propext ⟨fun ⟨X, x1, x2, x3⟩ => ⟨X, fun k hk hp hb => ?_, x2, x3⟩, fun ⟨X, x1, x2, x3⟩ => ⟨X, fun i hi hb => ?_, x2, x3⟩⟩
  · obtain ⟨j, hj, e⟩ := h2 k hk hp
    subst e
    have := x1 j hj hb
    rw [h130, h131, h132] at this
    exact this
  · rw [h130, h131, h132]
    exact x1 (q i) (h1 i hi).1 (h1 i hi).2 hb
theorem FEa_C {f : Nat → Nat → Int32} {n c v : Nat} : FEa (SC f v c) f 11 12 n ↔ FEC f v c n (fun _ => False) := by
  unfold FEa FEC SC
  constructor
  · rintro ⟨X, x1, x2, x3⟩
    exact ⟨X, fun k hk hp _ => x1 k hk hp, x2, x3⟩
  · rintro ⟨X, x1, x2, x3⟩
    exact ⟨X, fun k hk hp => x1 k hk hp (fun z => z), x2, x3⟩
def SX_asides (n c v : Nat) (f f2 : Nat → Nat → Int32) (r : Int32) : Prop := AS (FEC f v c n) (fun k => k < c ∧ Pc f v k) c r ∧ XI f2 ∧ kp [0] f f2
def SM_asides (n c v : Nat) (f f2 : Nat → Nat → Int32) (r : Int32) : Prop := AS (FEM f v c n) (fun k => k < c ∧ PMc f v k) c r ∧ kp [10, 22] f f2
theorem AS_lt {FE : (Nat → Prop) → Prop} {Cn : Nat → Prop} {c : Nat} {r : Int32} (h : AS FE Cn c r) : AS FE (fun k => k < c ∧ Cn k) c r := by
  have e1 : (∃ a, a < c ∧ (a < c ∧ Cn a) ∧ FE (fun k => k = a)) ↔ ∃ a, a < c ∧ Cn a ∧ FE (fun k => k = a) := ⟨fun ⟨a, h1, h2, h3⟩ => ⟨a, h1, h2.2, h3⟩, fun ⟨a, h1, h2, h3⟩ => ⟨a, h1, ⟨h1, h2⟩, h3⟩⟩
  have e2 : (∃ a b, a < b ∧ b < c ∧ (a < c ∧ Cn a) ∧ (b < c ∧ Cn b) ∧ FE (fun k => k = a ∨ k = b)) ↔ ∃ a b, a < b ∧ b < c ∧ Cn a ∧ Cn b ∧ FE (fun k => k = a ∨ k = b) := ⟨fun ⟨a, b, h1, h2, h3, h4, h5⟩ => ⟨a, b, h1, h2, h3.2, h4.2, h5⟩, fun ⟨a, b, h1, h2, h3, h4, h5⟩ => ⟨a, b, h1, h2, ⟨by omega, h3⟩, ⟨h2, h4⟩, h5⟩⟩
  have e3 : (∃ a b d, a < b ∧ b < d ∧ d < c ∧ (a < c ∧ Cn a) ∧ (b < c ∧ Cn b) ∧ (d < c ∧ Cn d) ∧ FE (fun k => k = a ∨ k = b ∨ k = d)) ↔ ∃ a b d, a < b ∧ b < d ∧ d < c ∧ Cn a ∧ Cn b ∧ Cn d ∧ FE (fun k => k = a ∨ k = b ∨ k = d) := ⟨fun ⟨a, b, d, h1, h2, h3, h4, h5, h6, h7⟩ => ⟨a, b, d, h1, h2, h3, h4.2, h5.2, h6.2, h7⟩, fun ⟨a, b, d, h1, h2, h3, h4, h5, h6, h7⟩ => ⟨a, b, d, h1, h2, h3, ⟨by omega, h4⟩, ⟨by omega, h5⟩, ⟨h3, h6⟩, h7⟩⟩
  unfold AS at h ⊢
  rw [e1, e2, e3]
  exact h
set_option maxRecDepth 100000 in
set_option maxHeartbeats 4000000 in
theorem sf_asides {d L : Nat} {f : Nat → Nat → Int32} {g : Nat → Nat → Int64} {n c v : Nat} {R : Option Value → mH → Prop} (hd : 8 ≤ d) (hX : XI f) (hK : YK f n c v) (H : ∀ r f2, SX_asides n c v f f2 r → R (some (.int r)) (shF L, f2, g)) : Run mtab d 116 [.ref 5] (shF L, f, g) R := by
  obtain ⟨d, rfl⟩ : ∃ e, d = e + 1 := ⟨d - 1, by omega⟩
  refine go_X10_asides rfl ?_
  conv => whnf
  obtain ⟨hn, hnb, hvb, hv, hE, cy, hA0⟩ := hK
  refine sf_reckon (n := n) (c := c) (v := v) (by omega) hX hn hnb hvb hv hE cy hA0 (fun f1 r1 => ?_)
  conv => whnf
  have h1X := XI_rkY hX r1
  have k1 := kp_rkY r1
  obtain ⟨_, fr, ⟨m, q, hm, e11, h136, hl, ha, hi⟩, hq⟩ := r1
  have eF : FEB f1 n m q = FEC f v c n := FEB_C (fun a i h => fr a i (by omega) (by omega) (by omega) (by omega) (by omega) (by omega) (by omega)) (fun j hj => (hl j hj).2) ha
  have hC : CT f1 n m q := by
    refine ⟨hn, hm, (fr 6 13 (by omega) (by omega) (by omega) (by omega) (by omega) (by omega) (by omega)).trans hnb, e11, fun i hi => ?_, fun j hj => ?_⟩
    · obtain ⟨a1, a2, a3⟩ := hl i hi
      have := hE.1
      rw [fr 130 _ (by omega) (by omega) (by omega) (by omega) (by omega) (by omega) (by omega), fr 131 _ (by omega) (by omega) (by omega) (by omega) (by omega) (by omega) (by omega), fr 132 _ (by omega) (by omega) (by omega) (by omega) (by omega) (by omega) (by omega)]
      obtain ⟨b1, b2, b3⟩ := hE.2.2 (q i) a2
      exact ⟨by omega, a1, b1, b2, b3⟩
    · rw [fr 11 j (by omega) (by omega) (by omega) (by omega) (by omega) (by omega) (by omega), fr 12 j (by omega) (by omega) (by omega) (by omega) (by omega) (by omega) (by omega)]
      exact cy j hj
  have hZ1 : Z137 f1 := fun k => (fr 137 k (by omega) (by omega) (by omega) (by omega) (by omega) (by omega) (by omega)).trans (hA0 k)
  refine sf_findAsides (n := n) (m := m) (c := c) (q := q) (Cn := Pc f v) (by omega) h1X hC hZ1 (fun j hj => (hl j hj).2) ha hi ?_ (fun r f2 hAS x2 k2 => ?_)
  · rw [eF]
    rcases hq with ⟨e9, nf, _⟩ | ⟨e9, fe, _⟩
    · exact Or.inl ⟨e9, fun z => nf (FEa_C.mpr z)⟩
    · exact Or.inr ⟨e9, FEa_C.mp fe⟩
  · conv => whnf
    rw [eF] at hAS
    exact H r f2 ⟨AS_lt hAS, x2, kp_trans k1 (zf_kp k2)⟩
set_option maxRecDepth 100000 in
set_option maxHeartbeats 4000000 in
theorem smf_lookAside {d L : Nat} {f : Nat → Nat → Int32} {g : Nat → Nat → Int64} {n c v : Nat} {R : Option Value → mH → Prop} (hd : 7 ≤ d) (hX : XI f) (hY : MY n c v f) (H : ∀ r f2, SM_asides n c v f f2 r → XI f2 → MY n c v f2 → R (some (.int r)) (shF L, f2, g)) : Run mtab d 187 [.ref 181] (shF L, f, g) R := by
  obtain ⟨d, rfl⟩ : ∃ e, d = e + 1 := ⟨d - 1, by omega⟩
  refine go_X11_lookAside rfl ?_
  conv => whnf
  refine smq_refresh (n := n) (c := c) (v := v) (by omega) hX hY (fun f1 h1 o1 k1 y1 yc1 z1 => ?_)
  conv => whnf
  refine smf_findAsides (n := n) (c := c) (v := v) (by omega) y1.1 yc1.1 (fun r f2 hAS o2 => ?_)
  conv => whnf
  have k2 : kp [10, 22] f1 f2 := fun a i h => o2 a i (fun e => by subst e; exact absurd (show true = false from h) (by decide)) (fun e => by subst e; exact absurd (show true = false from h) (by decide))
  have h2 : XI f2 := fun a i => by
    by_cases e1 : a = 200
    · subst e1
      exact True.intro
    · by_cases e2 : a = 202
      · subst e2
        exact True.intro
      · rw [o2 a i e1 e2]
        exact h1 a i
  have c2 : CM f2 n c := CM_o2 o2 y1.1
  have v2 : f2 181 48 = nI v := (o2 181 48 (by omega) (by omega)).trans y1.2.1
  refine smf_findYears (n := n) (c := c) (v := v) (by omega) c2 v2 y1.2.2.1 (fun f3 o3 e3 y3 => ?_)
  conv => whnf
  have eP : PMc f1 v = PMc f v := funext (fun k => propext (PMc_eq o1 v k))
  have eF : FEM f1 v c n = FEM f v c n := by
    funext B
    have h196 : ∀ i, f1 196 i = f 196 i := fun i => o1 196 i (by omega) (by omega) (by omega) (by omega) (by omega) (by omega)
    have h197 : ∀ i, f1 197 i = f 197 i := fun i => o1 197 i (by omega) (by omega) (by omega) (by omega) (by omega) (by omega)
    have h198 : ∀ i, f1 198 i = f 198 i := fun i => o1 198 i (by omega) (by omega) (by omega) (by omega) (by omega) (by omega)
    have w1 : Yh f1 187 n = Yh f 187 n := Yh_eq (fun w _ => o1 187 w (by omega) (by omega) (by omega) (by omega) (by omega) (by omega))
    have w2 : Yh f1 188 n = Yh f 188 n := Yh_eq (fun w _ => o1 188 w (by omega) (by omega) (by omega) (by omega) (by omega) (by omega))
    unfold FEM
    simp only [eP, h196, h197, h198, w1, w2]
  rw [eP, eF] at hAS
  exact H r f3 ⟨AS_lt hAS, kp_trans k1 (kp_trans k2 (kp_o6 o3))⟩ (XI_o6 h2 o3) ⟨CM_o o3 c2, (o3 181 48 (by omega) (by omega) (by omega) (by omega) (by omega) (by omega)).trans v2, y1.2.2.1, fun _ => y3⟩
set_option maxRecDepth 100000 in
set_option maxHeartbeats 4000000 in
theorem smf_asides {d L : Nat} {f : Nat → Nat → Int32} {g : Nat → Nat → Int64} {n c v : Nat} {R : Option Value → mH → Prop} (hd : 8 ≤ d) (hX : XI f) (hY : MY n c v f) (H : ∀ r f2, SM_asides n c v f f2 r → XI f2 → MY n c v f2 → R (some (.int r)) (shF L, f2, g)) : Run mtab d 188 [.ref 181] (shF L, f, g) R := by
  obtain ⟨d, rfl⟩ : ∃ e, d = e + 1 := ⟨d - 1, by omega⟩
  refine go_X11_asides rfl ?_
  conv => whnf
  refine smf_lookAside (n := n) (c := c) (v := v) (by omega) hX hY (fun r f2 s x2 m2 => ?_)
  conv => whnf
  exact H r f2 s x2 m2
theorem fin_asides {f f1 f2 : Nat → Nat → Int32} {n c v : Nat} {v1 v2 : Int32} (hW : RW n f) (hC : RC c f) (hV : RV v f) (s1 : SX_asides n c v f f1 v1) (s2 : SM_asides n c v f1 f2 v2) : v1 = v2 := by
  obtain ⟨a1, _, k1⟩ := s1
  obtain ⟨a2, _⟩ := s2
  have fr : ∀ a i, 182 ≤ a → hasN [0] (cmp a i) = false → f1 a i = f a i := fun a i _ h => k1 a i h
  have g196 : ∀ i, f1 196 i = f 196 i := fun i => k1 196 i rfl
  have g197 : ∀ i, f1 197 i = f 197 i := fun i => k1 197 i rfl
  have g198 : ∀ i, f1 198 i = f 198 i := fun i => k1 198 i rfl
  have g199 : ∀ i, f1 199 i = f 199 i := fun i => k1 199 i rfl
  have gP : ∀ k, k < c → (Pc f v k ↔ PMc f1 v k) := fun k hk => Pc_PM hC hV (fun a i h1 h2 => by
    have e : a = 196 ∨ a = 197 ∨ a = 198 ∨ a = 199 := by omega
    rcases e with rfl | rfl | rfl | rfl
    · exact g196 i
    · exact g197 i
    · exact g198 i
    · exact g199 i) (fun i => k1 218 i rfl) hk
  have eC : (fun k => k < c ∧ Pc f v k) = fun k => k < c ∧ PMc f1 v k := by
    funext k
    refine propext ⟨fun ⟨h1, h2⟩ => ⟨h1, (gP k h1).mp h2⟩, fun ⟨h1, h2⟩ => ⟨h1, (gP k h1).mpr h2⟩⟩
  have t11 : ∀ w, w < n → f 11 w = f1 187 w := fun w hw => ((hW.2.2.2.1 w hw).2.2.2.2.1).trans (k1 187 w rfl).symm
  have t12 : ∀ w, w < n → f 12 w = f1 188 w := fun w hw => ((hW.2.2.2.1 w hw).2.2.2.2.2.1).trans (k1 188 w rfl).symm
  have y1 : Yh f 11 n = Yh f1 187 n := Yh_eq t11
  have y2 : Yh f 12 n = Yh f1 188 n := Yh_eq t12
  have eF : FEC f v c n = FEM f1 v c n := by
    funext B
    unfold FEC FEM
    rw [y1, y2]
    refine propext ⟨fun ⟨X, x1, x2, x3⟩ => ⟨X, fun k hk hp hb => ?_, x2, x3⟩, fun ⟨X, x1, x2, x3⟩ => ⟨X, fun k hk hp hb => ?_, x2, x3⟩⟩
    · obtain ⟨b1, b2, b3, _⟩ := hC.2.2.2 k hk
      have := x1 k hk ((gP k hk).mpr hp) hb
      rw [g196, g197, g198, ← b1, ← b2, ← b3]
      exact this
    · obtain ⟨b1, b2, b3, _⟩ := hC.2.2.2 k hk
      have := x1 k hk ((gP k hk).mp hp) hb
      rw [g196, g197, g198, ← b1, ← b2, ← b3] at this
      exact this
  rw [eC, eF] at a1
  exact AS_u a1 a2
