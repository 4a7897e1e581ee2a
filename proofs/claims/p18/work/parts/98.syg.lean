/-- feasible without the clues of B, by the class's tables -/
def FEC (f : Nat → Nat → Int32) (v c n : Nat) (B : Nat → Prop) : Prop := ∃ X : Nat → Int, (∀ k, k < c → Pc f v k → ¬ B k → X (f 130 k).toNatClampNeg + (f 132 k).toInt ≤ X (f 131 k).toNatClampNeg) ∧ (∀ w, Yh f 11 n w ≤ X w) ∧ ∀ w, w < n → X w ≤ Yh f 12 n w
theorem FEB_C {f f1 : Nat → Nat → Int32} {n c v m : Nat} {q : Nat → Nat} (fr : ∀ a i, (a = 11 ∨ a = 12 ∨ (130 ≤ a ∧ a ≤ 132)) → f1 a i = f a i) (h1 : ∀ j, j < m → q j < c ∧ Pc f v (q j)) (h2 : ∀ k, k < c → Pc f v k → ∃ j, j < m ∧ q j = k) : FEB f1 n m q = FEC f v c n := by
  have h130 : ∀ i, f1 130 i = f 130 i := fun i => fr 130 i (by omega)
  have h131 : ∀ i, f1 131 i = f 131 i := fun i => fr 131 i (by omega)
  have h132 : ∀ i, f1 132 i = f 132 i := fun i => fr 132 i (by omega)
  have y1 : Yh f1 11 n = Yh f 11 n := Yh_eq (fun w _ => fr 11 w (by omega))
  have y2 : Yh f1 12 n = Yh f 12 n := Yh_eq (fun w _ => fr 12 w (by omega))
  funext B
  unfold FEB FEC
  rw [y1, y2]
  refine propext ⟨fun ⟨X, x1, x2, x3⟩ => ⟨X, fun k hk hp hb => ?_, x2, x3⟩, fun ⟨X, x1, x2, x3⟩ => ⟨X, fun i hi hb => ?_, x2, x3⟩⟩
  · obtain ⟨j, hj, e⟩ := h2 k hk hp
    subst e
    have := x1 j hj hb
    rw [h130, h131, h132] at this
    exact this
  · rw [h130, h131, h132]
    exact x1 (q i) (h1 i hi).1 (h1 i hi).2 hb
theorem FEa_C {f : Nat → Nat → Int32} {n c v : Nat} : FEa (SC f v c) f 11 12 n ↔ FEC f v c n (fun _ => False) := by
  unfold FEa FEC SC
  constructor
  · rintro ⟨X, x1, x2, x3⟩
    exact ⟨X, fun k hk hp _ => x1 k hk hp, x2, x3⟩
  · rintro ⟨X, x1, x2, x3⟩
    exact ⟨X, fun k hk hp => x1 k hk hp (fun z => z), x2, x3⟩
def SX_asides (n c v : Nat) (f f2 : Nat → Nat → Int32) (r : Int32) : Prop := AS (FEC f v c n) (fun k => k < c ∧ Pc f v k) c r ∧ XI f2 ∧ kp [0] f f2
def SM_asides (n c v : Nat) (f f2 : Nat → Nat → Int32) (r : Int32) : Prop := AS (FEM f v c n) (fun k => k < c ∧ PMc f v k) c r ∧ kp [10, 22, 23] f f2
theorem AS_lt {FE : (Nat → Prop) → Prop} {Cn : Nat → Prop} {c : Nat} {r : Int32} (h : AS FE Cn c r) : AS FE (fun k => k < c ∧ Cn k) c r := by
  have e1 : (∃ a, a < c ∧ (a < c ∧ Cn a) ∧ FE (fun k => k = a)) ↔ ∃ a, a < c ∧ Cn a ∧ FE (fun k => k = a) := ⟨fun ⟨a, h1, h2, h3⟩ => ⟨a, h1, h2.2, h3⟩, fun ⟨a, h1, h2, h3⟩ => ⟨a, h1, ⟨h1, h2⟩, h3⟩⟩
  have e2 : (∃ a b, a < b ∧ b < c ∧ (a < c ∧ Cn a) ∧ (b < c ∧ Cn b) ∧ FE (fun k => k = a ∨ k = b)) ↔ ∃ a b, a < b ∧ b < c ∧ Cn a ∧ Cn b ∧ FE (fun k => k = a ∨ k = b) := ⟨fun ⟨a, b, h1, h2, h3, h4, h5⟩ => ⟨a, b, h1, h2, h3.2, h4.2, h5⟩, fun ⟨a, b, h1, h2, h3, h4, h5⟩ => ⟨a, b, h1, h2, ⟨by omega, h3⟩, ⟨h2, h4⟩, h5⟩⟩
  have e3 : (∃ a b d, a < b ∧ b < d ∧ d < c ∧ (a < c ∧ Cn a) ∧ (b < c ∧ Cn b) ∧ (d < c ∧ Cn d) ∧ FE (fun k => k = a ∨ k = b ∨ k = d)) ↔ ∃ a b d, a < b ∧ b < d ∧ d < c ∧ Cn a ∧ Cn b ∧ Cn d ∧ FE (fun k => k = a ∨ k = b ∨ k = d) := ⟨fun ⟨a, b, d, h1, h2, h3, h4, h5, h6, h7⟩ => ⟨a, b, d, h1, h2, h3, h4.2, h5.2, h6.2, h7⟩, fun ⟨a, b, d, h1, h2, h3, h4, h5, h6, h7⟩ => ⟨a, b, d, h1, h2, h3, ⟨by omega, h4⟩, ⟨by omega, h5⟩, ⟨h3, h6⟩, h7⟩⟩
  unfold AS at h ⊢
  rw [e1, e2, e3]
  exact h
set_option maxRecDepth 100000 in
set_option maxHeartbeats 4000000 in
theorem sf_asides {d L : Nat} {f : Nat → Nat → Int32} {g : Nat → Nat → Int64} {n c v : Nat} {R : Option Value → mH → Prop} (hd : 8 ≤ d) (hX : XI f) (hK : YK f n c v) (H : ∀ r f2, SX_asides n c v f f2 r → R (some (.int r)) (shF L, f2, g)) : Run mtab d 116 [.ref 5] (shF L, f, g) R := by
  obtain ⟨d, rfl⟩ : ∃ e, d = e + 1 := ⟨d - 1, by omega⟩
  refine go_X10_asides rfl ?_
  conv => whnf
  obtain ⟨hn, hnb, hvb, hv, hE, cy, hA0⟩ := hK
  refine sf_reckon (n := n) (c := c) (v := v) (by omega) hX hn hnb hvb hv hE cy hA0 (fun f1 r1 => ?_)
  conv => whnf
  have h1X := XI_rkY hX r1
  have k1 := kp_rkY r1
  obtain ⟨_, fr, ⟨m, q, hm, e11, h136, hl, ha, hi⟩, hq⟩ := r1
  have eF : FEB f1 n m q = FEC f v c n := FEB_C (fun a i h => fr a i (by omega) (by omega) (by omega) (by omega) (by omega) (by omega) (by omega)) (fun j hj => (hl j hj).2) ha
  have hC : CT f1 n m q := by
    refine ⟨hn, hm, (fr 6 13 (by omega) (by omega) (by omega) (by omega) (by omega) (by omega) (by omega)).trans hnb, e11, fun i hi => ?_, fun j hj => ?_⟩
    · obtain ⟨a1, a2, a3⟩ := hl i hi
      have := hE.1
      rw [fr 130 _ (by omega) (by omega) (by omega) (by omega) (by omega) (by omega) (by omega), fr 131 _ (by omega) (by omega) (by omega) (by omega) (by omega) (by omega) (by omega), fr 132 _ (by omega) (by omega) (by omega) (by omega) (by omega) (by omega) (by omega)]
      obtain ⟨b1, b2, b3⟩ := hE.2.2 (q i) a2
      exact ⟨by omega, a1, b1, b2, b3⟩
    · rw [fr 11 j (by omega) (by omega) (by omega) (by omega) (by omega) (by omega) (by omega), fr 12 j (by omega) (by omega) (by omega) (by omega) (by omega) (by omega) (by omega)]
      exact cy j hj
  have hZ1 : Z137 f1 := fun k => (fr 137 k (by omega) (by omega) (by omega) (by omega) (by omega) (by omega) (by omega)).trans (hA0 k)
  refine sf_findAsides (n := n) (m := m) (c := c) (q := q) (Cn := Pc f v) (by omega) h1X hC hZ1 (fun j hj => (hl j hj).2) ha hi ?_ (fun r f2 hAS x2 k2 => ?_)
  · rw [eF]
    rcases hq with ⟨e9, nf, _⟩ | ⟨e9, fe, _⟩
    · exact Or.inl ⟨e9, fun z => nf (FEa_C.mpr z)⟩
    · exact Or.inr ⟨e9, FEa_C.mp fe⟩
  · conv => whnf
    rw [eF] at hAS
    exact H r f2 ⟨AS_lt hAS, x2, kp_trans k1 (zf_kp k2)⟩
set_option maxRecDepth 100000 in
set_option maxHeartbeats 4000000 in
theorem smf_lookAside {d L : Nat} {f : Nat → Nat → Int32} {g : Nat → Nat → Int64} {n c v : Nat} {R : Option Value → mH → Prop} (hd : 7 ≤ d) (hX : XI f) (hY : MY n c v f) (H : ∀ r f2, SM_asides n c v f f2 r → XI f2 → MY n c v f2 → R (some (.int r)) (shF L, f2, g)) : Run mtab d 187 [.ref 181] (shF L, f, g) R := by
  obtain ⟨d, rfl⟩ : ∃ e, d = e + 1 := ⟨d - 1, by omega⟩
  refine go_X11_lookAside rfl ?_
  conv => whnf
  refine smq_refresh (n := n) (c := c) (v := v) (by omega) hX hY (fun f1 h1 o1 k1 y1 yc1 z1 => ?_)
  conv => whnf
  refine smf_findAsides (n := n) (c := c) (v := v) (by omega) y1.1 yc1.1 (fun r f2 hAS o2 => ?_)
  conv => whnf
  have k2 : kp [10, 22, 23] f1 f2 := fun a i h => o2 a i (fun e => by subst e; exact absurd (show true = false from h) (by decide)) (fun e => by subst e; exact absurd (show true = false from h) (by decide))
  have h2 : XI f2 := fun a i => by
    by_cases e1 : a = 200
    · subst e1
      exact True.intro
    · by_cases e2 : a = 202
      · subst e2
        exact True.intro
      · rw [o2 a i e1 e2]
        exact h1 a i
  have c2 : CM f2 n c := CM_o2 o2 y1.1
  have v2 : f2 181 48 = nI v := (o2 181 48 (by omega) (by omega)).trans y1.2.1
  refine smf_findYears (n := n) (c := c) (v := v) (by omega) c2 v2 y1.2.2.1 (fun f3 o3 e3 y3 => ?_)
  conv => whnf
  have eP : PMc f1 v = PMc f v := funext (fun k => propext (PMc_eq o1 v k))
  have eF : FEM f1 v c n = FEM f v c n := by
    funext B
    have h196 : ∀ i, f1 196 i = f 196 i := fun i => o1 196 i (by omega) (by omega) (by omega) (by omega) (by omega) (by omega)
    have h197 : ∀ i, f1 197 i = f 197 i := fun i => o1 197 i (by omega) (by omega) (by omega) (by omega) (by omega) (by omega)
    have h198 : ∀ i, f1 198 i = f 198 i := fun i => o1 198 i (by omega) (by omega) (by omega) (by omega) (by omega) (by omega)
    have w1 : Yh f1 187 n = Yh f 187 n := Yh_eq (fun w _ => o1 187 w (by omega) (by omega) (by omega) (by omega) (by omega) (by omega))
    have w2 : Yh f1 188 n = Yh f 188 n := Yh_eq (fun w _ => o1 188 w (by omega) (by omega) (by omega) (by omega) (by omega) (by omega))
    unfold FEM
    simp only [eP, h196, h197, h198, w1, w2]
  rw [eP, eF] at hAS
  exact H r f3 ⟨AS_lt hAS, kp_trans k1 (kp_trans k2 (kp_o6 o3))⟩ (XI_o6 h2 o3) ⟨CM_o o3 c2, (o3 181 48 (by omega) (by omega) (by omega) (by omega) (by omega) (by omega)).trans v2, y1.2.2.1, fun _ => y3⟩
set_option maxRecDepth 100000 in
set_option maxHeartbeats 4000000 in
theorem smf_asides {d L : Nat} {f : Nat → Nat → Int32} {g : Nat → Nat → Int64} {n c v : Nat} {R : Option Value → mH → Prop} (hd : 8 ≤ d) (hX : XI f) (hY : MY n c v f) (H : ∀ r f2, SM_asides n c v f f2 r → XI f2 → MY n c v f2 → R (some (.int r)) (shF L, f2, g)) : Run mtab d 188 [.ref 181] (shF L, f, g) R := by
  obtain ⟨d, rfl⟩ : ∃ e, d = e + 1 := ⟨d - 1, by omega⟩
  refine go_X11_asides rfl ?_
  conv => whnf
  refine smf_lookAside (n := n) (c := c) (v := v) (by omega) hX hY (fun r f2 s x2 m2 => ?_)
  conv => whnf
  exact H r f2 s x2 m2
theorem fin_asides {f f1 f2 : Nat → Nat → Int32} {n c v : Nat} {v1 v2 : Int32} (hW : RW n f) (hC : RC c f) (hV : RV v f) (s1 : SX_asides n c v f f1 v1) (s2 : SM_asides n c v f1 f2 v2) : v1 = v2 := by
  obtain ⟨a1, _, k1⟩ := s1
  obtain ⟨a2, _⟩ := s2
  have fr : ∀ a i, 182 ≤ a → hasN [0] (cmp a i) = false → f1 a i = f a i := fun a i _ h => k1 a i h
  have g196 : ∀ i, f1 196 i = f 196 i := fun i => k1 196 i rfl
  have g197 : ∀ i, f1 197 i = f 197 i := fun i => k1 197 i rfl
  have g198 : ∀ i, f1 198 i = f 198 i := fun i => k1 198 i rfl
  have g199 : ∀ i, f1 199 i = f 199 i := fun i => k1 199 i rfl
  have gP : ∀ k, k < c → (Pc f v k ↔ PMc f1 v k) := fun k hk => Pc_PM hC hV (fun a i h1 h2 => by
    have e : a = 196 ∨ a = 197 ∨ a = 198 ∨ a = 199 := by omega
    rcases e with rfl | rfl | rfl | rfl
    · exact g196 i
    · exact g197 i
    · exact g198 i
    · exact g199 i) (fun i => k1 218 i rfl) hk
  have eC : (fun k => k < c ∧ Pc f v k) = fun k => k < c ∧ PMc f1 v k := by
    funext k
    refine propext ⟨fun ⟨h1, h2⟩ => ⟨h1, (gP k h1).mp h2⟩, fun ⟨h1, h2⟩ => ⟨h1, (gP k h1).mpr h2⟩⟩
  have t11 : ∀ w, w < n → f 11 w = f1 187 w := fun w hw => ((hW.2.2.2.1 w hw).2.2.2.2.1).trans (k1 187 w rfl).symm
  have t12 : ∀ w, w < n → f 12 w = f1 188 w := fun w hw => ((hW.2.2.2.1 w hw).2.2.2.2.2.1).trans (k1 188 w rfl).symm
  have y1 : Yh f 11 n = Yh f1 187 n := Yh_eq t11
  have y2 : Yh f 12 n = Yh f1 188 n := Yh_eq t12
  have eF : FEC f v c n = FEM f1 v c n := by
    funext B
    unfold FEC FEM
    rw [y1, y2]
    refine propext ⟨fun ⟨X, x1, x2, x3⟩ => ⟨X, fun k hk hp hb => ?_, x2, x3⟩, fun ⟨X, x1, x2, x3⟩ => ⟨X, fun k hk hp hb => ?_, x2, x3⟩⟩
    · obtain ⟨b1, b2, b3, _⟩ := hC.2.2.2 k hk
      have := x1 k hk ((gP k hk).mpr hp) hb
      rw [g196, g197, g198, ← b1, ← b2, ← b3]
      exact this
    · obtain ⟨b1, b2, b3, _⟩ := hC.2.2.2 k hk
      have := x1 k hk ((gP k hk).mp hp) hb
      rw [g196, g197, g198, ← b1, ← b2, ← b3] at this
      exact this
  rw [eC, eF] at a1
  exact AS_u a1 a2
