theorem XI_o6 {f f1 : Nat → Nat → Int32} (hX : XI f) (r : o6 f f1) : XI f1 := fun a i => by
  by_cases z1 : a = 200
  · subst z1
    exact True.intro
  · by_cases z2 : a = 201
    · subst z2
      exact True.intro
    · by_cases z : a = 181 ∧ (i = 21 ∨ i = 24 ∨ i = 29 ∨ i = 39)
      · obtain ⟨y1, y2⟩ := z
        subst y1
        rcases y2 with rfl | rfl | rfl | rfl <;> exact True.intro
      · rw [r a i z1 z2 (by omega) (by omega) (by omega) (by omega)]
        exact hX a i
theorem kp_o6 {f f1 : Nat → Nat → Int32} (r : o6 f f1) : kp [10, 22, 23] f f1 := fun a i h => r a i (fun e => by subst e; exact absurd (show true = false from h) (by decide)) (fun e => by subst e; exact absurd (show true = false from h) (by decide)) (fun e => by obtain ⟨e1, e2⟩ := e; subst e1; subst e2; exact absurd h (by decide)) (fun e => by obtain ⟨e1, e2⟩ := e; subst e1; subst e2; exact absurd h (by decide)) (fun e => by obtain ⟨e1, e2⟩ := e; subst e1; subst e2; exact absurd h (by decide)) (fun e => by obtain ⟨e1, e2⟩ := e; subst e1; subst e2; exact absurd h (by decide))
theorem CM_q {f f' : Nat → Nat → Int32} {n c : Nat} (h : ∀ a i, (a = 187 ∨ a = 188 ∨ (196 ≤ a ∧ a ≤ 198)) → f' a i = f a i) (h0 : f' 181 0 = f 181 0) (h16 : f' 181 16 = f 181 16) (hC : CM f n c) : CM f' n c := by
  obtain ⟨a, b, c1, d, e, g⟩ := hC
  refine ⟨a, b, h0.trans c1, h16.trans d, fun k hk => ?_, fun j hj => ?_⟩
  · rw [h 196 k (by omega), h 197 k (by omega), h 198 k (by omega)]
    exact e k hk
  · rw [h 187 j (by omega), h 188 j (by omega)]
    exact g j hj
theorem YC_k {f f2 : Nat → Nat → Int32} {n c v : Nat} (h : ∀ a i, (a = 187 ∨ a = 188 ∨ (196 ≤ a ∧ a ≤ 201) ∨ a = 218) → f2 a i = f a i) (h21 : f2 181 21 = f 181 21) (h24 : f2 181 24 = f 181 24) (y : YC f n c v) : YC f2 n c v := by
  have h196 : ∀ i, f2 196 i = f 196 i := fun i => h 196 i (by omega)
  have h197 : ∀ i, f2 197 i = f 197 i := fun i => h 197 i (by omega)
  have h198 : ∀ i, f2 198 i = f 198 i := fun i => h 198 i (by omega)
  have hP : ∀ k, PMc f2 v k = PMc f v k := fun k => by
    unfold PMc
    rw [smp_kp (fun i => h 218 i (by omega)), smp_kp (fun i => h 218 i (by omega)), h 199 k (by omega), h196, h197]
  have eP : PMc f2 v = PMc f v := funext hP
  have eS : SMc f2 v c = SMc f v c := by
    funext X
    unfold SMc
    simp only [hP, h196, h197, h198]
  have eN : NMc f2 v c = NMc f v c := by
    funext X
    unfold NMc
    simp only [hP, h196, h197, h198]
  have y187 : Yh f2 187 n = Yh f 187 n := Yh_eq (fun w _ => h 187 w (by omega))
  have y188 : Yh f2 188 n = Yh f 188 n := Yh_eq (fun w _ => h 188 w (by omega))
  have y200 : Yh f2 200 n = Yh f 200 n := Yh_eq (fun w _ => h 200 w (by omega))
  have n188 : Nh f2 188 n = Nh f 188 n := Nh_eq (fun w _ => h 188 w (by omega))
  have n201 : Nh f2 201 n = Nh f 201 n := Nh_eq (fun w _ => h 201 w (by omega))
  unfold YC FEa at y ⊢
  rw [eP, eS, eN, y187, y188, y200, n188, n201, h21, h24]
  refine ⟨y.1, ?_⟩
  rcases y.2 with ⟨a1, a2, a3⟩ | ⟨a1, a2, a3, a4, a5⟩
  · refine Or.inl ⟨a1, a2, fun w hw => ?_⟩
    rw [h 200 w (by omega), h 201 w (by omega), h 187 w (by omega), h 188 w (by omega)]
    exact a3 w hw
  · refine Or.inr ⟨a1, a2, a3, a4, fun w hw => ?_⟩
    rw [h 200 w (by omega), h 201 w (by omega)]
    exact a5 w hw
/-- what the model keeps of the years is right -/
def MY (n c v : Nat) (f : Nat → Nat → Int32) : Prop := CM f n c ∧ f 181 48 = nI v ∧ v ≤ 60 ∧ (¬ f 181 29 = 0 → YC f n c v)
def Z137 (f : Nat → Nat → Int32) : Prop := ∀ k, f 137 k = 0
def okm (l : List Nat) : Bool := !hasN l 11 && (!hasN l 14 && (!hasN l 15 && !hasN l 22))
theorem okm_of {l : List Nat} (h : okm l = true) : hasN l 11 = false ∧ hasN l 14 = false ∧ hasN l 15 = false ∧ hasN l 22 = false := by
  unfold okm at h
  simp only [Bool.and_eq_true, Bool.not_eq_true'] at h
  exact h
theorem CM_kp {l : List Nat} {f f' : Nat → Nat → Int32} {n c : Nat} (k : kp l f f') (h11 : hasN l 11 = false) (h15 : hasN l 15 = false) (m : CM f n c) : CM f' n c := by
  refine CM_q (fun a i h => ?_) (k 181 0 (by exact h11)) (k 181 16 (by exact h15)) m
  rcases h with rfl | rfl | ⟨h1, h2⟩
  · exact k 187 i (by exact h11)
  · exact k 188 i (by exact h11)
  · have e : a = 196 ∨ a = 197 ∨ a = 198 := by omega
    rcases e with rfl | rfl | rfl
    · exact k 196 i (by exact h15)
    · exact k 197 i (by exact h15)
    · exact k 198 i (by exact h15)
theorem MY_kp {l : List Nat} {f f' : Nat → Nat → Int32} {n c v : Nat} (k : kp l f f') (hl : okm l = true) (m : MY n c v f) : MY n c v f' := by
  obtain ⟨h11, h14, h15, h22⟩ := okm_of hl
  refine ⟨CM_kp k h11 h15 m.1, (k 181 48 (by exact h14)).trans m.2.1, m.2.2.1, fun z => ?_⟩
  rw [k 181 29 (by exact h22)] at z
  refine YC_k (fun a i h => ?_) (k 181 21 (by exact h22)) (k 181 24 (by exact h22)) (m.2.2.2 z)
  rcases h with rfl | rfl | ⟨h1, h2⟩ | rfl
  · exact k 187 i (by exact h11)
  · exact k 188 i (by exact h11)
  · have e : a = 196 ∨ a = 197 ∨ a = 198 ∨ a = 199 ∨ a = 200 ∨ a = 201 := by omega
    rcases e with rfl | rfl | rfl | rfl | rfl | rfl
    · exact k 196 i (by exact h15)
    · exact k 197 i (by exact h15)
    · exact k 198 i (by exact h15)
    · exact k 199 i (by exact h15)
    · exact k 200 i (by exact h22)
    · exact k 201 i (by exact h22)
  · exact k 218 i (by exact h14)
theorem MY_o6 {f f1 : Nat → Nat → Int32} {n c v : Nat} (o : o6 f f1) (m : MY n c v f) (y : YC f1 n c v) : MY n c v f1 := ⟨CM_o o m.1, (o 181 48 (by omega) (by omega) (by omega) (by omega) (by omega) (by omega)).trans m.2.1, m.2.2.1, fun _ => y⟩
set_option maxRecDepth 100000 in
set_option maxHeartbeats 4000000 in
theorem smq_refresh {d L : Nat} {f : Nat → Nat → Int32} {g : Nat → Nat → Int64} {n c v : Nat} {R : Option Value → mH → Prop} (hd : 6 ≤ d) (hX : XI f) (hY : MY n c v f) (H : ∀ f', XI f' → o6 f f' → kp [10, 22, 23] f f' → MY n c v f' → YC f' n c v → ¬ f' 181 29 = 0 → R none (shF L, f', g)) : Run mtab d 206 [.ref 181] (shF L, f, g) R :=
  smf_refresh (n := n) (c := c) (v := v) (by omega) hY.1 hY.2.1 hY.2.2.1 hY.2.2.2 (fun f1 o1 z1 y1 => H f1 (XI_o6 hX o1) o1 (kp_o6 o1) (MY_o6 o1 hY y1) y1 z1)
