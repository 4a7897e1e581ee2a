def OF (a b : Int32) (j : Nat) : Prop := (a = -4 ∧ b = -1) ∨ (a = b ∧ ¬ b < 0 ∧ b < nI j)
def TI (f : Nat → Nat → Int32) (j q : Nat) : Prop := 1 ≤ q ∧ q ≤ 4 ∧ f 96 j = nI q ∧ f 191 j = nI q ∧ (∀ t, t < q → f (15 + j) t = f 189 (4 * j + t)) ∧ (∀ t, 1 ≤ t → t < q → f (56 + j) t = f 190 (4 * j + t))
def CU (f : Nat → Nat → Int32) (j : Nat) : Prop := (f 97 j = 2000 ∧ f 192 j = 0) ∨ (f 97 j = f 192 j ∧ inr 1800 1999 (f 192 j) ∧ f 98 j = f 193 j ∧ f 99 j = f 194 j)
def RJ (f : Nat → Nat → Int32) (j : Nat) : Prop := f 7 j = f 182 j ∧ OF (f 8 j) (f 183 j) j ∧ f 9 j = f 185 j ∧ f 10 j = f 186 j ∧ f 11 j = f 187 j ∧ f 12 j = f 188 j ∧ (f 7 j = 3 → f 13 j = f 184 j) ∧ (∃ q, TI f j q) ∧ CU f j
/-- both objects have the same works -/
def RW (n : Nat) (f : Nat → Nat → Int32) : Prop := n ≤ 40 ∧ f 6 13 = nI n ∧ f 181 0 = nI n ∧ (∀ j, j < n → RJ f j) ∧ (∀ j, j < 40 → f (56 + j) 0 = 0) ∧ (∀ j, n ≤ j → f 192 j = 0)
theorem RJ_congr {f f' : Nat → Nat → Int32} {j : Nat} (hj : j < 40) (h1 : ∀ a i, 7 ≤ a → a ≤ 99 → ((i = j ∧ (a < 15 ∨ 96 ≤ a)) ∨ a = 15 + j ∨ a = 56 + j) → f' a i = f a i) (h2 : ∀ a, 182 ≤ a → a ≤ 194 → ¬ a = 189 → ¬ a = 190 → f' a j = f a j) (h3 : ∀ t, t < 4 → f' 189 (4 * j + t) = f 189 (4 * j + t) ∧ f' 190 (4 * j + t) = f 190 (4 * j + t)) (h : RJ f j) : RJ f' j := by
  obtain ⟨a1, a2, a3, a4, a5, a6, a7, ⟨q, b1, b2, b3, b4, b5, b6⟩, a9⟩ := h
  unfold RJ CU
  rw [h1 7 j (by omega) (by omega) (Or.inl ⟨rfl, by omega⟩), h1 8 j (by omega) (by omega) (Or.inl ⟨rfl, by omega⟩), h1 9 j (by omega) (by omega) (Or.inl ⟨rfl, by omega⟩), h1 10 j (by omega) (by omega) (Or.inl ⟨rfl, by omega⟩), h1 11 j (by omega) (by omega) (Or.inl ⟨rfl, by omega⟩), h1 12 j (by omega) (by omega) (Or.inl ⟨rfl, by omega⟩), h1 13 j (by omega) (by omega) (Or.inl ⟨rfl, by omega⟩), h1 97 j (by omega) (by omega) (Or.inl ⟨rfl, by omega⟩), h1 98 j (by omega) (by omega) (Or.inl ⟨rfl, by omega⟩), h1 99 j (by omega) (by omega) (Or.inl ⟨rfl, by omega⟩), h2 182 (by omega) (by omega) (by omega) (by omega), h2 183 (by omega) (by omega) (by omega) (by omega), h2 184 (by omega) (by omega) (by omega) (by omega), h2 185 (by omega) (by omega) (by omega) (by omega), h2 186 (by omega) (by omega) (by omega) (by omega), h2 187 (by omega) (by omega) (by omega) (by omega), h2 188 (by omega) (by omega) (by omega) (by omega), h2 192 (by omega) (by omega) (by omega) (by omega), h2 193 (by omega) (by omega) (by omega) (by omega), h2 194 (by omega) (by omega) (by omega) (by omega)]
  refine ⟨a1, a2, a3, a4, a5, a6, a7, ⟨q, b1, b2, ?_, ?_, ?_, ?_⟩, a9⟩
  · rw [h1 96 j (by omega) (by omega) (Or.inl ⟨rfl, by omega⟩), b3]
  · rw [h2 191 (by omega) (by omega) (by omega) (by omega), b4]
  · intro t ht
    rw [h1 (15 + j) t (by omega) (by omega) (Or.inr (Or.inl rfl)), (h3 t (by omega)).1, b5 t ht]
  · intro t ht ht2
    rw [h1 (56 + j) t (by omega) (by omega) (Or.inr (Or.inr rfl)), (h3 t (by omega)).2, b6 t ht ht2]
theorem RW_congr {f f' : Nat → Nat → Int32} {n : Nat} (h1 : ∀ a i, 6 ≤ a → a ≤ 99 → f' a i = f a i) (h2 : ∀ a i, 182 ≤ a → a ≤ 194 → f' a i = f a i) (h3 : f' 181 0 = f 181 0) (h : RW n f) : RW n f' := by
  obtain ⟨a1, a2, a3, a4, a5, a6⟩ := h
  refine ⟨a1, (h1 6 13 (by omega) (by omega)).trans a2, h3.trans a3, fun j hj => RJ_congr (by omega) (fun a i p q _ => h1 a i (by omega) q) (fun a p q _ _ => h2 a j p q) (fun t _ => ⟨h2 189 _ (by omega) (by omega), h2 190 _ (by omega) (by omega)⟩) (a4 j hj), fun j hj => ?_, fun j hj => ?_⟩
  · rw [h1 (56 + j) 0 (by omega) (by omega), a5 j hj]
  · rw [h2 192 j (by omega) (by omega), a6 j hj]
theorem cmp_w {a i : Nat} (h : 6 ≤ a) (h' : a ≤ 99) : cmp a i = 1 := by
  have eb : ∀ b, ¬ a = b → Nat.beq a b = false := fun b hb => by
    cases q : Nat.beq a b with
    | false => rfl
    | true => exact absurd (Nat.eq_of_beq_eq_true q) hb
  have e1 := eb 129 (by omega)
  have e2 := eb 181 (by omega)
  have e3 : Nat.ble a 5 = false := by
    cases q : Nat.ble a 5 with
    | false => rfl
    | true => exact absurd (Nat.le_of_ble_eq_true q) (by omega)
  have e4 : Nat.ble a 99 = true := Nat.ble_eq_true_of_le h'
  unfold cmp cmp0
  rw [e1, e2, e3, e4]
  rfl
theorem cmp_m {i : Nat} : ∀ a, 182 ≤ a → a ≤ 194 → cmp a i = 11 := by
  intro a h h'
  have : a = 182 ∨ a = 183 ∨ a = 184 ∨ a = 185 ∨ a = 186 ∨ a = 187 ∨ a = 188 ∨ a = 189 ∨ a = 190 ∨ a = 191 ∨ a = 192 ∨ a = 193 ∨ a = 194 := by omega
  rcases this with rfl | rfl | rfl | rfl | rfl | rfl | rfl | rfl | rfl | rfl | rfl | rfl | rfl <;> rfl
theorem RW_kp {l : List Nat} {f f' : Nat → Nat → Int32} {n : Nat} (k : kp l f f') (h1 : hasN l 1 = false) (h11 : hasN l 11 = false) (h : RW n f) : RW n f' :=
  RW_congr (fun a i p q => k a i (by rw [cmp_w p q]; exact h1)) (fun a i p q => k a i (by rw [cmp_m a p q]; exact h11)) (k 181 0 (by exact h11)) h
theorem RW_MI {f : Nat → Nat → Int32} {n : Nat} (h : RW n f) : MI f := by
  intro n' hn' e j hj
  obtain ⟨a1, a2, a3, a4, a5, a6⟩ := h
  have : n' = n := (nI_eq (by omega) (by omega)).mp (e.symm.trans a3)
  subst this
  obtain ⟨_, b2, _, _, _, _, _, ⟨q, c1, c2, c3, c4, _⟩, _⟩ := a4 j hj
  refine ⟨⟨q, c1, c2, c4⟩, ?_⟩
  rcases b2 with ⟨_, e2⟩ | ⟨_, _, e3⟩
  · rw [e2, Int32.lt_iff_toInt_lt, nI_toInt (by omega)]
    have : (-1 : Int32).toInt = -1 := rfl
    omega
  · exact e3
theorem RW_T {f : Nat → Nat → Int32} {n : Nat} (h : RW n f) : ∀ j, j < n → ∃ q, 1 ≤ q ∧ q ≤ 4 ∧ f 96 j = nI q := fun j hj => by
  obtain ⟨_, _, _, _, _, _, _, ⟨q, c1, c2, c3, _⟩, _⟩ := h.2.2.2.1 j hj
  exact ⟨q, c1, c2, c3⟩
theorem RW_M {f : Nat → Nat → Int32} {n : Nat} (h : RW n f) : ∀ j, j < n → ∃ q, 1 ≤ q ∧ q ≤ 4 ∧ f 191 j = nI q := fun j hj => by
  obtain ⟨_, _, _, _, _, _, _, ⟨q, c1, c2, c3, c4, _⟩, _⟩ := h.2.2.2.1 j hj
  exact ⟨q, c1, c2, c4⟩
theorem m_ui_o {f : Nat → Nat → Int32} {k j a i : Nat} {v : Int32} (h : ¬ (a = k ∧ i = j)) : m_ui f k j v a i = f a i := by
  rw [m_ui_ap]
  by_cases e : a = k
  · rw [if_pos e, if_neg (fun q => h ⟨e, q⟩)]
  · rw [if_neg e]
theorem m_ui_s {f : Nat → Nat → Int32} {k j : Nat} {v : Int32} : m_ui f k j v k j = v := by rw [m_ui_ap, if_pos rfl, if_pos rfl]
theorem wadd_o {f : Nat → Nat → Int32} {n a i : Nat} {kind of h w t lo hi : Int32} (h1 : ¬ (a = 6 ∧ i = 13)) (h2 : ¬ (i = n ∧ (7 ≤ a ∧ a ≤ 12 ∨ a = 96 ∨ a = 97))) (h3 : ¬ (a = 15 + n ∧ i = 0)) : wadd f n kind of h w t lo hi a i = f a i := by
  unfold wadd
  rw [m_ui_o (by omega), m_ui_o (by omega), m_ui_o (by omega), m_ui_o (by omega), m_ui_o (by omega), m_ui_o (by omega), m_ui_o (by omega), m_ui_o (by omega), m_ui_o (by omega), m_ui_o (by omega)]
theorem wadd_7 {f : Nat → Nat → Int32} {n : Nat} {kind of h w t lo hi : Int32} (hn : n < 40) : wadd f n kind of h w t lo hi 7 n = kind := by
  unfold wadd
  rw [m_ui_o (by omega), m_ui_o (by omega), m_ui_o (by omega), m_ui_o (by omega), m_ui_o (by omega), m_ui_o (by omega), m_ui_o (by omega), m_ui_o (by omega), m_ui_o (by omega), m_ui_s]
theorem wadd_8 {f : Nat → Nat → Int32} {n : Nat} {kind of h w t lo hi : Int32} (hn : n < 40) : wadd f n kind of h w t lo hi 8 n = of := by
  unfold wadd
  rw [m_ui_o (by omega), m_ui_o (by omega), m_ui_o (by omega), m_ui_o (by omega), m_ui_o (by omega), m_ui_o (by omega), m_ui_o (by omega), m_ui_o (by omega), m_ui_s]
theorem wadd_9 {f : Nat → Nat → Int32} {n : Nat} {kind of h w t lo hi : Int32} (hn : n < 40) : wadd f n kind of h w t lo hi 9 n = h := by
  unfold wadd
  rw [m_ui_o (by omega), m_ui_o (by omega), m_ui_o (by omega), m_ui_o (by omega), m_ui_o (by omega), m_ui_o (by omega), m_ui_o (by omega), m_ui_s]
theorem wadd_10 {f : Nat → Nat → Int32} {n : Nat} {kind of h w t lo hi : Int32} (hn : n < 40) : wadd f n kind of h w t lo hi 10 n = w := by
  unfold wadd
  rw [m_ui_o (by omega), m_ui_o (by omega), m_ui_o (by omega), m_ui_o (by omega), m_ui_o (by omega), m_ui_o (by omega), m_ui_s]
theorem wadd_11 {f : Nat → Nat → Int32} {n : Nat} {kind of h w t lo hi : Int32} (hn : n < 40) : wadd f n kind of h w t lo hi 11 n = lo := by
  unfold wadd
  rw [m_ui_o (by omega), m_ui_o (by omega), m_ui_o (by omega), m_ui_o (by omega), m_ui_o (by omega), m_ui_s]
theorem wadd_12 {f : Nat → Nat → Int32} {n : Nat} {kind of h w t lo hi : Int32} (hn : n < 40) : wadd f n kind of h w t lo hi 12 n = hi := by
  unfold wadd
  rw [m_ui_o (by omega), m_ui_o (by omega), m_ui_o (by omega), m_ui_o (by omega), m_ui_s]
theorem wadd_15 {f : Nat → Nat → Int32} {n : Nat} {kind of h w t lo hi : Int32} (hn : n < 40) : wadd f n kind of h w t lo hi (15 + n) 0 = t := by
  unfold wadd
  rw [m_ui_o (by omega), m_ui_o (by omega), m_ui_o (by omega), m_ui_s]
theorem wadd_96 {f : Nat → Nat → Int32} {n : Nat} {kind of h w t lo hi : Int32} (hn : n < 40) : wadd f n kind of h w t lo hi 96 n = 1 := by
  unfold wadd
  rw [m_ui_o (by omega), m_ui_o (by omega), m_ui_s]
theorem wadd_97 {f : Nat → Nat → Int32} {n : Nat} {kind of h w t lo hi : Int32} (hn : n < 40) : wadd f n kind of h w t lo hi 97 n = 2000 := by
  unfold wadd
  rw [m_ui_o (by omega), m_ui_s]
theorem wadd_6 {f : Nat → Nat → Int32} {n : Nat} {kind of h w t lo hi : Int32} (hn : n < 40) : wadd f n kind of h w t lo hi 6 13 = (nI n + 1) := by
  unfold wadd
  rw [m_ui_s]
theorem madd_o {f : Nat → Nat → Int32} {n a i : Nat} {kind of tu h w t lo hi : Int32} (h1 : ¬ (a = 181 ∧ (i = 0 ∨ i = 29))) (h2 : ¬ (i = n ∧ (182 ≤ a ∧ a ≤ 188 ∨ a = 191))) (h3 : ¬ (a = 189 ∧ i = 4 * n)) : madd f n kind of tu h w t lo hi a i = f a i := by
  unfold madd
  rw [m_ui_o (by omega), m_ui_o (by omega), m_ui_o (by omega), m_ui_o (by omega), m_ui_o (by omega), m_ui_o (by omega), m_ui_o (by omega), m_ui_o (by omega), m_ui_o (by omega), m_ui_o (by omega), m_ui_o (by omega)]
theorem madd_182 {f : Nat → Nat → Int32} {n : Nat} {kind of tu h w t lo hi : Int32} : madd f n kind of tu h w t lo hi 182 n = kind := by
  unfold madd
  rw [m_ui_o (by omega), m_ui_o (by omega), m_ui_o (by omega), m_ui_o (by omega), m_ui_o (by omega), m_ui_o (by omega), m_ui_o (by omega), m_ui_o (by omega), m_ui_o (by omega), m_ui_o (by omega), m_ui_s]
theorem madd_183 {f : Nat → Nat → Int32} {n : Nat} {kind of tu h w t lo hi : Int32} : madd f n kind of tu h w t lo hi 183 n = of := by
  unfold madd
  rw [m_ui_o (by omega), m_ui_o (by omega), m_ui_o (by omega), m_ui_o (by omega), m_ui_o (by omega), m_ui_o (by omega), m_ui_o (by omega), m_ui_o (by omega), m_ui_o (by omega), m_ui_s]
theorem madd_184 {f : Nat → Nat → Int32} {n : Nat} {kind of tu h w t lo hi : Int32} : madd f n kind of tu h w t lo hi 184 n = (vp_nar .boolean tu) := by
  unfold madd
  rw [m_ui_o (by omega), m_ui_o (by omega), m_ui_o (by omega), m_ui_o (by omega), m_ui_o (by omega), m_ui_o (by omega), m_ui_o (by omega), m_ui_o (by omega), m_ui_s]
theorem madd_185 {f : Nat → Nat → Int32} {n : Nat} {kind of tu h w t lo hi : Int32} : madd f n kind of tu h w t lo hi 185 n = h := by
  unfold madd
  rw [m_ui_o (by omega), m_ui_o (by omega), m_ui_o (by omega), m_ui_o (by omega), m_ui_o (by omega), m_ui_o (by omega), m_ui_o (by omega), m_ui_s]
theorem madd_186 {f : Nat → Nat → Int32} {n : Nat} {kind of tu h w t lo hi : Int32} : madd f n kind of tu h w t lo hi 186 n = w := by
  unfold madd
  rw [m_ui_o (by omega), m_ui_o (by omega), m_ui_o (by omega), m_ui_o (by omega), m_ui_o (by omega), m_ui_o (by omega), m_ui_s]
theorem madd_187 {f : Nat → Nat → Int32} {n : Nat} {kind of tu h w t lo hi : Int32} : madd f n kind of tu h w t lo hi 187 n = lo := by
  unfold madd
  rw [m_ui_o (by omega), m_ui_o (by omega), m_ui_o (by omega), m_ui_o (by omega), m_ui_o (by omega), m_ui_s]
theorem madd_188 {f : Nat → Nat → Int32} {n : Nat} {kind of tu h w t lo hi : Int32} : madd f n kind of tu h w t lo hi 188 n = hi := by
  unfold madd
  rw [m_ui_o (by omega), m_ui_o (by omega), m_ui_o (by omega), m_ui_o (by omega), m_ui_s]
theorem madd_189 {f : Nat → Nat → Int32} {n : Nat} {kind of tu h w t lo hi : Int32} : madd f n kind of tu h w t lo hi 189 (4 * n) = t := by
  unfold madd
  rw [m_ui_o (by omega), m_ui_o (by omega), m_ui_o (by omega), m_ui_s]
theorem madd_191 {f : Nat → Nat → Int32} {n : Nat} {kind of tu h w t lo hi : Int32} : madd f n kind of tu h w t lo hi 191 n = 1 := by
  unfold madd
  rw [m_ui_o (by omega), m_ui_o (by omega), m_ui_s]
theorem madd_181 {f : Nat → Nat → Int32} {n : Nat} {kind of tu h w t lo hi : Int32} : madd f n kind of tu h w t lo hi 181 0 = (nI n + 1) := by
  unfold madd
  rw [m_ui_o (by omega), m_ui_s]
/-- a work more on both sides -/
theorem RW_add {f f1 : Nat → Nat → Int32} {n : Nat} {kind of pm tu hh ww tt lo hi : Int32} (h : RW n f) (hn : n < 40) (hof : OF of pm n)
    (hA : ∀ a i, ¬ (a = 6 ∧ i = 13) → ¬ (i = n ∧ (7 ≤ a ∧ a ≤ 13 ∨ a = 96 ∨ a = 97)) → ¬ (a = 15 + n ∧ i = 0) → f1 a i = f a i)
    (e6 : f1 6 13 = nI n + 1) (e7 : f1 7 n = kind) (e8 : f1 8 n = of) (e9 : f1 9 n = hh) (e10 : f1 10 n = ww) (e11 : f1 11 n = lo) (e12 : f1 12 n = hi) (e15 : f1 (15 + n) 0 = tt) (e96 : f1 96 n = 1) (e97 : f1 97 n = 2000) (e13 : kind = 3 → f1 13 n = vp_nar .boolean tu) :
    RW (n + 1) (madd f1 n kind pm tu hh ww tt lo hi) := by
  obtain ⟨a1, a2, a3, a4, a5, a6⟩ := h
  have hX : ∀ a i, a < 181 → madd f1 n kind pm tu hh ww tt lo hi a i = f1 a i := fun a i ha => madd_o (by omega) (by omega) (by omega)
  refine ⟨by omega, ?_, ?_, fun j hj => ?_, fun j hj => ?_, fun j hj => ?_⟩
  · rw [hX 6 13 (by omega), e6, nI_1]
  · rw [madd_181, nI_1]
  · by_cases e : j = n
    · subst e
      unfold RJ CU
      rw [hX 7 j (by omega), hX 8 j (by omega), hX 9 j (by omega), hX 10 j (by omega), hX 11 j (by omega), hX 12 j (by omega), hX 13 j (by omega), hX 97 j (by omega), madd_182, madd_183, madd_184, madd_185, madd_186, madd_187, madd_188, e7, e8, e9, e10, e11, e12, e97]
      refine ⟨rfl, hof, rfl, rfl, rfl, rfl, e13, ⟨1, by omega, by omega, ?_, ?_, fun t ht => ?_, fun t h1 h2 => absurd h2 (by omega)⟩, Or.inl ⟨rfl, ?_⟩⟩
      · rw [hX 96 j (by omega), e96]
        rfl
      · rw [madd_191]
        rfl
      · have e0 : t = 0 := by omega
        subst e0
        rw [hX (15 + j) 0 (by omega), e15, Nat.add_zero, madd_189]
      · rw [madd_o (by omega) (by omega) (by omega), hA 192 j (by omega) (by omega) (by omega), a6 j (by omega)]
    · refine RJ_congr (f := f) (by omega) (fun a i p q r => ?_) (fun a p q r1 r2 => ?_) (fun t ht => ⟨?_, ?_⟩) (a4 j (by omega))
      · rw [hX a i (by omega)]
        exact hA a i (by omega) (by omega) (by omega)
      · rw [madd_o (by omega) (by omega) (by omega), hA a j (by omega) (by omega) (by omega)]
      · rw [madd_o (by omega) (by omega) (by omega), hA 189 _ (by omega) (by omega) (by omega)]
      · rw [madd_o (by omega) (by omega) (by omega), hA 190 _ (by omega) (by omega) (by omega)]
  · rw [hX (56 + j) 0 (by omega), hA (56 + j) 0 (by omega) (by omega) (by omega), a5 j hj]
  · rw [madd_o (by omega) (by omega) (by omega), hA 192 j (by omega) (by omega) (by omega), a6 j (by omega)]
