/-! how many bits are set -/
def popf : Nat → Nat → Nat
  | 0, _ => 0
  | k + 1, x => x % 2 + popf k (x / 2)
theorem popf_0 : ∀ k, popf k 0 = 0
  | 0 => rfl
  | k + 1 => by
    show 0 % 2 + popf k (0 / 2) = 0
    rw [Nat.zero_div, popf_0 k]
theorem pop_and : ∀ (k x : Nat), 0 < x → x < 2 ^ k → popf k (x &&& (x - 1)) + 1 = popf k x
  | 0, x, h, h2 => by
    rw [Nat.pow_zero] at h2
    omega
  | k + 1, x, h, h2 => by
    have d1 : (x &&& (x - 1)) / 2 = x / 2 &&& (x - 1) / 2 := Nat.and_div_two
    have m1 : (x &&& (x - 1)) % 2 = 0 := by
      rcases Nat.mod_two_eq_zero_or_one (x &&& (x - 1)) with e | e
      · exact e
      · have := Nat.and_mod_two_eq_one.mp e
        omega
    show (x &&& (x - 1)) % 2 + popf k ((x &&& (x - 1)) / 2) + 1 = x % 2 + popf k (x / 2)
    rw [m1, d1]
    by_cases o : x % 2 = 1
    · have e : (x - 1) / 2 = x / 2 := by omega
      rw [e, Nat.and_self]
      omega
    · have e : (x - 1) / 2 = x / 2 - 1 := by omega
      rw [e]
      rw [Nat.pow_succ] at h2
      have := pop_and k (x / 2) (by omega) (by omega)
      omega
theorem and_nI {a b : Nat} (ha : a < 2 ^ 31) (hb : b < 2 ^ 31) : nI a &&& nI b = nI (a &&& b) := by
  rw [bv_nI (nI a &&& nI b)]
  show nI ((nI a).toBitVec &&& (nI b).toBitVec).toNat = _
  rw [BitVec.toNat_and, nI_bv ha, nI_bv hb]
theorem onl_pop : ∀ (k x : Nat) (a : Int32), x < k → x < 2 ^ 31 → onl k (nI x) a = a + nI (popf 32 x)
  | 0, x, a, h, _ => absurd h (by omega)
  | k + 1, x, a, h, hx => by
    by_cases e : x = 0
    · subst e
      have e1 : onl (k + 1) (nI 0) a = a := if_pos rfl
      rw [e1, popf_0]
      exact (Int32.add_zero a).symm
    · have n0 : ¬ nI x = 0 := fun z => e ((nI_eq (b := 0) hx (by decide)).mp z)
      have e1 : onl (k + 1) (nI x) a = onl k (nI x &&& (nI x - 1)) (a + 1) := if_neg n0
      obtain ⟨y, rfl⟩ : ∃ y, x = y + 1 := ⟨x - 1, by omega⟩
      rw [e1, nI_pred, and_nI hx (by omega)]
      have le : (y + 1) &&& y ≤ y := Nat.and_le_right
      rw [onl_pop k _ _ (by omega) (by omega)]
      have p := pop_and 32 (y + 1) (by omega) (by omega)
      rw [show y + 1 - 1 = y by omega] at p
      rw [← p, ← nI_1, Int32.add_assoc, Int32.add_comm 1]
theorem onE_pop {x : Nat} (hx : x < 2 ^ 31) : onE (nI x) = nI (popf 32 x) := by
  unfold onE
  rw [nI_bv hx, onl_pop (x + 1) x 0 (by omega) hx, Int32.zero_add]
/-! the library's way, by bytes -/
def m55 : Nat → Nat
  | 0 => 0
  | k + 1 => 85 + 256 * m55 k
def m33 : Nat → Nat
  | 0 => 0
  | k + 1 => 51 + 256 * m33 k
def m0f : Nat → Nat
  | 0 => 0
  | k + 1 => 15 + 256 * m0f k
def sw1 (k x : Nat) : Nat := x - (x / 2 &&& m55 k)
def sw2 (k x : Nat) : Nat := (x &&& m33 k) + (x / 4 &&& m33 k)
def sw3 (k x : Nat) : Nat := (x + x / 16) &&& m0f k
theorem and256 {a b c d : Nat} (hb : b < 256) (hc : c < 256) : (256 * a + b) &&& (c + 256 * d) = 256 * (a &&& d) + (b &&& c) := by
  have e1 : ((256 * a + b) &&& (c + 256 * d)) / 2 ^ 8 = (256 * a + b) / 2 ^ 8 &&& (c + 256 * d) / 2 ^ 8 := Nat.and_div_two_pow
  have e2 : ((256 * a + b) &&& (c + 256 * d)) % 2 ^ 8 = ((256 * a + b) % 2 ^ 8) &&& ((c + 256 * d) % 2 ^ 8) := Nat.and_mod_two_pow
  have p : (2 : Nat) ^ 8 = 256 := rfl
  rw [p] at e1 e2
  rw [show (256 * a + b) / 256 = a by omega, show (c + 256 * d) / 256 = d by omega] at e1
  rw [show (256 * a + b) % 256 = b by omega, show (c + 256 * d) % 256 = c by omega] at e2
  have := Nat.div_add_mod ((256 * a + b) &&& (c + 256 * d)) 256
  rw [e1, e2] at this
  exact this.symm
theorem b55 : ∀ t, t < 2 → ∀ y, y < 128 → (128 * t + y) &&& 85 = y &&& 85 := by decide +kernel
theorem b33 : ∀ t, t < 4 → ∀ y, y < 64 → (64 * t + y) &&& 51 = y &&& 51 := by decide +kernel
theorem and15 (x : Nat) : x &&& 15 = x % 16 := Nat.and_two_pow_sub_one_eq_mod x 4
theorem sw1_s {k h l : Nat} (hl : l < 256) : sw1 (k + 1) (256 * h + l) = 256 * sw1 k h + (l - (l / 2 &&& 85)) := by
  have e : (256 * h + l) / 2 = 256 * (h / 2) + (128 * (h % 2) + l / 2) := by omega
  have u : h / 2 &&& m55 k ≤ h / 2 := Nat.and_le_left
  have w : l / 2 &&& 85 ≤ l / 2 := Nat.and_le_left
  have g : (256 * h + l) / 2 &&& m55 (k + 1) = 256 * (h / 2 &&& m55 k) + (l / 2 &&& 85) := by
    rw [e]
    show (256 * (h / 2) + (128 * (h % 2) + l / 2)) &&& (85 + 256 * m55 k) = _
    rw [and256 (by omega) (by omega), b55 _ (by omega) _ (by omega)]
  unfold sw1
  rw [g]
  omega
theorem sw2_s {k h l : Nat} (hl : l < 256) : sw2 (k + 1) (256 * h + l) = 256 * sw2 k h + ((l &&& 51) + (l / 4 &&& 51)) := by
  have e : (256 * h + l) / 4 = 256 * (h / 4) + (64 * (h % 4) + l / 4) := by omega
  have g : (256 * h + l) / 4 &&& m33 (k + 1) = 256 * (h / 4 &&& m33 k) + (l / 4 &&& 51) := by
    rw [e]
    show (256 * (h / 4) + (64 * (h % 4) + l / 4)) &&& (51 + 256 * m33 k) = _
    rw [and256 (by omega) (by omega), b33 _ (by omega) _ (by omega)]
  have g2 : (256 * h + l) &&& m33 (k + 1) = 256 * (h &&& m33 k) + (l &&& 51) := by
    show (256 * h + l) &&& (51 + 256 * m33 k) = _
    exact and256 hl (by omega)
  unfold sw2
  rw [g, g2]
  omega
theorem m33_16 : ∀ k, m33 k % 16 ≤ 3
  | 0 => by decide
  | k + 1 => by
    show (51 + 256 * m33 k) % 16 ≤ 3
    omega
theorem sw2_16 (k h : Nat) : sw2 k h % 16 ≤ 6 := by
  have a : (h &&& m33 k) % 2 ^ 4 = (h % 2 ^ 4) &&& (m33 k % 2 ^ 4) := Nat.and_mod_two_pow
  have b : (h / 4 &&& m33 k) % 2 ^ 4 = (h / 4 % 2 ^ 4) &&& (m33 k % 2 ^ 4) := Nat.and_mod_two_pow
  have a1 : (h % 2 ^ 4) &&& (m33 k % 2 ^ 4) ≤ m33 k % 2 ^ 4 := Nat.and_le_right
  have b1 : (h / 4 % 2 ^ 4) &&& (m33 k % 2 ^ 4) ≤ m33 k % 2 ^ 4 := Nat.and_le_right
  have c := m33_16 k
  have p : (2 : Nat) ^ 4 = 16 := rfl
  rw [p] at a b a1 b1
  unfold sw2
  omega
theorem sw3_s {k h l : Nat} (hl : l ≤ 102) (hh : h % 16 ≤ 6) : sw3 (k + 1) (256 * h + l) = 256 * sw3 k h + ((l + l / 16) &&& 15) := by
  have e : 256 * h + l + (256 * h + l) / 16 = 256 * (h + h / 16) + (l + 16 * (h % 16) + l / 16) := by omega
  unfold sw3
  rw [e]
  show (256 * (h + h / 16) + (l + 16 * (h % 16) + l / 16)) &&& (15 + 256 * m0f k) = _
  rw [and256 (by omega) (by omega), and15, and15]
  omega
def pbl (l : Nat) : Nat := (((l - (l / 2 &&& 85)) &&& 51) + ((l - (l / 2 &&& 85)) / 4 &&& 51) + (((l - (l / 2 &&& 85)) &&& 51) + ((l - (l / 2 &&& 85)) / 4 &&& 51)) / 16) &&& 15
theorem pbl_8 : ∀ l, l < 256 → pbl l = popf 8 l := by decide +kernel
theorem popf8_le : ∀ l, l < 256 → popf 8 l ≤ 8 := by decide +kernel
def sw (k x : Nat) : Nat := sw3 k (sw2 k (sw1 k x))
theorem sw_s {k h l : Nat} (hl : l < 256) : sw (k + 1) (256 * h + l) = 256 * sw k h + popf 8 l := by
  unfold sw
  have a1 : (l - (l / 2 &&& 85)) &&& 51 ≤ 51 := Nat.and_le_right
  have a2 : (l - (l / 2 &&& 85)) / 4 &&& 51 ≤ 51 := Nat.and_le_right
  rw [sw1_s hl, sw2_s (by omega), sw3_s (by omega) (sw2_16 k _), ← pbl_8 l hl]
  rfl
theorem sw_0 (x : Nat) : sw 0 x = 0 := by
  unfold sw sw3 sw2
  show (_ &&& 0) = 0
  exact Nat.and_zero _
theorem popf_8 (k x : Nat) : popf (k + 8) x = popf 8 (x % 256) + popf k (x / 256) := by
  have e : x / 2 / 2 / 2 / 2 / 2 / 2 / 2 / 2 = x / 256 := by omega
  show x % 2 + (x / 2 % 2 + (x / 2 / 2 % 2 + (x / 2 / 2 / 2 % 2 + (x / 2 / 2 / 2 / 2 % 2 + (x / 2 / 2 / 2 / 2 / 2 % 2 + (x / 2 / 2 / 2 / 2 / 2 / 2 % 2 + (x / 2 / 2 / 2 / 2 / 2 / 2 / 2 % 2 + popf k (x / 2 / 2 / 2 / 2 / 2 / 2 / 2 / 2)))))))) = (x % 256 % 2 + (x % 256 / 2 % 2 + (x % 256 / 2 / 2 % 2 + (x % 256 / 2 / 2 / 2 % 2 + (x % 256 / 2 / 2 / 2 / 2 % 2 + (x % 256 / 2 / 2 / 2 / 2 / 2 % 2 + (x % 256 / 2 / 2 / 2 / 2 / 2 / 2 % 2 + (x % 256 / 2 / 2 / 2 / 2 / 2 / 2 / 2 % 2 + 0)))))))) + popf k (x / 256)
  rw [e]
  omega
theorem bc_end {a b c d : Nat} (ha : a ≤ 8) (hb : b ≤ 8) (hc : c ≤ 8) (hd : d ≤ 8) {y z : Nat} (hy : y = a + 256 * b + 65536 * c + 16777216 * d) (hz : z = y + y / 256) : (z + z / 65536) % 64 = a + b + c + d := by
  have e : y / 256 = b + 256 * c + 65536 * d := by omega
  have e2 : z = (a + b) + 256 * (b + c) + 65536 * (c + d) + 16777216 * d := by omega
  have e3 : z / 65536 = (c + d) + 256 * d := by omega
  omega
theorem sub_nI {a b : Nat} (h : b ≤ a) : nI a - nI b = nI (a - b) := by
  have e : nI a = nI (a - b) + nI b := by rw [nI_add, Nat.sub_add_cancel h]
  rw [e, Int32.add_sub_cancel]
theorem us_1 {j : Nat} (h : j < 2 ^ 31) : ((nI j).toUInt32 >>> ((Int32.toUInt32 1) &&& Int32.toUInt32 31)).toInt32 = nI (j / 2) := by
  have e : (((nI j).toUInt32 >>> ((Int32.toUInt32 1) &&& Int32.toUInt32 31)).toInt32).toBitVec = (nI j).toBitVec >>> 1 := rfl
  rw [bv_nI (((nI j).toUInt32 >>> ((Int32.toUInt32 1) &&& Int32.toUInt32 31)).toInt32), e, BitVec.toNat_ushiftRight, nI_bv h, Nat.shiftRight_eq_div_pow]
theorem us_2 {j : Nat} (h : j < 2 ^ 31) : ((nI j).toUInt32 >>> ((Int32.toUInt32 2) &&& Int32.toUInt32 31)).toInt32 = nI (j / 4) := by
  have e : (((nI j).toUInt32 >>> ((Int32.toUInt32 2) &&& Int32.toUInt32 31)).toInt32).toBitVec = (nI j).toBitVec >>> 2 := rfl
  rw [bv_nI (((nI j).toUInt32 >>> ((Int32.toUInt32 2) &&& Int32.toUInt32 31)).toInt32), e, BitVec.toNat_ushiftRight, nI_bv h, Nat.shiftRight_eq_div_pow]
theorem us_4 {j : Nat} (h : j < 2 ^ 31) : ((nI j).toUInt32 >>> ((Int32.toUInt32 4) &&& Int32.toUInt32 31)).toInt32 = nI (j / 16) := by
  have e : (((nI j).toUInt32 >>> ((Int32.toUInt32 4) &&& Int32.toUInt32 31)).toInt32).toBitVec = (nI j).toBitVec >>> 4 := rfl
  rw [bv_nI (((nI j).toUInt32 >>> ((Int32.toUInt32 4) &&& Int32.toUInt32 31)).toInt32), e, BitVec.toNat_ushiftRight, nI_bv h, Nat.shiftRight_eq_div_pow]
theorem us_8 {j : Nat} (h : j < 2 ^ 31) : ((nI j).toUInt32 >>> ((Int32.toUInt32 8) &&& Int32.toUInt32 31)).toInt32 = nI (j / 256) := by
  have e : (((nI j).toUInt32 >>> ((Int32.toUInt32 8) &&& Int32.toUInt32 31)).toInt32).toBitVec = (nI j).toBitVec >>> 8 := rfl
  rw [bv_nI (((nI j).toUInt32 >>> ((Int32.toUInt32 8) &&& Int32.toUInt32 31)).toInt32), e, BitVec.toNat_ushiftRight, nI_bv h, Nat.shiftRight_eq_div_pow]
theorem us_16 {j : Nat} (h : j < 2 ^ 31) : ((nI j).toUInt32 >>> ((Int32.toUInt32 16) &&& Int32.toUInt32 31)).toInt32 = nI (j / 65536) := by
  have e : (((nI j).toUInt32 >>> ((Int32.toUInt32 16) &&& Int32.toUInt32 31)).toInt32).toBitVec = (nI j).toBitVec >>> 16 := rfl
  rw [bv_nI (((nI j).toUInt32 >>> ((Int32.toUInt32 16) &&& Int32.toUInt32 31)).toInt32), e, BitVec.toNat_ushiftRight, nI_bv h, Nat.shiftRight_eq_div_pow]
theorem bcE_pop {j : Nat} (h : j < 2 ^ 30) : bcE (nI j) = nI (popf 32 j) := by
  have k1 : (1431655765 : Int32) = nI (m55 4) := rfl
  have k2 : (858993459 : Int32) = nI (m33 4) := rfl
  have k3 : (252645135 : Int32) = nI (m0f 4) := rfl
  have k4 : (63 : Int32) = nI 63 := rfl
  have v1 : m55 4 < 2 ^ 31 := by decide
  have v2 : m33 4 < 2 ^ 31 := by decide
  have v3 : m0f 4 < 2 ^ 31 := by decide
  have c1 : bc1 (nI j) = nI (sw1 4 j) := by
    unfold bc1 sw1
    rw [us_1 (by omega), k1, and_nI (by omega) v1]
    exact sub_nI (Nat.le_trans Nat.and_le_left (by omega))
  have r1 : sw1 4 j ≤ j := by
    unfold sw1
    omega
  have q1 : sw1 4 j &&& m33 4 ≤ m33 4 := Nat.and_le_right
  have q2 : sw1 4 j / 4 &&& m33 4 ≤ m33 4 := Nat.and_le_right
  have v2' : m33 4 = 858993459 := by decide
  have c2 : bc2 (nI (sw1 4 j)) = nI (sw2 4 (sw1 4 j)) := by
    unfold bc2 sw2
    rw [us_2 (by omega), k2, and_nI (by omega) v2, and_nI (by omega) v2, nI_add]
  have r2 : sw2 4 (sw1 4 j) ≤ 1717986918 := by
    unfold sw2
    omega
  have c3 : bc3 (nI (sw2 4 (sw1 4 j))) = nI (sw 4 j) := by
    unfold bc3 sw sw3
    rw [us_4 (by omega), nI_add, k3, and_nI (by omega) v3]
  obtain ⟨a, b, c, d, ea⟩ : ∃ a b c d, (a < 256 ∧ b < 256 ∧ c < 256 ∧ d < 256) ∧ j = 256 * (256 * (256 * (256 * 0 + d) + c) + b) + a := ⟨j % 256, j / 256 % 256, j / 65536 % 256, j / 16777216, ⟨by omega, by omega, by omega, by omega⟩, by omega⟩
  obtain ⟨⟨ha, hb, hc, hd⟩, ej⟩ := ea
  have es : sw 4 j = 256 * (256 * (256 * (256 * 0 + popf 8 d) + popf 8 c) + popf 8 b) + popf 8 a := by
    rw [ej, sw_s ha, sw_s hb, sw_s hc, sw_s hd, sw_0]
  have la := popf8_le a ha
  have lb := popf8_le b hb
  have lc := popf8_le c hc
  have ld := popf8_le d hd
  have ep : popf 32 j = popf 8 a + popf 8 b + popf 8 c + popf 8 d := by
    have t1 := popf_8 24 j
    have t2 := popf_8 16 (j / 256)
    have t3 := popf_8 8 (j / 256 / 256)
    have t4 := popf_8 0 (j / 256 / 256 / 256)
    rw [show j % 256 = a by omega] at t1
    rw [show j / 256 % 256 = b by omega] at t2
    rw [show j / 256 / 256 % 256 = c by omega] at t3
    rw [show j / 256 / 256 / 256 % 256 = d by omega] at t4
    have t5 : popf 0 (j / 256 / 256 / 256 / 256) = 0 := rfl
    have t6 : popf (24 + 8) j = popf 32 j := rfl
    have t7 : popf (16 + 8) (j / 256) = popf 24 (j / 256) := rfl
    have t8 : popf (8 + 8) (j / 256 / 256) = popf 16 (j / 256 / 256) := rfl
    have t9 : popf (0 + 8) (j / 256 / 256 / 256) = popf 8 (j / 256 / 256 / 256) := rfl
    omega
  have c4 : bc4 (nI (sw 4 j)) = nI (sw 4 j + sw 4 j / 256) := by
    unfold bc4
    rw [us_8 (by omega), nI_add]
  have c5 : bc5 (nI (sw 4 j + sw 4 j / 256)) = nI (sw 4 j + sw 4 j / 256 + (sw 4 j + sw 4 j / 256) / 65536) := by
    unfold bc5
    rw [us_16 (by omega), nI_add]
  unfold bcE
  rw [c1, c2, c3, c4, c5, k4, and_nI (by omega) (by decide)]
  have e63 : ∀ x : Nat, x &&& 63 = x % 64 := fun x => Nat.and_two_pow_sub_one_eq_mod x 6
  rw [e63, ep]
  exact congrArg nI (bc_end la lb lc ld (y := sw 4 j) (z := sw 4 j + sw 4 j / 256) (by omega) rfl)
/-- both count alike -/
theorem bc_30 {x : Int32} (h : inr 0 1073741823 x) : bcE x = onE x := by
  obtain ⟨j, hj, rfl⟩ := inr_nat (n := 1073741823) rfl h
  rw [bcE_pop (by omega), onE_pop (by omega)]
theorem on_le : ∀ (k x : Nat), popf k x ≤ k
  | 0, x => Nat.le_refl _
  | k + 1, x => by
    have := on_le k (x / 2)
    show x % 2 + popf k (x / 2) ≤ k + 1
    omega
