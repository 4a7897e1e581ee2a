/-! ===== PREDICATES AND STATIC HELPERS ===== -/
def inr (lo hi x : Int32) : Prop := lo ≤ x ∧ x ≤ hi
theorem i64_le (x y : Int32) : (x.toInt64 ≤ y.toInt64) ↔ x ≤ y := by
  rw [Int64.le_iff_toInt_le, Int32.le_iff_toInt_le, Int32.toInt_toInt64, Int32.toInt_toInt64]
theorem i64_lt (x y : Int32) : (x.toInt64 < y.toInt64) ↔ x < y := by
  rw [Int64.lt_iff_toInt_lt, Int32.lt_iff_toInt_lt, Int32.toInt_toInt64, Int32.toInt_toInt64]
theorem i32_nlt {x y : Int32} : (¬ x < y) ↔ y ≤ x := by
  rw [Int32.lt_iff_toInt_lt, Int32.le_iff_toInt_le]
  omega
theorem i32_nle {x y : Int32} : (¬ x ≤ y) ↔ y < x := by
  rw [Int32.lt_iff_toInt_lt, Int32.le_iff_toInt_le]
  omega
theorem i64_nlt {x y : Int64} : (¬ x < y) ↔ y ≤ x := by
  rw [Int64.lt_iff_toInt_lt, Int64.le_iff_toInt_le]
  omega
theorem ushr_zero (x : Int32) (y : Int32) (k : Nat) (hk : k < 31) (hy : (y.toUInt32 &&& Int32.toUInt32 31).toNat % 32 = k) (C : Int32) (hC : C.toInt = 2 ^ k - 1) : ((x.toUInt32 >>> (y.toUInt32 &&& Int32.toUInt32 31)).toInt32 = 0) ↔ inr 0 C x := by
  have h1 : ((x.toUInt32 >>> (y.toUInt32 &&& Int32.toUInt32 31)).toInt32 = 0) ↔ x.toUInt32.toNat >>> k = 0 := by
    constructor
    · intro h
      have := congrArg (fun z : Int32 => z.toUInt32.toNat) h
      rw [UInt32.toUInt32_toInt32, UInt32.toNat_shiftRight, hy] at this
      exact this
    · intro h
      have : (x.toUInt32 >>> (y.toUInt32 &&& Int32.toUInt32 31)) = 0 := by
        apply UInt32.toNat_inj.mp
        rw [UInt32.toNat_shiftRight, hy, h]
        rfl
      rw [this]
      rfl
  rw [h1, Nat.shiftRight_eq_div_pow, Nat.div_eq_zero_iff]
  unfold inr
  rw [Int32.le_iff_toInt_le, Int32.le_iff_toInt_le, hC]
  have e : x.toInt = x.toBitVec.toInt := rfl
  have e' : x.toUInt32.toNat = x.toBitVec.toNat := rfl
  have e0 : (0 : Int32).toInt = 0 := rfl
  have hp : 2 ^ k ≤ 2 ^ 30 := Nat.pow_le_pow_right (by decide) (by omega)
  have hp0 : 0 < 2 ^ k := Nat.pow_pos (by decide)
  have hc : ((2 ^ k : Nat) : Int) = (2 : Int) ^ k := by norm_cast
  rw [e, e', e0, BitVec.toInt_eq_toNat_cond]
  have hb := x.toBitVec.isLt
  rw [← hc]
  split <;> omega
theorem bits30 (x : Int32) : ((x.toUInt32 >>> (Int32.toUInt32 30 &&& Int32.toUInt32 31)).toInt32 = 0) ↔ inr 0 1073741823 x := ushr_zero x 30 30 (by decide) (by decide) _ (by decide)
theorem bits20 (x : Int32) : ((x.toUInt32 >>> (Int32.toUInt32 20 &&& Int32.toUInt32 31)).toInt32 = 0) ↔ inr 0 1048575 x := ushr_zero x 20 20 (by decide) (by decide) _ (by decide)
theorem bits8 (x : Int32) : ((x.toUInt32 >>> (Int32.toUInt32 8 &&& Int32.toUInt32 31)).toInt32 = 0) ↔ inr 0 255 x := ushr_zero x 8 8 (by decide) (by decide) _ (by decide)
theorem inr_one (C x : Int32) : inr 1 C x ↔ ¬ x = 0 ∧ inr 0 C x := by
  unfold inr
  rw [Int32.le_iff_toInt_le, Int32.le_iff_toInt_le, Int32.le_iff_toInt_le, ← Int32.toInt_inj]
  have e0 : (0 : Int32).toInt = 0 := rfl
  have e1 : (1 : Int32).toInt = 1 := rfl
  rw [e0, e1]
  omega
theorem inr_none (x : Int32) : ¬ inr 0 (0 - 1) x := by
  unfold inr
  rw [Int32.le_iff_toInt_le, Int32.le_iff_toInt_le]
  have e0 : (0 : Int32).toInt = 0 := rfl
  have e1 : (0 - 1 : Int32).toInt = -1 := rfl
  rw [e0, e1]
  omega
theorem inr_0 (x : Int32) : inr 0 0 x ↔ x = 0 := by
  unfold inr
  rw [Int32.le_iff_toInt_le, Int32.le_iff_toInt_le, ← Int32.toInt_inj]
  have e0 : (0 : Int32).toInt = 0 := rfl
  rw [e0]
  omega
/-- the int of a truth -/
abbrev b01 (p : Prop) (b : Int32) : Prop := (b = 1 ∧ p) ∨ (b = 0 ∧ ¬ p)
theorem ct_isWithin {d : Nat} {x lo hi : Int32} {h : mH} {R : Option Value → mH → Prop} (hd : 1 ≤ d) (H1 : inr lo hi x → R (some (.int 1)) h) (H0 : ¬ inr lo hi x → R (some (.int 0)) h) : Run mtab d 134 [.int x, .int lo, .int hi] h R := by
  obtain ⟨d, rfl⟩ : ∃ e, d = e + 1 := ⟨d - 1, by omega⟩
  refine go_X10_isWithin rfl ?_
  conv => whnf
  refine ⟨fun c => ?_, fun c => ?_⟩
  · conv => whnf
    exact ⟨Or.inl rfl, H0 (fun q => absurd q.1 (i32_nle.mpr c))⟩
  · conv => whnf
    refine ⟨fun c' => ?_, fun c' => ?_⟩
    · conv => whnf
      exact ⟨Or.inl rfl, H0 (fun q => absurd q.2 (i32_nle.mpr c'))⟩
    · conv => whnf
      exact ⟨Or.inr rfl, H1 ⟨i32_nlt.mp c, i32_nlt.mp c'⟩⟩
theorem ct_in {d : Nat} {x lo hi : Int32} {a b c : Int64} {h : mH} {R : Option Value → mH → Prop} (hd : 1 ≤ d) (ha : a = x.toInt64) (hb : b = lo.toInt64) (hc : c = hi.toInt64) (H1 : inr lo hi x → R (some (.int 1)) h) (H0 : ¬ inr lo hi x → R (some (.int 0)) h) : Run mtab d 147 [.long a, .long b, .long c] h R := by
  obtain ⟨d, rfl⟩ : ∃ e, d = e + 1 := ⟨d - 1, by omega⟩
  refine go_X11_in rfl ?_
  conv => whnf
  refine ⟨fun c1 => ?_, fun c1 => ?_⟩
  · conv => whnf
    rw [lg_cmp_lt, ha, hb, i64_lt] at c1
    exact ⟨Or.inl rfl, H0 (fun q => absurd q.1 (i32_nle.mpr c1))⟩
  · conv => whnf
    rw [lg_cmp_lt, ha, hb, i64_lt] at c1
    refine ⟨fun c2 => ?_, fun c2 => ?_⟩
    · conv => whnf
      rw [lg_cmp_gt, ha, hc, i64_lt] at c2
      exact ⟨Or.inl rfl, H0 (fun q => absurd q.2 (i32_nle.mpr c2))⟩
    · conv => whnf
      rw [lg_cmp_gt, ha, hc, i64_lt] at c2
      exact ⟨Or.inr rfl, H1 ⟨i32_nlt.mp c1, i32_nlt.mp c2⟩⟩
