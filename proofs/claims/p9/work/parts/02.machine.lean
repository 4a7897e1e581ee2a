/-! ===== THE MACHINE IN SMALL: pure, with resolved instructions ===== -/
/-- a cell's shape: its tag, its length, its references; tags below 100: objects by their class's number; 100 int[], 101 boolean[], 102 long[], 103 char[], 104 int[][], 105 long[][], 200 an int[] that nobody writes -/
abbrev mS : Type := Nat × Nat × List (Option Nat)
/-- a heap: the shapes, the ints by place and slot, the longs by place and slot -/
abbrev mH : Type := List mS × (Nat → Nat → Int32) × (Nat → Nat → Int64)
abbrev mL : Type := List (Option Value)
/-- an instruction: is it a stop, its index, its pc, itself, its length, what it resolves to, its int, its long -/
abbrev mI : Type := Bool × Nat × Nat × Instr × Nat × List Nat × Int32 × Int64
abbrev mN : Type := Option Nat × mL × List Value × mH
abbrev mA : Type := Option (Option Prop × List (Option Prop × mN))
abbrev mC : Type := Nat → List Value → mH → (Option Value → mH → Prop) → Prop
def m_nth {α : Type} : List α → Nat → Option α
  | [], _ => none
  | a :: _, 0 => some a
  | _ :: t, n + 1 => m_nth t n
def m_drop {α : Type} : List α → Nat → List α
  | l, 0 => l
  | [], _ + 1 => []
  | _ :: t, n + 1 => m_drop t n
theorem m_nth_eq {α : Type} : ∀ (l : List α) (n : Nat), m_nth l n = l[n]?
  | [], _ => by simp [m_nth]
  | a :: _, 0 => by simp [m_nth]
  | _ :: t, n + 1 => by simp [m_nth, m_nth_eq t n]
theorem m_drop_eq {α : Type} : ∀ (l : List α) (n : Nat), m_drop l n = l.drop n
  | l, 0 => by simp [m_drop]
  | [], _ + 1 => by simp [m_drop]
  | _ :: t, n + 1 => by simp [m_drop, m_drop_eq t n]
theorem m_drop_cons {α : Type} {l r : List α} {n : Nat} {a : α} (h : m_drop l n = a :: r) : l[n]? = some a ∧ r = m_drop l (n + 1) := by
  rw [m_drop_eq] at h
  rw [m_drop_eq]
  constructor
  · have := congrArg (fun x => x[0]?) h
    simpa using this
  · rw [← List.drop_drop, h]
    rfl
def m_ui (f : Nat → Nat → Int32) (k j : Nat) (v : Int32) : Nat → Nat → Int32 := fun a i => if a = k then (if i = j then v else f a i) else f a i
def m_ul (f : Nat → Nat → Int64) (k j : Nat) (v : Int64) : Nat → Nat → Int64 := fun a i => if a = k then (if i = j then v else f a i) else f a i
def m_ci (n : Nat) (f : Nat → Nat → Int32) : Nat → Nat → Int32 := fun a i => if a < n then f a i else 0
def m_cl (n : Nat) (f : Nat → Nat → Int64) : Nat → Nat → Int64 := fun a i => if a < n then f a i else 0
def m_s1 (l : List mS) : Nat := (l.map fun c => c.2.1).sum
/-- the slots of the new cells -/
def m_sz (l : List mS) : Nat := m_s1 (l.drop 5)
def m_go (ls : mL) (st : List Value) (h : mH) : mA := some (none, [(none, (none, ls, st, h))])
def m_sd (p : Prop) (ls : mL) (st : List Value) (h : mH) : mA := some (some p, [(none, (none, ls, st, h))])
def m_br (c : Prop) (t : Nat) (ls : mL) (st : List Value) (h : mH) : mA := some (none, [(some c, (some t, ls, st, h)), (some (¬ c), (none, ls, st, h))])
def m_ld : mL → Nat → (Value → mA) → mA
  | some v :: _, 0, k => k v
  | _ :: t, n + 1, k => m_ld t n k
  | _, _, _ => none
def m_k2 (x : Option Value) (k : Option Value → mA) : mA := match x with
  | some (.long _) => k none
  | some (.double _) => k none
  | some v => k (some v)
  | none => k none
/-- a store of one slot; a long ahead of it goes -/
def m_st : mL → Nat → Value → (mL → mA) → mA
  | _ :: t, 0, v, k => k (some v :: t)
  | x :: _ :: t, 1, v, k => m_k2 x (fun x' => k (x' :: some v :: t))
  | x :: t, n + 2, v, k => m_st t (n + 1) v (fun t' => k (x :: t'))
  | _, _, _, _ => none
/-- a store of two slots -/
def m_st2 : mL → Nat → Value → (mL → mA) → mA
  | _ :: _ :: t, 0, v, k => k (some v :: none :: t)
  | x :: _ :: _ :: t, 1, v, k => m_k2 x (fun x' => k (x' :: some v :: none :: t))
  | x :: t, n + 2, v, k => m_st2 t (n + 1) v (fun t' => k (x :: t'))
  | _, _, _, _ => none
def m_arr (h : mH) (k tg : Nat) (f : Nat → List (Option Nat) → mA) : mA := match m_nth h.1 k with
  | some (t, n, r) => (match Nat.beq t tg with | true => f n r | false => none)
  | none => none
def m_arr2 (h : mH) (k tg tg2 : Nat) (f : Nat → mA) : mA := match m_nth h.1 k with
  | some (t, n, _) => (match (Nat.beq t tg || Nat.beq t tg2) with | true => f n | false => none)
  | none => none
def m_alen (h : mH) (k : Nat) (f : Nat → mA) : mA := match m_nth h.1 k with
  | some (t, n, _) => (match ((Nat.ble 100 t && Nat.ble t 105) || Nat.beq t 200) with | true => f n | false => none)
  | none => none
def m_atag : ArrayType → Nat
  | .int => 100
  | .boolean => 101
  | .long => 102
  | .char => 103
  | _ => 199
def m_nop (no : Option Prop) (a : Prop) : Option Prop := match no with
  | none => some a
  | some q => some (q ∧ a)
def m_sw (x : Int32) (ls : mL) (st : List Value) (h : mH) (d : Nat) : Int32 → List Nat → Option Prop → List (Option Prop × mN)
  | _, [], no => [(no, (some d, ls, st, h))]
  | v, t :: ts, no => (some (x = v), (some t, ls, st, h)) :: m_sw x ls st h d (v + 1) ts (m_nop no (¬ x = v))
def m_bin (ls : mL) (st : List Value) (h : mH) (f : Int32 → Int32 → Int32) : mA := match st with
  | .int y :: .int x :: s => m_go ls (.int (f x y) :: s) h
  | _ => none
def m_binl (ls : mL) (st : List Value) (h : mH) (f : Int64 → Int64 → Int64) : mA := match st with
  | .long y :: .long x :: s => m_go ls (.long (f x y) :: s) h
  | _ => none
def m_shl (ls : mL) (st : List Value) (h : mH) (f : Int64 → Int32 → Int64) : mA := match st with
  | .int y :: .long x :: s => m_go ls (.long (f x y) :: s) h
  | _ => none
def m_ldi (ls : mL) (i : Nat) (st : List Value) (h : mH) : mA := m_ld ls i (fun v => match v with | .int x => m_go ls (.int x :: st) h | _ => none)
def m_ldl (ls : mL) (i : Nat) (st : List Value) (h : mH) : mA := m_ld ls i (fun v => match v with | .long x => m_go ls (.long x :: st) h | _ => none)
def m_lda (ls : mL) (i : Nat) (st : List Value) (h : mH) : mA := m_ld ls i (fun v => match v with | .ref x => m_go ls (.ref x :: st) h | _ => none)
def m_sti (ls : mL) (i : Nat) (st : List Value) (h : mH) : mA := match st with
  | .int x :: s => m_st ls i (.int x) (fun l => m_go l s h)
  | _ => none
def m_sta (ls : mL) (i : Nat) (st : List Value) (h : mH) : mA := match st with
  | .ref x :: s => m_st ls i (.ref x) (fun l => m_go l s h)
  | _ => none
def m_stl (ls : mL) (i : Nat) (st : List Value) (h : mH) : mA := match st with
  | .long x :: s => m_st2 ls i (.long x) (fun l => m_go l s h)
  | _ => none
def m_if (c : Jvm.ClassFile.Cond) (x y : Int32) (t : Nat) (ls : mL) (st : List Value) (h : mH) : mA := match c with
  | .eq => m_br (x = y) t ls st h
  | .ne => some (none, [(some (¬ x = y), (some t, ls, st, h)), (some (x = y), (none, ls, st, h))])
  | .lt => m_br (x < y) t ls st h
  | .ge => m_br (y ≤ x) t ls st h
  | .gt => m_br (y < x) t ls st h
  | .le => m_br (x ≤ y) t ls st h
/-- a heap's three parts -/
def m_hK (h : mH) (k : List mS → (Nat → Nat → Int32) → (Nat → Nat → Int64) → mA) : mA := match h with
  | (a, b, c) => k a b c
theorem m_hK_eq (h : mH) (k : List mS → (Nat → Nat → Int32) → (Nat → Nat → Int64) → mA) : m_hK h k = k h.1 h.2.1 h.2.2 := rfl
/-- lists made out of their places at once: their parts come out whole -/
def m_appK {α : Type} : List α → List α → (List α → mA) → mA
  | [], b, k => k b
  | x :: a, b, k => m_appK a b (fun t => k (x :: t))
def m_setK {α : Type} : List α → Nat → α → (List α → mA) → mA
  | [], _, _, k => k []
  | _ :: t, 0, v, k => k (v :: t)
  | x :: t, n + 1, v, k => m_setK t n v (fun t' => k (x :: t'))
def m_lenK {α : Type} : List α → Nat → (Nat → mA) → mA
  | [], n, k => k n
  | _ :: t, n, k => m_lenK t (n + 1) k
theorem m_lenK_eq {α : Type} : ∀ (a : List α) (n : Nat) (k : Nat → mA), m_lenK a n k = k (n + a.length)
  | [], n, k => rfl
  | x :: a, n, k => by
    simp only [m_lenK, m_lenK_eq a (n + 1), List.length_cons]
    congr 1
    omega
theorem m_appK_eq {α : Type} : ∀ (a b : List α) (k : List α → mA), m_appK a b k = k (a ++ b)
  | [], b, k => rfl
  | x :: a, b, k => by simp [m_appK, m_appK_eq a b]
theorem m_setK_eq {α : Type} : ∀ (a : List α) (n : Nat) (v : α) (k : List α → mA), m_setK a n v k = k (a.set n v)
  | [], n, v, k => by cases n <;> rfl
  | x :: a, 0, v, k => rfl
  | x :: a, n + 1, v, k => by simp [m_setK, m_setK_eq a n]
def m_aald (ls : mL) (st : List Value) (h : mH) : mA := match st with
  | .int i :: .ref k :: s => (match m_nth h.1 k with
    | some (t, n, r) => (match (Nat.beq t 104 || Nat.beq t 105) with
      | true => some (some (vp_in i n ∧ i.toNatClampNeg < r.length ∧ (r.getD i.toNatClampNeg none).isSome), [(none, (none, ls, .ref ((r.getD i.toNatClampNeg none).getD 0) :: s, h))])
      | false => none)
    | none => none)
  | _ => none
def m_getf (an : List Nat) (ls : mL) (st : List Value) (h : mH) : mA := m_hK h (fun hs hi hl => match an, st with
  | [_, ci, j, kd], .ref k :: s => m_arr h k ci (fun _ r => match kd with
    | 0 => m_go ls (.int (hi k j) :: s) h
    | 1 => m_go ls (.long (hl k j) :: s) h
    | _ => (match m_nth r j with
      | some (some a) => m_go ls (.ref a :: s) h
      | _ => none))
  | _, _ => none)
def m_putf (an : List Nat) (ls : mL) (st : List Value) (h : mH) : mA := m_hK h (fun hs hi hl => match an, st with
  | [_, ci, j, 0], .int x :: .ref k :: s => m_arr h k ci (fun _ _ => m_go ls s (hs, m_ui hi k j x, hl))
  | [_, ci, j, 3], .int x :: .ref k :: s => m_arr h k ci (fun _ _ => m_sd (x = 0 ∨ x = 1) ls s (hs, m_ui hi k j x, hl))
  | [_, ci, j, 2], .ref a :: .ref k :: s => m_arr h k ci (fun n r => m_setK r j (some a) (fun r' => m_setK hs k (ci, n, r') (fun l => m_go ls s (l, hi, hl))))
  | _, _ => none)
/-- one instruction, but calls and returns -/
def m_act (B : Option (Nat × Nat)) (e : mI) (ls : mL) (st : List Value) (h : mH) : mA := match e with
  | (_, _, _, ins, _, an, kv, kl) => m_hK h (fun hs hi hl => match ins with
    | .iconst _ => m_go ls (.int kv :: st) h
    | .bipush _ => m_go ls (.int kv :: st) h
    | .sipush _ => m_go ls (.int kv :: st) h
    | .ldc _ => (match an with | [] => m_go ls (.int kv :: st) h | [a] => m_go ls (.ref a :: st) h | _ => none)
    | .ldc_w _ => m_go ls (.int kv :: st) h
    | .lconst _ => m_go ls (.long kl :: st) h
    | .ldc2_w _ => m_go ls (.long kl :: st) h
    | .iload i => m_ldi ls i st h
    | .iload_n i => m_ldi ls i.val st h
    | .lload i => m_ldl ls i st h
    | .lload_n i => m_ldl ls i.val st h
    | .aload i => m_lda ls i st h
    | .aload_n i => m_lda ls i.val st h
    | .istore i => m_sti ls i st h
    | .istore_n i => m_sti ls i.val st h
    | .lstore i => m_stl ls i st h
    | .lstore_n i => m_stl ls i.val st h
    | .astore i => m_sta ls i st h
    | .astore_n i => m_sta ls i.val st h
    | .iinc i _ => m_ld ls i (fun v => match v with | .int x => m_st ls i (.int (x + kv)) (fun l => m_go l st h) | _ => none)
    | .iadd => m_bin ls st h (fun x y => x + y)
    | .isub => m_bin ls st h (fun x y => x - y)
    | .imul => m_bin ls st h (fun x y => x * y)
    | .iand => m_bin ls st h (fun x y => x &&& y)
    | .ior => m_bin ls st h (fun x y => x ||| y)
    | .ixor => m_bin ls st h (fun x y => x ^^^ y)
    | .ishl => m_bin ls st h (fun x y => x <<< (y &&& 31))
    | .ishr => m_bin ls st h (fun x y => x >>> (y &&& 31))
    | .iushr => m_bin ls st h (fun x y => (x.toUInt32 >>> (y.toUInt32 &&& Int32.toUInt32 31)).toInt32)
    | .idiv => (match st with | .int y :: .int x :: s => m_sd (¬ y = 0) ls (.int (x / y) :: s) h | _ => none)
    | .ineg => (match st with | .int x :: s => m_go ls (.int (-x) :: s) h | _ => none)
    | .ladd => m_binl ls st h (fun x y => x + y)
    | .lsub => m_binl ls st h (fun x y => x - y)
    | .lmul => m_binl ls st h (fun x y => x * y)
    | .land => m_binl ls st h (fun x y => x &&& y)
    | .lor => m_binl ls st h (fun x y => x ||| y)
    | .ldiv => (match st with | .long y :: .long x :: s => m_sd (¬ y = 0) ls (.long (x / y) :: s) h | _ => none)
    | .lneg => (match st with | .long x :: s => m_go ls (.long (-x) :: s) h | _ => none)
    | .lshl => m_shl ls st h (fun x y => x <<< (y.toInt64 &&& 63))
    | .lshr => m_shl ls st h (fun x y => x >>> (y.toInt64 &&& 63))
    | .lushr => m_shl ls st h (fun x y => (x.toUInt64 >>> (y.toInt64.toUInt64 &&& Int64.toUInt64 63)).toInt64)
    | .lcmp => (match st with | .long y :: .long x :: s => m_go ls (.int (lg_cmp x y) :: s) h | _ => none)
    | .i2l => (match st with | .int x :: s => m_go ls (.long x.toInt64 :: s) h | _ => none)
    | .l2i => (match st with | .long x :: s => m_go ls (.int x.toInt32 :: s) h | _ => none)
    | .i2s => (match st with | .int x :: s => m_go ls (.int x.toInt16.toInt32 :: s) h | _ => none)
    | .i2c => (match st with | .int x :: s => m_go ls (.int (x.toUInt32 % 65536).toInt32 :: s) h | _ => none)
    | .dup => (match st with | .int x :: s => m_go ls (.int x :: .int x :: s) h | .ref x :: s => m_go ls (.ref x :: .ref x :: s) h | _ => none)
    | .dup_x1 => (match st with | .int x :: .ref y :: s => m_go ls (.int x :: .ref y :: .int x :: s) h | _ => none)
    | .dup2 => (match st with | .int x :: .ref y :: s => m_go ls (.int x :: .ref y :: .int x :: .ref y :: s) h | _ => none)
    | .pop => (match st with | .int _ :: s => m_go ls s h | _ => none)
    | .goto _ => (match an with | [t] => some (none, [(none, (some t, ls, st, h))]) | _ => none)
    | .ifCond c _ => (match an, st with | [t], .int x :: s => m_if c x 0 t ls s h | _, _ => none)
    | .if_icmp c _ => (match an, st with | [t], .int y :: .int x :: s => m_if c x y t ls s h | _, _ => none)
    | .tableswitch _ _ _ _ => (match an, st with | d :: ts, .int x :: s => some (none, m_sw x ls s h d kv ts none) | _, _ => none)
    | .arraylength => (match st with | .ref k :: s => m_alen h k (fun n => m_go ls (.int (Int32.ofNat n) :: s) h) | _ => none)
    | .iaload => (match st with | .int i :: .ref k :: s => m_arr2 h k 100 200 (fun n => m_sd (vp_in i n) ls (.int (hi k i.toNatClampNeg) :: s) h) | _ => none)
    | .baload => (match st with | .int i :: .ref k :: s => m_arr h k 101 (fun n _ => m_sd (vp_in i n) ls (.int (hi k i.toNatClampNeg) :: s) h) | _ => none)
    | .caload => (match st with | .int i :: .ref k :: s => m_arr h k 103 (fun n _ => m_sd (vp_in i n) ls (.int (hi k i.toNatClampNeg) :: s) h) | _ => none)
    | .laload => (match st with | .int i :: .ref k :: s => m_arr h k 102 (fun n _ => m_sd (vp_in i n) ls (.long (hl k i.toNatClampNeg) :: s) h) | _ => none)
    | .aaload => m_aald ls st h
    | .iastore => (match st with | .int x :: .int i :: .ref k :: s => m_arr h k 100 (fun n _ => m_sd (vp_in i n) ls s (hs, m_ui hi k i.toNatClampNeg x, hl)) | _ => none)
    | .bastore => (match st with | .int x :: .int i :: .ref k :: s => m_arr h k 101 (fun n _ => m_sd (vp_in i n) ls s (hs, m_ui hi k i.toNatClampNeg (vp_nar .boolean x), hl)) | _ => none)
    | .castore => (match st with | .int x :: .int i :: .ref k :: s => m_arr h k 103 (fun n _ => m_sd (vp_in i n) ls s (hs, m_ui hi k i.toNatClampNeg (vp_nar .char x), hl)) | _ => none)
    | .lastore => (match st with | .long x :: .int i :: .ref k :: s => m_arr h k 102 (fun n _ => m_sd (vp_in i n) ls s (hs, hi, m_ul hl k i.toNatClampNeg x)) | _ => none)
    | .getstatic _ => (match an with | [a] => m_go ls (.ref a :: st) h | _ => none)
    | .getfield _ => m_getf an ls st h
    | .putfield _ => m_putf an ls st h
    | .new _ => (match B, an with
        | some b, [ci, n] => m_lenK hs 0 (fun z => m_appK (List.replicate n none) [] (fun r => m_appK hs [(ci, n, r)] (fun l => m_sd (z + 1 ≤ b.1 ∧ m_sz hs + n ≤ b.2) ls (.ref z :: st) (l, m_ci z hi, m_cl z hl))))
        | _, _ => none)
    | .newarray ty => (match B, st with
        | some b, .int n :: s => m_lenK hs 0 (fun z => m_appK hs [(m_atag ty, n.toNatClampNeg, [])] (fun l => m_sd (¬ n < 0 ∧ n.toNatClampNeg ≤ 1000 ∧ z + 1 ≤ b.1 ∧ m_sz hs + n.toNatClampNeg ≤ b.2) ls (.ref z :: s) (l, m_ci z hi, m_cl z hl)))
        | _, _ => none)
    | .multianewarray _ _ => (match B, an, st with
        | some b, [to, ti], .int k :: .int n :: s => m_lenK hs 0 (fun z => m_appK ((List.range n.toNatClampNeg).map (fun i => some (z + 1 + i))) [] (fun r => m_appK (List.replicate n.toNatClampNeg (ti, k.toNatClampNeg, [])) [] (fun q => m_appK hs ((to, n.toNatClampNeg, r) :: q) (fun l =>
            m_sd (¬ n < 0 ∧ ¬ k < 0 ∧ n.toNatClampNeg ≤ 1000 ∧ k.toNatClampNeg ≤ 1000 ∧ z + (1 + n.toNatClampNeg) ≤ b.1 ∧ m_sz hs + (n.toNatClampNeg + n.toNatClampNeg * k.toNatClampNeg) ≤ b.2) ls (.ref z :: s) (l, m_ci z hi, m_cl z hl)))))
        | _, _, _ => none)
    | _ => none)
def m_getf0 (an : List Nat) (ls : mL) (st : List Value) (h : mH) : mA := match an, st with
  | [_, ci, j, kd], .ref k :: s => m_arr h k ci (fun _ r => match kd with
    | 0 => m_go ls (.int (h.2.1 k j) :: s) h
    | 1 => m_go ls (.long (h.2.2 k j) :: s) h
    | _ => (match m_nth r j with
      | some (some a) => m_go ls (.ref a :: s) h
      | _ => none))
  | _, _ => none
def m_putf0 (an : List Nat) (ls : mL) (st : List Value) (h : mH) : mA := match an, st with
  | [_, ci, j, 0], .int x :: .ref k :: s => m_arr h k ci (fun _ _ => m_go ls s (h.1, m_ui h.2.1 k j x, h.2.2))
  | [_, ci, j, 3], .int x :: .ref k :: s => m_arr h k ci (fun _ _ => m_sd (x = 0 ∨ x = 1) ls s (h.1, m_ui h.2.1 k j x, h.2.2))
  | [_, ci, j, 2], .ref a :: .ref k :: s => m_arr h k ci (fun n r => m_setK r j (some a) (fun r' => m_setK h.1 k (ci, n, r') (fun l => m_go ls s (l, h.2.1, h.2.2))))
  | _, _ => none
/-- the same, for the proofs -/
def m_act0 (B : Option (Nat × Nat)) (e : mI) (ls : mL) (st : List Value) (h : mH) : mA := match e with
  | (_, _, _, ins, _, an, kv, kl) => match ins with
    | .iconst _ => m_go ls (.int kv :: st) h
    | .bipush _ => m_go ls (.int kv :: st) h
    | .sipush _ => m_go ls (.int kv :: st) h
    | .ldc _ => (match an with | [] => m_go ls (.int kv :: st) h | [a] => m_go ls (.ref a :: st) h | _ => none)
    | .ldc_w _ => m_go ls (.int kv :: st) h
    | .lconst _ => m_go ls (.long kl :: st) h
    | .ldc2_w _ => m_go ls (.long kl :: st) h
    | .iload i => m_ldi ls i st h
    | .iload_n i => m_ldi ls i.val st h
    | .lload i => m_ldl ls i st h
    | .lload_n i => m_ldl ls i.val st h
    | .aload i => m_lda ls i st h
    | .aload_n i => m_lda ls i.val st h
    | .istore i => m_sti ls i st h
    | .istore_n i => m_sti ls i.val st h
    | .lstore i => m_stl ls i st h
    | .lstore_n i => m_stl ls i.val st h
    | .astore i => m_sta ls i st h
    | .astore_n i => m_sta ls i.val st h
    | .iinc i _ => m_ld ls i (fun v => match v with | .int x => m_st ls i (.int (x + kv)) (fun l => m_go l st h) | _ => none)
    | .iadd => m_bin ls st h (fun x y => x + y)
    | .isub => m_bin ls st h (fun x y => x - y)
    | .imul => m_bin ls st h (fun x y => x * y)
    | .iand => m_bin ls st h (fun x y => x &&& y)
    | .ior => m_bin ls st h (fun x y => x ||| y)
    | .ixor => m_bin ls st h (fun x y => x ^^^ y)
    | .ishl => m_bin ls st h (fun x y => x <<< (y &&& 31))
    | .ishr => m_bin ls st h (fun x y => x >>> (y &&& 31))
    | .iushr => m_bin ls st h (fun x y => (x.toUInt32 >>> (y.toUInt32 &&& Int32.toUInt32 31)).toInt32)
    | .idiv => (match st with | .int y :: .int x :: s => m_sd (¬ y = 0) ls (.int (x / y) :: s) h | _ => none)
    | .ineg => (match st with | .int x :: s => m_go ls (.int (-x) :: s) h | _ => none)
    | .ladd => m_binl ls st h (fun x y => x + y)
    | .lsub => m_binl ls st h (fun x y => x - y)
    | .lmul => m_binl ls st h (fun x y => x * y)
    | .land => m_binl ls st h (fun x y => x &&& y)
    | .lor => m_binl ls st h (fun x y => x ||| y)
    | .ldiv => (match st with | .long y :: .long x :: s => m_sd (¬ y = 0) ls (.long (x / y) :: s) h | _ => none)
    | .lneg => (match st with | .long x :: s => m_go ls (.long (-x) :: s) h | _ => none)
    | .lshl => m_shl ls st h (fun x y => x <<< (y.toInt64 &&& 63))
    | .lshr => m_shl ls st h (fun x y => x >>> (y.toInt64 &&& 63))
    | .lushr => m_shl ls st h (fun x y => (x.toUInt64 >>> (y.toInt64.toUInt64 &&& Int64.toUInt64 63)).toInt64)
    | .lcmp => (match st with | .long y :: .long x :: s => m_go ls (.int (lg_cmp x y) :: s) h | _ => none)
    | .i2l => (match st with | .int x :: s => m_go ls (.long x.toInt64 :: s) h | _ => none)
    | .l2i => (match st with | .long x :: s => m_go ls (.int x.toInt32 :: s) h | _ => none)
    | .i2s => (match st with | .int x :: s => m_go ls (.int x.toInt16.toInt32 :: s) h | _ => none)
    | .i2c => (match st with | .int x :: s => m_go ls (.int (x.toUInt32 % 65536).toInt32 :: s) h | _ => none)
    | .dup => (match st with | .int x :: s => m_go ls (.int x :: .int x :: s) h | .ref x :: s => m_go ls (.ref x :: .ref x :: s) h | _ => none)
    | .dup_x1 => (match st with | .int x :: .ref y :: s => m_go ls (.int x :: .ref y :: .int x :: s) h | _ => none)
    | .dup2 => (match st with | .int x :: .ref y :: s => m_go ls (.int x :: .ref y :: .int x :: .ref y :: s) h | _ => none)
    | .pop => (match st with | .int _ :: s => m_go ls s h | _ => none)
    | .goto _ => (match an with | [t] => some (none, [(none, (some t, ls, st, h))]) | _ => none)
    | .ifCond c _ => (match an, st with | [t], .int x :: s => m_if c x 0 t ls s h | _, _ => none)
    | .if_icmp c _ => (match an, st with | [t], .int y :: .int x :: s => m_if c x y t ls s h | _, _ => none)
    | .tableswitch _ _ _ _ => (match an, st with | d :: ts, .int x :: s => some (none, m_sw x ls s h d kv ts none) | _, _ => none)
    | .arraylength => (match st with | .ref k :: s => m_alen h k (fun n => m_go ls (.int (Int32.ofNat n) :: s) h) | _ => none)
    | .iaload => (match st with | .int i :: .ref k :: s => m_arr2 h k 100 200 (fun n => m_sd (vp_in i n) ls (.int (h.2.1 k i.toNatClampNeg) :: s) h) | _ => none)
    | .baload => (match st with | .int i :: .ref k :: s => m_arr h k 101 (fun n _ => m_sd (vp_in i n) ls (.int (h.2.1 k i.toNatClampNeg) :: s) h) | _ => none)
    | .caload => (match st with | .int i :: .ref k :: s => m_arr h k 103 (fun n _ => m_sd (vp_in i n) ls (.int (h.2.1 k i.toNatClampNeg) :: s) h) | _ => none)
    | .laload => (match st with | .int i :: .ref k :: s => m_arr h k 102 (fun n _ => m_sd (vp_in i n) ls (.long (h.2.2 k i.toNatClampNeg) :: s) h) | _ => none)
    | .aaload => m_aald ls st h
    | .iastore => (match st with | .int x :: .int i :: .ref k :: s => m_arr h k 100 (fun n _ => m_sd (vp_in i n) ls s (h.1, m_ui h.2.1 k i.toNatClampNeg x, h.2.2)) | _ => none)
    | .bastore => (match st with | .int x :: .int i :: .ref k :: s => m_arr h k 101 (fun n _ => m_sd (vp_in i n) ls s (h.1, m_ui h.2.1 k i.toNatClampNeg (vp_nar .boolean x), h.2.2)) | _ => none)
    | .castore => (match st with | .int x :: .int i :: .ref k :: s => m_arr h k 103 (fun n _ => m_sd (vp_in i n) ls s (h.1, m_ui h.2.1 k i.toNatClampNeg (vp_nar .char x), h.2.2)) | _ => none)
    | .lastore => (match st with | .long x :: .int i :: .ref k :: s => m_arr h k 102 (fun n _ => m_sd (vp_in i n) ls s (h.1, h.2.1, m_ul h.2.2 k i.toNatClampNeg x)) | _ => none)
    | .getstatic _ => (match an with | [a] => m_go ls (.ref a :: st) h | _ => none)
    | .getfield _ => m_getf0 an ls st h
    | .putfield _ => m_putf0 an ls st h
    | .new _ => (match B, an with
        | some b, [ci, n] => m_lenK h.1 0 (fun z => m_appK (List.replicate n none) [] (fun r => m_appK h.1 [(ci, n, r)] (fun l => m_sd (z + 1 ≤ b.1 ∧ m_sz h.1 + n ≤ b.2) ls (.ref z :: st) (l, m_ci z h.2.1, m_cl z h.2.2))))
        | _, _ => none)
    | .newarray ty => (match B, st with
        | some b, .int n :: s => m_lenK h.1 0 (fun z => m_appK h.1 [(m_atag ty, n.toNatClampNeg, [])] (fun l => m_sd (¬ n < 0 ∧ n.toNatClampNeg ≤ 1000 ∧ z + 1 ≤ b.1 ∧ m_sz h.1 + n.toNatClampNeg ≤ b.2) ls (.ref z :: s) (l, m_ci z h.2.1, m_cl z h.2.2)))
        | _, _ => none)
    | .multianewarray _ _ => (match B, an, st with
        | some b, [to, ti], .int k :: .int n :: s => m_lenK h.1 0 (fun z => m_appK ((List.range n.toNatClampNeg).map (fun i => some (z + 1 + i))) [] (fun r => m_appK (List.replicate n.toNatClampNeg (ti, k.toNatClampNeg, [])) [] (fun q => m_appK h.1 ((to, n.toNatClampNeg, r) :: q) (fun l =>
            m_sd (¬ n < 0 ∧ ¬ k < 0 ∧ n.toNatClampNeg ≤ 1000 ∧ k.toNatClampNeg ≤ 1000 ∧ z + (1 + n.toNatClampNeg) ≤ b.1 ∧ m_sz h.1 + (n.toNatClampNeg + n.toNatClampNeg * k.toNatClampNeg) ≤ b.2) ls (.ref z :: s) (l, m_ci z h.2.1, m_cl z h.2.2)))))
        | _, _, _ => none)
    | _ => none
theorem m_act_eq (B : Option (Nat × Nat)) (e : mI) (ls : mL) (st : List Value) (h : mH) : m_act B e ls st h = m_act0 B e ls st h := by
  obtain ⟨sp, ix, pc, ins, len, an, kv, kl⟩ := e
  cases ins <;> rfl
def m_popn : List Value → Nat → List Value → (List Value → List Value → Prop) → Prop
  | st, 0, acc, k => k acc st
  | v :: st, n + 1, acc, k => m_popn st n (v :: acc) k
  | [], _ + 1, _, _ => False
def m_alls (P r : List mI) (X : List mI → mL → List Value → mH → Prop) : List (Option Prop × mN) → Prop
  | [] => True
  | [(none, (none, ls, st, h))] => X r ls st h
  | [(none, (some t, ls, st, h))] => X (m_drop P t) ls st h
  | [(some c, (none, ls, st, h))] => c → X r ls st h
  | [(some c, (some t, ls, st, h))] => c → X (m_drop P t) ls st h
  | (some c, (none, ls, st, h)) :: q => (c → X r ls st h) ∧ m_alls P r X q
  | (some c, (some t, ls, st, h)) :: q => (c → X (m_drop P t) ls st h) ∧ m_alls P r X q
  | (none, (none, ls, st, h)) :: q => X r ls st h ∧ m_alls P r X q
  | (none, (some t, ls, st, h)) :: q => X (m_drop P t) ls st h ∧ m_alls P r X q
def m_end (B : Option (Nat × Nat)) (h : mH) (q : Prop) : Prop := match B with
  | none => q
  | some b => (h.1.length = b.1 ∧ m_sz h.1 = b.2) ∧ q
def m_call (B : Option (Nat × Nat)) (mc ms : Nat) (h : mH) (q : Prop) : Prop := match B, mc, ms with
  | none, 0, 0 => q
  | none, _, _ => False
  | some b, _, _ => (h.1.length + mc ≤ b.1 ∧ m_sz h.1 + ms ≤ b.2) ∧ q
def m_psh (st : List Value) (v : Option Value) (k : List Value → Prop) : Prop := match v with
  | none => k st
  | some x => k (x :: st)
/-- a call: [its number, how many values it takes, the cells and the slots that it makes] -/
def m_fit : List Value → Nat → Bool
  | [], _ => true
  | .long _ :: t, n + 2 => m_fit t n
  | .long _ :: _, _ => false
  | .double _ :: t, n + 2 => m_fit t n
  | .double _ :: _, _ => false
  | _ :: t, n + 1 => m_fit t n
  | _ :: _, 0 => false
def m_inv (B : Option (Nat × Nat)) (call : mC) (an : List Nat) (r : List mI) (ls : mL) (st : List Value) (h : mH) (X : List mI → mL → List Value → mH → Prop) : Prop := match an with
  | [y, n, mc, ms] => m_popn st n [] (fun as s => match m_fit s 8 with
    | true => m_call B mc ms h (call y as h (fun v h' => m_psh s v (fun s' => X r ls s' h')))
    | false => False)
  | _ => False
def m_stp (P : List mI) (B : Option (Nat × Nat)) (call : mC) (Q : Option Value → mH → Prop) (X : List mI → mL → List Value → mH → Prop) (c : List mI) (ls : mL) (st : List Value) (h : mH) : Prop := match c with
  | [] => False
  | e :: r => match e.2.2.2.1 with
    | .invokestatic _ => m_inv B call e.2.2.2.2.2.1 r ls st h X
    | .invokevirtual _ => m_inv B call e.2.2.2.2.2.1 r ls st h X
    | .invokespecial _ => m_inv B call e.2.2.2.2.2.1 r ls st h X
    | .ireturn => (match st, e.2.2.2.2.2.1 with
        | [.int x], [] => m_end B h (Q (some (.int x)) h)
        | [.int x], _ => (x = 0 ∨ x = 1) ∧ m_end B h (Q (some (.int x)) h)
        | _, _ => False)
    | .lreturn => (match st with | [.long x] => m_end B h (Q (some (.long x)) h) | _ => False)
    | .return_ => (match st with | [] => m_end B h (Q none h) | _ => False)
    | _ => (match m_act B e ls st h with
      | some (none, q) => m_alls P r X q
      | some (some p, q) => p ∧ m_alls P r X q
      | none => False)
theorem m_alls_mono {P r : List mI} {X Y : List mI → mL → List Value → mH → Prop} (hXY : ∀ c ls st h, X c ls st h → Y c ls st h) : ∀ q : List (Option Prop × mN), m_alls P r X q → m_alls P r Y q
  | [], h => h
  | [(none, (none, ls, st, g))], h => hXY _ _ _ _ h
  | [(none, (some t, ls, st, g))], h => hXY _ _ _ _ h
  | [(some c, (none, ls, st, g))], h => fun x => hXY _ _ _ _ (h x)
  | [(some c, (some t, ls, st, g))], h => fun x => hXY _ _ _ _ (h x)
  | (some c, (none, ls, st, g)) :: a :: q, h => ⟨fun x => hXY _ _ _ _ (h.1 x), m_alls_mono hXY (a :: q) h.2⟩
  | (some c, (some t, ls, st, g)) :: a :: q, h => ⟨fun x => hXY _ _ _ _ (h.1 x), m_alls_mono hXY (a :: q) h.2⟩
  | (none, (none, ls, st, g)) :: a :: q, h => ⟨hXY _ _ _ _ h.1, m_alls_mono hXY (a :: q) h.2⟩
  | (none, (some t, ls, st, g)) :: a :: q, h => ⟨hXY _ _ _ _ h.1, m_alls_mono hXY (a :: q) h.2⟩
def m_mono (call : mC) : Prop := ∀ y as h (R S : Option Value → mH → Prop), (∀ v g, R v g → S v g) → call y as h R → call y as h S
theorem m_popn_mono {F G : List Value → List Value → Prop} (hFG : ∀ a b, F a b → G a b) : ∀ (n : Nat) (st acc : List Value), m_popn st n acc F → m_popn st n acc G
  | 0, st, acc, h => by
    cases st <;> exact hFG _ _ h
  | n + 1, [], acc, h => h.elim
  | n + 1, v :: st, acc, h => m_popn_mono hFG n st (v :: acc) h
theorem m_end_mono {B : Option (Nat × Nat)} {h : mH} {p q : Prop} (hpq : p → q) (H : m_end B h p) : m_end B h q := by
  cases B with
  | none => exact hpq H
  | some b => exact ⟨H.1, hpq H.2⟩
theorem m_call_mono {B : Option (Nat × Nat)} {mc ms : Nat} {h : mH} {p q : Prop} (hpq : p → q) (H : m_call B mc ms h p) : m_call B mc ms h q := by
  cases B with
  | none =>
    cases mc with
    | zero => cases ms with
      | zero => exact hpq H
      | succ _ => exact H.elim
    | succ _ => exact H.elim
  | some b => exact ⟨H.1, hpq H.2⟩
theorem m_psh_mono {st : List Value} {v : Option Value} {F G : List Value → Prop} (hFG : ∀ a, F a → G a) (H : m_psh st v F) : m_psh st v G := by
  cases v with
  | none => exact hFG _ H
  | some x => exact hFG _ H
theorem m_inv_mono {B : Option (Nat × Nat)} {call : mC} (hc : m_mono call) {an : List Nat} {r : List mI} {ls : mL} {st : List Value} {h : mH} {X Y : List mI → mL → List Value → mH → Prop} (hXY : ∀ c ls st h, X c ls st h → Y c ls st h) (H : m_inv B call an r ls st h X) : m_inv B call an r ls st h Y := by
  match an, H with
  | [y, n, mc, ms], H =>
    refine m_popn_mono (fun as s => ?_) _ _ _ H
    cases m_fit s 8 with
    | true => exact m_call_mono (hc _ _ _ _ _ (fun v g => m_psh_mono (fun s' => hXY _ _ _ _)))
    | false => exact id
  | [], H => exact H.elim
  | [_], H => exact H.elim
  | [_, _], H => exact H.elim
  | [_, _, _], H => exact H.elim
  | _ :: _ :: _ :: _ :: _ :: _, H => exact H.elim
set_option maxHeartbeats 4000000 in
theorem m_stp_mono {P : List mI} {B : Option (Nat × Nat)} {call : mC} (hc : m_mono call) {Q Q' : Option Value → mH → Prop} (hQ : ∀ v g, Q v g → Q' v g) {X Y : List mI → mL → List Value → mH → Prop} (hXY : ∀ c ls st h, X c ls st h → Y c ls st h) {c : List mI} {ls : mL} {st : List Value} {h : mH} (H : m_stp P B call Q X c ls st h) : m_stp P B call Q' Y c ls st h := by
  cases c with
  | nil => exact H
  | cons e r =>
    unfold m_stp at H ⊢
    dsimp only at H ⊢
    split at H
    · exact m_inv_mono hc hXY H
    · exact m_inv_mono hc hXY H
    · exact m_inv_mono hc hXY H
    · split at H
      · exact m_end_mono (hQ _ _) H
      · exact ⟨H.1, m_end_mono (hQ _ _) H.2⟩
      · exact H.elim
    · split at H
      · exact m_end_mono (hQ _ _) H
      · exact H.elim
    · split at H
      · exact m_end_mono (hQ _ _) H
      · exact H.elim
    · split at H
      · exact m_alls_mono hXY _ H
      · exact ⟨H.1, m_alls_mono hXY _ H.2⟩
      · exact H.elim
/-- total correctness of a body from a point on: the least that is closed under steps -/
def WPe (P : List mI) (B : Option (Nat × Nat)) (call : mC) (Q : Option Value → mH → Prop) (c : List mI) (ls : mL) (st : List Value) (h : mH) : Prop :=
  ∀ X : List mI → mL → List Value → mH → Prop, (∀ c ls st h, m_stp P B call Q X c ls st h → X c ls st h) → X c ls st h
theorem WPe.step {P : List mI} {B : Option (Nat × Nat)} {call : mC} (hc : m_mono call) {Q : Option Value → mH → Prop} {c : List mI} {ls : mL} {st : List Value} {h : mH} (H : m_stp P B call Q (WPe P B call Q) c ls st h) : WPe P B call Q c ls st h :=
  fun X hX => hX _ _ _ _ (m_stp_mono hc (fun _ _ q => q) (fun _ _ _ _ w => w X hX) H)
theorem WPe.mono {P : List mI} {B : Option (Nat × Nat)} {call : mC} (hc : m_mono call) {Q Q' : Option Value → mH → Prop} (hQ : ∀ v g, Q v g → Q' v g) {c : List mI} {ls : mL} {st : List Value} {h : mH} (H : WPe P B call Q c ls st h) : WPe P B call Q' c ls st h :=
  H (WPe P B call Q') (fun _ _ _ _ w => WPe.step hc (m_stp_mono hc hQ (fun _ _ _ _ z => z) w))
def m_nxt (K : Nat → mL → List Value → mH → Prop) (S : List mI → mL → List Value → mH → Prop) (c : List mI) (ls : mL) (st : List Value) (h : mH) : Prop := match c with
  | (true, i, _) :: _ => K i ls st h
  | _ => S c ls st h
/-- symbolic execution up to the next stops -/
def m_sym (P : List mI) (B : Option (Nat × Nat)) (call : mC) (Q : Option Value → mH → Prop) (K : Nat → mL → List Value → mH → Prop) : Nat → List mI → mL → List Value → mH → Prop
  | 0, _, _, _, _ => False
  | n + 1, c, ls, st, h => m_stp P B call Q (fun c ls st h => m_nxt K (m_sym P B call Q K n) c ls st h) c ls st h
/-- the instructions' indices are their places -/
def m_ixd (P : List mI) : Prop := ∀ (i : Nat) (e : mI), P[i]? = some e → e.2.1 = i
def m_suf (P c : List mI) : Prop := ∃ j, c = m_drop P j
theorem m_suf.tail {P r : List mI} {e : mI} (h : m_suf P (e :: r)) : m_suf P r := by
  obtain ⟨j, hj⟩ := h
  exact ⟨j + 1, (m_drop_cons hj.symm).2⟩
theorem m_alls_suf {P r : List mI} (hr : m_suf P r) {X : List mI → mL → List Value → mH → Prop} : ∀ q : List (Option Prop × mN), m_alls P r X q → m_alls P r (fun c ls st h => m_suf P c ∧ X c ls st h) q
  | [], h => h
  | [(none, (none, ls, st, g))], h => ⟨hr, h⟩
  | [(none, (some t, ls, st, g))], h => ⟨⟨t, rfl⟩, h⟩
  | [(some c, (none, ls, st, g))], h => fun x => ⟨hr, h x⟩
  | [(some c, (some t, ls, st, g))], h => fun x => ⟨⟨t, rfl⟩, h x⟩
  | (some c, (none, ls, st, g)) :: a :: q, h => ⟨fun x => ⟨hr, h.1 x⟩, m_alls_suf hr (a :: q) h.2⟩
  | (some c, (some t, ls, st, g)) :: a :: q, h => ⟨fun x => ⟨⟨t, rfl⟩, h.1 x⟩, m_alls_suf hr (a :: q) h.2⟩
  | (none, (none, ls, st, g)) :: a :: q, h => ⟨⟨hr, h.1⟩, m_alls_suf hr (a :: q) h.2⟩
  | (none, (some t, ls, st, g)) :: a :: q, h => ⟨⟨⟨t, rfl⟩, h.1⟩, m_alls_suf hr (a :: q) h.2⟩
theorem m_inv_suf {B : Option (Nat × Nat)} {call : mC} (hc : m_mono call) {an : List Nat} {P r : List mI} (hr : m_suf P r) {ls : mL} {st : List Value} {h : mH} {X : List mI → mL → List Value → mH → Prop} (H : m_inv B call an r ls st h X) : m_inv B call an r ls st h (fun c ls st h => m_suf P c ∧ X c ls st h) := by
  match an, H with
  | [y, n, mc, ms], H =>
    refine m_popn_mono (fun as s => ?_) _ _ _ H
    cases m_fit s 8 with
    | true => exact m_call_mono (hc _ _ _ _ _ (fun v g => m_psh_mono (fun s' q => ⟨hr, q⟩)))
    | false => exact id
  | [], H => exact H.elim
  | [_], H => exact H.elim
  | [_, _], H => exact H.elim
  | [_, _, _], H => exact H.elim
  | _ :: _ :: _ :: _ :: _ :: _, H => exact H.elim
set_option maxHeartbeats 4000000 in
theorem m_stp_suf {P : List mI} {B : Option (Nat × Nat)} {call : mC} (hc : m_mono call) {Q : Option Value → mH → Prop} {X : List mI → mL → List Value → mH → Prop} {c : List mI} (hs : m_suf P c) {ls : mL} {st : List Value} {h : mH} (H : m_stp P B call Q X c ls st h) : m_stp P B call Q (fun c ls st h => m_suf P c ∧ X c ls st h) c ls st h := by
  cases c with
  | nil => exact H
  | cons e r =>
    have hr := hs.tail
    unfold m_stp at H ⊢
    dsimp only at H ⊢
    split at H
    · exact m_inv_suf hc hr H
    · exact m_inv_suf hc hr H
    · exact m_inv_suf hc hr H
    · exact H
    · exact H
    · exact H
    · split at H
      · exact m_alls_suf hr _ H
      · exact ⟨H.1, m_alls_suf hr _ H.2⟩
      · exact H.elim
theorem m_sym_ok {P : List mI} {B : Option (Nat × Nat)} {call : mC} (hc : m_mono call) (hP : m_ixd P) {Q : Option Value → mH → Prop} : ∀ (n : Nat) (c : List mI) (ls : mL) (st : List Value) (h : mH), m_suf P c → m_sym P B call Q (fun i ls st h => WPe P B call Q (m_drop P i) ls st h) n c ls st h → WPe P B call Q c ls st h
  | 0, _, _, _, _, _, H => H.elim
  | n + 1, c, ls, st, h, hs, H => by
    refine WPe.step hc (m_stp_mono hc (fun _ _ q => q) ?_ (m_stp_suf hc hs H))
    intro c ls st h ⟨hs, H⟩
    match c, hs, H with
    | [], hs, H => exact m_sym_ok hc hP n _ _ _ _ hs H
    | (true, i, r0) :: r, hs, H =>
      obtain ⟨j, hj⟩ := hs
      have h1 := (m_drop_cons hj.symm).1
      have h2 : i = j := hP j _ h1
      subst h2
      rw [hj]
      exact H
    | (false, i, r0) :: r, hs, H => exact m_sym_ok hc hP n _ _ _ _ hs H
/-! methods -/
/-- a method: its name, its bytes, its locals, what it returns, its class's number, is it an <init>, the class of its receiver, the cells and slots that it makes, its instructions -/
abbrev mM : Type := MethodName × ByteArray × Nat × Option FieldType × Nat × Bool × Option Nat × (Nat × Nat) × List mI
def m_init : Nat → List Value → mL
  | 0, _ => []
  | n + 1, [] => none :: m_init n []
  | 1, .long x :: _ => [some (.long x)]
  | n + 2, .long x :: t => some (.long x) :: none :: m_init n t
  | n + 1, .double _ :: _ => none :: m_init n []
  | n + 1, v :: t => some v :: m_init n t
def m_bud (M : mM) (h : mH) : Option (Nat × Nat) := match M.2.2.2.2.2.2.2.1 with
  | (0, 0) => none
  | (mc, ms) => some (h.1.length + mc, m_sz h.1 + ms)
def m_ent (M : mM) (as : List Value) (h : mH) (q : Prop) : Prop := match m_fit as M.2.2.1 with
  | true => (match M.2.2.2.2.2.2.1 with
    | none => q
    | some ci => (match as with
      | .ref k :: _ => (match m_nth h.1 k with
        | some (t, _, _) => (match Nat.beq t ci with
          | true => q
          | false => False)
        | none => False)
      | _ => False))
  | false => False
def m_cpy (f : Nat → Nat → Int32) (a b sp dp n : Nat) : Nat → Nat → Int32 := fun k i => if k = b then (if dp ≤ i ∧ i < dp + n then f a (sp + (i - dp)) else f k i) else f k i
/-- the place of a letter in "pvdr" -/
def m_let (x : Int32) : Int32 := if x = 112 then 0 else if x = 118 then 1 else if x = 100 then 2 else if x = 114 then 3 else -1
def m_prim (y : Nat) (as : List Value) (h : mH) (R : Option Value → mH → Prop) : Prop := match y, as with
  | 0, [.ref _] => R none h
  | 1, [.ref a, .int sp, .ref b, .int dp, .int n] => (match m_nth h.1 a, m_nth h.1 b with
    | some (t, na, _), some (100, nb, _) => (match (Nat.beq t 100 || Nat.beq t 200) with
      | true => (¬ sp < 0 ∧ ¬ dp < 0 ∧ ¬ n < 0 ∧ sp.toNatClampNeg + n.toNatClampNeg ≤ na ∧ dp.toNatClampNeg + n.toNatClampNeg ≤ nb) ∧ R none (h.1, m_cpy h.2.1 a b sp.toNatClampNeg dp.toNatClampNeg n.toNatClampNeg, h.2.2)
      | false => False)
    | _, _ => False)
  | 3, [.int x, .int y] => R (some (.int (if x < y then y else x))) h
  | 4, [.int x, .int y] => R (some (.int (if y < x then y else x))) h
  | _, _ => False
/-- String.indexOf over the literal -/
def m_ixc (d : Nat) (as : List Value) (h : mH) (R : Option Value → mH → Prop) : Prop := match as with
  | [.ref 4, .int x] => 4 ≤ d ∧ R (some (.int (m_let x))) h
  | _ => False
theorem m_ixc_spec {d : Nat} {as : List Value} {h : mH} {R : Option Value → mH → Prop} (H : m_ixc d as h R) : ∃ x : Int32, as = [.ref 4, .int x] ∧ 4 ≤ d ∧ R (some (.int (m_let x))) h := by
  unfold m_ixc at H
  split at H
  · rename_i x
    exact ⟨x, rfl, H⟩
  · exact H.elim
theorem m_ixc_mono {d : Nat} {as : List Value} {h : mH} {R S : Option Value → mH → Prop} (hRS : ∀ v g, R v g → S v g) (H : m_ixc d as h R) : m_ixc d as h S := by
  obtain ⟨x, rfl, h1, h2⟩ := m_ixc_spec H
  exact ⟨h1, hRS _ _ h2⟩
def Run (tab : List mM) : Nat → mC
  | 0, _, _, _, _ => False
  | d + 1, y, as, h, R => (match y with
    | k + 6 => (match m_nth tab k with
      | some M => m_ent M as h (WPe M.2.2.2.2.2.2.2.2 (m_bud M h) (Run tab d) R M.2.2.2.2.2.2.2.2 (m_init M.2.2.1 as) [] h)
      | none => False)
    | 2 => m_ixc d as h R
    | k => m_prim k as h R)
theorem m_ent_mono {M : mM} {as : List Value} {h : mH} {p q : Prop} (hpq : p → q) (H : m_ent M as h p) : m_ent M as h q := by
  unfold m_ent at H ⊢
  split at H
  · split at H
    · exact hpq H
    · split at H
      · split at H
        · split at H
          · exact hpq H
          · exact H.elim
        · exact H.elim
      · exact H.elim
  · exact H.elim
theorem m_prim_mono {y : Nat} {as : List Value} {h : mH} {R S : Option Value → mH → Prop} (hRS : ∀ v g, R v g → S v g) (H : m_prim y as h R) : m_prim y as h S := by
  unfold m_prim at H ⊢
  split at H
  · exact hRS _ _ H
  · split at H
    · split at H
      · exact ⟨H.1, hRS _ _ H.2⟩
      · exact H.elim
    · exact H.elim
  · exact hRS _ _ H
  · exact hRS _ _ H
  · exact H.elim
theorem Run_mono (tab : List mM) : ∀ d, m_mono (Run tab d)
  | 0 => fun _ _ _ _ _ _ H => H.elim
  | d + 1 => by
    intro y as h R S hRS H
    have ih := Run_mono tab d
    unfold Run at H ⊢
    split at H
    · split at H
      · exact m_ent_mono (WPe.mono ih hRS) H
      · exact H.elim
    · exact m_ixc_mono hRS H
    · exact m_prim_mono hRS H
