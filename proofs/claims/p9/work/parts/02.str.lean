/-! ===== THE LITERAL, and String.indexOf over it ===== -/
theorem declares_of {A : Array Value} {U : State} {x : MethodName} {b : ByteArray} {n : Nat} {r : Option FieldType} (h1 : (Cond.code x b n r).before A U = true) (h2 : (Cond.instanceMethod x).before A U = true) : (Cond.declares x).before A U = true := by
  obtain ⟨m, meth, q1, q2, q3, q4⟩ := Cond.instanceMethod_spec h2
  obtain ⟨meth', c, e1, -, -, -, -, -, -, e2⟩ := Cond.code_spec q1 h1
  cases q2.symm.trans e1
  simp [Cond.before, Cond.holds, Cond.value, q1, q2, q3, e2]
def lit_b (j : Nat) : Int32 := match j with
  | 0 => 112
  | 1 => 118
  | 2 => 100
  | 3 => 114
  | _ => 0
/-- a field of the object at a -/
def m_Fd (n d : String) (v : Value) (cell : Cell) (U : State) : Prop := ∃ (cf : ClassId) (k : Class) (i : Nat) (f : Field), U.fieldFound? "java/lang/String" n d = some (cf, k, i, f) ∧ f.isStatic = false ∧ U.vm.assignable cell.cls cf = true ∧ cell.slots[f.slot]? = some v
theorem m_Fd.moved {n d : String} {v : Value} {cell : Cell} {u U : State} (hvm : u.vm.Alike U.vm) (h : m_Fd n d v cell u) : m_Fd n d v cell U := by
  obtain ⟨cf, k, i, f, h1, h2, h3, h4⟩ := h
  obtain ⟨k', hi', he⟩ := State.fieldFound?_setVm hvm h1
  exact ⟨cf, k', i, f, hi', h2, by rw [hvm.assignable]; exact h3, h4⟩
/-- the string at a, its bytes at d, as the tables of U have them -/
def m_Sd (cell arr : Cell) (d : Nat) (U : State) : Prop :=
  cell.vm ≠ .unknown ∧ cell.vm.isStatics = false ∧ U.vm.findClass "java/lang/String" = some cell.cls ∧ (∃ k, U.vm.classes[cell.cls]? = some k ∧ (k.kind = .ordinary → cell.slots.size = k.instanceTypes.size)) ∧ m_Fd "value" "[B" (.ref d) cell U ∧ m_Fd "coder" "B" (.int 0) cell U ∧
  U.isArrayOf arr .byte ∧ arr.vm ≠ .unknown ∧ arr.slots.size = 4 ∧ ∀ j, j < 4 → arr.slots[j]? = some (.int (lit_b j))
theorem m_Sd.moved {cell arr : Cell} {d : Nat} {u U : State} (hvm : u.vm.Alike U.vm) (h : m_Sd cell arr d u) : m_Sd cell arr d U := by
  obtain ⟨h1, h2, h3, ⟨k, h4, h5⟩, h6, h7, h8, h9⟩ := h
  obtain ⟨k', hk', he⟩ := hvm.2.2 _ _ h4
  refine ⟨h1, h2, by rw [hvm.findClass]; exact h3, ⟨k', hk', by rw [he]; exact h5⟩, h6.moved hvm, h7.moved hvm, State.isArrayOf_alike hvm h8, h9⟩
def m_Lt (a : Nat) (A : Nat → Prop) (U : State) (H : Heap) : Prop :=
  vk_R "LifeList$Rules" 91 "pvdr" a U ∧ (∃ (d : Nat) (cell arr : Cell), H[a]? = some cell ∧ H[d]? = some arr ∧ ¬ A a ∧ ¬ A d ∧ m_Sd cell arr d U) ∧ va_Z "java/lang/String" "COMPACT_STRINGS" "Z" (.int 1) A U H
theorem m_Lt.same {a : Nat} {A : Nat → Prop} {u U : State} {H : Heap} (hv : U.vm = u.vm) (h : m_Lt a A u H) : m_Lt a A U H := by
  obtain ⟨h1, ⟨d, cell, arr, q1, q2, q3, q4, q5⟩, h3⟩ := h
  have hal : u.vm.Alike U.vm := by rw [hv]; exact Vm.Alike.refl _
  exact ⟨h1.same hv, ⟨d, cell, arr, q1, q2, q3, q4, q5.moved hal⟩, va_Z.moved hal h3⟩
theorem m_Lt.there {a : Nat} {A : Nat → Prop} {s U : State} {H H1 : Heap} (hW : s.WarmedH U.vm) (hq : ∀ a : Nat, a < H.size → ¬ A a → H1[a]? = H[a]?) (h : m_Lt a A s H) : m_Lt a A U H1 := by
  obtain ⟨h1, ⟨d, cell, arr, q1, q2, q3, q4, q5⟩, h3⟩ := h
  refine ⟨h1.warm hW, ⟨d, cell, arr, ?_, ?_, q3, q4, q5.moved hW.alike⟩, (va_Z.moved hW.alike h3).kept hq⟩
  · rw [hq a (Array.getElem?_eq_some_iff.mp q1).1 q3]
    exact q1
  · rw [hq d (Array.getElem?_eq_some_iff.mp q2).1 q4]
    exact q2
theorem m_Lt.recv {a : Nat} {A : Nat → Prop} {U : State} {H : Heap} (h : m_Lt a A U H) : ∃ cell : Cell, H[a]? = some cell ∧ cell.vm.isStatics = false ∧ U.vm.findClass "java/lang/String" = some cell.cls := by
  obtain ⟨-, ⟨d, cell, arr, q1, q2, q3, q4, q5⟩, -⟩ := h
  exact ⟨cell, q1, q5.2.1, q5.2.2.1⟩
theorem lit_let (arr : Cell) (h4 : arr.slots.size = 4) (hb : ∀ j, j < 4 → arr.slots[j]? = some (.int (lit_b j))) (x : Int32) : Jvm.Free.SL1IndexOf.Idx.answer arr x 0 arr.slots.size.toInt32 = m_let x := by
  have hi : ∀ j, j < 4 → Jvm.Lib.StringLatin1.equals.intAt arr j = lit_b j := by
    intro j hj
    unfold Jvm.Lib.StringLatin1.equals.intAt
    rw [hb j hj]
  have e1 : Jvm.Free.SL1IndexOf.Idx.lo 0 = 0 := rfl
  have e2 : Jvm.Free.SL1IndexOf.Idx.hi arr arr.slots.size.toInt32 = 4 := by
    unfold Jvm.Free.SL1IndexOf.Idx.hi
    rw [h4]
    rfl
  unfold Jvm.Free.SL1IndexOf.Idx.answer
  rw [e1, e2, if_pos (show (0 : Int32) < 4 by decide)]
  have e3 : ((4 : Int32).toNatClampNeg - (0 : Int32).toNatClampNeg) = 4 := rfl
  have e4 : (0 : Int32).toNatClampNeg = 0 := rfl
  rw [e3, e4]
  simp only [Jvm.Free.SL1IndexOf.Chr.firstIdx, hi 0 (by decide), hi 1 (by decide), hi 2 (by decide), hi 3 (by decide), lit_b]
  unfold Jvm.Free.SL1IndexOf.Can.can m_let
  by_cases hx : 0 ≤ x ∧ x ≤ 255
  · rw [if_pos hx, if_neg (by decide)]
    obtain ⟨j, hj, rfl⟩ := nI_of2 (x := x) (M := 255) (n := 255) rfl (by rw [Int32.lt_iff_toInt_lt]; have := Int32.le_iff_toInt_le.mp hx.1; omega) hx.2
    have key : ∀ j, j ≤ 255 → (if (112 : Int32) = (nI j).toInt8.toInt32 then Int32.ofNat 0 else if (118 : Int32) = (nI j).toInt8.toInt32 then Int32.ofNat (0 + 1) else if (100 : Int32) = (nI j).toInt8.toInt32 then Int32.ofNat (0 + 1 + 1) else if (114 : Int32) = (nI j).toInt8.toInt32 then Int32.ofNat (0 + 1 + 1 + 1) else -1) = if nI j = 112 then 0 else if nI j = 118 then 1 else if nI j = 100 then 2 else if nI j = 114 then 3 else -1 := by decide +kernel
    exact key j hj
  · rw [if_neg hx, if_pos rfl]
    have n1 : ¬ x = 112 := fun h => hx (by rw [h]; decide)
    have n2 : ¬ x = 118 := fun h => hx (by rw [h]; decide)
    have n3 : ¬ x = 100 := fun h => hx (by rw [h]; decide)
    have n4 : ¬ x = 114 := fun h => hx (by rw [h]; decide)
    rw [if_neg n1, if_neg n2, if_neg n3, if_neg n4]
theorem len_of {args : Array Value} {s : State} {t : Term} {n : Nat} (hn : n < 2 ^ 31) (h : (Term.length t).eval args s none [] s = some (.int (nI n))) : ∃ a cell, t.eval args s none [] s = some (.ref a) ∧ s.arrayAt? a = some cell ∧ cell.slots.size = n := by
  simp only [Term.eval, Option.bind_eq_bind] at h
  cases ht : t.eval args s none [] s with
  | none => simp [ht] at h
  | some x =>
    cases x <;> simp [ht] at h
    case ref a =>
      obtain ⟨cell, hcell, h⟩ := Option.bind_eq_some_iff.mp h
      by_cases hq : cell.slots.size < 2147483648
      · rw [if_pos hq] at h
        have h9 : nI cell.slots.size = nI n := Value.int.inj (Option.some.inj h)
        exact ⟨a, cell, rfl, hcell, (nI_eq hq hn).mp h9⟩
      · rw [if_neg hq] at h
        cases h
theorem fd_of {args : Array Value} {s : State} {t : Term} {a : Nat} {cell : Cell} {n d : String} {v : Value} (ht : t.eval args s none [] s = some (.ref a)) (hc : s.heap[a]? = some cell) (hv : (Term.field t "java/lang/String" n d).eval args s none [] s = some v) : m_Fd n d v cell s ∧ cell.vm ≠ .unknown := by
  cases hfo : s.fieldFound? "java/lang/String" n d with
  | none =>
    rw [va_fe ht] at hv
    simp [State.fieldOf?, State.fieldNamed?, hfo] at hv
  | some x =>
    obtain ⟨cf, k, fi, f⟩ := x
    obtain ⟨g1, cell', g2, g3, g4, g5, g6⟩ := Term.field_spec hfo ht hv
    cases hc.symm.trans g2
    exact ⟨⟨cf, k, fi, f, hfo, g1, g5, g6⟩, g3⟩
theorem start_lit {args : Array Value} {s : State} {A : Nat → Prop} (hA : ∀ a : Nat, a < s.heap.size → ¬ A a) (hsr : (Cond.stringRef "LifeList$Rules" 91 "pvdr").before args s = true)
    (hex : (Cond.exactly (.string "LifeList$Rules" 91) "java/lang/String").before args s = true)
    (hco : (Cond.eq (.field (.string "LifeList$Rules" 91) "java/lang/String" "coder" "B") (.int 0)).before args s = true)
    (har : (Cond.arrayOf (.field (.string "LifeList$Rules" 91) "java/lang/String" "value" "[B") .byte).before args s = true)
    (hle : (Cond.eq (.length (.field (.string "LifeList$Rules" 91) "java/lang/String" "value" "[B")) (.int 4)).before args s = true)
    (hel : ∀ j : Nat, j < 4 → (Cond.eq (.elem (.field (.string "LifeList$Rules" 91) "java/lang/String" "value" "[B") (.int (nI j))) (.int (lit_b j))).before args s = true)
    (hls : (Cond.laysStatic "java/lang/String" "COMPACT_STRINGS" "Z").before args s = true) (hini : (Cond.initialized "java/lang/String").before args s = true)
    (hcs : (Cond.eq (.static "java/lang/String" "COMPACT_STRINGS" "Z") (.int 1)).before args s = true) : ∃ a, a < s.heap.size ∧ m_Lt a A s s.heap := by
  obtain ⟨a, c, cell, k, q1, q2, q3, q4, q5, rfl, q7⟩ := Cond.exactly_spec hex
  obtain ⟨d, arr, r1, r2, r3⟩ := len_of (n := 4) (by decide) (va_eqt hle)
  obtain ⟨r4, r5, -, -⟩ := State.arrayAt?_spec r2
  obtain ⟨f1, f2⟩ := fd_of q1 q3 r1
  obtain ⟨f3, -⟩ := fd_of q1 q3 (va_eqt hco)
  obtain ⟨r6, -⟩ := Cond.arrayOf_spec har r1 r4
  have hq : a < s.heap.size := (Array.getElem?_eq_some_iff.mp q3).1
  have hd : d < s.heap.size := (Array.getElem?_eq_some_iff.mp r4).1
  refine ⟨a, hq, vk_R.of hsr q1, ⟨d, cell, arr, q3, r4, hA a hq, hA d hd, f2, q5, q2, ⟨k, q4, q7⟩, f1, f3, r6, r5, r3, fun j hj => ?_⟩, va_Zof hls hini (va_eqt hcs) hA⟩
  obtain ⟨a', i, arr', h1, h2, h3, h4, h5⟩ := Term.elem_spec (va_eqt (hel j hj))
  cases r1.symm.trans h1
  cases r2.symm.trans h3
  have hi : i = nI j := by
    have e : (Term.int (nI j)).eval args s none [] s = some (.int (nI j)) := rfl
    cases h2.symm.trans e
    rfl
  subst hi
  rw [nI_clamp (by omega)] at h5
  exact h5
