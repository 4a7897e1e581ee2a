/-! ===== THE LITERAL, and String.indexOf over it ===== -/
theorem declares_of {A : Array Value} {U : State} {x : MethodName} {b : ByteArray} {n : Nat} {r : Option FieldType} (h1 : (Cond.code x b n r).before A U = true) (h2 : (Cond.instanceMethod x).before A U = true) : (Cond.declares x).before A U = true := by
  obtain ⟨m, meth, q1, q2, q3, q4⟩ := Cond.instanceMethod_spec h2
  obtain ⟨meth', c, e1, -, -, -, -, -, -, e2⟩ := Cond.code_spec q1 h1
  cases q2.symm.trans e1
  simp [Cond.before, Cond.holds, Cond.value, q1, q2, q3, e2]
def lit_b (j : Nat) : Int32 := match j with
  | 0 => 112
  | 1 => 118
  | 2 => 100
  | 3 => 114
  | _ => 0
/-- a field of the object at a -/
def m_Fd (n d : String) (v : Value) (cell : Cell) (U : State) : Prop := ∃ (cf : ClassId) (k : Class) (i : Nat) (f : Field), U.fieldFound? "java/lang/String" n d = some (cf, k, i, f) ∧ f.isStatic = false ∧ U.vm.assignable cell.cls cf = true ∧ cell.slots[f.slot]? = some v
theorem m_Fd.moved {n d : String} {v : Value} {cell : Cell} {u U : State} (hvm : u.vm.Alike U.vm) (h : m_Fd n d v cell u) : m_Fd n d v cell U := by
  obtain ⟨cf, k, i, f, h1, h2, h3, h4⟩ := h
  obtain ⟨k', hi', he⟩ := State.fieldFound?_setVm hvm h1
  exact ⟨cf, k', i, f, hi', h2, by rw [hvm.assignable]; exact h3, h4⟩
/-- the string at a, its bytes at d, as the tables of U have them -/
def m_Sd (cell arr : Cell) (d : Nat) (U : State) : Prop :=
  cell.vm ≠ .unknown ∧ cell.vm.isStatics = false ∧ U.vm.findClass "java/lang/String" = some cell.cls ∧ (∃ k, U.vm.classes[cell.cls]? = some k ∧ (k.kind = .ordinary → cell.slots.size = k.instanceTypes.size)) ∧ m_Fd "value" "[B" (.ref d) cell U ∧ m_Fd "coder" "B" (.int 0) cell U ∧
  U.isArrayOf arr .byte ∧ arr.vm ≠ .unknown ∧ arr.slots.size = 4 ∧ ∀ j, j < 4 → arr.slots[j]? = some (.int (lit_b j))
theorem m_Sd.moved {cell arr : Cell} {d : Nat} {u U : State} (hvm : u.vm.Alike U.vm) (h : m_Sd cell arr d u) : m_Sd cell arr d U := by
  obtain ⟨h1, h2, h3, ⟨k, h4, h5⟩, h6, h7, h8, h9⟩ := h
  obtain ⟨k', hk', he⟩ := hvm.2.2 _ _ h4
  refine ⟨h1, h2, by rw [hvm.findClass]; exact h3, ⟨k', hk', by rw [he]; exact h5⟩, h6.moved hvm, h7.moved hvm, State.isArrayOf_alike hvm h8, h9⟩
def m_Lt (a : Nat) (A : Nat → Prop) (U : State) (H : Heap) : Prop :=
  vk_R "LifeList$Rules" 91 "pvdr" a U ∧ (∃ (d : Nat) (cell arr : Cell), H[a]? = some cell ∧ H[d]? = some arr ∧ ¬ A a ∧ ¬ A d ∧ m_Sd cell arr d U) ∧ va_Z "java/lang/String" "COMPACT_STRINGS" "Z" (.int 1) A U H
theorem m_Lt.same {a : Nat} {A : Nat → Prop} {u U : State} {H : Heap} (hv : U.vm = u.vm) (h : m_Lt a A u H) : m_Lt a A U H := by
  obtain ⟨h1, ⟨d, cell, arr, q1, q2, q3, q4, q5⟩, h3⟩ := h
  have hal : u.vm.Alike U.vm := by rw [hv]; exact Vm.Alike.refl _
  exact ⟨h1.same hv, ⟨d, cell, arr, q1, q2, q3, q4, q5.moved hal⟩, va_Z.moved hal h3⟩
theorem m_Lt.there {a : Nat} {A : Nat → Prop} {s U : State} {H H1 : Heap} (hW : s.WarmedH U.vm) (hq : ∀ a : Nat, a < H.size → ¬ A a → H1[a]? = H[a]?) (h : m_Lt a A s H) : m_Lt a A U H1 := by
  obtain ⟨h1, ⟨d, cell, arr, q1, q2, q3, q4, q5⟩, h3⟩ := h
  refine ⟨h1.warm hW, ⟨d, cell, arr, ?_, ?_, q3, q4, q5.moved hW.alike⟩, (va_Z.moved hW.alike h3).kept hq⟩
  · rw [hq a (Array.getElem?_eq_some_iff.mp q1).1 q3]
    exact q1
  · rw [hq d (Array.getElem?_eq_some_iff.mp q2).1 q4]
    exact q2
theorem m_Lt.recv {a : Nat} {A : Nat → Prop} {U : State} {H : Heap} (h : m_Lt a A U H) : ∃ cell : Cell, H[a]? = some cell ∧ cell.vm.isStatics = false ∧ U.vm.findClass "java/lang/String" = some cell.cls := by
  obtain ⟨-, ⟨d, cell, arr, q1, q2, q3, q4, q5⟩, -⟩ := h
  exact ⟨cell, q1, q5.2.1, q5.2.2.1⟩
theorem lit_let (arr : Cell) (h4 : arr.slots.size = 4) (hb : ∀ j, j < 4 → arr.slots[j]? = some (.int (lit_b j))) (x : Int32) : Jvm.Free.SL1IndexOf.Idx.answer arr x 0 arr.slots.size.toInt32 = m_let x := by
  have hi : ∀ j, j < 4 → Jvm.Lib.StringLatin1.equals.intAt arr j = lit_b j := by
    intro j hj
    unfold Jvm.Lib.StringLatin1.equals.intAt
    rw [hb j hj]
  have e1 : Jvm.Free.SL1IndexOf.Idx.lo 0 = 0 := rfl
  have e2 : Jvm.Free.SL1IndexOf.Idx.hi arr arr.slots.size.toInt32 = 4 := by
    unfold Jvm.Free.SL1IndexOf.Idx.hi
    rw [h4]
    rfl
  unfold Jvm.Free.SL1IndexOf.Idx.answer
  rw [e1, e2, if_pos (show (0 : Int32) < 4 by decide)]
  have e3 : ((4 : Int32).toNatClampNeg - (0 : Int32).toNatClampNeg) = 4 := rfl
  have e4 : (0 : Int32).toNatClampNeg = 0 := rfl
  rw [e3, e4]
  simp only [Jvm.Free.SL1IndexOf.Chr.firstIdx, hi 0 (by decide), hi 1 (by decide), hi 2 (by decide), hi 3 (by decide), lit_b]
  unfold Jvm.Free.SL1IndexOf.Can.can m_let
  by_cases hx : 0 ≤ x ∧ x ≤ 255
  · rw [if_pos hx, if_neg (by decide)]
    obtain ⟨j, hj, rfl⟩ := nI_of2 (x := x) (M := 255) (n := 255) rfl (i32_nlt.mpr hx.1) hx.2
    have key : ∀ j, j ≤ 255 → (if (112 : Int32) = (nI j).toInt8.toInt32 then Int32.ofNat 0 else if (118 : Int32) = (nI j).toInt8.toInt32 then Int32.ofNat (0 + 1) else if (100 : Int32) = (nI j).toInt8.toInt32 then Int32.ofNat (0 + 1 + 1) else if (114 : Int32) = (nI j).toInt8.toInt32 then Int32.ofNat (0 + 1 + 1 + 1) else -1) = if nI j = 112 then 0 else if nI j = 118 then 1 else if nI j = 100 then 2 else if nI j = 114 then 3 else -1 := by decide +kernel
    exact key j hj
  · rw [if_neg hx, if_pos rfl]
    have n1 : ¬ x = 112 := fun h => hx (by rw [h]; decide)
    have n2 : ¬ x = 118 := fun h => hx (by rw [h]; decide)
    have n3 : ¬ x = 100 := fun h => hx (by rw [h]; decide)
    have n4 : ¬ x = 114 := fun h => hx (by rw [h]; decide)
    rw [if_neg n1, if_neg n2, if_neg n3, if_neg n4]
