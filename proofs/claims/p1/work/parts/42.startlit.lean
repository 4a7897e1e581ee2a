theorem len_of {args : Array Value} {s : State} {t : Term} {n : Nat} (hn : n < 2 ^ 31) (h : (Term.length t).eval args s none [] s = some (.int (nI n))) : ∃ a cell, t.eval args s none [] s = some (.ref a) ∧ s.arrayAt? a = some cell ∧ cell.slots.size = n := by
  simp only [Term.eval, Option.bind_eq_bind] at h
  cases ht : t.eval args s none [] s with
  | none => simp [ht] at h
  | some x =>
    cases x <;> simp [ht] at h
    case ref a =>
      obtain ⟨cell, hcell, h⟩ := Option.bind_eq_some_iff.mp h
      by_cases hq : cell.slots.size < 2147483648
      · rw [if_pos hq] at h
        have h9 : nI cell.slots.size = nI n := Value.int.inj (Option.some.inj h)
        exact ⟨a, cell, rfl, hcell, (nI_eq hq hn).mp h9⟩
      · rw [if_neg hq] at h
        cases h
theorem fd_of {args : Array Value} {s : State} {t : Term} {a : Nat} {cell : Cell} {n d : String} {v : Value} (ht : t.eval args s none [] s = some (.ref a)) (hc : s.heap[a]? = some cell) (hv : (Term.field t "java/lang/String" n d).eval args s none [] s = some v) : m_Fd n d v cell s ∧ cell.vm ≠ .unknown := by
  cases hfo : s.fieldFound? "java/lang/String" n d with
  | none =>
    rw [va_fe ht] at hv
    simp [State.fieldOf?, State.fieldNamed?, hfo] at hv
  | some x =>
    obtain ⟨cf, k, fi, f⟩ := x
    obtain ⟨g1, cell', g2, g3, g4, g5, g6⟩ := Term.field_spec hfo ht hv
    cases hc.symm.trans g2
    exact ⟨⟨cf, k, fi, f, hfo, g1, g5, g6⟩, g3⟩
theorem start_lit {args : Array Value} {s : State} {A : Nat → Prop} (hA : ∀ a : Nat, a < s.heap.size → ¬ A a) (hsr : (Cond.stringRef "LifeList$Rules" 91 "pvdr").before args s = true)
    (hex : (Cond.exactly (.string "LifeList$Rules" 91) "java/lang/String").before args s = true)
    (hco : (Cond.eq (.field (.string "LifeList$Rules" 91) "java/lang/String" "coder" "B") (.int 0)).before args s = true)
    (har : (Cond.arrayOf (.field (.string "LifeList$Rules" 91) "java/lang/String" "value" "[B") .byte).before args s = true)
    (hle : (Cond.eq (.length (.field (.string "LifeList$Rules" 91) "java/lang/String" "value" "[B")) (.int 4)).before args s = true)
    (hel : ∀ j : Nat, j < 4 → (Cond.eq (.elem (.field (.string "LifeList$Rules" 91) "java/lang/String" "value" "[B") (.int (nI j))) (.int (lit_b j))).before args s = true)
    (hls : (Cond.laysStatic "java/lang/String" "COMPACT_STRINGS" "Z").before args s = true) (hini : (Cond.initialized "java/lang/String").before args s = true)
    (hcs : (Cond.eq (.static "java/lang/String" "COMPACT_STRINGS" "Z") (.int 1)).before args s = true) : ∃ a, a < s.heap.size ∧ m_Lt a A s s.heap := by
  obtain ⟨a, c, cell, k, q1, q2, q3, q4, q5, rfl, q7⟩ := Cond.exactly_spec hex
  obtain ⟨d, arr, r1, r2, r3⟩ := len_of (n := 4) (by decide) (va_eqt hle)
  obtain ⟨r4, r5, -, -⟩ := State.arrayAt?_spec r2
  obtain ⟨f1, f2⟩ := fd_of q1 q3 r1
  obtain ⟨f3, -⟩ := fd_of q1 q3 (va_eqt hco)
  obtain ⟨r6, -⟩ := Cond.arrayOf_spec har r1 r4
  have hq : a < s.heap.size := (Array.getElem?_eq_some_iff.mp q3).1
  have hd : d < s.heap.size := (Array.getElem?_eq_some_iff.mp r4).1
  refine ⟨a, hq, vk_R.of hsr q1, ⟨d, cell, arr, q3, r4, hA a hq, hA d hd, f2, q5, q2, ⟨k, q4, q7⟩, f1, f3, r6, r5, r3, fun j hj => ?_⟩, va_Zof hls hini (va_eqt hcs) hA⟩
  obtain ⟨a', i, arr', h1, h2, h3, h4, h5⟩ := Term.elem_spec (va_eqt (hel j hj))
  cases r1.symm.trans h1
  cases r2.symm.trans h3
  have hi : i = nI j := by
    have e : (Term.int (nI j)).eval args s none [] s = some (.int (nI j)) := rfl
    cases h2.symm.trans e
    rfl
  subst hi
  rw [nI_clamp (by omega)] at h5
  exact h5
