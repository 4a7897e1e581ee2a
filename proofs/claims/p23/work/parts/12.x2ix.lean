section Ix
theorem m_exact {a : Nat} {cell : Cell} {args : Array Value} {U : State} (h0 : (Term.arg 0).eval args U none [] U = some (.ref a)) (h1 : U.heap[a]? = some cell) (h2 : cell.vm.isStatics = false) (h3 : U.vm.findClass "java/lang/String" = some cell.cls) (h4 : ∃ k, U.vm.classes[cell.cls]? = some k ∧ (k.kind = .ordinary → cell.slots.size = k.instanceTypes.size)) : (Cond.exactly (.arg 0) "java/lang/String").before args U = true := by
  obtain ⟨k, h4, h5⟩ := h4
  simp only [Cond.before, Cond.holds, Cond.value, h0, h3, h1, h4, Option.bind_eq_bind, Option.bind_some, h2]
  cases hk : k.kind with
  | ordinary => simp [h5 hk]
  | _ => simp
theorem m_Fd.eval {n d : String} {v : Value} {a : Nat} {cell : Cell} {args : Array Value} {U : State} (h : m_Fd n d v cell U) (h0 : (Term.arg 0).eval args U none [] U = some (.ref a)) (h1 : U.heap[a]? = some cell) (hk : cell.vm ≠ .unknown) (h2 : cell.vm.isStatics = false) : (Term.field (.arg 0) "java/lang/String" n d).eval args U none [] U = some v := by
  obtain ⟨cf, k, i, f, q1, q2, q3, q4⟩ := h
  exact Term.field_eval q1 h0 q2 h1 hk h2 q3 q4
theorem ix_pre {a : Nat} {Ag : Nat → Prop} {U : State} {A0 : Array Value} (hL : m_Lt a Ag U U.heap) (hw : ∀ w ∈ m_tb, w.before A0 U = true) (x : Int32) :
    ∃ (d : Nat) (arr : Cell), Jvm.Free.StrIndexOf.S1.P a d x 1 arr #[.ref a, .int x] U ∧ Jvm.Free.StrIndexOf.S1.spec.pre.before #[.ref a, .int x] U = true ∧ Jvm.Free.SL1IndexOf.Idx.answer arr x 0 arr.slots.size.toInt32 = m_let x := by
  obtain ⟨-, ⟨d, cell, arr, q1, q2, -, -, w1, w2, w3, w4, w5, w6, w7, w8, w9, w10⟩, cf, kf, fi, f, az, cz, z1, z2, z3, z4, z5, z6, z7, -⟩ := hL
  have hst : Jvm.Lib.Cold.StaticIs U "java/lang/String" "COMPACT_STRINGS" "Z" (.int 1) := ⟨cf, fi, kf, f, az, cz, z1, z2, z3, z4, z5, (fun e => by rw [e] at z6; cases z6), z7⟩
  have ex2 : (Cond.exactly (.arg 0) "java/lang/String").before #[.ref a, .int x] U = true := m_exact rfl q1 w2 w3 w4
  have ex3 : (Cond.exactly (.arg 0) "java/lang/String").before #[.ref a, .int x, .int 0] U = true := m_exact rfl q1 w2 w3 w4
  have ex1 : (Cond.exactly (.arg 0) "java/lang/String").before #[.ref a] U = true := m_exact rfl q1 w2 w3 w4
  have v1 : (Term.field (.arg 0) "java/lang/String" "value" "[B").eval #[.ref a] U none [] U = some (.ref d) := w5.eval rfl q1 w1 w2
  have v3 : (Term.field (.arg 0) "java/lang/String" "value" "[B").eval #[.ref a, .int x, .int 0] U none [] U = some (.ref d) := w5.eval rfl q1 w1 w2
  have c1 : (Term.field (.arg 0) "java/lang/String" "coder" "B").eval #[.ref a] U none [] U = some (.int 0) := w6.eval rfl q1 w1 w2
  have dI2 : (Cond.declares Jvm.Free.StrIndexOf.indexOf2N).before A0 U = true := declares_of (hw _ sw_cI2) (hw _ sw_iI2)
  have dIL : (Cond.declares Jvm.Free.StrIndexOf.S2.IL).before A0 U = true := declares_of (hw _ sw_cIL) (hw _ sw_iIL)
  have dLN : (Cond.declares Jvm.Free.StrIndexOf.S2.LN).before A0 U = true := declares_of (hw _ sw_cLN) (hw _ sw_iLN)
  have dCO : (Cond.declares Jvm.Lib.Cold.length.CO).before A0 U = true := declares_of (hw _ sw_cCO) (hw _ sw_iCO)
  refine ⟨d, arr, ⟨rfl, ?_, rfl, v3, ?_, ⟨rfl, hst, by decide, c1⟩, ?_, ⟨rfl, v1, q2, w7, ?_, ⟨rfl, hst, by decide, c1⟩⟩, w8, by omega, fun i hi => ?_⟩, ?_, lit_let arr w9 w10 x⟩
  · simp only [Jvm.Free.StrIndexOf.S2.spec, Jvm.Free.SL1IndexOf.Idx.tab, Jvm.Free.SL1IndexOf.Can.tab, Jvm.Free.SL1IndexOf.Chr.tab, Cond.before_and, Bool.and_eq_true]
    exact ⟨hw _ sw_cI2, rfl, ex3, hw _ sw_lIL, dIL, hw _ sw_sIL, hw _ sw_iIL, hw _ sw_f9, hw _ sw_lLN, dLN, hw _ sw_sLN, hw _ sw_iLN, hw _ sw_lIX, hw _ sw_tIX, ⟨hw _ sw_cIX, hw _ sw_lCE, hw _ sw_tCE, hw _ sw_cCE, hw _ sw_lMX, hw _ sw_tMX, hw _ sw_cMX, hw _ sw_lMN, hw _ sw_tMN, hw _ sw_cMN, hw _ sw_nM, hw _ sw_lIC, hw _ sw_tIC, hw _ sw_cIC⟩, hw _ sw_nL, hw _ sw_nS⟩
  · simp only [Jvm.Lib.Cold.isLatin1.spec, Cond.before_and, Bool.and_eq_true]
    exact ⟨hw _ sw_cIL, rfl, hw _ sw_f38, hw _ sw_f15⟩
  · simp only [Jvm.Lib.Cold.length.spec, Cond.before_and, Bool.and_eq_true]
    exact ⟨hw _ sw_cLN, rfl, ex1, hw _ sw_f9, hw _ sw_lCO, dCO, hw _ sw_sCO, hw _ sw_iCO, hw _ sw_nS⟩
  · simp only [Jvm.Lib.Cold.coder.spec, Cond.before_and, Bool.and_eq_true]
    exact ⟨hw _ sw_cCO, rfl, hw _ sw_f38, hw _ sw_f15⟩
  · exact Jvm.Lib.StringLatin1.equals.intAt_spec ⟨_, w10 i (by omega)⟩
  · simp only [Jvm.Free.StrIndexOf.S1.spec, Cond.before_and, Bool.and_eq_true]
    exact ⟨hw _ sw_cI1, rfl, ex2, hw _ sw_lI2, dI2, hw _ sw_sI2, hw _ sw_iI2, hw _ sw_nS⟩
end Ix
theorem ix_w : m_ixw := by
  refine ⟨sw_cI1, sw_iI1, sw_sI1, sw_nS, fun l a Ag free x Pc Qc hP hQ => ?_⟩
  intro p e hadm hf1 hf2 s m args below hfr happ hp hk
  obtain ⟨rfl, hL⟩ := hP _ _ hp
  unfold Spec.appliesLoose at happ
  rw [hfr] at happ
  dsimp only at happ
  rw [Bool.and_eq_true] at happ
  have hw := atoms_spec happ.2
  obtain ⟨d, arr, p1, p2, p3⟩ := ix_pre hL (fun w h => hw w (List.mem_cons_of_mem _ h)) x
  have happ' : Jvm.Free.StrIndexOf.S1.spec.appliesLoose Jvm.Free.StrIndexOf.indexOf1N e.platform s = true := by
    unfold Spec.appliesLoose
    rw [hfr]
    dsimp only
    rw [Bool.and_eq_true]
    exact ⟨happ.1, p2⟩
  obtain ⟨n, o, r1, r2, r3, ⟨⟨⟨v, rfl⟩, r4, r5⟩, r6⟩⟩ := Jvm.Free.StrIndexOf.S1.met l a d x 1 arr p e hadm hf1 hf2 s m _ below hfr happ' p1 trivial
  rw [p3] at r6
  generalize hT : stepsAlone p.tables e n s = T at r2 r3 r4 r5
  have hh : T.heap = s.heap := by
    have q := congrArg (fun z : State => z.heap) (State.sameBut_nil.mp r5)
    exact q
  refine ⟨n, _, r1, by rw [hT]; exact r2, by rw [hT]; exact r3, ?_⟩
  rw [hT]
  refine ⟨by rw [r6]; exact hQ _ _ _ hp hh r4.alike, [], ⟨⟨v, rfl⟩, r4, ?_⟩, fun q hq => absurd hq List.not_mem_nil⟩
  generalize ({ T with vm := s.vm } : State) = Z at r5 ⊢
  have hZ := State.sameBut_nil.mp r5
  have hz : Z.heap = s.heap := by
    have q := congrArg (fun z : State => z.heap) hZ
    exact q
  have hu : Z.slotsUsed = s.slotsUsed := by
    have q := congrArg (fun z : State => z.slotsUsed) hZ
    exact q
  have hd : (s.heap.toList.drop s.heap.size) = [] := List.drop_eq_nil_of_le (by simp)
  refine ⟨congrArg (fun Y : State => ({ Y with heap := Z.heap, slotsUsed := Z.slotsUsed } : State)) hZ, by rw [hz]; exact Nat.le_refl _, by rw [hz]; exact Nat.le_refl _, ?_, ?_, fun a c hc => ⟨c, by rw [hz]; exact hc, rfl, rfl, fun i _ => rfl⟩⟩
  · rw [hz, hd, hu]
    rfl
  · rw [hz, hd]
    exact Nat.le_refl 0
