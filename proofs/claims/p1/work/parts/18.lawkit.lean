/-! ===== THE LAW: rows of the skeleton ===== -/
def R_law : String := "LifeListLaw"
def lw_P (b : Addr) (xs : List Int32) (args : Array Value) (s : State) : Prop := args = #[.ref b] ∧ s.IntsAt b xs ∧ xs.length ≤ 10 ∧ (Jvm.Cond.and given_1 narrow_1).before args s = true
def lw_Q (_ : Array Value) (s : State) (o : Outcome) (t : State) : Prop := o = .returned (some (.int 1)) ∧ Framed s o t [] 600000 7302250
def lw_Z (below : List Frame) (a : Array Value) (s : State) : State → Prop := fun t => ∃ o, t.status = .running ∧ Ended t below o ∧ lw_Q a s o t
/-- the law's own end, with 1 on the stack, nothing written that was there before, its room as the claim has it -/
theorem lw_ret {p : Program} {l : Launch} {e : Env} {s : State} {m : MethodId} {below : List Frame} {meth : Method} {c : Code} {b : Nat} (hx : p.tables.exec = Jvm.exec) (hb : c.code = code) (hr : meth.sig.returnType = ret) (hlocks : meth.locks = false) {pc : Nat} {H : Heap} {ls : Array Slot} (hdg : decode code pc = .ok (.ireturn, 1)) : W p l e room_1 s m #[Value.ref b] below meth c H [] 600000 7302250 (lw_Z below #[Value.ref b] s) (F0 m pc ls [.int 1]) := by
  intro T hT X
  obtain ⟨fs, hret, hrun, hended, hW, hframe⟩ := X.leave (v := some (.int 1)) (hlocks := hlocks) (fun h => by rw [hr] at h; cases h)
  have hmeth' : T.vm.method? m = some meth := X.method'
  refine ⟨T.setFrames fs, ?_, .returned (some (.int 1)), hrun, hended, rfl, ⟨_, rfl⟩, hW, hframe⟩
  jvm_step X.here [X.here.top, hx, hb, hdg, hmeth', hr, ret, narrow_b1]
  (try refine ⟨rfl, ?_⟩); (try refine ⟨rfl, ?_⟩)
  first | (intro acts; rw [hret _ acts rfl rfl rfl]) | rw [hret _ _ rfl rfl rfl]
  exact Steps.refl _
/-- what holds at the law's entry: the machine, the code, the tables' words (any of lw_tbl by 'hts w (by decide +kernel)'), the script of L ints xs at the cell b, what the Statement gives of the start (any of its parts by flat_of_before) -/
def lw_At (p : Program) (s : State) (m : MethodId) (meth : Method) (c : Code) (b L : Nat) (xs : Nat → Int32) : Prop :=
  p.tables.exec = Jvm.exec ∧ c.code = code ∧ meth.sig.returnType = ret ∧ c.maxLocals = 4 ∧ s.vm.findClass R_law = some m.cls ∧ (∀ w ∈ lw_tbl, w.before #[Value.ref b] s = true) ∧ va_X b L xs s s.heap ∧ b < s.heap.size ∧ meth.locks = false ∧ (Jvm.Cond.and given_1 narrow_1).before #[Value.ref b] s = true
theorem law_lay : m_lay code (m_chk1 mFL mSL mCL mKI mKL false 12 pg_L_law) 0 0 pg_L_law = true := by decide +kernel
theorem law_sites : pg_L_law.all (m_chk2 mCS 12 (some .boolean)) = true := by decide +kernel
theorem lt_ao1 : Cond.arrayOver (.array .int) ∈ lw_tbl := (ck_0 (List.mem_of_getElem? (i := 38) rfl))
theorem lt_ao2 : Cond.arrayOver (.array .long) ∈ lw_tbl := (ck_1 (List.mem_of_getElem? (i := 93) rfl))
theorem lt_AT_FIRST : Cond.laysStatic "LifeList$Rules" "AT_FIRST" "[I" ∈ lw_tbl := (ck_0 (List.mem_of_getElem? (i := 135) rfl))
theorem lt_WITHOUT : Cond.laysStatic "LifeList$Rules" "WITHOUT" "[I" ∈ lw_tbl := (ck_4 (List.mem_of_getElem? (i := 31) rfl))
theorem lt_ABOVE : Cond.laysStatic "LifeList$Rules" "ABOVE" "[I" ∈ lw_tbl := (ck_4 (List.mem_of_getElem? (i := 33) rfl))
theorem lt_nest : ∀ q ∈ m_NL, Cond.methodLinkNest (m_cn q.1) q.2.1 q.2.2.1 q.2.2.2 ∈ lw_tbl := List.forall_mem_cons.mpr ⟨(ck_0 (List.mem_of_getElem? (i := 33) rfl)), List.forall_mem_cons.mpr ⟨(ck_0 (List.mem_of_getElem? (i := 100) rfl)), List.forall_mem_cons.mpr ⟨(ck_0 (List.mem_of_getElem? (i := 162) rfl)), List.forall_mem_cons.mpr ⟨(ck_1 (List.mem_of_getElem? (i := 88) rfl)), List.forall_mem_cons.mpr ⟨(ck_2 (List.mem_of_getElem? (i := 102) rfl)), List.forall_mem_cons.mpr ⟨(ck_3 (List.mem_of_getElem? (i := 40) rfl)), List.forall_mem_cons.mpr ⟨(ck_3 (List.mem_of_getElem? (i := 141) rfl)), fun _ h => absurd h List.not_mem_nil⟩⟩⟩⟩⟩⟩⟩
