/-! ===== METHODS: from Run to contracts ===== -/
def g_Zs (g : mG) (U : State) (H : Heap) : Prop := ∀ z ∈ m_ST, va_Z z.1 z.2.1 z.2.2.1 (.ref (g.2.2.2 z.2.2.2)) (g_A g) U H
def g_Nw (U : State) : Prop := ∀ q ∈ m_NL, va_Nw (.methodLinkNest (m_cn q.1) q.2.1 q.2.2.1 q.2.2.2) U
/-- a state in which the small heap is the heap -/
def g_S (g : mG) (h : mH) (U : State) : Prop := g_R g U h U.heap ∧ U.heap.size = g.2.2.1 + (h.1.length - 5) ∧ va_K g.1 vwCl (g_tys g) U ∧ g_Zs g U U.heap ∧ m_AO .int U ∧ m_AO .long U ∧ g_Nw U ∧ m_Lt (g.2.2.2 4) (g_A g) U U.heap
def g_P (g : mG) (as : List Value) (h : mH) : Array Value → State → Prop := fun v U => v = (as.map (g_v g)).toArray ∧ g_S g h U
def g_Q (g : mG) (h : mH) (R : Option Value → mH → Prop) (mc ms : Nat) : Array Value → State → Outcome → State → Prop := fun _ st o t =>
  ∃ v h', R v h' ∧ o = .returned (v.map (g_v g)) ∧ g_R g t h' t.heap ∧ va_F (g_A g) st t ∧ h'.1.length = h.1.length + mc ∧ m_sz h'.1 = m_sz h.1 + ms
theorem g_R.moved {g : mG} {u U : State} {h : mH} {H : Heap} (hvm : u.vm.Alike U.vm) (hR : g_R g u h H) : g_R g U h H := ⟨hR.1, hR.2.1, hR.2.2.1, hR.2.2.2.1, fun k n r hc => (hR.2.2.2.2 k n r hc).moved hvm⟩
theorem g_S.blind {g : mG} {as : List Value} {h : mH} : FrameBlind (g_P g as h) := fun a U f mk q => by
  obtain ⟨q1, q2, q3, q4, q5, q6, q7, q8, q9⟩ := q
  exact ⟨q1, g_R.moved (u := U) (U := U.calling f mk a) (Vm.Alike.refl U.vm) q2, q3, va_K.moved (u := U) (U := U.calling f mk a) (Vm.Alike.refl U.vm) q4, fun z hz => va_Z.moved (u := U) (U := U.calling f mk a) (Vm.Alike.refl U.vm) (q5 z hz), m_AO.moved (u := U) (U := U.calling f mk a) (Vm.Alike.refl U.vm) q6, m_AO.moved (u := U) (U := U.calling f mk a) (Vm.Alike.refl U.vm) q7, fun z hz => va_Nw.same (u := U) (U := U.calling f mk a) rfl rfl (q8 z hz), m_Lt.same (u := U) (U := U.calling f mk a) rfl q9⟩
theorem m_popn_spec {F : List Value → List Value → Prop} : ∀ (n : Nat) (st acc : List Value), m_popn st n acc F → ∃ as0 s9 : List Value, st = as0.reverse ++ s9 ∧ as0.length = n ∧ F (as0 ++ acc) s9
  | 0, st, acc, h => ⟨[], st, rfl, rfl, by cases st <;> exact h⟩
  | n + 1, [], acc, h => h.elim
  | n + 1, v :: st, acc, h => by
    obtain ⟨as0, s9, h1, h2, h3⟩ := m_popn_spec n st (v :: acc) h
    refine ⟨as0 ++ [v], s9, by simp [h1], by simp [h2], by simpa using h3⟩
theorem m_fit_spec : ∀ (l : List Value) (n : Nat), m_fit l n = true → (l.map fun v => v.category).sum ≤ n
  | [], n, _ => by simp
  | .long x :: t, 0, h => by simp [m_fit] at h
  | .long x :: t, 1, h => by simp [m_fit] at h
  | .long x :: t, n + 2, h => by
    have := m_fit_spec t n h
    rw [List.map_cons, List.sum_cons]
    show 2 + _ ≤ _
    omega
  | .double x :: t, 0, h => by simp [m_fit] at h
  | .double x :: t, 1, h => by simp [m_fit] at h
  | .double x :: t, n + 2, h => by
    have := m_fit_spec t n h
    rw [List.map_cons, List.sum_cons]
    show 2 + _ ≤ _
    omega
  | .int x :: t, 0, h => by simp [m_fit] at h
  | .int x :: t, n + 1, h => by
    have := m_fit_spec t n h
    rw [List.map_cons, List.sum_cons]
    show 1 + _ ≤ _
    omega
  | .float x :: t, 0, h => by simp [m_fit] at h
  | .float x :: t, n + 1, h => by
    have := m_fit_spec t n h
    rw [List.map_cons, List.sum_cons]
    show 1 + _ ≤ _
    omega
  | .null :: t, 0, h => by simp [m_fit] at h
  | .null :: t, n + 1, h => by
    have := m_fit_spec t n h
    rw [List.map_cons, List.sum_cons]
    show 1 + _ ≤ _
    omega
  | .ref x :: t, 0, h => by simp [m_fit] at h
  | .ref x :: t, n + 1, h => by
    have := m_fit_spec t n h
    rw [List.map_cons, List.sum_cons]
    show 1 + _ ≤ _
    omega
  | .retAddr x :: t, 0, h => by simp [m_fit] at h
  | .retAddr x :: t, n + 1, h => by
    have := m_fit_spec t n h
    rw [List.map_cons, List.sum_cons]
    show 1 + _ ≤ _
    omega
theorem g_v_cats (g : mG) (l : List Value) : ((l.map (g_v g)).map fun v => v.category) = l.map fun v => v.category := by
  rw [List.map_map]
  apply List.map_congr_left
  intro v _
  exact g_v_cat g v
theorem m_inv_spec {B : Option (Nat × Nat)} {call : mC} {y n mc ms : Nat} {r : List mI} {ls : mL} {st : List Value} {h : mH} {X : List mI → mL → List Value → mH → Prop} (H : m_inv B call [y, n, mc, ms] r ls st h X) :
    ∃ as s9 : List Value, st = as.reverse ++ s9 ∧ as.length = n ∧ (s9.map fun v => v.category).sum ≤ 8 ∧ m_call B mc ms h (call y as h (fun v h' => m_psh s9 v (fun s' => X r ls s' h'))) := by
  obtain ⟨as, s9, h1, h2, h3⟩ := m_popn_spec n st [] H
  rw [List.append_nil] at h3
  split at h3
  · rename_i hf
    exact ⟨as, s9, h1, h2, m_fit_spec _ _ hf, h3⟩
  · exact h3.elim
section Sound
variable {p : Program} {l : Launch} {e : Env} {R : Room} {s : State} {m : MethodId} {args : Array Value} {below : List Frame} {meth : Method} {c : Code} {Q : State → Prop}
variable {g : mG} {cc : ByteArray} {o nL n0 s0 : Nat} {ii : Bool} {B : Option (Nat × Nat)} {P r : List mI}
/-- behind a call -/
theorem k_run {pc : Nat} {ls : mL} {s9 stc : List Value} {h : mH} {H : Heap} {locs : List Loc} {cells slots mc ms : Nat} {la : Array Slot} {Rr : Option Value → mH → Prop} {a : Array Value} (hbase : g.2.2.1 ≤ s.heap.size) (I : g_I g s nL n0 s0 B ls h H locs cells slots la) (hB0 : B = none → mc = 0 ∧ ms = 0)
    (hr : va_Run p l e R s m args below meth c H locs cells slots mc ms (F0 m pc la stc) (s9.map (g_v g)) (g_Q g h Rr mc ms a) (g_A g)) (kk : ∀ v h', Rr v h' → m_psh s9 v (fun s' => g_K p l e R s m args below meth c Q g nL n0 s0 B (pc + 3) ls s' h')) :
    W p l e R s m args below meth c H locs cells slots Q (F0 m pc la stc) := by
  intro T hT X
  obtain ⟨v, st₀, t, T', L, h0, X', hL, e1, e2, ⟨v9, h9, hR9, ho, hS9, ⟨hz, hk⟩, hl1, hl2⟩, st⟩ := hr T hT X
  cases ho
  rw [h0] at hz hk
  have hal : t.vm.Alike s.vm := by
    have := X'.warmed.alike
    rw [e2] at this
    exact this.symm
  have I9 : g_I g s nL n0 s0 B ls h9 T'.heap (locs ++ L) (cells + mc) (slots + ms) la := by
    refine ⟨?_, I.2.1, ⟨?_, fun q h1 h2 => ?_, fun q hq => ?_⟩, ⟨?_, ?_⟩, fun q => ?_⟩
    · rw [e1]
      exact hS9.moved hal
    · rw [e1]
      exact Nat.le_trans I.2.2.1.1 hz
    · rw [e1, hk q (Nat.lt_of_lt_of_le h1 I.2.2.1.1) h2]
      exact I.2.2.1.2.1 q h1 h2
    · rcases List.mem_append.mp hq with q1 | q1
      · exact I.2.2.1.2.2 q q1
      · exact hL q q1
    · rw [hl1, I.2.2.2.1.1]
      omega
    · rw [hl2, I.2.2.2.1.2]
      omega
    · have a1 := I.2.2.2.2 q
      have a2 := hB0 q
      omega
  have K := kk v9 h9 hR9
  cases v9 with
  | none =>
    obtain ⟨t2, a1, b1⟩ := K _ _ _ _ _ I9 T' rfl X'
    exact ⟨t2, st t2 a1, b1⟩
  | some x =>
    obtain ⟨t2, a1, b1⟩ := K _ _ _ _ _ I9 T' rfl X'
    exact ⟨t2, st t2 a1, b1⟩
/-- the state at a call, for the callee -/
theorem g_pre {ls : mL} {h : mH} {H : Heap} {locs : List Loc} {cells slots : Nat} {la : Array Slot} (C : g_Cx g p s m args meth c cc o ii) (I : g_I g s nL n0 s0 B ls h H locs cells slots la) (hsz : H.size = g.2.2.1 + (h.1.length - 5)) (as : List Value) :
    ∀ U : State, U.heap = H → s.WarmedH U.vm → g_P g as h (as.map (g_v g)).toArray U := by
  obtain ⟨hx, hb, hown, hts, hK, hbase, hZ, hin, hA1, hA2, hNw⟩ := C
  intro U hU hW
  refine ⟨rfl, ?_, by rw [hU]; exact hsz, va_K.moved hW.alike hK, fun z hz => ?_, m_AO.moved hW.alike hA1, m_AO.moved hW.alike hA2, fun q hq => va_Nw.warmM hW (hNw.1 q hq), ?_⟩
  · rw [hU]
    exact g_R.moved hW.alike I.1
  · have hz9 := va_Z.moved hW.alike (hZ z hz)
    rw [hU]
    obtain ⟨cf, kf, fi, f, a, cell, z1, z2, z3, z4, z5, z6, z7, z8⟩ := hz9
    refine ⟨cf, kf, fi, f, a, cell, z1, z2, z3, z4, ?_, z6, z7, z8⟩
    rw [I.2.2.1.low hbase (by have : ¬ g.2.2.1 ≤ a := z8; omega)]
    exact z5
  · rw [hU]
    refine m_Lt.there hW (fun a _ ha => ?_) hNw.2
    exact I.2.2.1.low hbase (by have : ¬ g.2.2.1 ≤ a := ha; omega)
end Sound
def m_ws (M : mM) : List Cond := .code M.1 M.2.1 M.2.2.1 M.2.2.2.1 :: m_tb
def m_rm (d : Nat) (M : mM) : Room := { frames := d, cells := M.2.2.2.2.2.2.2.1.1, slots := M.2.2.2.2.2.2.2.1.2, locals := 49 * d }
def m_np (x : MethodName) (n : Nat) : Prop := x.cls ≠ "java/lang/invoke/MethodHandle" ∧ x.cls ≠ "java/lang/invoke/VarHandle" ∧ (parseMethodDescriptor x.desc).map (fun d => d.parameters.length) = some n
/-- what must stand in the tables for a call: (the instruction, its resolution) of a method of class o -/
def m_site (tab : List mM) (o : Nat) (ins : Instr) (an : List Nat) : Prop :=
  (∃ (i k n : Nat) (M : mM), ins = .invokestatic i ∧ an = [k + 6, n, M.2.2.2.2.2.2.2.1.1, M.2.2.2.2.2.2.2.1.2] ∧ tab[k]? = some M ∧ m_np M.1 n ∧ Cond.static M.1 ∈ m_tb ∧ (Cond.methodLink (m_cn o) i M.1 ∈ m_tb ∨ ∃ host, (o, i, M.1, host) ∈ m_NL)) ∨
  (∃ (i k n ci : Nat) (M : mM), ins = .invokevirtual i ∧ an = [k + 6, n + 1, M.2.2.2.2.2.2.2.1.1, M.2.2.2.2.2.2.2.1.2] ∧ tab[k]? = some M ∧ m_np M.1 n ∧ M.2.2.2.2.2.2.1 = some ci ∧ ci < 12 ∧ m_cn ci = M.1.cls ∧ Cond.methodLink (m_cn o) i M.1 ∈ m_tb ∧ Cond.instanceMethod M.1 ∈ m_tb ∧ Cond.selects M.1.cls M.1 M.1 ∈ m_tb) ∨
  (∃ (i k n ci : Nat) (M : mM), ins = .invokespecial i ∧ an = [k + 6, n + 1, M.2.2.2.2.2.2.2.1.1, M.2.2.2.2.2.2.2.1.2] ∧ tab[k]? = some M ∧ m_np M.1 n ∧ M.2.2.2.2.2.2.1 = some ci ∧ M.1.name = "<init>" ∧ M.2.2.2.1 = none ∧ Cond.instanceMethod M.1 ∈ m_tb ∧ (Cond.methodLink (m_cn o) i M.1 ∈ m_tb ∨ ∃ host, (o, i, M.1, host) ∈ m_NL)) ∨
  (∃ i : Nat, ins = .invokespecial i ∧ an = [0, 1, 0, 0] ∧ Cond.methodLink (m_cn o) i Lib.objectInit ∈ m_tb ∧ Cond.instanceMethod Lib.objectInit ∈ m_tb ∧ Cond.code Lib.objectInit ⟨#[0xb1]⟩ 1 none ∈ m_tb) ∨
  (∃ i : Nat, ins = .invokestatic i ∧ an = [1, 5, 0, 0] ∧ Cond.methodLink (m_cn o) i arraycopyName ∈ m_tb ∧ Cond.native arraycopyName ∈ m_tb ∧ Cond.static arraycopyName ∈ m_tb ∧ Cond.initialized "java/lang/System" ∈ m_tb) ∨
  (∃ i : Nat, ins = .invokevirtual i ∧ an = [2, 2, 0, 0] ∧ Cond.methodLink (m_cn o) i Jvm.Free.StrIndexOf.indexOf1N ∈ m_tb) ∨
  (∃ i : Nat, ins = .invokestatic i ∧ an = [3, 2, 0, 0] ∧ Cond.methodLink (m_cn o) i Lib.Math.max.name ∈ m_tb ∧ Cond.static Lib.Math.max.name ∈ m_tb ∧ Cond.initialized "java/lang/Math" ∈ m_tb ∧ Cond.code Lib.Math.max.name Lib.Math.max.code 2 (some .int) ∈ m_tb) ∨
  (∃ i : Nat, ins = .invokestatic i ∧ an = [4, 2, 0, 0] ∧ Cond.methodLink (m_cn o) i Lib.Math.min.name ∈ m_tb ∧ Cond.static Lib.Math.min.name ∈ m_tb ∧ Cond.initialized "java/lang/Math" ∈ m_tb ∧ Cond.code Lib.Math.min.name Lib.Math.min.code 2 (some .int) ∈ m_tb)
/-- what must hold of a method -/
def m_good (FL : List (Nat × Nat × Nat × Nat)) (SL CL : List (Nat × Nat × Nat)) (KI : List (Nat × Nat × Int32)) (KL : List (Nat × Nat × Int64)) (tab : List mM) (M : mM) : Prop :=
  plainName M.1.cls = true ∧ Cond.code M.1 M.2.1 M.2.2.1 M.2.2.2.1 ∈ m_tb ∧ Cond.initialized M.1.cls ∈ m_tb ∧ M.2.2.1 ≤ 30 ∧ m_cn M.2.2.2.2.1 = M.1.cls ∧ (M.2.2.2.2.2.1 = true → M.1.name = "<init>") ∧
  m_lay M.2.1 (m_chk1 FL SL CL KI KL M.2.2.2.2.2.1 M.2.2.2.2.1 M.2.2.2.2.2.2.2.2) 0 0 M.2.2.2.2.2.2.2.2 = true ∧
  (∀ (i : Nat) (e0 : mI), M.2.2.2.2.2.2.2.2[i]? = some e0 → ((∃ k, e0.2.2.2.1 = .invokestatic k ∨ e0.2.2.2.1 = .invokevirtual k ∨ e0.2.2.2.1 = .invokespecial k) → m_site tab M.2.2.2.2.1 e0.2.2.2.1 e0.2.2.2.2.2.1) ∧
    (e0.2.2.2.1 = .ireturn → (M.2.2.2.1 = some .int ∨ (M.2.2.2.1 = some .boolean ∧ e0.2.2.2.2.2.1 ≠ []))) ∧ (e0.2.2.2.1 = .lreturn → M.2.2.2.1 = some .long) ∧ (e0.2.2.2.1 = .return_ → M.2.2.2.1 = none))
theorem m_tb_good : ∀ w ∈ m_tb, goodWord w = true := fun _ h => (m_tb_mem.mp h).2
theorem m_ws_good (M M' : mM) (h : Cond.code M.1 M.2.1 M.2.2.1 M.2.2.2.1 ∈ m_tb) : GoodIn (m_ws M') (m_ws M) := by
  intro w hw
  have hw2 : w ∈ m_tb := by
    rcases List.mem_cons.mp hw with rfl | h2
    · exact h
    · exact h2
  exact ⟨List.mem_cons_of_mem _ hw2, good_of_word (m_tb_good w hw2)⟩
theorem m_init_nil : ∀ (n j : Nat) (w : Value), ¬ (m_init n [])[j]? = some (some w)
  | 0, j, w => by simp [m_init]
  | n + 1, 0, w => by simp [m_init]
  | n + 1, j + 1, w => by
    simp only [m_init, List.getElem?_cons_succ]
    exact m_init_nil n j w
theorem m_ini_spec (g : mG) : ∀ (n : Nat) (as : List Value) (i j : Nat) (w : Value), (m_init n as)[j]? = some (some w) → (i + j, g_v g w) ∈ lv_args i (as.map (g_v g))
  | 0, as, i, j, w, h => by simp [m_init] at h
  | n + 1, [], i, j, w, h => by
    cases j with
    | zero => simp [m_init] at h
    | succ j =>
      have := m_ini_spec g n [] (i + 1) j w (by simpa [m_init] using h)
      simp [lv_args] at this
  | 1, .long x :: t, i, j, w, h => by
    cases j with
    | zero =>
      simp [m_init] at h
      subst h
      simp [lv_args, g_v]
    | succ j => simp [m_init] at h
  | n + 2, .long x :: t, i, j, w, h => by
    rcases j with _ | _ | j
    · simp [m_init] at h
      subst h
      simp [lv_args, g_v]
    · simp [m_init] at h
    · have := m_ini_spec g n t (i + 2) j w (by simpa [m_init] using h)
      simp only [List.map_cons, lv_args]
      refine List.mem_cons_of_mem _ ?_
      rw [show i + (j + 1 + 1) = i + 2 + j by omega]
      exact this
  | n + 1, .int x :: t, i, j, w, h => by
    cases j with
    | zero =>
      simp [m_init] at h
      subst h
      simp [lv_args, g_v]
    | succ j =>
      have := m_ini_spec g n t (i + 1) j w (by simpa [m_init] using h)
      simp only [List.map_cons, lv_args]
      refine List.mem_cons_of_mem _ ?_
      rw [show i + (j + 1) = i + 1 + j by omega]
      exact this
  | n + 1, .ref x :: t, i, j, w, h => by
    cases j with
    | zero =>
      simp [m_init] at h
      subst h
      simp [lv_args, g_v]
    | succ j =>
      have := m_ini_spec g n t (i + 1) j w (by simpa [m_init] using h)
      simp only [List.map_cons, lv_args]
      refine List.mem_cons_of_mem _ ?_
      rw [show i + (j + 1) = i + 1 + j by omega]
      exact this
  | n + 1, .null :: t, i, j, w, h => by
    cases j with
    | zero =>
      simp [m_init] at h
      subst h
      simp [lv_args, g_v]
    | succ j =>
      have := m_ini_spec g n t (i + 1) j w (by simpa [m_init] using h)
      simp only [List.map_cons, lv_args]
      refine List.mem_cons_of_mem _ ?_
      rw [show i + (j + 1) = i + 1 + j by omega]
      exact this
  | n + 1, .float x :: t, i, j, w, h => by
    cases j with
    | zero =>
      simp [m_init] at h
      subst h
      simp [lv_args, g_v]
    | succ j =>
      have := m_ini_spec g n t (i + 1) j w (by simpa [m_init] using h)
      simp only [List.map_cons, lv_args]
      refine List.mem_cons_of_mem _ ?_
      rw [show i + (j + 1) = i + 1 + j by omega]
      exact this
  | n + 1, .retAddr x :: t, i, j, w, h => by
    cases j with
    | zero =>
      simp [m_init] at h
      subst h
      simp [lv_args, g_v]
    | succ j =>
      have := m_ini_spec g n t (i + 1) j w (by simpa [m_init] using h)
      simp only [List.map_cons, lv_args]
      refine List.mem_cons_of_mem _ ?_
      rw [show i + (j + 1) = i + 1 + j by omega]
      exact this
  | n + 1, .double x :: t, i, j, w, h => by
    cases j with
    | zero => simp [m_init] at h
    | succ j => exact absurd (by simpa [m_init] using h) (m_init_nil n j w)
theorem m_init_len : ∀ (n : Nat) (as : List Value), (m_init n as).length = n
  | 0, as => by simp [m_init]
  | n + 1, [] => by simp [m_init, m_init_len n []]
  | 1, .long x :: t => by simp [m_init]
  | n + 2, .long x :: t => by simp [m_init, m_init_len n t]
  | n + 1, .double x :: t => by simp [m_init, m_init_len n []]
  | n + 1, .int x :: t => by simp [m_init, m_init_len n t]
  | n + 1, .float x :: t => by simp [m_init, m_init_len n t]
  | n + 1, .null :: t => by simp [m_init, m_init_len n t]
  | n + 1, .ref x :: t => by simp [m_init, m_init_len n t]
  | n + 1, .retAddr x :: t => by simp [m_init, m_init_len n t]
/-- String.indexOf as a method of the table: what the tables and the library give -/
def ix_M : mM := (Jvm.Free.StrIndexOf.indexOf1N, Jvm.Free.StrIndexOf.indexOf1B, 2, some .int, 0, false, none, (0, 0), [])
def ix_rm : Room := { frames := 4, cells := 0, slots := 0, locals := 160 }
def m_ixw : Prop := Cond.code ix_M.1 ix_M.2.1 ix_M.2.2.1 ix_M.2.2.2.1 ∈ m_tb ∧ Cond.instanceMethod Jvm.Free.StrIndexOf.indexOf1N ∈ m_tb ∧ Cond.selects "java/lang/String" Jvm.Free.StrIndexOf.indexOf1N Jvm.Free.StrIndexOf.indexOf1N ∈ m_tb ∧ Cond.initialized "java/lang/String" ∈ m_tb ∧
  ∀ (l : Launch) (a : Nat) (Ag free : Nat → Prop) (x : Int32) (Pc : Array Value → State → Prop) (Qc : Array Value → State → Outcome → State → Prop), (∀ v U, Pc v U → v = #[.ref a, .int x] ∧ m_Lt a Ag U U.heap) → (∀ v st t, Pc v st → t.heap = st.heap → st.vm.Alike t.vm → Qc v st (.returned (some (.int (m_let x)))) t) → Met l ix_M.1 (m_ws ix_M) ix_rm Pc Qc 0 0 free
