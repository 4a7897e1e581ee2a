section Sound
variable {p : Program} {l : Launch} {e : Env} {R : Room} {s : State} {m : MethodId} {args : Array Value} {below : List Frame} {meth : Method} {c : Code} {Q : State → Prop}
variable {g : mG} {cc : ByteArray} {o nL n0 s0 : Nat} {ii : Bool} {B : Option (Nat × Nat)} {P r : List mI}
set_option maxHeartbeats 4000000 in
theorem gc_6 {FL : List (Nat × Nat × Nat × Nat)} {SL CL : List (Nat × Nat × Nat)} {KI : List (Nat × Nat × Int32)} {KL : List (Nat × Nat × Int64)} {tab : List mM} {d : Nat} (hT : ∀ (k : Nat) (M : mM), tab[k]? = some M → m_good FL SL CL KI KL tab M)
    (hIH : ∀ (k : Nat) (M : mM) (as : List Value) (h : mH) (R' : Option Value → mH → Prop), tab[k]? = some M → Run tab d (k + 6) as h R' → Met l M.1 (m_ws M) (m_rm d M) (g_P g as h) (g_Q g h R' M.2.2.2.2.2.2.2.1.1 M.2.2.2.2.2.2.2.1.2) M.2.2.2.2.2.2.2.1.1 M.2.2.2.2.2.2.2.1.2 (g_A g))
    (hIX : m_ixw) (C : g_Cx g p s m args meth c cc o ii) {Ts : List Cond} (hTs : ∀ w ∈ Ts, w.before args s = true) (hsub : ∀ w ∈ m_tb, w ∈ Ts) (hml : c.maxLocals = nL) (hz0 : s.heap.size = g.2.2.1 + (n0 - 5)) (hn0 : 5 ≤ n0) (hB : ∀ b, B = some b → b.1 ≤ n0 + R.cells ∧ b.2 ≤ s0 + R.slots) (hroom : g_room d R)
    {r : List mI} {ls : mL} {st : List Value} {h : mH} {X : List mI → mL → List Value → mH → Prop} {pc : Nat} {i : Nat} (hli : Cond.methodLink (m_cn o) i Jvm.Free.StrIndexOf.indexOf1N ∈ m_tb) (hd : decode cc pc = .ok (.invokevirtual i, 3)) (H : m_inv B (Run tab d) [2, 2, 0, 0] r ls st h X) (hN : ∀ ls st h, X r ls st h → g_K p l e R s m args below meth c Q g nL n0 s0 B (pc + 3) ls st h) : g_K p l e R s m args below meth c Q g nL n0 s0 B pc ls st h := by
  obtain ⟨hx, hb, hown, hts, hK, hbase, hZ, hin, hA1, hA2, hNw⟩ := id C
  obtain ⟨hr1, hr2⟩ := hroom
  have hgood : ∀ M : mM, Cond.code M.1 M.2.1 M.2.2.1 M.2.2.2.1 ∈ m_tb → GoodIn Ts (m_ws M) := by
    intro M hM w hw
    have hw2 : w ∈ m_tb := by
      rcases List.mem_cons.mp hw with rfl | h2
      · exact hM
      · exact h2
    exact ⟨hsub w hw2, good_of_word (m_tb_good w hw2)⟩
  have hgw : ∀ w ∈ m_tb, w ∈ Ts ∧ ((w.onTables && w.keeps) = true ∨ ∃ ty, w = .arrayClass ty) := fun w hw => ⟨hsub w hw, good_of_word (m_tb_good w hw)⟩
  obtain ⟨as, s9, rfl, hal, hsum, Hc⟩ := m_inv_spec H
  obtain ⟨Hc, hb0, hbs⟩ := m_call_spec Hc
  intro HH locs cells slots la I
  refine w_size (fun hup => ?_)
  have hsz := g_size hz0 hn0 I hup
  cases d with
  | zero => exact Hc.elim
  | succ d =>
    have Hc : m_ixc d as h (fun v h' => m_psh s9 v (fun s' => X r ls s' h')) := Hc
    obtain ⟨x, rfl, hd4, Hc⟩ := m_ixc_spec Hc
    have hcs : cells + 0 ≤ R.cells ∧ slots + 0 ≤ R.slots := by
      have i1 := I.2.2.2.1
      cases hBB : B with
      | none =>
        have a1 := I.2.2.2.2 hBB
        omega
      | some b =>
        have a1 := hB b hBB
        have a2 := hbs b hBB
        omega
    obtain ⟨x1, x2, x3, x4, x5⟩ := hIX
    have hla : la.size = nL := I.2.1.2.1
    have hstk : (List.map (g_v g) (([Value.ref 4, .int x]).reverse ++ s9)) = ([Value.int x]).reverse ++ .ref (g.2.2.2 4) :: s9.map (g_v g) := by
      rw [List.map_append]
      show [Value.int x, .ref (g_ad g 4)] ++ _ = _
      rw [g_ad_lt (by decide)]
      rfl
    have hRR : ix_rm.frames + 1 ≤ R.frames ∧ 8 + (ix_M.2.2.1 + 11) + ix_rm.locals ≤ R.locals := ⟨by show 4 + 1 ≤ _; omega, by show 8 + (2 + 11) + 160 ≤ _; omega⟩
    have hrecv : ∃ cell : Cell, HH[g.2.2.2 4]? = some cell ∧ cell.vm.isStatics = false ∧ s.vm.findClass "java/lang/String" = some cell.cls := by
      obtain ⟨cell, c1, c2, c3⟩ := hNw.2.recv
      obtain ⟨-, ⟨d9, cell9, arr9, -, -, ha9, -⟩, -⟩ := hNw.2
      refine ⟨cell, ?_, c2, c3⟩
      rw [I.2.2.1.low hbase (by have : ¬ g.2.2.1 ≤ g.2.2.2 4 := ha9; omega)]
      exact c1
    have hM : Met l ix_M.1 (m_ws ix_M) ix_rm (g_P g [.ref 4, .int x] h) (g_Q g h (fun v h' => m_psh s9 v (fun s' => X r ls s' h')) 0 0) 0 0 (g_A g) := by
      refine x5 l (g.2.2.2 4) (g_A g) (g_A g) x _ _ (fun v U hp => ⟨?_, hp.2.2.2.2.2.2.2.2⟩) (fun v st t hp hh hal9 => ?_)
      · rw [hp.1]
        show #[Value.ref (g_ad g 4), .int x] = _
        rw [g_ad_lt (by decide)]
      · refine ⟨some (.int (m_let x)), h, Hc, rfl, ?_, ⟨by rw [hh]; exact Nat.le_refl _, fun q _ _ => by rw [hh]⟩, rfl, rfl⟩
        rw [hh]
        exact g_R.moved hal9 hp.2.1
    have hrun : va_Run p l e R s m args below meth c HH locs cells slots 0 0 (F0 m pc la (List.map (g_v g) (([Value.ref 4, .int x]).reverse ++ s9))) (s9.map (g_v g)) (g_Q g h (fun v h' => m_psh s9 v (fun s' => X r ls s' h')) 0 0 (Value.ref (g.2.2.2 4) :: [Value.int x]).toArray) (g_A g) := by
      have hpre := g_pre C I hsz [.ref 4, .int x]
      have e9 : (([Value.ref 4, .int x]).map (g_v g)) = [Value.ref (g.2.2.2 4), .int x] := by
        show [Value.ref (g_ad g 4), .int x] = _
        rw [g_ad_lt (by decide)]
      rw [e9] at hpre
      refine va_runV (As := [Value.int x]) (index := i) (own := m_cn o) (C := "java/lang/String") (cc := cc) (nL := nL) (Ts := Ts) (ws := m_ws ix_M) (bytes := ix_M.2.1) (maxL := ix_M.2.2.1) (ret := ix_M.2.2.2.1) (n := 1) ⟨hx, hb, hml, hown, hTs⟩ hM (cwV 1 hTs ?_ rfl rfl rfl ⟨rfl, by decide, by decide, rfl⟩ hRR) ⟨g_S.blind, hrecv, hpre⟩ rfl rfl hla hstk (lv_room (by rw [g_v_cats]; exact hsum)) hd hcs
      intro w hw
      rcases List.mem_append.mp hw with q | q
      · simp only [List.mem_cons, List.not_mem_nil, or_false] at q
        rcases q with rfl | rfl | rfl | rfl
        · exact hgw _ hli
        · exact hgw _ x2
        · exact hgw _ x3
        · exact hgw _ x4
      · exact hgood ix_M x1 w q
    exact k_run hbase I hb0 hrun (fun v h' hv => m_psh_mono (fun s' q => hN _ _ _ q) hv)
end Sound
