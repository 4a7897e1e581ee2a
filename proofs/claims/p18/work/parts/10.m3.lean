section Sound
variable {p : Program} {l : Launch} {e : Env} {R : Room} {s : State} {m : MethodId} {args : Array Value} {below : List Frame} {meth : Method} {c : Code} {Q : State → Prop}
variable {g : mG} {cc : ByteArray} {o nL n0 s0 : Nat} {ii : Bool} {B : Option (Nat × Nat)} {P r : List mI}
set_option maxHeartbeats 4000000 in
theorem gc_3 {FL : List (Nat × Nat × Nat × Nat)} {SL CL : List (Nat × Nat × Nat)} {KI : List (Nat × Nat × Int32)} {KL : List (Nat × Nat × Int64)} {tab : List mM} {d : Nat} (hT : ∀ (k : Nat) (M : mM), tab[k]? = some M → m_good FL SL CL KI KL tab M)
    (hIH : ∀ (k : Nat) (M : mM) (as : List Value) (h : mH) (R' : Option Value → mH → Prop), tab[k]? = some M → Run tab d (k + 6) as h R' → Met l M.1 (m_ws M) (m_rm d M) (g_P g as h) (g_Q g h R' M.2.2.2.2.2.2.2.1.1 M.2.2.2.2.2.2.2.1.2) M.2.2.2.2.2.2.2.1.1 M.2.2.2.2.2.2.2.1.2 (g_A g))
    (hIX : m_ixw) (C : g_Cx g p s m args meth c cc o ii) {Ts : List Cond} (hTs : ∀ w ∈ Ts, w.before args s = true) (hsub : ∀ w ∈ m_tb, w ∈ Ts) (hml : c.maxLocals = nL) (hz0 : s.heap.size = g.2.2.1 + (n0 - 5)) (hn0 : 5 ≤ n0) (hB : ∀ b, B = some b → b.1 ≤ n0 + R.cells ∧ b.2 ≤ s0 + R.slots) (hroom : g_room d R)
    {r : List mI} {ls : mL} {st : List Value} {h : mH} {X : List mI → mL → List Value → mH → Prop} {pc : Nat} {i k n ci : Nat} {M : mM} (hk : tab[k]? = some M) (hnp : m_np M.1 n) (hrc : M.2.2.2.2.2.2.1 = some ci) (hnm : M.1.name = "<init>") (hret : M.2.2.2.1 = none) (hinm : Cond.instanceMethod M.1 ∈ m_tb) (hli : (Cond.methodLink (m_cn o) i M.1 ∈ m_tb ∨ ∃ host, (o, i, M.1, host) ∈ m_NL)) (hd : decode cc pc = .ok (.invokespecial i, 3)) (H : m_inv B (Run tab d) [k + 6, n + 1, M.2.2.2.2.2.2.2.1.1, M.2.2.2.2.2.2.2.1.2] r ls st h X) (hN : ∀ ls st h, X r ls st h → g_K p l e R s m args below meth c Q g nL n0 s0 B (pc + 3) ls st h) : g_K p l e R s m args below meth c Q g nL n0 s0 B pc ls st h := by
  obtain ⟨hx, hb, hown, hts, hK, hbase, hZ, hin, hA1, hA2, hNw⟩ := id C
  obtain ⟨hr1, hr2⟩ := hroom
  have hgood : ∀ M : mM, Cond.code M.1 M.2.1 M.2.2.1 M.2.2.2.1 ∈ m_tb → GoodIn Ts (m_ws M) := by
    intro M hM w hw
    have hw2 : w ∈ m_tb := by
      rcases List.mem_cons.mp hw with rfl | h2
      · exact hM
      · exact h2
    exact ⟨hsub w hw2, good_of_word (m_tb_good w hw2)⟩
  have hgw : ∀ w ∈ m_tb, w ∈ Ts ∧ ((w.onTables && w.keeps) = true ∨ ∃ ty, w = .arrayClass ty) := fun w hw => ⟨hsub w hw, good_of_word (m_tb_good w hw)⟩
  obtain ⟨as, s9, rfl, hal, hsum, Hc⟩ := m_inv_spec H
  obtain ⟨Hc, hb0, hbs⟩ := m_call_spec Hc
  obtain ⟨g1, g2, g3, g4, g5, g6, g7, g8⟩ := hT k M hk
  intro HH locs cells slots la I
  refine w_size (fun hup => ?_)
  have hsz := g_size hz0 hn0 I hup
  have hM := hIH k M as h _ hk Hc
  have hcs : cells + M.2.2.2.2.2.2.2.1.1 ≤ R.cells ∧ slots + M.2.2.2.2.2.2.2.1.2 ≤ R.slots := by
    have i1 := I.2.2.2.1
    cases hBB : B with
    | none =>
      have a1 := I.2.2.2.2 hBB
      have a2 := hb0 hBB
      omega
    | some b =>
      have a1 := hB b hBB
      have a2 := hbs b hBB
      omega
  obtain ⟨q0, as, n9, rf9, rfl, hcell⟩ : ∃ (q0 : Nat) (as' : List Value) (n9 : Nat) (rf9 : List (Option Nat)), as = .ref q0 :: as' ∧ h.1[q0]? = some (ci, n9, rf9) := by
    exact run_recv hk hrc Hc
  have hstk : (List.map (g_v g) ((Value.ref q0 :: as).reverse ++ s9)) = (as.map (g_v g)).reverse ++ .ref (g_ad g q0) :: s9.map (g_v g) := by
    rw [List.map_append, List.map_reverse, List.map_cons, List.reverse_cons, List.append_assoc]
    rfl
  have hRR : (m_rm d M).frames + 1 ≤ R.frames ∧ 8 + (M.2.2.1 + 11) + (m_rm d M).locals ≤ R.locals := ⟨hr1, by show 8 + (M.2.2.1 + 11) + 49 * d ≤ _; omega⟩
  have hla : la.size = nL := I.2.1.2.1
  have hwsM : m_ws M = Cond.code M.1 M.2.1 M.2.2.1 none :: m_tb := by rw [m_ws, hret]
  have hrun : va_Run p l e R s m args below meth c HH locs cells slots M.2.2.2.2.2.2.2.1.1 M.2.2.2.2.2.2.2.1.2 (F0 m pc la (List.map (g_v g) ((Value.ref q0 :: as).reverse ++ s9))) (s9.map (g_v g)) (g_Q g h (fun v h' => m_psh s9 v (fun s' => X r ls s' h')) M.2.2.2.2.2.2.2.1.1 M.2.2.2.2.2.2.2.1.2 (Value.ref (g_ad g q0) :: as.map (g_v g)).toArray) (g_A g) := by
    rcases hli with hli | ⟨host, hli⟩
    · exact va_runI (As := as.map (g_v g)) (index := i) (own := m_cn o) (cc := cc) (nL := nL) (Ts := Ts) (ws := m_ws M) (bytes := M.2.1) (maxL := M.2.2.1) (n := n) ⟨hx, hb, hml, hown, hTs⟩ hM (cwI n hTs (hgood M g2) hwsM rfl rfl (hts _ g3) (hts _ hli) (hts _ hinm) hnm hnp hRR) ⟨g_S.blind, g_pre C I hsz (.ref q0 :: as)⟩ rfl (by simp at hal ⊢; omega) hla hstk (lv_room (by rw [g_v_cats]; exact hsum)) hd hcs
    · exact va_runIN (As := as.map (g_v g)) (index := i) (own := m_cn o) (host := host) (cc := cc) (nL := nL) (Ts := Ts) (ws := m_ws M) (bytes := M.2.1) (maxL := M.2.2.1) (n := n) ⟨hx, hb, hml, hown, hTs⟩ hM ⟨va_cnB n hTs (hgood M g2) hwsM rfl rfl (hNw.1 (o, i, M.1, host) hli) (hts _ g3) hnp hRR, hnm, hts _ hinm⟩ ⟨g_S.blind, g_pre C I hsz (.ref q0 :: as)⟩ rfl (by simp at hal ⊢; omega) hla hstk (lv_room (by rw [g_v_cats]; exact hsum)) hd hcs
  exact k_run hbase I hb0 hrun (fun v h' hv => m_psh_mono (fun s' q => hN _ _ _ q) hv)
end Sound
