section Sound
variable {p : Program} {l : Launch} {e : Env} {R : Room} {s : State} {m : MethodId} {args : Array Value} {below : List Frame} {meth : Method} {c : Code} {Q : State → Prop}
variable {g : mG} {cc : ByteArray} {o nL n0 s0 : Nat} {ii : Bool} {B : Option (Nat × Nat)} {P r : List mI}
set_option maxHeartbeats 4000000 in
theorem gc_8 {FL : List (Nat × Nat × Nat × Nat)} {SL CL : List (Nat × Nat × Nat)} {KI : List (Nat × Nat × Int32)} {KL : List (Nat × Nat × Int64)} {tab : List mM} {d : Nat} (hT : ∀ (k : Nat) (M : mM), tab[k]? = some M → m_good FL SL CL KI KL tab M)
    (hIH : ∀ (k : Nat) (M : mM) (as : List Value) (h : mH) (R' : Option Value → mH → Prop), tab[k]? = some M → Run tab d (k + 6) as h R' → Met l M.1 (m_ws M) (m_rm d M) (g_P g as h) (g_Q g h R' M.2.2.2.2.2.2.2.1.1 M.2.2.2.2.2.2.2.1.2) M.2.2.2.2.2.2.2.1.1 M.2.2.2.2.2.2.2.1.2 (g_A g))
    (hIX : m_ixw) (C : g_Cx g p s m args meth c cc o ii) {Ts : List Cond} (hTs : ∀ w ∈ Ts, w.before args s = true) (hsub : ∀ w ∈ m_tb, w ∈ Ts) (hml : c.maxLocals = nL) (hz0 : s.heap.size = g.2.2.1 + (n0 - 5)) (hn0 : 5 ≤ n0) (hB : ∀ b, B = some b → b.1 ≤ n0 + R.cells ∧ b.2 ≤ s0 + R.slots) (hroom : g_room d R)
    {r : List mI} {ls : mL} {st : List Value} {h : mH} {X : List mI → mL → List Value → mH → Prop} {pc : Nat} {i : Nat} (hli : Cond.methodLink (m_cn o) i Lib.Math.min.name ∈ m_tb) (hst : Cond.static Lib.Math.min.name ∈ m_tb) (hini : Cond.initialized "java/lang/Math" ∈ m_tb) (hco : Cond.code Lib.Math.min.name Lib.Math.min.code 2 (some .int) ∈ m_tb) (hd : decode cc pc = .ok (.invokestatic i, 3)) (H : m_inv B (Run tab d) [4, 2, 0, 0] r ls st h X) (hN : ∀ ls st h, X r ls st h → g_K p l e R s m args below meth c Q g nL n0 s0 B (pc + 3) ls st h) : g_K p l e R s m args below meth c Q g nL n0 s0 B pc ls st h := by
  obtain ⟨hx, hb, hown, hts, hK, hbase, hZ, hin, hA1, hA2, hNw⟩ := id C
  obtain ⟨hr1, hr2⟩ := hroom
  have hgood : ∀ M : mM, Cond.code M.1 M.2.1 M.2.2.1 M.2.2.2.1 ∈ m_tb → GoodIn Ts (m_ws M) := by
    intro M hM w hw
    have hw2 : w ∈ m_tb := by
      rcases List.mem_cons.mp hw with rfl | h2
      · exact hM
      · exact h2
    exact ⟨hsub w hw2, good_of_word (m_tb_good w hw2)⟩
  have hgw : ∀ w ∈ m_tb, w ∈ Ts ∧ ((w.onTables && w.keeps) = true ∨ ∃ ty, w = .arrayClass ty) := fun w hw => ⟨hsub w hw, good_of_word (m_tb_good w hw)⟩
  obtain ⟨as, s9, rfl, hal, hsum, Hc⟩ := m_inv_spec H
  obtain ⟨Hc, hb0, hbs⟩ := m_call_spec Hc
  intro HH locs cells slots la I
  cases d with
  | zero => exact Hc.elim
  | succ d =>
    have Hc : m_prim 4 as h (fun v h' => m_psh s9 v (fun s' => X r ls s' h')) := Hc
    obtain ⟨x, y, rfl, Hc⟩ := prim_min Hc
    have hcs : cells ≤ R.cells ∧ slots ≤ R.slots := by
      have i1 := I.2.2.2.1
      cases hBB : B with
      | none =>
        have a1 := I.2.2.2.2 hBB
        omega
      | some b =>
        have a1 := hB b hBB
        have a2 := hbs b hBB
        omega
    exact va_mmin (x := x) (y := y) (rest := s9.map (g_v g)) hx hb (hml.trans I.2.1.2.1.symm) hown (hts _ hli) (hts _ hst) (hts _ hini) (hts _ hco) (by omega) (by rw [g_v_cats]; omega) hcs.1 hcs.2 hd (hN _ _ _ Hc _ _ _ _ _ I)
end Sound
