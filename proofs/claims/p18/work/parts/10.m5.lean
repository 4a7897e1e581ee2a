section Sound
variable {p : Program} {l : Launch} {e : Env} {R : Room} {s : State} {m : MethodId} {args : Array Value} {below : List Frame} {meth : Method} {c : Code} {Q : State → Prop}
variable {g : mG} {cc : ByteArray} {o nL n0 s0 : Nat} {ii : Bool} {B : Option (Nat × Nat)} {P r : List mI}
set_option maxHeartbeats 4000000 in
theorem gc_5 {FL : List (Nat × Nat × Nat × Nat)} {SL CL : List (Nat × Nat × Nat)} {KI : List (Nat × Nat × Int32)} {KL : List (Nat × Nat × Int64)} {tab : List mM} {d : Nat} (hT : ∀ (k : Nat) (M : mM), tab[k]? = some M → m_good FL SL CL KI KL tab M)
    (hIH : ∀ (k : Nat) (M : mM) (as : List Value) (h : mH) (R' : Option Value → mH → Prop), tab[k]? = some M → Run tab d (k + 6) as h R' → Met l M.1 (m_ws M) (m_rm d M) (g_P g as h) (g_Q g h R' M.2.2.2.2.2.2.2.1.1 M.2.2.2.2.2.2.2.1.2) M.2.2.2.2.2.2.2.1.1 M.2.2.2.2.2.2.2.1.2 (g_A g))
    (hIX : m_ixw) (C : g_Cx g p s m args meth c cc o ii) {Ts : List Cond} (hTs : ∀ w ∈ Ts, w.before args s = true) (hsub : ∀ w ∈ m_tb, w ∈ Ts) (hml : c.maxLocals = nL) (hz0 : s.heap.size = g.2.2.1 + (n0 - 5)) (hn0 : 5 ≤ n0) (hB : ∀ b, B = some b → b.1 ≤ n0 + R.cells ∧ b.2 ≤ s0 + R.slots) (hroom : g_room d R)
    {r : List mI} {ls : mL} {st : List Value} {h : mH} {X : List mI → mL → List Value → mH → Prop} {pc : Nat} {i : Nat} (hli : Cond.methodLink (m_cn o) i arraycopyName ∈ m_tb) (hna : Cond.native arraycopyName ∈ m_tb) (hst : Cond.static arraycopyName ∈ m_tb) (hini : Cond.initialized "java/lang/System" ∈ m_tb) (hd : decode cc pc = .ok (.invokestatic i, 3)) (H : m_inv B (Run tab d) [1, 5, 0, 0] r ls st h X) (hN : ∀ ls st h, X r ls st h → g_K p l e R s m args below meth c Q g nL n0 s0 B (pc + 3) ls st h) : g_K p l e R s m args below meth c Q g nL n0 s0 B pc ls st h := by
  obtain ⟨hx, hb, hown, hts, hK, hbase, hZ, hin, hA1, hA2, hNw⟩ := id C
  obtain ⟨hr1, hr2⟩ := hroom
  have hgood : ∀ M : mM, Cond.code M.1 M.2.1 M.2.2.1 M.2.2.2.1 ∈ m_tb → GoodIn Ts (m_ws M) := by
    intro M hM w hw
    have hw2 : w ∈ m_tb := by
      rcases List.mem_cons.mp hw with rfl | h2
      · exact hM
      · exact h2
    exact ⟨hsub w hw2, good_of_word (m_tb_good w hw2)⟩
  have hgw : ∀ w ∈ m_tb, w ∈ Ts ∧ ((w.onTables && w.keeps) = true ∨ ∃ ty, w = .arrayClass ty) := fun w hw => ⟨hsub w hw, good_of_word (m_tb_good w hw)⟩
  obtain ⟨as, s9, rfl, hal, hsum, Hc⟩ := m_inv_spec H
  obtain ⟨Hc, hb0, hbs⟩ := m_call_spec Hc
  intro HH locs cells slots la I
  cases d with
  | zero => exact Hc.elim
  | succ d =>
    have Hc : m_prim 1 as h (fun v h' => m_psh s9 v (fun s' => X r ls s' h')) := Hc
    obtain ⟨a, sp9, b, dp9, n9, t, na, ra, nb, rb, rfl, hca, htt, hcb, ⟨w1, w2, w3, w4, w5⟩, Hc⟩ := prim_copy Hc
    have Hc : X r ls s9 (h.1, m_cpy h.2.1 a b sp9.toNatClampNeg dp9.toNatClampNeg n9.toNatClampNeg, h.2.2) := Hc
    have h5b := g_new I.1.2 hcb (show (100 : Nat) < 200 by decide)
    have hwb := g_get I.1 hcb (show (100 : Nat) < 200 by decide)
    rw [g_e_i (Or.inl rfl)] at hwb
    have hloc : ((s9.map (g_v g)).map fun v => v.category).sum + (nativeFrameWords "java/lang/System" "arraycopy" 5 + 11) ≤ R.locals := by
      rw [g_v_cats]
      have : nativeFrameWords "java/lang/System" "arraycopy" 5 ≤ 20 := by decide
      omega
    have kk : ∀ (H1 : Heap) (locs1 : List Loc), va_P g.1 vwCl ((g_W g h).set (b - 5) (g_ad g b, .inl (g.2.1 100, nb, .inl (va_cpy (h.2.1 a) (h.2.1 b) sp9.toNatClampNeg dp9.toNatClampNeg n9.toNatClampNeg)))) H1 → va_D (g_A g) ((g_W g h).set (b - 5) (g_ad g b, .inl (g.2.1 100, nb, .inl (va_cpy (h.2.1 a) (h.2.1 b) sp9.toNatClampNeg dp9.toNatClampNeg n9.toNatClampNeg)))) → va_S (g_A g) s.heap H1 locs1 → W p l e R s m args below meth c H1 locs1 cells slots Q (F0 m (pc + 3) la (s9.map (g_v g))) := by
      intro H1 locs1 hP1 hD1 hS1
      refine hN _ _ _ Hc H1 locs1 cells slots la ⟨⟨?_, ?_⟩, I.2.1, hS1, I.2.2.2⟩
      · rw [g_W_cpy h5b hcb]
        exact hP1
      · exact g_O.put I.1.2 rfl (fun a9 ha9 => m_cpy_row (by omega)) (fun a9 ha9 => (hS1.low hbase ha9).trans (I.2.2.1.low hbase ha9).symm)
    rcases htt with htt | htt
    · subst htt
      have hwa := g_get I.1 hca (show (100 : Nat) < 200 by decide)
      rw [g_e_i (Or.inl rfl)] at hwa
      exact va_copyi (t0 := 0) (t1 := 0) (ty := .int) hx hb (hml.trans I.2.1.2.1.symm) hown (hts _ hli) (hts _ hna) (hts _ hst) (hts _ hini) hK I.1.1 g_D I.2.2.1 _ _ hwa hwb rfl rfl rfl w1 w2 w3 w4 w5 (fun _ _ => rfl) (by omega) hloc hd kk
    · subst htt
      have hk5 : a < 5 := by
        rcases Nat.lt_or_ge a 5 with q | q
        · exact q
        · have := (I.1.2.2.1 a _ hca).2.1 q
          simp at this
      have hX9 := I.1.2.2.2.2 a na ra hca
      have hlt := I.1.2.2.2.1 a hk5
      have := m_copyx (b0 := g.2.2.2 a) (t1 := 0) hx hb (hml.trans I.2.1.2.1.symm) hown (hts _ hli) (hts _ hna) (hts _ hst) (hts _ hini) hK I.1.1 g_D I.2.2.1 hX9 _ hwb rfl w1 w2 w3 w4 w5 (by omega) hloc hd kk
      rw [← g_ad_lt (g := g) hk5] at this
      exact this
end Sound
