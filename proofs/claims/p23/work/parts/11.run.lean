/-! ===== Run gives contracts ===== -/
theorem m_chk1_len {FL : List (Nat × Nat × Nat × Nat)} {SL CL : List (Nat × Nat × Nat)} {KI : List (Nat × Nat × Int32)} {KL : List (Nat × Nat × Int64)} {ii : Bool} {o : Nat} {P : List mI} (e0 : mI) (h : m_chk1 FL SL CL KI KL ii o P e0 = true) (hi : ∃ k, e0.2.2.2.1 = .invokestatic k ∨ e0.2.2.2.1 = .invokevirtual k ∨ e0.2.2.2.1 = .invokespecial k) : e0.2.2.2.2.1 = 3 := by
  obtain ⟨sp, ix, pc, ins, len, an, kv, kl⟩ := e0
  obtain ⟨k, hk | hk | hk⟩ := hi <;> dsimp only at hk <;> subst hk <;> simpa [m_chk1] using h
theorem m_chk1_ret {FL : List (Nat × Nat × Nat × Nat)} {SL CL : List (Nat × Nat × Nat)} {KI : List (Nat × Nat × Int32)} {KL : List (Nat × Nat × Int64)} {ii : Bool} {o : Nat} {P : List mI} {sp : Bool} {ix pc len : Nat} {ins : Instr} {an : List Nat} {kv : Int32} {kl : Int64} (h : m_chk1 FL SL CL KI KL ii o P (sp, ix, pc, ins, len, an, kv, kl) = true) (hi : ins = .ireturn ∨ ins = .lreturn ∨ ins = .return_) : len = 1 := by
  rcases hi with rfl | rfl | rfl <;> simpa [m_chk1] using h
theorem m_end_spec {B : Option (Nat × Nat)} {h : mH} {q : Prop} (H : m_end B h q) : q ∧ ∀ b, B = some b → h.1.length = b.1 ∧ m_sz h.1 = b.2 := by
  cases B with
  | none => exact ⟨H, fun b hb => by cases hb⟩
  | some b => exact ⟨H.2, fun b' hb => by cases hb; exact H.1⟩
set_option maxHeartbeats 8000000 in
theorem run_met {FL : List (Nat × Nat × Nat × Nat)} {SL CL : List (Nat × Nat × Nat)} {KI : List (Nat × Nat × Int32)} {KL : List (Nat × Nat × Int64)} {tab : List mM} (hLk : m_Lk FL SL CL KI KL) (hIX : m_ixw) (hT : ∀ (k : Nat) (M : mM), tab[k]? = some M → m_good FL SL CL KI KL tab M) (l : Launch) (g : mG) :
    ∀ (d k : Nat) (M : mM) (as : List Value) (h : mH) (R' : Option Value → mH → Prop), tab[k]? = some M → Run tab d (k + 6) as h R' → Met l M.1 (m_ws M) (m_rm d M) (g_P g as h) (g_Q g h R' M.2.2.2.2.2.2.2.1.1 M.2.2.2.2.2.2.2.1.2) M.2.2.2.2.2.2.2.1.1 M.2.2.2.2.2.2.2.1.2 (g_A g)
  | 0, k, M, as, h, R', hk, H => H.elim
  | d + 1, k, M, as, h, R', hk, H => by
    obtain ⟨g1, g2, g3, g4, g5, g6, g7, g8⟩ := hT k M hk
    unfold Run at H
    dsimp only at H
    rw [m_nth_eq, hk] at H
    dsimp only at H
    obtain ⟨hfit, Hw⟩ : m_fit as M.2.2.1 = true ∧ WPe M.2.2.2.2.2.2.2.2 (m_bud M h) (Run tab d) R' M.2.2.2.2.2.2.2.2 (m_init M.2.2.1 as) [] h := by
      unfold m_ent at H
      split at H
      · rename_i hf
        refine ⟨hf, ?_⟩
        split at H
        · exact H
        · split at H
          · split at H
            · split at H
              · exact H
              · exact H.elim
            · exact H.elim
          · exact H.elim
      · exact H.elim
    have hlay := m_lay_spec _ _ _ g7
    have hF := m_fits_of g7
    obtain ⟨y, bytes, maxL, ret, o, ii, rc, ⟨mc, ms⟩, P⟩ := M
    dsimp only at g1 g2 g3 g4 g5 g6 g7 g8 hfit Hw hlay hF ⊢
    refine Met.ofW (cc := bytes) (maxL := maxL) (ret := ret) (ws' := m_tb) g1 rfl ?_
    intro p e s m args below meth c s₁ BB hml hv
    obtain ⟨rfl, hS1, hS2, hS3, hS4, hS5, hS6, hS7⟩ := hv
    have hx := BB.exec
    have hb := BB.bytes
    have hr := BB.returns
    have hts0 := atoms_spec (ws := m_ws (y, bytes, maxL, ret, o, ii, rc, (mc, ms), P)) BB.pre
    have hts : ∀ w ∈ m_tb, w.before (as.map (g_v g)).toArray s = true := fun w hw => hts0 w (List.mem_cons_of_mem _ hw)
    have hown : s.vm.findClass (m_cn o) = some m.cls := by
      rw [g5]
      exact findClass_of_methodNamed BB.named
    have hlocks := BB.notSynchronized
    have hname : meth.name = y.name := (name_of_methodNamed BB.named BB.method).1
    have hbase : g.2.2.1 ≤ s.heap.size := by omega
    have h5 : 5 ≤ h.1.length := hS1.2.1
    have Cx : g_Cx g p s m (as.map (g_v g)).toArray meth c bytes o ii := ⟨hx, hb, hown, hts, hS3, hbase, hS4, fun q => hname.trans (g6 q), hS5, hS6, hS7⟩
    have hBd : ∀ b, m_bud (y, bytes, maxL, ret, o, ii, rc, (mc, ms), P) h = some b → b = (h.1.length + mc, m_sz h.1 + ms) := by
      intro b hb9
      unfold m_bud at hb9
      dsimp only at hb9
      split at hb9
      · cases hb9
      · rename_i mc9 ms9 _ heq
        cases heq
        cases hb9
        rfl
    have hB0 : m_bud (y, bytes, maxL, ret, o, ii, rc, (mc, ms), P) h = none → mc = 0 ∧ ms = 0 := by
      intro hb9
      unfold m_bud at hb9
      dsimp only at hb9
      split at hb9
      · rename_i heq
        cases heq
        exact ⟨rfl, rfl⟩
      · cases hb9
    generalize hBB : m_bud (y, bytes, maxL, ret, o, ii, rc, (mc, ms), P) h = B at Hw hBd hB0
    have hBB2 : ∀ b, B = some b → b.1 ≤ h.1.length + (m_rm (d + 1) (y, bytes, maxL, ret, o, ii, rc, (mc, ms), P)).cells ∧ b.2 ≤ m_sz h.1 + (m_rm (d + 1) (y, bytes, maxL, ret, o, ii, rc, (mc, ms), P)).slots := by
      intro b hb9
      rw [hBd b hb9]
      exact ⟨Nat.le_refl _, Nat.le_refl _⟩
    have hC := g_calls_ok (l := l) (e := e) (R := m_rm (d + 1) (y, bytes, maxL, ret, o, ii, rc, (mc, ms), P)) (below := below) (Q := MQ below (g_Q g h R' mc ms) (as.map (g_v g)).toArray s mc ms (g_A g)) (nL := maxL) (n0 := h.1.length) (s0 := m_sz h.1) (B := B) (P := P) hT (run_met hLk hIX hT l g d) hIX Cx hts0 (fun w hw => List.mem_cons_of_mem _ hw) hml hS2 h5 hBB2 ⟨Nat.le_refl _, Nat.le_refl _⟩ hF m_chk1_len (fun i e0 he hi => (g8 i e0 he).1 hi)
    have hend : ∀ {ls : mL} {h9 : mH} {H9 : Heap} {locs : List Loc} {cells slots : Nat} {la : Array Slot}, g_I g s maxL h.1.length (m_sz h.1) B ls h9 H9 locs cells slots la → (∀ b, B = some b → h9.1.length = b.1 ∧ m_sz h9.1 = b.2) → cells = mc ∧ slots = ms ∧ h9.1.length = h.1.length + mc ∧ m_sz h9.1 = m_sz h.1 + ms := by
      intro ls h9 H9 locs cells slots la I hb9
      have i1 := I.2.2.2.1
      cases hB9 : B with
      | none =>
        have a1 := I.2.2.2.2 hB9
        have a2 := hB0 hB9
        omega
      | some b =>
        have a1 := hb9 b hB9
        have a2 := hBd b hB9
        subst a2
        dsimp only at a1
        omega
    have hRt : g_rets p l e (m_rm (d + 1) (y, bytes, maxL, ret, o, ii, rc, (mc, ms), P)) s m (as.map (g_v g)).toArray below meth c (MQ below (g_Q g h R' mc ms) (as.map (g_v g)).toArray s mc ms (g_A g)) g maxL h.1.length (m_sz h.1) B R' P := by
      intro i e0 he ls h9
      obtain ⟨-, q1, q2, q3⟩ := g8 i e0 he
      obtain ⟨-, -, hck, hd, -⟩ := hlay i e0 he
      obtain ⟨sp, ix, pc, ins, len, an, kv, kl⟩ := e0
      dsimp only at q1 q2 q3 hck hd ⊢
      refine ⟨fun hins x hx9 H9 => ?_, fun hins x H9 => ?_, fun hins H9 => ?_⟩
      · subst hins
        have hl1 := m_chk1_ret hck (Or.inl rfl)
        subst hl1
        obtain ⟨hQ, hbb⟩ := m_end_spec H9
        intro HH locs cells slots la I
        obtain ⟨e1, e2, e3, e4⟩ := hend I hbb
        subst e1
        subst e2
        have hpost : ∀ t : State, t.heap = HH → s.WarmedH t.vm → g_Q g h R' cells slots (as.map (g_v g)).toArray s (.returned (some (.int x))) t := fun t ht hW => ⟨some (.int x), h9, hQ, rfl, by rw [ht]; exact g_R.moved hW.alike I.1, I.2.2.1.F ht, e3, e4⟩
        rcases q1 rfl with rfl | ⟨rfl, hne⟩
        · exact W.iret hx hb hr hpost I.2.2.1.2.2 hd hlocks
        · have hx01 : x = 0 ∨ x = 1 := hx9.elim (fun q => absurd q hne) id
          exact W.zret hx hb hr (by rcases hx01 with rfl | rfl <;> rfl) hpost I.2.2.1.2.2 hd hlocks
      · subst hins
        have hl1 := m_chk1_ret hck (Or.inr (Or.inl rfl))
        subst hl1
        obtain ⟨hQ, hbb⟩ := m_end_spec H9
        intro HH locs cells slots la I
        obtain ⟨e1, e2, e3, e4⟩ := hend I hbb
        subst e1
        subst e2
        have hpost : ∀ t : State, t.heap = HH → s.WarmedH t.vm → g_Q g h R' cells slots (as.map (g_v g)).toArray s (.returned (some (.long x))) t := fun t ht hW => ⟨some (.long x), h9, hQ, rfl, by rw [ht]; exact g_R.moved hW.alike I.1, I.2.2.1.F ht, e3, e4⟩
        have hr9 := q2 rfl
        subst hr9
        exact W.lret hx hb hr hpost I.2.2.1.2.2 hd hlocks
      · subst hins
        have hl1 := m_chk1_ret hck (Or.inr (Or.inr rfl))
        subst hl1
        obtain ⟨hQ, hbb⟩ := m_end_spec H9
        intro HH locs cells slots la I
        obtain ⟨e1, e2, e3, e4⟩ := hend I hbb
        subst e1
        subst e2
        have hpost : ∀ t : State, t.heap = HH → s.WarmedH t.vm → g_Q g h R' cells slots (as.map (g_v g)).toArray s (.returned none) t := fun t ht hW => ⟨none, h9, hQ, rfl, by rw [ht]; exact g_R.moved hW.alike I.1, I.2.2.1.F ht, e3, e4⟩
        have hr9 := q3 rfl
        subst hr9
        exact W.vret hx hb hr hpost I.2.2.1.2.2 hd hlocks
    have hbody := m_body (l := l) (e := e) (R := m_rm (d + 1) (y, bytes, maxL, ret, o, ii, rc, (mc, ms), P)) (below := below) (Q := MQ below (g_Q g h R' mc ms) (as.map (g_v g)).toArray s mc ms (g_A g)) (nL := maxL) (n0 := h.1.length) (s0 := m_sz h.1) hLk Cx hS2 h5 hBB2 hF hC hRt Hw
    have hcat : (lg_sl (as.map (g_v g))).length ≤ maxL := by
      have e9 : ∀ vs : List Value, (lg_sl vs).length = (vs.map fun v => v.category).sum := by
        intro vs
        induction vs with
        | nil => rfl
        | cons v t ih =>
          have : lg_sl (v :: t) = (if v.category = 2 then [Slot.val v, .second] else [.val v]) ++ lg_sl t := by simp [lg_sl]
          rw [this, List.length_append, ih, List.map_cons, List.sum_cons]
          rcases lv_cat v with q | q <;> rw [q] <;> simp
      rw [e9, g_v_cats]
      exact m_fit_spec _ _ hfit
    have hl := lv_entry (as.map (g_v g)) (n := maxL) hcat
    rw [lg_entry_eq]
    generalize (lg_sl (as.map (g_v g)) ++ List.replicate (maxL - (lg_sl (as.map (g_v g))).length) Slot.unset).toArray = la at hl ⊢
    have hgL : g_L g la maxL (m_init maxL as) := ⟨m_init_len _ _, hl.1, hl.2.1, fun j w hj => by
      have := hl.2.2 _ (m_ini_spec g maxL as 0 j w hj)
      simpa using this⟩
    match P, hbody, hlay with
    | [], hbody, _ => exact hbody.elim
    | e0 :: r, hbody, hlay =>
      have hpc : e0.2.2.1 = 0 := (hlay 0 e0 rfl).2.1 rfl
      have K := hbody ⟨0, rfl⟩ s.heap [] 0 0 la ⟨hS1, hgL, va_S.rf, ⟨rfl, rfl⟩, fun _ => ⟨rfl, rfl⟩⟩
      rw [hpc] at K
      exact K
