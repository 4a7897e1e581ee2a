/-! ===== every method of the table keeps what Run says of it ===== -/
theorem m_call_spec {B : Option (Nat × Nat)} {mc ms : Nat} {h : mH} {q : Prop} (H : m_call B mc ms h q) : q ∧ (B = none → mc = 0 ∧ ms = 0) ∧ (∀ b, B = some b → h.1.length + mc ≤ b.1 ∧ m_sz h.1 + ms ≤ b.2) := by
  cases B with
  | none =>
    cases mc with
    | zero => cases ms with
      | zero => exact ⟨H, fun _ => ⟨rfl, rfl⟩, fun b hb => by cases hb⟩
      | succ _ => exact H.elim
    | succ _ => exact H.elim
  | some b => exact ⟨H.2, (fun q => by cases q), (fun b' hb => by cases hb; exact H.1)⟩
theorem m_cpy_row {f : Nat → Nat → Int32} {a b sp dp n k : Nat} (h : k ≠ b) : m_cpy f a b sp dp n k = f k := by
  funext i
  simp [m_cpy, h]
theorem m_cpy_at {f : Nat → Nat → Int32} {a b sp dp n : Nat} : m_cpy f a b sp dp n b = va_cpy (f a) (f b) sp dp n := by
  funext i
  simp [m_cpy, va_cpy]
theorem g_W_cpy {g : mG} {h : mH} {a k sp dp n9 n : Nat} {r : List (Option Nat)} (h5 : 5 ≤ k) (hc : h.1[k]? = some (100, n, r)) :
    g_W g (h.1, m_cpy h.2.1 a k sp dp n9, h.2.2) = (g_W g h).set (k - 5) (g_ad g k, .inl (g.2.1 100, n, .inl (va_cpy (h.2.1 a) (h.2.1 k) sp dp n9))) := by
  have e := g_W_put (g := g) (h := h) (h' := (h.1, m_cpy h.2.1 a k sp dp n9, h.2.2)) h5 hc rfl (fun a ha => m_cpy_row ha) (fun a ha => rfl)
  rw [e, g_e_i (Or.inl rfl), g_ad_ge h5, ← m_cpy_at]
theorem run_recv {tab : List mM} {d k ci : Nat} {M : mM} {as : List Value} {h : mH} {R' : Option Value → mH → Prop} (hk : tab[k]? = some M) (hrc : M.2.2.2.2.2.2.1 = some ci) (Hc : Run tab d (k + 6) as h R') : ∃ (q0 : Nat) (as' : List Value) (n9 : Nat) (rf9 : List (Option Nat)), as = .ref q0 :: as' ∧ h.1[q0]? = some (ci, n9, rf9) := by
  cases d with
  | zero => exact Hc.elim
  | succ d =>
    unfold Run at Hc
    dsimp only at Hc
    rw [m_nth_eq, hk] at Hc
    dsimp only at Hc
    unfold m_ent at Hc
    rw [hrc] at Hc
    split at Hc
    · dsimp only at Hc
      split at Hc
      · rename_i q0 as' _
        rw [m_nth_eq] at Hc
        split at Hc
        · rename_i t n9 rf9 hcell
          split at Hc
          · rename_i hbq
            have e9 := Nat.eq_of_beq_eq_true hbq
            subst e9
            exact ⟨q0, as', n9, rf9, rfl, hcell⟩
          · exact Hc.elim
        · exact Hc.elim
      · exact Hc.elim
    · exact Hc.elim
theorem prim_copy {as : List Value} {h : mH} {R' : Option Value → mH → Prop} (H : m_prim 1 as h R') : ∃ (a : Nat) (sp : Int32) (b : Nat) (dp n : Int32) (t na : Nat) (ra : List (Option Nat)) (nb : Nat) (rb : List (Option Nat)), as = [.ref a, .int sp, .ref b, .int dp, .int n] ∧ h.1[a]? = some (t, na, ra) ∧ (t = 100 ∨ t = 200) ∧ h.1[b]? = some (100, nb, rb) ∧
    (¬ sp < 0 ∧ ¬ dp < 0 ∧ ¬ n < 0 ∧ sp.toNatClampNeg + n.toNatClampNeg ≤ na ∧ dp.toNatClampNeg + n.toNatClampNeg ≤ nb) ∧ R' none (h.1, m_cpy h.2.1 a b sp.toNatClampNeg dp.toNatClampNeg n.toNatClampNeg, h.2.2) := by
  unfold m_prim at H
  split at H
  · exfalso
    omega
  · rename_i a sp9 b dp9 n9 heq9
    rw [m_nth_eq, m_nth_eq] at H
    split at H
    · rename_i t na ra nb rb hca hcb
      split at H
      · rename_i htt
        rw [Bool.or_eq_true] at htt
        exact ⟨a, sp9, b, dp9, n9, t, na, ra, nb, rb, rfl, hca, htt.imp Nat.eq_of_beq_eq_true Nat.eq_of_beq_eq_true, hcb, H.1, H.2⟩
      · exact H.elim
    · exact H.elim
  · exfalso
    omega
  · exfalso
    omega
  · exact H.elim
theorem prim_max {as : List Value} {h : mH} {R' : Option Value → mH → Prop} (H : m_prim 3 as h R') : ∃ x y : Int32, as = [.int x, .int y] ∧ R' (some (.int (if x < y then y else x))) h := by
  unfold m_prim at H
  split at H
  · exfalso
    omega
  · exfalso
    omega
  · rename_i x y heq9
    exact ⟨x, y, rfl, H⟩
  · exfalso
    omega
  · exact H.elim
theorem prim_min {as : List Value} {h : mH} {R' : Option Value → mH → Prop} (H : m_prim 4 as h R') : ∃ x y : Int32, as = [.int x, .int y] ∧ R' (some (.int (if y < x then y else x))) h := by
  unfold m_prim at H
  split at H
  · exfalso
    omega
  · exfalso
    omega
  · exfalso
    omega
  · rename_i x y heq9
    exact ⟨x, y, rfl, H⟩
  · exact H.elim
section Sound
variable {p : Program} {l : Launch} {e : Env} {R : Room} {s : State} {m : MethodId} {args : Array Value} {below : List Frame} {meth : Method} {c : Code} {Q : State → Prop}
variable {g : mG} {cc : ByteArray} {o nL n0 s0 : Nat} {ii : Bool} {B : Option (Nat × Nat)} {P r : List mI}
/-- System.arraycopy out of an old int array -/
theorem m_copyx {H : Heap} {locs : List Loc} {cells slots pc : Nat} {ls : Array Slot} {rest : List Value} {D : va_G} {cl : List vw_C} {A : Nat → Prop} {a : Nat} {tys : List (ClassId × FieldType)} {ws : va_W} {H0 : Heap} (hexec : p.tables.exec = Jvm.exec) (hb : c.code = cc) (hml : c.maxLocals = ls.size) {own : String} {index : Nat} (hown : s.vm.findClass own = some m.cls) (hlink : (Cond.methodLink own index arraycopyName).before args s = true) (hnat : (Cond.native arraycopyName).before args s = true) (hstat : (Cond.static arraycopyName).before args s = true) (hini : (Cond.initialized "java/lang/System").before args s = true)
    (hK : va_K D cl tys s) (hP : va_P D cl ws H) (hD : va_D A ws) (hS : va_S A H0 H locs) {b0 na : Nat} {f : Nat → Int32} (hX : m_X b0 na f s H) (q1 t1 : Nat) {c1 : ClassId} {n1 : Nat} {g' : Nat → Int32} (ha1 : ws[q1]? = some (a, .inl (c1, n1, .inl g'))) (ht1 : tys[t1]? = some (c1, .int))
    {sp dp n : Int32} (h1 : ¬ sp < 0) (h2 : ¬ dp < 0) (h3 : ¬ n < 0) (h4 : sp.toNatClampNeg + n.toNatClampNeg ≤ na) (h5 : dp.toNatClampNeg + n.toNatClampNeg ≤ n1)
    (hframes : 1 ≤ R.frames) (hlocals : (rest.map fun v => v.category).sum + (nativeFrameWords "java/lang/System" "arraycopy" 5 + 11) ≤ R.locals) (hdg : decode cc pc = .ok (.invokestatic index, 3))
    (kk : ∀ (H1 : Heap) (locs1 : List Loc), va_P D cl (ws.set q1 (a, .inl (c1, n1, .inl (va_cpy f g' sp.toNatClampNeg dp.toNatClampNeg n.toNatClampNeg)))) H1 → va_D A (ws.set q1 (a, .inl (c1, n1, .inl (va_cpy f g' sp.toNatClampNeg dp.toNatClampNeg n.toNatClampNeg)))) → va_S A H0 H1 locs1 → W p l e R s m args below meth c H1 locs1 cells slots Q (F0 m (pc + 3) ls rest)) : W p l e R s m args below meth c H locs cells slots Q (F0 m pc ls (.int n :: .int dp :: .ref a :: .int sp :: .ref b0 :: rest)) := by
  have nn : ∀ z : Int32, ¬ z < 0 → z.toInt = (z.toNatClampNeg : Int) := by
    intro z hz
    have hz0 : (0 : Int) ≤ z.toInt := by simpa using Int32.le_iff_toInt_le.mp (Int32.not_lt.mp hz)
    show z.toInt = ((z.toInt.toNat : Nat) : Int)
    omega
  obtain ⟨scr, x1, ⟨x2, k0, hk0, cm0, hkk0⟩, x3, ⟨x4, -⟩, x5⟩ := hX
  have hc1 : H[a]? = some (vp_cell c1 (n1, .inl g')) := hP q1 _ ha1
  obtain ⟨-, k1, hk1, cm1, hkk1⟩ := (hK.2 t1 _ ht1).1 n1 (fun j => .int (g' j))
  generalize hnew : vp_cell c1 (n1, .inl (va_cpy f g' sp.toNatClampNeg dp.toNatClampNeg n.toNatClampNeg)) = N9 at *
  intro T hT X
  obtain ⟨vm', X', step⟩ := X.arraycopy hexec hown hlink hnat hstat hini (src := b0) (dst := a) (cs := scr) (cd := vp_cell c1 (n1, .inl g')) (srcPos := sp) (destPos := dp) (n := n) (by rw [hT]; exact x1) (by rw [hT]; exact hc1)
    x2 (fun _ h => by cases h) x3 (fun h => by cases h) hk0 hk1 hkk0 hkk1 (by simp [refKind]) h1 h2 h3
    (by rw [nn sp h1, nn n h3]; omega)
    (by rw [nn dp h2, nn n h3]; show ¬ _ > ((arrV c1 n1 (fun j => .int (g' j))).slots.size : Int); rw [arrV_size]; omega)
    (fun vm₁ _ i hi => by
      have e9 : scr.slots.getD (sp.toNatClampNeg + i) .null = .int (f (sp.toNatClampNeg + i)) := by
        rw [Array.getD_eq_getD_getElem?, x5 _ (by omega)]
        rfl
      exact ⟨by rw [e9]; rfl, by rw [e9]; exact trivial⟩)
    (g := F0 m pc ls (.int n :: .int dp :: .ref a :: .int sp :: .ref b0 :: rest)) rfl (by rw [hml]) (rest := rest) rfl (by rw [hb]; exact hdg) hframes (by show 2 * 0 + _ + _ ≤ _; omega)
  have e1 : copied scr (vp_cell c1 (n1, .inl g')) sp dp n = N9 := by
    rw [← hnew]
    exact va_copiedX (fun z => .int z) scr c1 f g' x5 h4
  rw [e1] at X' step
  have hl : a < H.size := (Array.getElem?_eq_some_iff.mp hc1).1
  have oq : ∀ q : Nat, q ≠ a → (H.setIfInBounds a N9)[q]? = H[q]? := fun q hq => by simp [Array.getElem?_setIfInBounds, Ne.symm hq]
  have hat : (H.setIfInBounds a N9)[a]? = some N9 := by simp [Array.getElem?_setIfInBounds, hl]
  obtain ⟨t, a1, b1⟩ := kk (H.setIfInBounds a N9) _ (hP.set hD ha1 (by show (H.setIfInBounds a N9)[a]? = some (vp_cell _ _); rw [hat, ← hnew]) oq) (hD.set ha1) ⟨by simp; exact hS.1, fun q y1 y2 => by
      rw [oq q (fun e => y2 (by rw [e]; exact hD.2 q1 _ ha1))]
      exact hS.2.1 q y1 y2, fun q hq => by
      rcases List.mem_append.mp hq with h | h
      · exact hS.2.2 q h
      · obtain ⟨z, -, hz⟩ := List.mem_map.mp h
        rw [← hz]
        exact hD.2 q1 _ ha1⟩ _ (by rw [← hT]; rfl) X'
  exact ⟨t, step t a1, b1⟩
/-- the room that calls have: of depth d+1 -/
def g_room (d : Nat) (R : Room) : Prop := d + 1 ≤ R.frames ∧ 49 * (d + 1) ≤ R.locals
end Sound
section Sound
variable {p : Program} {l : Launch} {e : Env} {R : Room} {s : State} {m : MethodId} {args : Array Value} {below : List Frame} {meth : Method} {c : Code} {Q : State → Prop}
variable {g : mG} {cc : ByteArray} {o nL n0 s0 : Nat} {ii : Bool} {B : Option (Nat × Nat)} {P r : List mI}
set_option maxHeartbeats 4000000 in
theorem gc_1 {FL : List (Nat × Nat × Nat × Nat)} {SL CL : List (Nat × Nat × Nat)} {KI : List (Nat × Nat × Int32)} {KL : List (Nat × Nat × Int64)} {tab : List mM} {d : Nat} (hT : ∀ (k : Nat) (M : mM), tab[k]? = some M → m_good FL SL CL KI KL tab M)
    (hIH : ∀ (k : Nat) (M : mM) (as : List Value) (h : mH) (R' : Option Value → mH → Prop), tab[k]? = some M → Run tab d (k + 6) as h R' → Met l M.1 (m_ws M) (m_rm d M) (g_P g as h) (g_Q g h R' M.2.2.2.2.2.2.2.1.1 M.2.2.2.2.2.2.2.1.2) M.2.2.2.2.2.2.2.1.1 M.2.2.2.2.2.2.2.1.2 (g_A g))
    (hIX : m_ixw) (C : g_Cx g p s m args meth c cc o ii) {Ts : List Cond} (hTs : ∀ w ∈ Ts, w.before args s = true) (hsub : ∀ w ∈ m_tb, w ∈ Ts) (hml : c.maxLocals = nL) (hz0 : s.heap.size = g.2.2.1 + (n0 - 5)) (hn0 : 5 ≤ n0) (hB : ∀ b, B = some b → b.1 ≤ n0 + R.cells ∧ b.2 ≤ s0 + R.slots) (hroom : g_room d R)
    {r : List mI} {ls : mL} {st : List Value} {h : mH} {X : List mI → mL → List Value → mH → Prop} {pc : Nat} {i k n : Nat} {M : mM} (hk : tab[k]? = some M) (hnp : m_np M.1 n) (hst : Cond.static M.1 ∈ m_tb) (hli : (Cond.methodLink (m_cn o) i M.1 ∈ m_tb ∨ ∃ host, (o, i, M.1, host) ∈ m_NL)) (hd : decode cc pc = .ok (.invokestatic i, 3)) (H : m_inv B (Run tab d) [k + 6, n, M.2.2.2.2.2.2.2.1.1, M.2.2.2.2.2.2.2.1.2] r ls st h X) (hN : ∀ ls st h, X r ls st h → g_K p l e R s m args below meth c Q g nL n0 s0 B (pc + 3) ls st h) : g_K p l e R s m args below meth c Q g nL n0 s0 B pc ls st h := by
  obtain ⟨hx, hb, hown, hts, hK, hbase, hZ, hin, hA1, hA2, hNw⟩ := id C
  obtain ⟨hr1, hr2⟩ := hroom
  have hgood : ∀ M : mM, Cond.code M.1 M.2.1 M.2.2.1 M.2.2.2.1 ∈ m_tb → GoodIn Ts (m_ws M) := by
    intro M hM w hw
    have hw2 : w ∈ m_tb := by
      rcases List.mem_cons.mp hw with rfl | h2
      · exact hM
      · exact h2
    exact ⟨hsub w hw2, good_of_word (m_tb_good w hw2)⟩
  have hgw : ∀ w ∈ m_tb, w ∈ Ts ∧ ((w.onTables && w.keeps) = true ∨ ∃ ty, w = .arrayClass ty) := fun w hw => ⟨hsub w hw, good_of_word (m_tb_good w hw)⟩
  obtain ⟨as, s9, rfl, hal, hsum, Hc⟩ := m_inv_spec H
  obtain ⟨Hc, hb0, hbs⟩ := m_call_spec Hc
  obtain ⟨g1, g2, g3, g4, g5, g6, g7, g8⟩ := hT k M hk
  intro HH locs cells slots la I
  refine w_size (fun hup => ?_)
  have hsz := g_size hz0 hn0 I hup
  have hM := hIH k M as h _ hk Hc
  have hcs : cells + M.2.2.2.2.2.2.2.1.1 ≤ R.cells ∧ slots + M.2.2.2.2.2.2.2.1.2 ≤ R.slots := by
    have i1 := I.2.2.2.1
    cases hBB : B with
    | none =>
      have a1 := I.2.2.2.2 hBB
      have a2 := hb0 hBB
      omega
    | some b =>
      have a1 := hB b hBB
      have a2 := hbs b hBB
      omega
  have hstk : (List.map (g_v g) (as.reverse ++ s9)) = (as.map (g_v g)).reverse ++ s9.map (g_v g) := by rw [List.map_append, List.map_reverse]
  have hRR : (m_rm d M).frames + 1 ≤ R.frames ∧ 8 + (M.2.2.1 + 11) + (m_rm d M).locals ≤ R.locals := ⟨hr1, by show 8 + (M.2.2.1 + 11) + 49 * d ≤ _; omega⟩
  have hla : la.size = nL := I.2.1.2.1
  have hrun : va_Run p l e R s m args below meth c HH locs cells slots M.2.2.2.2.2.2.2.1.1 M.2.2.2.2.2.2.2.1.2 (F0 m pc la (List.map (g_v g) (as.reverse ++ s9))) (s9.map (g_v g)) (g_Q g h (fun v h' => m_psh s9 v (fun s' => X r ls s' h')) M.2.2.2.2.2.2.2.1.1 M.2.2.2.2.2.2.2.1.2 (as.map (g_v g)).toArray) (g_A g) := by
    rcases hli with hli | ⟨host, hli⟩
    · refine va_runS (As := as.map (g_v g)) (index := i) (own := m_cn o) (cc := cc) (nL := nL) (Ts := Ts) (ws := m_ws M) (bytes := M.2.1) (maxL := M.2.2.1) (ret := M.2.2.2.1) (n := n) ⟨hx, hb, hml, hown, hTs⟩ hM (va_cwS n hTs ?_ rfl rfl rfl hnp hRR) ⟨g_S.blind, g_pre C I hsz as⟩ rfl (by simp [hal]) hla hstk (lv_room (by rw [g_v_cats]; exact hsum)) hd hcs
      intro w hw
      rcases List.mem_append.mp hw with q | q
      · simp only [List.mem_cons, List.not_mem_nil, or_false] at q
        rcases q with rfl | rfl | rfl
        · exact hgw _ hli
        · exact hgw _ hst
        · exact hgw _ g3
      · exact hgood M g2 w q
    · exact va_runSN (As := as.map (g_v g)) (index := i) (own := m_cn o) (host := host) (cc := cc) (nL := nL) (Ts := Ts) (ws := m_ws M) (bytes := M.2.1) (maxL := M.2.2.1) (ret := M.2.2.2.1) (n := n) ⟨hx, hb, hml, hown, hTs⟩ hM ⟨va_cnB n hTs (hgood M g2) rfl rfl rfl (hNw.1 (o, i, M.1, host) hli) (hts _ g3) hnp hRR, hts _ hst, trivial⟩ ⟨g_S.blind, g_pre C I hsz as⟩ rfl (by simp [hal]) hla hstk (lv_room (by rw [g_v_cats]; exact hsum)) hd hcs
  exact k_run hbase I hb0 hrun (fun v h' hv => m_psh_mono (fun s' q => hN _ _ _ q) hv)
end Sound
section Sound
variable {p : Program} {l : Launch} {e : Env} {R : Room} {s : State} {m : MethodId} {args : Array Value} {below : List Frame} {meth : Method} {c : Code} {Q : State → Prop}
variable {g : mG} {cc : ByteArray} {o nL n0 s0 : Nat} {ii : Bool} {B : Option (Nat × Nat)} {P r : List mI}
set_option maxHeartbeats 4000000 in
theorem gc_2 {FL : List (Nat × Nat × Nat × Nat)} {SL CL : List (Nat × Nat × Nat)} {KI : List (Nat × Nat × Int32)} {KL : List (Nat × Nat × Int64)} {tab : List mM} {d : Nat} (hT : ∀ (k : Nat) (M : mM), tab[k]? = some M → m_good FL SL CL KI KL tab M)
    (hIH : ∀ (k : Nat) (M : mM) (as : List Value) (h : mH) (R' : Option Value → mH → Prop), tab[k]? = some M → Run tab d (k + 6) as h R' → Met l M.1 (m_ws M) (m_rm d M) (g_P g as h) (g_Q g h R' M.2.2.2.2.2.2.2.1.1 M.2.2.2.2.2.2.2.1.2) M.2.2.2.2.2.2.2.1.1 M.2.2.2.2.2.2.2.1.2 (g_A g))
    (hIX : m_ixw) (C : g_Cx g p s m args meth c cc o ii) {Ts : List Cond} (hTs : ∀ w ∈ Ts, w.before args s = true) (hsub : ∀ w ∈ m_tb, w ∈ Ts) (hml : c.maxLocals = nL) (hz0 : s.heap.size = g.2.2.1 + (n0 - 5)) (hn0 : 5 ≤ n0) (hB : ∀ b, B = some b → b.1 ≤ n0 + R.cells ∧ b.2 ≤ s0 + R.slots) (hroom : g_room d R)
    {r : List mI} {ls : mL} {st : List Value} {h : mH} {X : List mI → mL → List Value → mH → Prop} {pc : Nat} {i k n ci : Nat} {M : mM} (hk : tab[k]? = some M) (hnp : m_np M.1 n) (hrc : M.2.2.2.2.2.2.1 = some ci) (hci : ci < 12) (hcn : m_cn ci = M.1.cls) (hli : Cond.methodLink (m_cn o) i M.1 ∈ m_tb) (hinm : Cond.instanceMethod M.1 ∈ m_tb) (hsel : Cond.selects M.1.cls M.1 M.1 ∈ m_tb) (hd : decode cc pc = .ok (.invokevirtual i, 3)) (H : m_inv B (Run tab d) [k + 6, n + 1, M.2.2.2.2.2.2.2.1.1, M.2.2.2.2.2.2.2.1.2] r ls st h X) (hN : ∀ ls st h, X r ls st h → g_K p l e R s m args below meth c Q g nL n0 s0 B (pc + 3) ls st h) : g_K p l e R s m args below meth c Q g nL n0 s0 B pc ls st h := by
  obtain ⟨hx, hb, hown, hts, hK, hbase, hZ, hin, hA1, hA2, hNw⟩ := id C
  obtain ⟨hr1, hr2⟩ := hroom
  have hgood : ∀ M : mM, Cond.code M.1 M.2.1 M.2.2.1 M.2.2.2.1 ∈ m_tb → GoodIn Ts (m_ws M) := by
    intro M hM w hw
    have hw2 : w ∈ m_tb := by
      rcases List.mem_cons.mp hw with rfl | h2
      · exact hM
      · exact h2
    exact ⟨hsub w hw2, good_of_word (m_tb_good w hw2)⟩
  have hgw : ∀ w ∈ m_tb, w ∈ Ts ∧ ((w.onTables && w.keeps) = true ∨ ∃ ty, w = .arrayClass ty) := fun w hw => ⟨hsub w hw, good_of_word (m_tb_good w hw)⟩
  obtain ⟨as, s9, rfl, hal, hsum, Hc⟩ := m_inv_spec H
  obtain ⟨Hc, hb0, hbs⟩ := m_call_spec Hc
  obtain ⟨g1, g2, g3, g4, g5, g6, g7, g8⟩ := hT k M hk
  intro HH locs cells slots la I
  refine w_size (fun hup => ?_)
  have hsz := g_size hz0 hn0 I hup
  have hM := hIH k M as h _ hk Hc
  have hcs : cells + M.2.2.2.2.2.2.2.1.1 ≤ R.cells ∧ slots + M.2.2.2.2.2.2.2.1.2 ≤ R.slots := by
    have i1 := I.2.2.2.1
    cases hBB : B with
    | none =>
      have a1 := I.2.2.2.2 hBB
      have a2 := hb0 hBB
      omega
    | some b =>
      have a1 := hB b hBB
      have a2 := hbs b hBB
      omega
  obtain ⟨q0, as, n9, rf9, rfl, hcell⟩ : ∃ (q0 : Nat) (as' : List Value) (n9 : Nat) (rf9 : List (Option Nat)), as = .ref q0 :: as' ∧ h.1[q0]? = some (ci, n9, rf9) := by
    exact run_recv hk hrc Hc
  have hstk : (List.map (g_v g) ((Value.ref q0 :: as).reverse ++ s9)) = (as.map (g_v g)).reverse ++ .ref (g_ad g q0) :: s9.map (g_v g) := by
    rw [List.map_append, List.map_reverse, List.map_cons, List.reverse_cons, List.append_assoc]
    rfl
  have hRR : (m_rm d M).frames + 1 ≤ R.frames ∧ 8 + (M.2.2.1 + 11) + (m_rm d M).locals ≤ R.locals := ⟨hr1, by show 8 + (M.2.2.1 + 11) + 49 * d ≤ _; omega⟩
  have hla : la.size = nL := I.2.1.2.1
  have hw0 := g_get I.1 hcell (show ci < 200 by omega)
  rw [g_e_o (show ci < 100 by omega)] at hw0
  have hrecv := va_recv hK I.1.1 (m_cls_at ci hci) hw0
  dsimp only at hrecv
  rw [hcn] at hrecv
  have hrun : va_Run p l e R s m args below meth c HH locs cells slots M.2.2.2.2.2.2.2.1.1 M.2.2.2.2.2.2.2.1.2 (F0 m pc la (List.map (g_v g) ((Value.ref q0 :: as).reverse ++ s9))) (s9.map (g_v g)) (g_Q g h (fun v h' => m_psh s9 v (fun s' => X r ls s' h')) M.2.2.2.2.2.2.2.1.1 M.2.2.2.2.2.2.2.1.2 (Value.ref (g_ad g q0) :: as.map (g_v g)).toArray) (g_A g) := by
    refine va_runV (As := as.map (g_v g)) (index := i) (own := m_cn o) (C := M.1.cls) (cc := cc) (nL := nL) (Ts := Ts) (ws := m_ws M) (bytes := M.2.1) (maxL := M.2.2.1) (ret := M.2.2.2.1) (n := n) ⟨hx, hb, hml, hown, hTs⟩ hM (cwV n hTs ?_ rfl rfl rfl ⟨rfl, hnp⟩ hRR) ⟨g_S.blind, hrecv, g_pre C I hsz (.ref q0 :: as)⟩ rfl (by simp at hal ⊢; omega) hla hstk (lv_room (by rw [g_v_cats]; exact hsum)) hd hcs
    intro w hw
    rcases List.mem_append.mp hw with q | q
    · simp only [List.mem_cons, List.not_mem_nil, or_false] at q
      rcases q with rfl | rfl | rfl | rfl
      · exact hgw _ hli
      · exact hgw _ hinm
      · exact hgw _ hsel
      · exact hgw _ g3
    · exact hgood M g2 w q
  exact k_run hbase I hb0 hrun (fun v h' hv => m_psh_mono (fun s' q => hN _ _ _ q) hv)
end Sound
section Sound
variable {p : Program} {l : Launch} {e : Env} {R : Room} {s : State} {m : MethodId} {args : Array Value} {below : List Frame} {meth : Method} {c : Code} {Q : State → Prop}
variable {g : mG} {cc : ByteArray} {o nL n0 s0 : Nat} {ii : Bool} {B : Option (Nat × Nat)} {P r : List mI}
set_option maxHeartbeats 4000000 in
theorem gc_3 {FL : List (Nat × Nat × Nat × Nat)} {SL CL : List (Nat × Nat × Nat)} {KI : List (Nat × Nat × Int32)} {KL : List (Nat × Nat × Int64)} {tab : List mM} {d : Nat} (hT : ∀ (k : Nat) (M : mM), tab[k]? = some M → m_good FL SL CL KI KL tab M)
    (hIH : ∀ (k : Nat) (M : mM) (as : List Value) (h : mH) (R' : Option Value → mH → Prop), tab[k]? = some M → Run tab d (k + 6) as h R' → Met l M.1 (m_ws M) (m_rm d M) (g_P g as h) (g_Q g h R' M.2.2.2.2.2.2.2.1.1 M.2.2.2.2.2.2.2.1.2) M.2.2.2.2.2.2.2.1.1 M.2.2.2.2.2.2.2.1.2 (g_A g))
    (hIX : m_ixw) (C : g_Cx g p s m args meth c cc o ii) {Ts : List Cond} (hTs : ∀ w ∈ Ts, w.before args s = true) (hsub : ∀ w ∈ m_tb, w ∈ Ts) (hml : c.maxLocals = nL) (hz0 : s.heap.size = g.2.2.1 + (n0 - 5)) (hn0 : 5 ≤ n0) (hB : ∀ b, B = some b → b.1 ≤ n0 + R.cells ∧ b.2 ≤ s0 + R.slots) (hroom : g_room d R)
    {r : List mI} {ls : mL} {st : List Value} {h : mH} {X : List mI → mL → List Value → mH → Prop} {pc : Nat} {i k n ci : Nat} {M : mM} (hk : tab[k]? = some M) (hnp : m_np M.1 n) (hrc : M.2.2.2.2.2.2.1 = some ci) (hnm : M.1.name = "<init>") (hret : M.2.2.2.1 = none) (hinm : Cond.instanceMethod M.1 ∈ m_tb) (hli : (Cond.methodLink (m_cn o) i M.1 ∈ m_tb ∨ ∃ host, (o, i, M.1, host) ∈ m_NL)) (hd : decode cc pc = .ok (.invokespecial i, 3)) (H : m_inv B (Run tab d) [k + 6, n + 1, M.2.2.2.2.2.2.2.1.1, M.2.2.2.2.2.2.2.1.2] r ls st h X) (hN : ∀ ls st h, X r ls st h → g_K p l e R s m args below meth c Q g nL n0 s0 B (pc + 3) ls st h) : g_K p l e R s m args below meth c Q g nL n0 s0 B pc ls st h := by
  obtain ⟨hx, hb, hown, hts, hK, hbase, hZ, hin, hA1, hA2, hNw⟩ := id C
  obtain ⟨hr1, hr2⟩ := hroom
  have hgood : ∀ M : mM, Cond.code M.1 M.2.1 M.2.2.1 M.2.2.2.1 ∈ m_tb → GoodIn Ts (m_ws M) := by
    intro M hM w hw
    have hw2 : w ∈ m_tb := by
      rcases List.mem_cons.mp hw with rfl | h2
      · exact hM
      · exact h2
    exact ⟨hsub w hw2, good_of_word (m_tb_good w hw2)⟩
  have hgw : ∀ w ∈ m_tb, w ∈ Ts ∧ ((w.onTables && w.keeps) = true ∨ ∃ ty, w = .arrayClass ty) := fun w hw => ⟨hsub w hw, good_of_word (m_tb_good w hw)⟩
  obtain ⟨as, s9, rfl, hal, hsum, Hc⟩ := m_inv_spec H
  obtain ⟨Hc, hb0, hbs⟩ := m_call_spec Hc
  obtain ⟨g1, g2, g3, g4, g5, g6, g7, g8⟩ := hT k M hk
  intro HH locs cells slots la I
  refine w_size (fun hup => ?_)
  have hsz := g_size hz0 hn0 I hup
  have hM := hIH k M as h _ hk Hc
  have hcs : cells + M.2.2.2.2.2.2.2.1.1 ≤ R.cells ∧ slots + M.2.2.2.2.2.2.2.1.2 ≤ R.slots := by
    have i1 := I.2.2.2.1
    cases hBB : B with
    | none =>
      have a1 := I.2.2.2.2 hBB
      have a2 := hb0 hBB
      omega
    | some b =>
      have a1 := hB b hBB
      have a2 := hbs b hBB
      omega
  obtain ⟨q0, as, n9, rf9, rfl, hcell⟩ : ∃ (q0 : Nat) (as' : List Value) (n9 : Nat) (rf9 : List (Option Nat)), as = .ref q0 :: as' ∧ h.1[q0]? = some (ci, n9, rf9) := by
    exact run_recv hk hrc Hc
  have hstk : (List.map (g_v g) ((Value.ref q0 :: as).reverse ++ s9)) = (as.map (g_v g)).reverse ++ .ref (g_ad g q0) :: s9.map (g_v g) := by
    rw [List.map_append, List.map_reverse, List.map_cons, List.reverse_cons, List.append_assoc]
    rfl
  have hRR : (m_rm d M).frames + 1 ≤ R.frames ∧ 8 + (M.2.2.1 + 11) + (m_rm d M).locals ≤ R.locals := ⟨hr1, by show 8 + (M.2.2.1 + 11) + 49 * d ≤ _; omega⟩
  have hla : la.size = nL := I.2.1.2.1
  have hwsM : m_ws M = Cond.code M.1 M.2.1 M.2.2.1 none :: m_tb := by rw [m_ws, hret]
  have hrun : va_Run p l e R s m args below meth c HH locs cells slots M.2.2.2.2.2.2.2.1.1 M.2.2.2.2.2.2.2.1.2 (F0 m pc la (List.map (g_v g) ((Value.ref q0 :: as).reverse ++ s9))) (s9.map (g_v g)) (g_Q g h (fun v h' => m_psh s9 v (fun s' => X r ls s' h')) M.2.2.2.2.2.2.2.1.1 M.2.2.2.2.2.2.2.1.2 (Value.ref (g_ad g q0) :: as.map (g_v g)).toArray) (g_A g) := by
    rcases hli with hli | ⟨host, hli⟩
    · exact va_runI (As := as.map (g_v g)) (index := i) (own := m_cn o) (cc := cc) (nL := nL) (Ts := Ts) (ws := m_ws M) (bytes := M.2.1) (maxL := M.2.2.1) (n := n) ⟨hx, hb, hml, hown, hTs⟩ hM (cwI n hTs (hgood M g2) hwsM rfl rfl (hts _ g3) (hts _ hli) (hts _ hinm) hnm hnp hRR) ⟨g_S.blind, g_pre C I hsz (.ref q0 :: as)⟩ rfl (by simp at hal ⊢; omega) hla hstk (lv_room (by rw [g_v_cats]; exact hsum)) hd hcs
    · exact va_runIN (As := as.map (g_v g)) (index := i) (own := m_cn o) (host := host) (cc := cc) (nL := nL) (Ts := Ts) (ws := m_ws M) (bytes := M.2.1) (maxL := M.2.2.1) (n := n) ⟨hx, hb, hml, hown, hTs⟩ hM ⟨va_cnB n hTs (hgood M g2) hwsM rfl rfl (hNw.1 (o, i, M.1, host) hli) (hts _ g3) hnp hRR, hnm, hts _ hinm⟩ ⟨g_S.blind, g_pre C I hsz (.ref q0 :: as)⟩ rfl (by simp at hal ⊢; omega) hla hstk (lv_room (by rw [g_v_cats]; exact hsum)) hd hcs
  exact k_run hbase I hb0 hrun (fun v h' hv => m_psh_mono (fun s' q => hN _ _ _ q) hv)
end Sound
section Sound
variable {p : Program} {l : Launch} {e : Env} {R : Room} {s : State} {m : MethodId} {args : Array Value} {below : List Frame} {meth : Method} {c : Code} {Q : State → Prop}
variable {g : mG} {cc : ByteArray} {o nL n0 s0 : Nat} {ii : Bool} {B : Option (Nat × Nat)} {P r : List mI}
set_option maxHeartbeats 4000000 in
theorem gc_4 {FL : List (Nat × Nat × Nat × Nat)} {SL CL : List (Nat × Nat × Nat)} {KI : List (Nat × Nat × Int32)} {KL : List (Nat × Nat × Int64)} {tab : List mM} {d : Nat} (hT : ∀ (k : Nat) (M : mM), tab[k]? = some M → m_good FL SL CL KI KL tab M)
    (hIH : ∀ (k : Nat) (M : mM) (as : List Value) (h : mH) (R' : Option Value → mH → Prop), tab[k]? = some M → Run tab d (k + 6) as h R' → Met l M.1 (m_ws M) (m_rm d M) (g_P g as h) (g_Q g h R' M.2.2.2.2.2.2.2.1.1 M.2.2.2.2.2.2.2.1.2) M.2.2.2.2.2.2.2.1.1 M.2.2.2.2.2.2.2.1.2 (g_A g))
    (hIX : m_ixw) (C : g_Cx g p s m args meth c cc o ii) {Ts : List Cond} (hTs : ∀ w ∈ Ts, w.before args s = true) (hsub : ∀ w ∈ m_tb, w ∈ Ts) (hml : c.maxLocals = nL) (hz0 : s.heap.size = g.2.2.1 + (n0 - 5)) (hn0 : 5 ≤ n0) (hB : ∀ b, B = some b → b.1 ≤ n0 + R.cells ∧ b.2 ≤ s0 + R.slots) (hroom : g_room d R)
    {r : List mI} {ls : mL} {st : List Value} {h : mH} {X : List mI → mL → List Value → mH → Prop} {pc : Nat} {i : Nat} (hli : Cond.methodLink (m_cn o) i Lib.objectInit ∈ m_tb) (hinm : Cond.instanceMethod Lib.objectInit ∈ m_tb) (hco : Cond.code Lib.objectInit ⟨#[0xb1]⟩ 1 none ∈ m_tb) (hd : decode cc pc = .ok (.invokespecial i, 3)) (H : m_inv B (Run tab d) [0, 1, 0, 0] r ls st h X) (hN : ∀ ls st h, X r ls st h → g_K p l e R s m args below meth c Q g nL n0 s0 B (pc + 3) ls st h) : g_K p l e R s m args below meth c Q g nL n0 s0 B pc ls st h := by
  obtain ⟨hx, hb, hown, hts, hK, hbase, hZ, hin, hA1, hA2, hNw⟩ := id C
  obtain ⟨hr1, hr2⟩ := hroom
  have hgood : ∀ M : mM, Cond.code M.1 M.2.1 M.2.2.1 M.2.2.2.1 ∈ m_tb → GoodIn Ts (m_ws M) := by
    intro M hM w hw
    have hw2 : w ∈ m_tb := by
      rcases List.mem_cons.mp hw with rfl | h2
      · exact hM
      · exact h2
    exact ⟨hsub w hw2, good_of_word (m_tb_good w hw2)⟩
  have hgw : ∀ w ∈ m_tb, w ∈ Ts ∧ ((w.onTables && w.keeps) = true ∨ ∃ ty, w = .arrayClass ty) := fun w hw => ⟨hsub w hw, good_of_word (m_tb_good w hw)⟩
  obtain ⟨as, s9, rfl, hal, hsum, Hc⟩ := m_inv_spec H
  obtain ⟨Hc, hb0, hbs⟩ := m_call_spec Hc
  intro HH locs cells slots la I
  cases d with
  | zero => exact Hc.elim
  | succ d =>
    match as, hal, Hc with
    | [.ref q0], hal, Hc =>
      have Hc : X r ls s9 h := Hc
      refine W.objInit (a := g_ad g q0) (rest := s9.map (g_v g)) hx hb hown (hts _ hli) (hts _ hinm) (hts _ hco) rfl (by rw [hml]; exact I.2.1.2.1) rfl hd (by omega) ?_ (hN _ _ _ Hc _ _ _ _ _ I)
      have := lv_room (m := m) (pc := pc) (ls := la) (rest := List.map (g_v g) ([Value.ref q0].reverse ++ s9)) (st := s9.map (g_v g)) (by rw [g_v_cats]; exact hsum)
      omega
    | [.int _], _, Hc => exact Hc.elim
    | [.long _], _, Hc => exact Hc.elim
    | [.float _], _, Hc => exact Hc.elim
    | [.double _], _, Hc => exact Hc.elim
    | [.null], _, Hc => exact Hc.elim
    | [.retAddr _], _, Hc => exact Hc.elim
end Sound
section Sound
variable {p : Program} {l : Launch} {e : Env} {R : Room} {s : State} {m : MethodId} {args : Array Value} {below : List Frame} {meth : Method} {c : Code} {Q : State → Prop}
variable {g : mG} {cc : ByteArray} {o nL n0 s0 : Nat} {ii : Bool} {B : Option (Nat × Nat)} {P r : List mI}
set_option maxHeartbeats 4000000 in
theorem gc_5 {FL : List (Nat × Nat × Nat × Nat)} {SL CL : List (Nat × Nat × Nat)} {KI : List (Nat × Nat × Int32)} {KL : List (Nat × Nat × Int64)} {tab : List mM} {d : Nat} (hT : ∀ (k : Nat) (M : mM), tab[k]? = some M → m_good FL SL CL KI KL tab M)
    (hIH : ∀ (k : Nat) (M : mM) (as : List Value) (h : mH) (R' : Option Value → mH → Prop), tab[k]? = some M → Run tab d (k + 6) as h R' → Met l M.1 (m_ws M) (m_rm d M) (g_P g as h) (g_Q g h R' M.2.2.2.2.2.2.2.1.1 M.2.2.2.2.2.2.2.1.2) M.2.2.2.2.2.2.2.1.1 M.2.2.2.2.2.2.2.1.2 (g_A g))
    (hIX : m_ixw) (C : g_Cx g p s m args meth c cc o ii) {Ts : List Cond} (hTs : ∀ w ∈ Ts, w.before args s = true) (hsub : ∀ w ∈ m_tb, w ∈ Ts) (hml : c.maxLocals = nL) (hz0 : s.heap.size = g.2.2.1 + (n0 - 5)) (hn0 : 5 ≤ n0) (hB : ∀ b, B = some b → b.1 ≤ n0 + R.cells ∧ b.2 ≤ s0 + R.slots) (hroom : g_room d R)
    {r : List mI} {ls : mL} {st : List Value} {h : mH} {X : List mI → mL → List Value → mH → Prop} {pc : Nat} {i : Nat} (hli : Cond.methodLink (m_cn o) i arraycopyName ∈ m_tb) (hna : Cond.native arraycopyName ∈ m_tb) (hst : Cond.static arraycopyName ∈ m_tb) (hini : Cond.initialized "java/lang/System" ∈ m_tb) (hd : decode cc pc = .ok (.invokestatic i, 3)) (H : m_inv B (Run tab d) [1, 5, 0, 0] r ls st h X) (hN : ∀ ls st h, X r ls st h → g_K p l e R s m args below meth c Q g nL n0 s0 B (pc + 3) ls st h) : g_K p l e R s m args below meth c Q g nL n0 s0 B pc ls st h := by
  obtain ⟨hx, hb, hown, hts, hK, hbase, hZ, hin, hA1, hA2, hNw⟩ := id C
  obtain ⟨hr1, hr2⟩ := hroom
  have hgood : ∀ M : mM, Cond.code M.1 M.2.1 M.2.2.1 M.2.2.2.1 ∈ m_tb → GoodIn Ts (m_ws M) := by
    intro M hM w hw
    have hw2 : w ∈ m_tb := by
      rcases List.mem_cons.mp hw with rfl | h2
      · exact hM
      · exact h2
    exact ⟨hsub w hw2, good_of_word (m_tb_good w hw2)⟩
  have hgw : ∀ w ∈ m_tb, w ∈ Ts ∧ ((w.onTables && w.keeps) = true ∨ ∃ ty, w = .arrayClass ty) := fun w hw => ⟨hsub w hw, good_of_word (m_tb_good w hw)⟩
  obtain ⟨as, s9, rfl, hal, hsum, Hc⟩ := m_inv_spec H
  obtain ⟨Hc, hb0, hbs⟩ := m_call_spec Hc
  intro HH locs cells slots la I
  cases d with
  | zero => exact Hc.elim
  | succ d =>
    have Hc : m_prim 1 as h (fun v h' => m_psh s9 v (fun s' => X r ls s' h')) := Hc
    obtain ⟨a, sp9, b, dp9, n9, t, na, ra, nb, rb, rfl, hca, htt, hcb, ⟨w1, w2, w3, w4, w5⟩, Hc⟩ := prim_copy Hc
    have Hc : X r ls s9 (h.1, m_cpy h.2.1 a b sp9.toNatClampNeg dp9.toNatClampNeg n9.toNatClampNeg, h.2.2) := Hc
    have h5b := g_new I.1.2 hcb (show (100 : Nat) < 200 by decide)
    have hwb := g_get I.1 hcb (show (100 : Nat) < 200 by decide)
    rw [g_e_i (Or.inl rfl)] at hwb
    have hloc : ((s9.map (g_v g)).map fun v => v.category).sum + (nativeFrameWords "java/lang/System" "arraycopy" 5 + 11) ≤ R.locals := by
      rw [g_v_cats]
      have : nativeFrameWords "java/lang/System" "arraycopy" 5 ≤ 20 := by decide
      omega
    have kk : ∀ (H1 : Heap) (locs1 : List Loc), va_P g.1 vwCl ((g_W g h).set (b - 5) (g_ad g b, .inl (g.2.1 100, nb, .inl (va_cpy (h.2.1 a) (h.2.1 b) sp9.toNatClampNeg dp9.toNatClampNeg n9.toNatClampNeg)))) H1 → va_D (g_A g) ((g_W g h).set (b - 5) (g_ad g b, .inl (g.2.1 100, nb, .inl (va_cpy (h.2.1 a) (h.2.1 b) sp9.toNatClampNeg dp9.toNatClampNeg n9.toNatClampNeg)))) → va_S (g_A g) s.heap H1 locs1 → W p l e R s m args below meth c H1 locs1 cells slots Q (F0 m (pc + 3) la (s9.map (g_v g))) := by
      intro H1 locs1 hP1 hD1 hS1
      refine hN _ _ _ Hc H1 locs1 cells slots la ⟨⟨?_, ?_⟩, I.2.1, hS1, I.2.2.2⟩
      · rw [g_W_cpy h5b hcb]
        exact hP1
      · exact g_O.put I.1.2 rfl (fun a9 ha9 => m_cpy_row (by omega)) (fun a9 ha9 => (hS1.low hbase ha9).trans (I.2.2.1.low hbase ha9).symm)
    rcases htt with htt | htt
    · subst htt
      have hwa := g_get I.1 hca (show (100 : Nat) < 200 by decide)
      rw [g_e_i (Or.inl rfl)] at hwa
      exact va_copyi (t0 := 0) (t1 := 0) (ty := .int) hx hb (hml.trans I.2.1.2.1.symm) hown (hts _ hli) (hts _ hna) (hts _ hst) (hts _ hini) hK I.1.1 g_D I.2.2.1 _ _ hwa hwb rfl rfl rfl w1 w2 w3 w4 w5 (fun _ _ => rfl) (by omega) hloc hd kk
    · subst htt
      have hk5 : a < 5 := by
        rcases Nat.lt_or_ge a 5 with q | q
        · exact q
        · have := (I.1.2.2.1 a _ hca).2.1 q
          simp at this
      have hX9 := I.1.2.2.2.2 a na ra hca
      have hlt := I.1.2.2.2.1 a hk5
      have := m_copyx (b0 := g.2.2.2 a) (t1 := 0) hx hb (hml.trans I.2.1.2.1.symm) hown (hts _ hli) (hts _ hna) (hts _ hst) (hts _ hini) hK I.1.1 g_D I.2.2.1 hX9 _ hwb rfl w1 w2 w3 w4 w5 (by omega) hloc hd kk
      rw [← g_ad_lt (g := g) hk5] at this
      exact this
end Sound
section Sound
variable {p : Program} {l : Launch} {e : Env} {R : Room} {s : State} {m : MethodId} {args : Array Value} {below : List Frame} {meth : Method} {c : Code} {Q : State → Prop}
variable {g : mG} {cc : ByteArray} {o nL n0 s0 : Nat} {ii : Bool} {B : Option (Nat × Nat)} {P r : List mI}
set_option maxHeartbeats 4000000 in
theorem gc_6 {FL : List (Nat × Nat × Nat × Nat)} {SL CL : List (Nat × Nat × Nat)} {KI : List (Nat × Nat × Int32)} {KL : List (Nat × Nat × Int64)} {tab : List mM} {d : Nat} (hT : ∀ (k : Nat) (M : mM), tab[k]? = some M → m_good FL SL CL KI KL tab M)
    (hIH : ∀ (k : Nat) (M : mM) (as : List Value) (h : mH) (R' : Option Value → mH → Prop), tab[k]? = some M → Run tab d (k + 6) as h R' → Met l M.1 (m_ws M) (m_rm d M) (g_P g as h) (g_Q g h R' M.2.2.2.2.2.2.2.1.1 M.2.2.2.2.2.2.2.1.2) M.2.2.2.2.2.2.2.1.1 M.2.2.2.2.2.2.2.1.2 (g_A g))
    (hIX : m_ixw) (C : g_Cx g p s m args meth c cc o ii) {Ts : List Cond} (hTs : ∀ w ∈ Ts, w.before args s = true) (hsub : ∀ w ∈ m_tb, w ∈ Ts) (hml : c.maxLocals = nL) (hz0 : s.heap.size = g.2.2.1 + (n0 - 5)) (hn0 : 5 ≤ n0) (hB : ∀ b, B = some b → b.1 ≤ n0 + R.cells ∧ b.2 ≤ s0 + R.slots) (hroom : g_room d R)
    {r : List mI} {ls : mL} {st : List Value} {h : mH} {X : List mI → mL → List Value → mH → Prop} {pc : Nat} {i : Nat} (hli : Cond.methodLink (m_cn o) i Jvm.Free.StrIndexOf.indexOf1N ∈ m_tb) (hd : decode cc pc = .ok (.invokevirtual i, 3)) (H : m_inv B (Run tab d) [2, 2, 0, 0] r ls st h X) (hN : ∀ ls st h, X r ls st h → g_K p l e R s m args below meth c Q g nL n0 s0 B (pc + 3) ls st h) : g_K p l e R s m args below meth c Q g nL n0 s0 B pc ls st h := by
  obtain ⟨hx, hb, hown, hts, hK, hbase, hZ, hin, hA1, hA2, hNw⟩ := id C
  obtain ⟨hr1, hr2⟩ := hroom
  have hgood : ∀ M : mM, Cond.code M.1 M.2.1 M.2.2.1 M.2.2.2.1 ∈ m_tb → GoodIn Ts (m_ws M) := by
    intro M hM w hw
    have hw2 : w ∈ m_tb := by
      rcases List.mem_cons.mp hw with rfl | h2
      · exact hM
      · exact h2
    exact ⟨hsub w hw2, good_of_word (m_tb_good w hw2)⟩
  have hgw : ∀ w ∈ m_tb, w ∈ Ts ∧ ((w.onTables && w.keeps) = true ∨ ∃ ty, w = .arrayClass ty) := fun w hw => ⟨hsub w hw, good_of_word (m_tb_good w hw)⟩
  obtain ⟨as, s9, rfl, hal, hsum, Hc⟩ := m_inv_spec H
  obtain ⟨Hc, hb0, hbs⟩ := m_call_spec Hc
  intro HH locs cells slots la I
  refine w_size (fun hup => ?_)
  have hsz := g_size hz0 hn0 I hup
  cases d with
  | zero => exact Hc.elim
  | succ d =>
    have Hc : m_ixc d as h (fun v h' => m_psh s9 v (fun s' => X r ls s' h')) := Hc
    obtain ⟨x, rfl, hd4, Hc⟩ := m_ixc_spec Hc
    have hcs : cells + 0 ≤ R.cells ∧ slots + 0 ≤ R.slots := by
      have i1 := I.2.2.2.1
      cases hBB : B with
      | none =>
        have a1 := I.2.2.2.2 hBB
        omega
      | some b =>
        have a1 := hB b hBB
        have a2 := hbs b hBB
        omega
    obtain ⟨x1, x2, x3, x4, x5⟩ := hIX
    have hla : la.size = nL := I.2.1.2.1
    have hstk : (List.map (g_v g) (([Value.ref 4, .int x]).reverse ++ s9)) = ([Value.int x]).reverse ++ .ref (g.2.2.2 4) :: s9.map (g_v g) := by
      rw [List.map_append]
      show [Value.int x, .ref (g_ad g 4)] ++ _ = _
      rw [g_ad_lt (by decide)]
      rfl
    have hRR : ix_rm.frames + 1 ≤ R.frames ∧ 8 + (ix_M.2.2.1 + 11) + ix_rm.locals ≤ R.locals := ⟨by show 4 + 1 ≤ _; omega, by show 8 + (2 + 11) + 160 ≤ _; omega⟩
    have hrecv : ∃ cell : Cell, HH[g.2.2.2 4]? = some cell ∧ cell.vm.isStatics = false ∧ s.vm.findClass "java/lang/String" = some cell.cls := by
      obtain ⟨cell, c1, c2, c3⟩ := hNw.2.recv
      obtain ⟨-, ⟨d9, cell9, arr9, -, -, ha9, -⟩, -⟩ := hNw.2
      refine ⟨cell, ?_, c2, c3⟩
      rw [I.2.2.1.low hbase (by have : ¬ g.2.2.1 ≤ g.2.2.2 4 := ha9; omega)]
      exact c1
    have hM : Met l ix_M.1 (m_ws ix_M) ix_rm (g_P g [.ref 4, .int x] h) (g_Q g h (fun v h' => m_psh s9 v (fun s' => X r ls s' h')) 0 0) 0 0 (g_A g) := by
      refine x5 l (g.2.2.2 4) (g_A g) (g_A g) x _ _ (fun v U hp => ⟨?_, hp.2.2.2.2.2.2.2.2⟩) (fun v st t hp hh hal9 => ?_)
      · rw [hp.1]
        show #[Value.ref (g_ad g 4), .int x] = _
        rw [g_ad_lt (by decide)]
      · refine ⟨some (.int (m_let x)), h, Hc, rfl, ?_, ⟨by rw [hh]; exact Nat.le_refl _, fun q _ _ => by rw [hh]⟩, rfl, rfl⟩
        rw [hh]
        exact g_R.moved hal9 hp.2.1
    have hrun : va_Run p l e R s m args below meth c HH locs cells slots 0 0 (F0 m pc la (List.map (g_v g) (([Value.ref 4, .int x]).reverse ++ s9))) (s9.map (g_v g)) (g_Q g h (fun v h' => m_psh s9 v (fun s' => X r ls s' h')) 0 0 (Value.ref (g.2.2.2 4) :: [Value.int x]).toArray) (g_A g) := by
      have hpre := g_pre C I hsz [.ref 4, .int x]
      have e9 : (([Value.ref 4, .int x]).map (g_v g)) = [Value.ref (g.2.2.2 4), .int x] := by
        show [Value.ref (g_ad g 4), .int x] = _
        rw [g_ad_lt (by decide)]
      rw [e9] at hpre
      refine va_runV (As := [Value.int x]) (index := i) (own := m_cn o) (C := "java/lang/String") (cc := cc) (nL := nL) (Ts := Ts) (ws := m_ws ix_M) (bytes := ix_M.2.1) (maxL := ix_M.2.2.1) (ret := ix_M.2.2.2.1) (n := 1) ⟨hx, hb, hml, hown, hTs⟩ hM (cwV 1 hTs ?_ rfl rfl rfl ⟨rfl, by decide, by decide, rfl⟩ hRR) ⟨g_S.blind, hrecv, hpre⟩ rfl rfl hla hstk (lv_room (by rw [g_v_cats]; exact hsum)) hd hcs
      intro w hw
      rcases List.mem_append.mp hw with q | q
      · simp only [List.mem_cons, List.not_mem_nil, or_false] at q
        rcases q with rfl | rfl | rfl | rfl
        · exact hgw _ hli
        · exact hgw _ x2
        · exact hgw _ x3
        · exact hgw _ x4
      · exact hgood ix_M x1 w q
    exact k_run hbase I hb0 hrun (fun v h' hv => m_psh_mono (fun s' q => hN _ _ _ q) hv)
end Sound
section Sound
variable {p : Program} {l : Launch} {e : Env} {R : Room} {s : State} {m : MethodId} {args : Array Value} {below : List Frame} {meth : Method} {c : Code} {Q : State → Prop}
variable {g : mG} {cc : ByteArray} {o nL n0 s0 : Nat} {ii : Bool} {B : Option (Nat × Nat)} {P r : List mI}
set_option maxHeartbeats 4000000 in
theorem gc_7 {FL : List (Nat × Nat × Nat × Nat)} {SL CL : List (Nat × Nat × Nat)} {KI : List (Nat × Nat × Int32)} {KL : List (Nat × Nat × Int64)} {tab : List mM} {d : Nat} (hT : ∀ (k : Nat) (M : mM), tab[k]? = some M → m_good FL SL CL KI KL tab M)
    (hIH : ∀ (k : Nat) (M : mM) (as : List Value) (h : mH) (R' : Option Value → mH → Prop), tab[k]? = some M → Run tab d (k + 6) as h R' → Met l M.1 (m_ws M) (m_rm d M) (g_P g as h) (g_Q g h R' M.2.2.2.2.2.2.2.1.1 M.2.2.2.2.2.2.2.1.2) M.2.2.2.2.2.2.2.1.1 M.2.2.2.2.2.2.2.1.2 (g_A g))
    (hIX : m_ixw) (C : g_Cx g p s m args meth c cc o ii) {Ts : List Cond} (hTs : ∀ w ∈ Ts, w.before args s = true) (hsub : ∀ w ∈ m_tb, w ∈ Ts) (hml : c.maxLocals = nL) (hz0 : s.heap.size = g.2.2.1 + (n0 - 5)) (hn0 : 5 ≤ n0) (hB : ∀ b, B = some b → b.1 ≤ n0 + R.cells ∧ b.2 ≤ s0 + R.slots) (hroom : g_room d R)
    {r : List mI} {ls : mL} {st : List Value} {h : mH} {X : List mI → mL → List Value → mH → Prop} {pc : Nat} {i : Nat} (hli : Cond.methodLink (m_cn o) i Lib.Math.max.name ∈ m_tb) (hst : Cond.static Lib.Math.max.name ∈ m_tb) (hini : Cond.initialized "java/lang/Math" ∈ m_tb) (hco : Cond.code Lib.Math.max.name Lib.Math.max.code 2 (some .int) ∈ m_tb) (hd : decode cc pc = .ok (.invokestatic i, 3)) (H : m_inv B (Run tab d) [3, 2, 0, 0] r ls st h X) (hN : ∀ ls st h, X r ls st h → g_K p l e R s m args below meth c Q g nL n0 s0 B (pc + 3) ls st h) : g_K p l e R s m args below meth c Q g nL n0 s0 B pc ls st h := by
  obtain ⟨hx, hb, hown, hts, hK, hbase, hZ, hin, hA1, hA2, hNw⟩ := id C
  obtain ⟨hr1, hr2⟩ := hroom
  have hgood : ∀ M : mM, Cond.code M.1 M.2.1 M.2.2.1 M.2.2.2.1 ∈ m_tb → GoodIn Ts (m_ws M) := by
    intro M hM w hw
    have hw2 : w ∈ m_tb := by
      rcases List.mem_cons.mp hw with rfl | h2
      · exact hM
      · exact h2
    exact ⟨hsub w hw2, good_of_word (m_tb_good w hw2)⟩
  have hgw : ∀ w ∈ m_tb, w ∈ Ts ∧ ((w.onTables && w.keeps) = true ∨ ∃ ty, w = .arrayClass ty) := fun w hw => ⟨hsub w hw, good_of_word (m_tb_good w hw)⟩
  obtain ⟨as, s9, rfl, hal, hsum, Hc⟩ := m_inv_spec H
  obtain ⟨Hc, hb0, hbs⟩ := m_call_spec Hc
  intro HH locs cells slots la I
  cases d with
  | zero => exact Hc.elim
  | succ d =>
    have Hc : m_prim 3 as h (fun v h' => m_psh s9 v (fun s' => X r ls s' h')) := Hc
    obtain ⟨x, y, rfl, Hc⟩ := prim_max Hc
    have hcs : cells ≤ R.cells ∧ slots ≤ R.slots := by
      have i1 := I.2.2.2.1
      cases hBB : B with
      | none =>
        have a1 := I.2.2.2.2 hBB
        omega
      | some b =>
        have a1 := hB b hBB
        have a2 := hbs b hBB
        omega
    exact va_mmax (x := x) (y := y) (rest := s9.map (g_v g)) hx hb (hml.trans I.2.1.2.1.symm) hown (hts _ hli) (hts _ hst) (hts _ hini) (hts _ hco) (by omega) (by rw [g_v_cats]; omega) hcs.1 hcs.2 hd (hN _ _ _ Hc _ _ _ _ _ I)
end Sound
section Sound
variable {p : Program} {l : Launch} {e : Env} {R : Room} {s : State} {m : MethodId} {args : Array Value} {below : List Frame} {meth : Method} {c : Code} {Q : State → Prop}
variable {g : mG} {cc : ByteArray} {o nL n0 s0 : Nat} {ii : Bool} {B : Option (Nat × Nat)} {P r : List mI}
set_option maxHeartbeats 4000000 in
theorem gc_8 {FL : List (Nat × Nat × Nat × Nat)} {SL CL : List (Nat × Nat × Nat)} {KI : List (Nat × Nat × Int32)} {KL : List (Nat × Nat × Int64)} {tab : List mM} {d : Nat} (hT : ∀ (k : Nat) (M : mM), tab[k]? = some M → m_good FL SL CL KI KL tab M)
    (hIH : ∀ (k : Nat) (M : mM) (as : List Value) (h : mH) (R' : Option Value → mH → Prop), tab[k]? = some M → Run tab d (k + 6) as h R' → Met l M.1 (m_ws M) (m_rm d M) (g_P g as h) (g_Q g h R' M.2.2.2.2.2.2.2.1.1 M.2.2.2.2.2.2.2.1.2) M.2.2.2.2.2.2.2.1.1 M.2.2.2.2.2.2.2.1.2 (g_A g))
    (hIX : m_ixw) (C : g_Cx g p s m args meth c cc o ii) {Ts : List Cond} (hTs : ∀ w ∈ Ts, w.before args s = true) (hsub : ∀ w ∈ m_tb, w ∈ Ts) (hml : c.maxLocals = nL) (hz0 : s.heap.size = g.2.2.1 + (n0 - 5)) (hn0 : 5 ≤ n0) (hB : ∀ b, B = some b → b.1 ≤ n0 + R.cells ∧ b.2 ≤ s0 + R.slots) (hroom : g_room d R)
    {r : List mI} {ls : mL} {st : List Value} {h : mH} {X : List mI → mL → List Value → mH → Prop} {pc : Nat} {i : Nat} (hli : Cond.methodLink (m_cn o) i Lib.Math.min.name ∈ m_tb) (hst : Cond.static Lib.Math.min.name ∈ m_tb) (hini : Cond.initialized "java/lang/Math" ∈ m_tb) (hco : Cond.code Lib.Math.min.name Lib.Math.min.code 2 (some .int) ∈ m_tb) (hd : decode cc pc = .ok (.invokestatic i, 3)) (H : m_inv B (Run tab d) [4, 2, 0, 0] r ls st h X) (hN : ∀ ls st h, X r ls st h → g_K p l e R s m args below meth c Q g nL n0 s0 B (pc + 3) ls st h) : g_K p l e R s m args below meth c Q g nL n0 s0 B pc ls st h := by
  obtain ⟨hx, hb, hown, hts, hK, hbase, hZ, hin, hA1, hA2, hNw⟩ := id C
  obtain ⟨hr1, hr2⟩ := hroom
  have hgood : ∀ M : mM, Cond.code M.1 M.2.1 M.2.2.1 M.2.2.2.1 ∈ m_tb → GoodIn Ts (m_ws M) := by
    intro M hM w hw
    have hw2 : w ∈ m_tb := by
      rcases List.mem_cons.mp hw with rfl | h2
      · exact hM
      · exact h2
    exact ⟨hsub w hw2, good_of_word (m_tb_good w hw2)⟩
  have hgw : ∀ w ∈ m_tb, w ∈ Ts ∧ ((w.onTables && w.keeps) = true ∨ ∃ ty, w = .arrayClass ty) := fun w hw => ⟨hsub w hw, good_of_word (m_tb_good w hw)⟩
  obtain ⟨as, s9, rfl, hal, hsum, Hc⟩ := m_inv_spec H
  obtain ⟨Hc, hb0, hbs⟩ := m_call_spec Hc
  intro HH locs cells slots la I
  cases d with
  | zero => exact Hc.elim
  | succ d =>
    have Hc : m_prim 4 as h (fun v h' => m_psh s9 v (fun s' => X r ls s' h')) := Hc
    obtain ⟨x, y, rfl, Hc⟩ := prim_min Hc
    have hcs : cells ≤ R.cells ∧ slots ≤ R.slots := by
      have i1 := I.2.2.2.1
      cases hBB : B with
      | none =>
        have a1 := I.2.2.2.2 hBB
        omega
      | some b =>
        have a1 := hB b hBB
        have a2 := hbs b hBB
        omega
    exact va_mmin (x := x) (y := y) (rest := s9.map (g_v g)) hx hb (hml.trans I.2.1.2.1.symm) hown (hts _ hli) (hts _ hst) (hts _ hini) (hts _ hco) (by omega) (by rw [g_v_cats]; omega) hcs.1 hcs.2 hd (hN _ _ _ Hc _ _ _ _ _ I)
end Sound
section Sound
variable {p : Program} {l : Launch} {e : Env} {R : Room} {s : State} {m : MethodId} {args : Array Value} {below : List Frame} {meth : Method} {c : Code} {Q : State → Prop}
variable {g : mG} {cc : ByteArray} {o nL n0 s0 : Nat} {ii : Bool} {B : Option (Nat × Nat)} {P r : List mI}
set_option maxHeartbeats 4000000 in
theorem g_calls_ok {FL : List (Nat × Nat × Nat × Nat)} {SL CL : List (Nat × Nat × Nat)} {KI : List (Nat × Nat × Int32)} {KL : List (Nat × Nat × Int64)} {tab : List mM} {d : Nat} (hT : ∀ (k : Nat) (M : mM), tab[k]? = some M → m_good FL SL CL KI KL tab M)
    (hIH : ∀ (k : Nat) (M : mM) (as : List Value) (h : mH) (R' : Option Value → mH → Prop), tab[k]? = some M → Run tab d (k + 6) as h R' → Met l M.1 (m_ws M) (m_rm d M) (g_P g as h) (g_Q g h R' M.2.2.2.2.2.2.2.1.1 M.2.2.2.2.2.2.2.1.2) M.2.2.2.2.2.2.2.1.1 M.2.2.2.2.2.2.2.1.2 (g_A g))
    (hIX : m_ixw) (C : g_Cx g p s m args meth c cc o ii) {Ts : List Cond} (hTs : ∀ w ∈ Ts, w.before args s = true) (hsub : ∀ w ∈ m_tb, w ∈ Ts) (hml : c.maxLocals = nL) (hz0 : s.heap.size = g.2.2.1 + (n0 - 5)) (hn0 : 5 ≤ n0) (hB : ∀ b, B = some b → b.1 ≤ n0 + R.cells ∧ b.2 ≤ s0 + R.slots) (hroom : g_room d R)
    {chk : mI → Bool} (hF : m_fits cc chk P) (hlen : ∀ e0, chk e0 = true → (∃ k, e0.2.2.2.1 = .invokestatic k ∨ e0.2.2.2.1 = .invokevirtual k ∨ e0.2.2.2.1 = .invokespecial k) → e0.2.2.2.2.1 = 3)
    (hsite : ∀ (i : Nat) (e0 : mI), P[i]? = some e0 → (∃ k, e0.2.2.2.1 = .invokestatic k ∨ e0.2.2.2.1 = .invokevirtual k ∨ e0.2.2.2.1 = .invokespecial k) → m_site tab o e0.2.2.2.1 e0.2.2.2.2.2.1) :
    g_calls p l e R s m args below meth c Q g nL n0 s0 B (Run tab d) P := by
  intro i0 e0 hat hinv r ls st h X H hN
  obtain ⟨hx, hb, hown, hts, hK, hbase, hZ, hin, hA1, hA2, hNw⟩ := id C
  obtain ⟨-, hck, hd, -⟩ := hF i0 e0 hat
  have hl3 := hlen e0 hck hinv
  have hs := hsite i0 e0 hat hinv
  obtain ⟨sp, ix, pc, ins, len, an, kv, kl⟩ := e0
  dsimp only at hl3 hs H hN hd ⊢
  subst hl3
  rcases hs with ⟨i, k, n, M, rfl, rfl, hk, hnp, hst, hli⟩ | ⟨i, k, n, ci, M, rfl, rfl, hk, hnp, hrc, hci, hcn, hli, hinm, hsel⟩ | ⟨i, k, n, ci, M, rfl, rfl, hk, hnp, hrc, hnm, hret, hinm, hli⟩ | ⟨i, rfl, rfl, hli, hinm, hco⟩ | ⟨i, rfl, rfl, hli, hna, hst, hini⟩ | ⟨i, rfl, rfl, hli⟩ | ⟨i, rfl, rfl, hli, hst, hini, hco⟩ | ⟨i, rfl, rfl, hli, hst, hini, hco⟩
  · exact gc_1 hT hIH hIX C hTs hsub hml hz0 hn0 hB hroom hk hnp hst hli hd H hN
  · exact gc_2 hT hIH hIX C hTs hsub hml hz0 hn0 hB hroom hk hnp hrc hci hcn hli hinm hsel hd H hN
  · exact gc_3 hT hIH hIX C hTs hsub hml hz0 hn0 hB hroom hk hnp hrc hnm hret hinm hli hd H hN
  · exact gc_4 hT hIH hIX C hTs hsub hml hz0 hn0 hB hroom hli hinm hco hd H hN
  · exact gc_5 hT hIH hIX C hTs hsub hml hz0 hn0 hB hroom hli hna hst hini hd H hN
  · exact gc_6 hT hIH hIX C hTs hsub hml hz0 hn0 hB hroom hli hd H hN
  · exact gc_7 hT hIH hIX C hTs hsub hml hz0 hn0 hB hroom hli hst hini hco hd H hN
  · exact gc_8 hT hIH hIX C hTs hsub hml hz0 hn0 hB hroom hli hst hini hco hd H hN
end Sound
