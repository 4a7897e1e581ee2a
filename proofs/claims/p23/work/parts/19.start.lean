/-! ===== THE START: the small heap at the law's entry ===== -/
def sh0 (L : Nat) : List mS := [(200, L, []), (200, 3, []), (200, 3, []), (200, 4, []), (201, 0, [])]
def sg0 (xs : Nat → Int32) : Nat → Nat → Int32 := fun a i => match a with
  | 0 => xs i
  | 1 => if i = 1 then 2 else 3
  | 2 => 1
  | 3 => if i = 3 then 2 else 0
  | _ => 0
def lawQ : Option Value → mH → Prop := fun v _ => v = some (.int 1)
def lawB (_ : Nat) : Nat × Nat := (227, 7517)
set_option maxHeartbeats 4000000 in
theorem start_known {s : State} {b : Nat} (hts : ∀ w ∈ m_tb, w.before #[Value.ref b] s = true) (h1 : (Cond.arrayOver (.array .int)).before #[Value.ref b] s = true) (h2 : (Cond.arrayOver (.array .long)).before #[Value.ref b] s = true) : ∃ (D : va_G) (dA : Nat → ClassId), ∀ (base : Nat) (ro : Nat → Nat), va_K D vwCl (g_tys (D, dA, base, ro)) s := by
  have hk : ∀ ci : Nat, ∃ q : ClassId × (Nat → Nat), ci < 12 → u_Kn s (m_cn ci) (m_T ci) (m_nf ci) q.1 q.2 := by
    intro ci
    by_cases h : ci < 12
    · obtain ⟨cC, iS, hh⟩ := u_known (n := m_nf ci) hts (mUW_ok ci h) (hts _ (mIN_ok ci h).1)
      exact ⟨(cC, iS), fun _ => hh⟩
    · exact ⟨(0, fun _ => 0), fun q => absurd q h⟩
  obtain ⟨a1, a2, a3, a4⟩ := mLk.2.2.2.2.2.2.2
  obtain ⟨c0, k0, e0, f0, g0, i0⟩ := Cond.arrayClass_spec (hts _ a1)
  obtain ⟨c1, k1, e1, f1, g1, i1⟩ := Cond.arrayClass_spec (hts _ a2)
  obtain ⟨c2, k2, e2, f2, g2, i2⟩ := Cond.arrayClass_spec (hts _ a3)
  obtain ⟨c3, k3, e3, f3, g3, i3⟩ := Cond.arrayClass_spec (hts _ a4)
  obtain ⟨e4, c4, k4, -, g4, i4, f4⟩ := Jvm.Cond.arrayOver_specA h1
  obtain ⟨e5, c5, k5, -, g5, i5, f5⟩ := Jvm.Cond.arrayOver_specA h2
  refine ⟨(fun ci => (Classical.choose (hk ci)).1, fun ci => (Classical.choose (hk ci)).2), fun t => if t = 100 then c0 else if t = 101 then c1 else if t = 102 then c2 else if t = 103 then c3 else if t = 104 then c4 else c5, fun base ro => ⟨fun ci q hq => ?_, fun k q hq => ?_⟩⟩
  · have hci : ci < 12 := (List.getElem?_eq_some_iff.mp hq).1
    have := m_cls_at ci hci
    rw [hq] at this
    cases this
    exact Classical.choose_spec (hk ci) hci
  · match k, hq with
    | 0, hq => cases hq; exact ⟨fun n z => ⟨(fun _ h => by cases h), k0, g0, e0, i0⟩, f0⟩
    | 1, hq => cases hq; exact ⟨fun n z => ⟨(fun _ h => by cases h), k1, g1, e1, i1⟩, f1⟩
    | 2, hq => cases hq; exact ⟨fun n z => ⟨(fun _ h => by cases h), k2, g2, e2, i2⟩, f2⟩
    | 3, hq => cases hq; exact ⟨fun n z => ⟨(fun _ h => by cases h), k3, g3, e3, i3⟩, f3⟩
    | 4, hq => cases hq; exact ⟨fun n z => ⟨(fun _ h => by cases h), k4, g4, e4, i4⟩, f4⟩
    | 5, hq => cases hq; exact ⟨fun n z => ⟨(fun _ h => by cases h), k5, g5, e5, i5⟩, f5⟩
    | k + 6, hq => simp [g_tys] at hq
theorem start_static {s : State} {b N : Nat} {nm : String} {f : Nat → Int32} (hN : N < 2 ^ 31) (hts : ∀ w ∈ lw_tbl, w.before #[Value.ref b] s = true) (hl : Cond.laysStatic "LifeList$Rules" nm "[I" ∈ lw_tbl) (hi : Cond.initialized "LifeList$Rules" ∈ lw_tbl)
    (ha : (Cond.arrayOf (.static "LifeList$Rules" nm "[I") .int).before #[Value.ref b] s = true) (hlen : (Cond.eq (.length (.static "LifeList$Rules" nm "[I")) (.int (Int32.ofNat N))).before #[Value.ref b] s = true) (hel : ∀ j, j < N → (Cond.eq (.elem (.static "LifeList$Rules" nm "[I") (.int (Int32.ofNat j))) (.int (f j))).before #[Value.ref b] s = true) :
    ∃ t, t < s.heap.size ∧ va_Z "LifeList$Rules" nm "[I" (.ref t) (fun q => s.heap.size ≤ q) s s.heap ∧ m_X t N f s s.heap := by
  have hA : ∀ a : Nat, a < s.heap.size → ¬ (fun q => s.heap.size ≤ q) a := fun a h => by show ¬ s.heap.size ≤ a; omega
  obtain ⟨t, ht, hT⟩ := va_Tof (f := fun j => .int (f j)) (A := fun q => s.heap.size ≤ q) hN ha (va_eqt hlen) (fun j hj => va_eqt (hel j hj)) hA
  obtain ⟨cell, h1, h2, h3, h4, h5, h6, h7⟩ := hT
  exact ⟨t, by have : ¬ s.heap.size ≤ t := h7; omega, va_Zref (hts _ hl) (hts _ hi) ht hA, cell, h1, h2, h3, ⟨h4, h5⟩, h6⟩
set_option maxHeartbeats 8000000 in
theorem start_of (hwp : ∀ (L : Nat) (xs : Nat → Int32), L ≤ 5120 → WPe pg_L_law (some (lawB L)) (Run mtab 10) lawQ pg_L_law (m_init 4 [.ref 0]) [] (sh0 L, sg0 xs, fun _ _ => 0))
    {p : Program} {e : Env} {s : State} {m : MethodId} {below : List Frame} {meth : Method} {c : Code} (l : Launch) {b L : Nat} {xs : Nat → Int32} (hL : L ≤ 5120) (C0 : lw_At p s m meth c b L xs) : W p l e room_1 s m #[Value.ref b] below meth c s.heap [] 0 0 (lw_Z below #[Value.ref b] s) (entryFrame m ([Value.ref b] : List Value).toArray 4) := by
  obtain ⟨hx, hb, hr, hml, hown, hts, hX, hbl, hlocks, hgv⟩ := id C0
  have htb : ∀ w ∈ m_tb, w.before #[Value.ref b] s = true := fun w hw => hts w (m_tb_mem.mp hw).1
  obtain ⟨D, dA, hK⟩ := start_known htb (hts _ lt_ao1) (hts _ lt_ao2)
  have hfl := flat_of_before _ hgv
  have hini : Cond.initialized "LifeList$Rules" ∈ lw_tbl := (m_tb_mem.mp (mIN_ok 6 (by decide)).2).1
  obtain ⟨t1, u1, z1, x1⟩ := start_static (N := 3) (f := sg0 (fun _ => 0) 1) (by decide) hts lt_AT_FIRST hini (hfl _ (by decide +kernel)) (hfl _ (by decide +kernel)) (fun j hj => by match j, hj with | 0, _ => exact hfl _ (by decide +kernel) | 1, _ => exact hfl _ (by decide +kernel) | 2, _ => exact hfl _ (by decide +kernel))
  obtain ⟨t2, u2, z2, x2⟩ := start_static (N := 3) (f := sg0 (fun _ => 0) 2) (by decide) hts lt_WITHOUT hini (hfl _ (by decide +kernel)) (hfl _ (by decide +kernel)) (fun j hj => by match j, hj with | 0, _ => exact hfl _ (by decide +kernel) | 1, _ => exact hfl _ (by decide +kernel) | 2, _ => exact hfl _ (by decide +kernel))
  obtain ⟨t3, u3, z3, x3⟩ := start_static (N := 4) (f := sg0 (fun _ => 0) 3) (by decide) hts lt_ABOVE hini (hfl _ (by decide +kernel)) (hfl _ (by decide +kernel)) (fun j hj => by match j, hj with | 0, _ => exact hfl _ (by decide +kernel) | 1, _ => exact hfl _ (by decide +kernel) | 2, _ => exact hfl _ (by decide +kernel) | 3, _ => exact hfl _ (by decide +kernel))
  obtain ⟨t4, u4, x4⟩ := start_lit (A := fun q => s.heap.size ≤ q) (fun a h => by show ¬ s.heap.size ≤ a; omega) (hts _ lt_sr) (hfl _ (by decide +kernel)) (hfl _ (by decide +kernel)) (hfl _ (by decide +kernel)) (hfl _ (by decide +kernel)) (fun j hj => by match j, hj with | 0, _ => exact hfl _ (by decide +kernel) | 1, _ => exact hfl _ (by decide +kernel) | 2, _ => exact hfl _ (by decide +kernel) | 3, _ => exact hfl _ (by decide +kernel)) (hts _ lt_cs) (htb _ sw_nS) (hfl _ (by decide +kernel))
  have x0 : m_X b L (sg0 xs 0) s s.heap := by
    obtain ⟨scr, h1, h2, h3, h4, h5⟩ := hX
    exact ⟨scr, h1, h2, h3, ⟨by omega, by rw [h4]⟩, h5⟩
  generalize hg : ((D, dA, s.heap.size, fun k => if k = 0 then b else if k = 1 then t1 else if k = 2 then t2 else if k = 3 then t3 else t4) : mG) = g
  have hg1 : g.2.2.1 = s.heap.size := by rw [← hg]
  have hg2 : g.2.2.2 = fun k => if k = 0 then b else if k = 1 then t1 else if k = 2 then t2 else if k = 3 then t3 else t4 := by rw [← hg]
  have hKg : va_K g.1 vwCl (g_tys g) s := by rw [← hg]; exact hK _ _
  have hAg : g_A g = fun q => s.heap.size ≤ q := by unfold g_A; rw [hg1]
  have hZ : ∀ z ∈ m_ST, va_Z z.1 z.2.1 z.2.2.1 (.ref (g.2.2.2 z.2.2.2)) (g_A g) s s.heap := by
    rw [hAg, hg2]
    exact List.forall_mem_cons.mpr ⟨z1, List.forall_mem_cons.mpr ⟨z2, List.forall_mem_cons.mpr ⟨z3, fun _ h => absurd h List.not_mem_nil⟩⟩⟩
  have Cx : g_Cx g p s m #[Value.ref b] meth c code 12 false := ⟨hx, hb, hown, htb, hKg, by omega, hZ, (fun q => by cases q), Jvm.Stand.arrayOver_alikeB (Vm.Alike.refl s.vm) (hts _ lt_ao1), Jvm.Stand.arrayOver_alikeB (Vm.Alike.refl s.vm) (hts _ lt_ao2), fun q hq => va_Nw.of rfl (hts _ (lt_nest q hq)), by rw [hAg, hg2]; exact x4⟩
  have hR0 : g_R g s (sh0 L, sg0 xs, fun _ _ => 0) s.heap := by
    refine ⟨fun k q hq => ?_, by simp [sh0], fun k c9 hc => ?_, fun k hk => ?_, fun k n r hc => ?_⟩
    · have := (List.getElem?_eq_some_iff.mp hq).1
      rw [g_W_length] at this
      simp [sh0] at this
    · match k, hc with
      | 0, hc => cases hc; exact ⟨fun _ => Nat.le_refl 200, fun q => by omega, fun q => absurd q (show ¬ (200 : Nat) < 100 by decide)⟩
      | 1, hc => cases hc; exact ⟨fun _ => by decide, fun q => by omega, fun q => absurd q (by decide)⟩
      | 2, hc => cases hc; exact ⟨fun _ => by decide, fun q => by omega, fun q => absurd q (by decide)⟩
      | 3, hc => cases hc; exact ⟨fun _ => by decide, fun q => by omega, fun q => absurd q (by decide)⟩
      | 4, hc => cases hc; exact ⟨fun _ => by decide, fun q => by omega, fun q => absurd q (by decide)⟩
      | k + 5, hc => simp [sh0] at hc
    · rw [hg2, hg1]
      match k, hk with
      | 0, _ => exact hbl
      | 1, _ => exact u1
      | 2, _ => exact u2
      | 3, _ => exact u3
      | 4, _ => exact u4
      | k + 5, hk => exact absurd hk (by omega)
    · rw [hg2]
      match k, hc with
      | 0, hc => cases hc; exact x0
      | 1, hc => cases hc; exact x1
      | 2, hc => cases hc; exact x2
      | 3, hc => cases hc; exact x3
      | 4, hc => simp [sh0] at hc
      | k + 5, hc => simp [sh0] at hc
  have hB : ∀ b9, some (lawB L) = some b9 → b9.1 ≤ 5 + room_1.cells ∧ b9.2 ≤ m_sz (sh0 L) + room_1.slots := by
    intro b9 hb9
    cases hb9
    exact ⟨show (227 : Nat) ≤ 5 + 600000 by decide, by show 7517 ≤ m_sz (sh0 L) + 7302250; omega⟩
  have hz0 : s.heap.size = g.2.2.1 + (5 - 5) := by omega
  have hF := m_fits_of law_lay
  have hC := g_calls_ok (l := l) (e := e) (R := room_1) (below := below) (Q := lw_Z below #[Value.ref b] s) (nL := 4) (n0 := 5) (s0 := m_sz (sh0 L)) (B := some (lawB L)) (P := pg_L_law) mtab_ok (run_met mLk ix_w mtab_ok l g 10) ix_w Cx htb (fun w hw => hw) hml hz0 (by decide) hB ⟨by decide, by decide⟩ hF m_chk1_len (fun i e0 he hi => m_chk2_inv (List.all_eq_true.mp law_sites e0 (List.mem_of_getElem? he)) hi)
  have hRt : g_rets p l e room_1 s m #[Value.ref b] below meth c (lw_Z below #[Value.ref b] s) g 4 5 (m_sz (sh0 L)) (some (lawB L)) lawQ pg_L_law := by
    intro i e0 he ls h9
    have hc2 := List.all_eq_true.mp law_sites e0 (List.mem_of_getElem? he)
    obtain ⟨-, hck, hd, -⟩ := hF i e0 he
    obtain ⟨sp, ix, pc, ins, len, an, kv, kl⟩ := e0
    dsimp only at hck hd ⊢
    refine ⟨fun hins x hx9 H9 => ?_, fun hins x H9 => ?_, fun hins H9 => ?_⟩
    · subst hins
      have hl1 := m_chk1_ret hck (Or.inl rfl)
      subst hl1
      obtain ⟨hQ, hbb⟩ := m_end_spec H9
      cases hQ
      intro HH locs cells slots la I
      have i1 := I.2.2.2.1
      have i2 := hbb _ rfl
      have i3 : (lawB L).1 = 227 := rfl
      have i4 : (lawB L).2 = 7517 := rfl
      refine va_forget (fun q hq => by have := I.2.2.1.2.2 q hq; rw [hAg] at this; exact this) ?_
      refine W.widen (k := 600000) (n := 7302250) (by omega) (by omega) ?_
      exact lw_ret hx hb hr hlocks hd
    · subst hins
      simp [m_chk2] at hc2
    · subst hins
      simp [m_chk2] at hc2
  have hbody := m_body (l := l) (e := e) (R := room_1) (below := below) (Q := lw_Z below #[Value.ref b] s) (nL := 4) (n0 := 5) (s0 := m_sz (sh0 L)) mLk Cx hz0 (by decide) hB hF hC hRt (hwp L xs hL)
  have hl := lv_entry ([.ref b]) (n := 4) (Nat.le_of_ble_eq_true rfl)
  rw [lg_entry_eq]
  generalize (lg_sl ([.ref b]) ++ List.replicate (4 - (lg_sl ([.ref b])).length) Slot.unset).toArray = la at hl ⊢
  have hgL : g_L g la 4 (m_init 4 [.ref 0]) := by
    refine ⟨m_init_len _ _, hl.1, hl.2.1, fun j w hj => ?_⟩
    have := m_ini_spec g 4 [.ref 0] 0 j w hj
    have e9 : ([Value.ref 0] : List Value).map (g_v g) = [.ref b] := by
      show [Value.ref (g_ad g 0)] = _
      rw [g_ad_lt (by decide), hg2]
      rfl
    rw [e9] at this
    have h9 := hl.2.2 _ this
    simpa using h9
  exact hbody ⟨0, rfl⟩ s.heap [] 0 0 la ⟨hR0, hgL, va_S.rf, ⟨rfl, rfl⟩, fun _ => ⟨rfl, rfl⟩⟩
