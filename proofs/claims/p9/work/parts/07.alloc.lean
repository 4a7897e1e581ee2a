/-! ===== cells that come ===== -/
theorem m_ci_row {n : Nat} {f : Nat → Nat → Int32} {a : Nat} (h : a < n) : m_ci n f a = f a := by
  funext i
  simp [m_ci, h]
theorem m_cl_row {n : Nat} {f : Nat → Nat → Int64} {a : Nat} (h : a < n) : m_cl n f a = f a := by
  funext i
  simp [m_cl, h]
theorem m_ci_new {n : Nat} {f : Nat → Nat → Int32} {a i : Nat} (h : n ≤ a) : m_ci n f a i = 0 := by
  simp [m_ci, Nat.not_lt.mpr h]
theorem m_cl_new {n : Nat} {f : Nat → Nat → Int64} {a i : Nat} (h : n ≤ a) : m_cl n f a i = 0 := by
  simp [m_cl, Nat.not_lt.mpr h]
theorem g_R.app {g : mG} {U : State} {h : mH} {H H1 : Heap} {cs : List mS} (hR : g_R g U h H) (hsz : H.size = g.2.2.1 + (h.1.length - 5)) (hold : ∀ q : Nat, q < H.size → H1[q]? = H[q]?)
    (hnew : ∀ (i : Nat) (c : mS), cs[i]? = some c → va_at g.1 vwCl (H.size + i, g_e g (h.1 ++ cs, m_ci h.1.length h.2.1, m_cl h.1.length h.2.2) (h.1.length + i) c) H1)
    (htag : ∀ c ∈ cs, c.1 < 200 ∧ (c.1 < 100 → c.1 < 12 ∧ c.2.1 = m_nf c.1 ∧ c.2.2.length = c.2.1)) : g_R g U (h.1 ++ cs, m_ci h.1.length h.2.1, m_cl h.1.length h.2.2) H1 := by
  obtain ⟨hP, h0, h1, h2, h3⟩ := hR
  refine ⟨?_, by simp; omega, fun k c hc => ?_, h2, fun k n r hc => ?_⟩
  · rw [g_W_app (h := h) (cs := cs) h0 rfl (fun a ha => m_ci_row ha) (fun a ha => m_cl_row ha)]
    refine va_P.app (hP.kept (fun k q hk => hold q.1 ((hP k q hk).lt))) (fun k q hk => ?_)
    have hk2 : k < cs.length := by
      have := (List.getElem?_eq_some_iff.mp hk).1
      simpa using this
    rw [List.getElem?_map, List.getElem?_range hk2] at hk
    cases hk
    have := hnew k _ (List.getElem?_eq_getElem hk2)
    rw [hsz] at this
    dsimp only
    rw [List.getD_eq_getElem?_getD, List.getElem?_eq_getElem hk2]
    exact this
  · dsimp only at hc
    by_cases hk : k < h.1.length
    · rw [List.getElem?_append_left hk] at hc
      exact h1 k c hc
    · rw [List.getElem?_append_right (by omega)] at hc
      have := htag c (List.mem_of_getElem? hc)
      exact ⟨fun q => by omega, fun _ => this.1, this.2⟩
  · dsimp only at hc ⊢
    by_cases hk : k < h.1.length
    · rw [List.getElem?_append_left hk] at hc
      have hk5 : k < 5 := by
        rcases Nat.lt_or_ge k 5 with q | q
        · exact q
        · have := (h1 k _ hc).2.1 q
          simp at this
      rw [m_ci_row hk]
      exact (h3 k n r hc).kept (hold _ (by have := h2 k hk5; omega))
    · rw [List.getElem?_append_right (by omega)] at hc
      have := (htag _ (List.mem_of_getElem? hc)).1
      simp at this
theorem m_sz_app {a b : List mS} (h : 5 ≤ a.length) : m_sz (a ++ b) = m_sz a + m_s1 b := by
  unfold m_sz
  rw [List.drop_append_of_le_length h]
  simp [m_s1]
theorem m_sz_cr (a c9 : mS) (n : Nat) : m_s1 (a :: List.replicate n c9) = a.2.1 + n * c9.2.1 := by
  induction n with
  | zero => simp [m_s1]
  | succ n ih =>
    simp only [m_s1, List.map_cons, List.sum_cons, List.replicate_succ] at ih ⊢
    rw [Nat.succ_mul]
    omega
theorem m_kd_ok : ∀ ci, ci < 12 → ∀ j, j < m_nf ci → m_kd ci j = 0 ∨ m_kd ci j = 1 ∨ m_kd ci j = 2 ∨ m_kd ci j = 3 := by
  intro ci h
  match ci, h with
  | 0, _ => decide +kernel
  | 1, _ => decide +kernel
  | 2, _ => decide +kernel
  | 3, _ => decide +kernel
  | 4, _ => decide +kernel
  | 5, _ => decide +kernel
  | 6, _ => decide +kernel
  | 7, _ => decide +kernel
  | 8, _ => decide +kernel
  | 9, _ => decide +kernel
  | 10, _ => decide +kernel
  | 11, _ => decide +kernel
  | n + 12, h => exact absurd h (by omega)
theorem m_kd_dv {ci j : Nat} (hk : m_kd ci j = 0 ∨ m_kd ci j = 1 ∨ m_kd ci j = 2 ∨ m_kd ci j = 3) (g : mG) (h : mH) (k n : Nat) (h1 : h.2.1 k j = 0) (h2 : h.2.2 k j = 0) : defaultValue (m_tyOf ci j) = g_f g h k ci (List.replicate n none) j := by
  have hr : (List.replicate n (none : Option Nat)).getD j none = none := by
    rw [List.getD_eq_getElem?_getD, List.getElem?_replicate]
    split <;> rfl
  rcases hk with e | e | e | e
  · rw [g_f_int (Or.inl e), m_kind_int e, h1]; rfl
  · rw [g_f_long e, h2]
    unfold m_kd at e
    cases e' : m_tyOf ci j <;> rw [e'] at e <;> simp [m_kindOf] at e
    rfl
  · rw [g_f_ref e, hr]
    unfold m_kd at e
    cases e' : m_tyOf ci j <;> rw [e'] at e <;> simp [m_kindOf] at e <;> rfl
  · rw [g_f_int (Or.inr e), m_kind_bool e, h1]; rfl
section Sound
variable {p : Program} {l : Launch} {e : Env} {R : Room} {s : State} {m : MethodId} {args : Array Value} {below : List Frame} {meth : Method} {c : Code} {Q : State → Prop}
variable {g : mG} {cc : ByteArray} {o nL n0 s0 : Nat} {ii : Bool} {B : Option (Nat × Nat)} {P r : List mI}
variable {FL : List (Nat × Nat × Nat × Nat)} {SL CL : List (Nat × Nat × Nat)} {KI : List (Nat × Nat × Int32)} {KL : List (Nat × Nat × Int64)}
theorem w_size {H : Heap} {locs : List Loc} {cells slots : Nat} {f : JFrame} (kk : H.size ≤ s.heap.size + cells → W p l e R s m args below meth c H locs cells slots Q f) : W p l e R s m args below meth c H locs cells slots Q f :=
  fun T hT X => kk (hT ▸ X.heapSize) T hT X
theorem g_size {ls : mL} {h : mH} {H : Heap} {locs : List Loc} {cells slots : Nat} {la : Array Slot} (hz0 : s.heap.size = g.2.2.1 + (n0 - 5)) (hn0 : 5 ≤ n0) (I : g_I g s nL n0 s0 B ls h H locs cells slots la) (hup : H.size ≤ s.heap.size + cells) : H.size = g.2.2.1 + (h.1.length - 5) := by
  obtain ⟨⟨hP, hO⟩, -, hS, ⟨hl, -⟩, -⟩ := I
  have h1 := hS.1
  rcases Nat.lt_or_ge 5 h.1.length with q | q
  · have hc : h.1[h.1.length - 1]? = some h.1[h.1.length - 1] := List.getElem?_eq_getElem (by omega)
    have := (hP _ _ (g_W_get (g := g) (k := h.1.length - 1) (by omega) hc)).lt
    dsimp only at this
    omega
  · omega
set_option maxHeartbeats 4000000 in
theorem ok_new (hLk : m_Lk FL SL CL KI KL) (C : g_Cx g p s m args meth c cc o ii) {sp : Bool} {ix pc len : Nat} {an : List Nat} {kv : Int32} {kl : Int64} {ls : mL} {st : List Value} {h : mH} {sd : Option Prop} {q : List (Option Prop × mN)} {X : List mI → mL → List Value → mH → Prop} {i : Nat} (hz0 : s.heap.size = g.2.2.1 + (n0 - 5)) (hn0 : 5 ≤ n0) (hB : ∀ b, B = some b → b.1 ≤ n0 + R.cells ∧ b.2 ≤ s0 + R.slots)
    (hchk : m_chk1 FL SL CL KI KL ii o P (sp, ix, pc, (.new i), len, an, kv, kl) = true) (hd : decode cc pc = .ok ((.new i), len)) (ha : m_act B (sp, ix, pc, (.new i), len, an, kv, kl) ls st h = some (sd, q)) (hsd : ∀ x, sd = some x → x) (hq : m_alls P r X q)
    (hN : ∀ ls st h, X r ls st h → g_K p l e R s m args below meth c Q g nL n0 s0 B (pc + len) ls st h) (hJ : ∀ (t : Nat) (e' : mI), P[t]? = some e' → ∀ ls st h, X (m_drop P t) ls st h → g_K p l e R s m args below meth c Q g nL n0 s0 B e'.2.2.1 ls st h) :
    g_K p l e R s m args below meth c Q g nL n0 s0 B pc ls st h := by
  obtain ⟨hx, hb, hown, hts, hK, hbase, hZ, hin, hAO⟩ := C
  rw [m_act_eq] at ha
  simp only [m_act0, m_lenK_eq, Nat.zero_add, m_appK_eq, List.append_nil] at ha
  split at ha
  · rename_i b ci n
    have hl : len = 3 ∧ (∃ x y z, (x, y, z) ∈ CL ∧ (x = o ∧ y = i) ∧ z = ci) ∧ ci < 12 ∧ m_nf ci = n := by simpa [m_chk1, and_assoc] using hchk
    obtain ⟨rfl, ⟨x, y, z, hm, ⟨rfl, rfl⟩, rfl⟩, hci, rfl⟩ := hl
    simp only [m_sd, Option.some.injEq, Prod.mk.injEq] at ha
    obtain ⟨rfl, rfl⟩ := ha
    obtain ⟨hs1, hs2⟩ := hsd _ rfl
    obtain ⟨hB1, hB2⟩ := hB b rfl
    intro H locs cells slots la I
    refine w_size (fun hup => ?_)
    have hsz := g_size hz0 hn0 I hup
    have hKn := hK.1 z _ (m_cls_at z hci)
    obtain ⟨⟨e1, e2⟩, -⟩ := I.2.2.2
    refine W.newcK hx hb hown (hts _ ((hLk.2.2.2.1 _ hm).1 hci)) (hts _ (hLk.2.2.2.2.2.2.1 z hci).1) (hts _ (hLk.2.2.2.2.2.2.1 z hci).2) rfl hd (by omega) (by omega) hKn.2.1 rfl (fun H1 kC hkC c1 z1 o1 => ?_)
    have hadr : g_v g (.ref h.1.length) = .ref H.size := by
      show Value.ref (g_ad g _) = _
      rw [g_ad_ge I.1.2.1, hsz]
    have := hN _ _ _ hq H1 locs (cells + 1) (slots + m_nf z) la ⟨g_R.app (cs := [(z, m_nf z, List.replicate (m_nf z) none)]) I.1 hsz o1 (fun i9 c9 hc9 => ?_) (fun c9 hc9 => ?_), I.2.1, ⟨by have := I.2.2.1.1; omega, fun q9 h1 h2 => (o1 q9 (Nat.lt_of_lt_of_le h1 I.2.2.1.1)).trans (I.2.2.1.2.1 q9 h1 h2), I.2.2.1.2.2⟩, ⟨by simp; omega, by rw [m_sz_app I.1.2.1]; simp [m_s1]; omega⟩, fun q9 => by cases q9⟩
    · rw [List.map_cons, hadr] at this
      exact this
    · cases i9 with
      | zero =>
        simp at hc9
        subst hc9
        rw [g_e_o (show z < 100 by omega)]
        refine ⟨_, m_cls_at z hci, ?_⟩
        refine (u_born (m_tyOf z) hts (hLk.1 z hci) hKn hkC c1 (m_cls_ty z hci)).to (fun j hj => ?_)
        rw [vp_V, List.getD_eq_getElem?_getD, g_f_at hj, Option.getD_some]
        exact m_kd_dv (m_kd_ok z hci j hj) g _ _ _ (m_ci_new (by omega)) (m_cl_new (by omega))
      | succ i9 => simp at hc9
    · simp at hc9
      subst hc9
      exact ⟨show z < 200 by omega, fun _ => ⟨hci, rfl, by simp⟩⟩
  · cases ha
theorem g_tagc (hK : va_K g.1 vwCl (g_tys g) s) {ty : ArrayType} (hty : m_atag ty ≠ 199) {cA : ClassId} (hf : s.vm.findClass ("[" ++ (newarray.typeOf ty).toString) = some cA) : cA = g.2.1 (m_atag ty) := by
  cases ty <;> simp [m_atag] at hty
  · exact Option.some.inj (hf.symm.trans (hK.2 1 _ rfl).2)
  · exact Option.some.inj (hf.symm.trans (hK.2 3 _ rfl).2)
  · exact Option.some.inj (hf.symm.trans (hK.2 0 _ rfl).2)
  · exact Option.some.inj (hf.symm.trans (hK.2 2 _ rfl).2)
theorem m_atag_ok {ty : ArrayType} (hty : m_atag ty ≠ 199) : 100 ≤ m_atag ty ∧ m_atag ty < 104 ∧ componentBytes (newarray.typeOf ty) ≤ 8 := by
  cases ty <;> simp [m_atag] at hty ⊢ <;> decide
theorem m_atag_cell {ty : ArrayType} (hty : m_atag ty ≠ 199) {h : mH} {k n : Nat} (h1 : ∀ i, h.2.1 k i = 0) (h2 : ∀ i, h.2.2 k i = 0) : vp_cell (g.2.1 (m_atag ty)) (n, g_c g h k (m_atag ty, n, [])) = arrV (g.2.1 (m_atag ty)) n (fun _ => defaultValue (newarray.typeOf ty)) := by
  cases ty <;> simp [m_atag] at hty <;> simp [g_c, m_atag, vp_cell, h1, h2] <;> rfl
set_option maxHeartbeats 4000000 in
theorem ok_newarray (hLk : m_Lk FL SL CL KI KL) (C : g_Cx g p s m args meth c cc o ii) {sp : Bool} {ix pc len : Nat} {an : List Nat} {kv : Int32} {kl : Int64} {ls : mL} {st : List Value} {h : mH} {sd : Option Prop} {q : List (Option Prop × mN)} {X : List mI → mL → List Value → mH → Prop} {ty : ArrayType} (hz0 : s.heap.size = g.2.2.1 + (n0 - 5)) (hn0 : 5 ≤ n0) (hB : ∀ b, B = some b → b.1 ≤ n0 + R.cells ∧ b.2 ≤ s0 + R.slots)
    (hchk : m_chk1 FL SL CL KI KL ii o P (sp, ix, pc, (.newarray ty), len, an, kv, kl) = true) (hd : decode cc pc = .ok ((.newarray ty), len)) (ha : m_act B (sp, ix, pc, (.newarray ty), len, an, kv, kl) ls st h = some (sd, q)) (hsd : ∀ x, sd = some x → x) (hq : m_alls P r X q)
    (hN : ∀ ls st h, X r ls st h → g_K p l e R s m args below meth c Q g nL n0 s0 B (pc + len) ls st h) (hJ : ∀ (t : Nat) (e' : mI), P[t]? = some e' → ∀ ls st h, X (m_drop P t) ls st h → g_K p l e R s m args below meth c Q g nL n0 s0 B e'.2.2.1 ls st h) :
    g_K p l e R s m args below meth c Q g nL n0 s0 B pc ls st h := by
  obtain ⟨hx, hb, hown, hts, hK, hbase, hZ, hin, hAO⟩ := C
  rw [m_act_eq] at ha
  simp only [m_act0, m_lenK_eq, Nat.zero_add, m_appK_eq, List.append_nil] at ha
  split at ha
  · rename_i b n s9
    have hl : len = 2 ∧ m_atag ty ≠ 199 := by simpa [m_chk1, and_assoc] using hchk
    obtain ⟨rfl, hty⟩ := hl
    simp only [m_sd, Option.some.injEq, Prod.mk.injEq] at ha
    obtain ⟨rfl, rfl⟩ := ha
    obtain ⟨hn1, hn2, hs1, hs2⟩ := hsd _ rfl
    obtain ⟨hB1, hB2⟩ := hB b rfl
    intro H locs cells slots la I
    refine w_size (fun hup => ?_)
    have hsz := g_size hz0 hn0 I hup
    obtain ⟨⟨e1, e2⟩, -⟩ := I.2.2.2
    obtain ⟨t1, t2, t3⟩ := m_atag_ok hty
    have harr : (Cond.arrayClass (newarray.typeOf ty)).before args s = true := by
      obtain ⟨a1, a2, a3, a4⟩ := hLk.2.2.2.2.2.2.2
      cases ty <;> simp [m_atag] at hty
      · exact hts _ a2
      · exact hts _ a4
      · exact hts _ a1
      · exact hts _ a3
    refine va_newaK hx hb harr rfl hd rfl hn1 rfl (Nat.le_trans (Nat.mul_le_mul hn2 t3) (by decide)) (by omega) (by omega) rfl (fun H1 cA c1 z1 o1 hAr hNm => ?_)
    have hcA := g_tagc hK hty hNm
    subst hcA
    have hadr : g_v g (.ref h.1.length) = .ref H.size := by
      show Value.ref (g_ad g _) = _
      rw [g_ad_ge I.1.2.1, hsz]
    have := hN _ _ _ hq H1 locs (cells + 1) (slots + n.toNatClampNeg) la ⟨g_R.app (cs := [(m_atag ty, n.toNatClampNeg, [])]) I.1 hsz o1 (fun i9 c9 hc9 => ?_) (fun c9 hc9 => ?_), I.2.1, ⟨by have := I.2.2.1.1; omega, fun q9 h1 h2 => (o1 q9 (Nat.lt_of_lt_of_le h1 I.2.2.1.1)).trans (I.2.2.1.2.1 q9 h1 h2), I.2.2.1.2.2⟩, ⟨by simp; omega, by rw [m_sz_app I.1.2.1]; simp [m_s1]; omega⟩, fun q9 => by cases q9⟩
    · rw [List.map_cons, hadr] at this
      exact this
    · cases i9 with
      | zero =>
        simp at hc9
        subst hc9
        rw [show g_e g (h.1 ++ [(m_atag ty, n.toNatClampNeg, [])], m_ci h.1.length h.2.1, m_cl h.1.length h.2.2) (h.1.length + 0) (m_atag ty, n.toNatClampNeg, []) = .inl (g.2.1 (m_atag ty), n.toNatClampNeg, g_c g (h.1 ++ [(m_atag ty, n.toNatClampNeg, [])], m_ci h.1.length h.2.1, m_cl h.1.length h.2.2) (h.1.length + 0) (m_atag ty, n.toNatClampNeg, [])) from if_neg (show ¬ m_atag ty < 100 by omega)]
        show H1[H.size + 0]? = some (vp_cell _ _)
        rw [m_atag_cell hty (fun i => m_ci_new (by omega)) (fun i => m_cl_new (by omega))]
        exact c1
      | succ i9 => simp at hc9
    · simp at hc9
      subst hc9
      exact ⟨show m_atag ty < 200 by omega, fun q9 => absurd q9 (show ¬ m_atag ty < 100 by omega)⟩
  · cases ha
theorem m_outer (c9 : ClassId) (N h9 : Nat) : ∀ i : Nat, Jvm.Free.Multi.outerC c9 N h9 i = arrV c9 N (fun j => va_rf (if j < i then some (h9 + 1 + j) else none))
  | 0 => by
    show ({ cls := c9, slots := Array.replicate N .null, vm := .none } : Cell) = _
    rw [arrV_new]
    exact congrArg (arrV c9 N) (funext fun j => by simp [va_rf])
  | i + 1 => by
    show (Jvm.Free.Multi.outerC c9 N h9 i).setSlot i (.ref (h9 + 1 + i)) = _
    rw [m_outer c9 N h9 i, arrV_store]
    refine congrArg (arrV c9 N) (funext fun j => ?_)
    rcases Nat.lt_trichotomy j i with q | q | q
    · simp [updV, show ¬ j = i by omega, q, show j < i + 1 by omega]
    · subst q
      simp [updV, va_rf]
    · simp [updV, show ¬ j = i by omega, show ¬ j < i by omega, show ¬ j < i + 1 by omega]
theorem m_arrV_congr {c9 : ClassId} {N : Nat} {f f' : Nat → Value} (hh : ∀ j, j < N → f j = f' j) : arrV c9 N f = arrV c9 N f' := by
  unfold arrV
  congr 1
  apply Array.ext
  · simp
  · intro i h1 h2
    simp at h1 ⊢
    exact hh i h1
set_option maxHeartbeats 4000000 in
theorem ok_mna (C : g_Cx g p s m args meth c cc o ii) {pc i : Nat} {ls : mL} {s9 : List Value} {h : mH} {X : mL → List Value → mH → Prop} (hz0 : s.heap.size = g.2.2.1 + (n0 - 5)) (hn0 : 5 ≤ n0) {b : Nat × Nat} (hB1 : b.1 ≤ n0 + R.cells) (hB2 : b.2 ≤ s0 + R.slots)
    {ty : FieldType} {to ti : Nat} (hto : to = 104 ∨ to = 105) (hti : ti = 100 ∨ ti = 102) (hd : decode cc pc = .ok (.multianewarray i 2, 4)) {n k : Int32}
    (hcl : (Cond.classLink (m_cn o) i ("[" ++ (FieldType.array ty).toString)).before args s = true) (hover : m_AO ty s) (harr : (Cond.arrayClass ty).before args s = true) (hcb : componentBytes ty ≤ 8) (hdf : fits ty (defaultValue ty) = true) (hdd : (defaultValue ty).isDefault = true)
    (hfo : s.vm.findClass ("[" ++ (FieldType.array ty).toString) = some (g.2.1 to)) (hfi : s.vm.findClass (FieldType.array ty).toString = some (g.2.1 ti))
    (hin9 : ∀ (h9 : mH) (k9 : Nat), (∀ i, h9.2.1 k9 i = 0) → (∀ i, h9.2.2 k9 i = 0) → vp_cell (g.2.1 ti) (k.toNatClampNeg, g_c g h9 k9 (ti, k.toNatClampNeg, [])) = arrV (g.2.1 ti) k.toNatClampNeg (fun _ => defaultValue ty))
    (hsd : ¬ n < 0 ∧ ¬ k < 0 ∧ n.toNatClampNeg ≤ 1000 ∧ k.toNatClampNeg ≤ 1000 ∧ h.1.length + (1 + n.toNatClampNeg) ≤ b.1 ∧ m_sz h.1 + (n.toNatClampNeg + n.toNatClampNeg * k.toNatClampNeg) ≤ b.2)
    (hN : g_K p l e R s m args below meth c Q g nL n0 s0 (some b) (pc + 4) ls (.ref h.1.length :: s9) (h.1 ++ (to, n.toNatClampNeg, (List.range n.toNatClampNeg).map (fun i => some (h.1.length + 1 + i))) :: List.replicate n.toNatClampNeg (ti, k.toNatClampNeg, []), m_ci h.1.length h.2.1, m_cl h.1.length h.2.2)) :
    g_K p l e R s m args below meth c Q g nL n0 s0 (some b) pc ls (.int k :: .int n :: s9) h := by
  obtain ⟨hx, hb, hown, hts, hK, hbase, hZ, hin, hAO⟩ := C
  obtain ⟨hn, hk, hn1, hk1, hs1, hs2⟩ := hsd
  intro H locs cells slots la I
  refine w_size (fun hup => ?_)
  have hsz := g_size hz0 hn0 I hup
  obtain ⟨⟨e1, e2⟩, -⟩ := I.2.2.2
  have hadr : g_v g (.ref h.1.length) = .ref H.size := by
    show Value.ref (g_ad g _) = _
    rw [g_ad_ge I.1.2.1, hsz]
  intro T hT Xs
  have hkb : k.toNatClampNeg * componentBytes ty ≤ 536870912 := Nat.le_trans (Nat.mul_le_mul hk1 hcb) (by decide)
  obtain ⟨vm₁, cA, comp, -, fA, fC, hO9, hI9, X', step⟩ := Xs.multianewarray2F hx hown hcl hover harr (g := F0 m pc la (.int k :: .int n :: s9.map (g_v g))) rfl (by rw [hb]; exact hd) rfl hn hk (by omega) hkb (by omega) hdf hdd (by omega) (by omega)
  have ecA : cA = g.2.1 to := Option.some.inj (fA.symm.trans hfo)
  have ecc : comp = g.2.1 ti := Option.some.inj (fC.symm.trans hfi)
  subst ecA
  subst ecc
  generalize hF : Jvm.Free.Multi.fill (T.setVm vm₁) (g.2.1 to) (g.2.1 ti) n.toNatClampNeg k.toNatClampNeg (defaultValue ty) n.toNatClampNeg = F at X' step
  have hTh : (T.setVm vm₁).heap = H := hT
  obtain ⟨f1, f2, -, -⟩ := Jvm.Free.Multi.fill_facts (T.setVm vm₁) (g.2.1 to) (g.2.1 ti) n.toNatClampNeg k.toNatClampNeg (defaultValue ty) n.toNatClampNeg
  rw [hF, hTh] at f1 f2
  have hold : ∀ x : Nat, x < H.size → F.heap[x]? = H[x]? := fun x hx9 => by
    have := Jvm.Free.Multi.fill_old (T.setVm vm₁) (g.2.1 to) (g.2.1 ti) n.toNatClampNeg k.toNatClampNeg (defaultValue ty) (a := x) (by rw [hTh]; exact hx9) n.toNatClampNeg
    rw [hF, hTh] at this
    exact this
  have hrow : ∀ j : Nat, j < n.toNatClampNeg → F.heap[H.size + 1 + j]? = some (arrV (g.2.1 ti) k.toNatClampNeg (fun _ => defaultValue ty)) := fun j hj => by
    have := Jvm.Free.Multi.fill_inner (T.setVm vm₁) (g.2.1 to) (g.2.1 ti) n.toNatClampNeg k.toNatClampNeg (defaultValue ty) n.toNatClampNeg j hj
    rw [hF, hTh] at this
    rw [this, ← arrV_new]
    rfl
  rw [m_outer] at f2
  have := hN F.heap locs (cells + 1 + n.toNatClampNeg) (slots + n.toNatClampNeg + n.toNatClampNeg * k.toNatClampNeg) la ⟨g_R.app I.1 hsz hold (fun i9 c9 hc9 => ?_) (fun c9 hc9 => ?_), I.2.1, ⟨by have := I.2.2.1.1; omega, fun q9 h1 h2 => (hold q9 (Nat.lt_of_lt_of_le h1 I.2.2.1.1)).trans (I.2.2.1.2.1 q9 h1 h2), I.2.2.1.2.2⟩, ⟨by simp; omega, by rw [m_sz_app I.1.2.1, m_sz_cr]; dsimp only; omega⟩, fun q9 => by cases q9⟩
  · rw [List.map_cons, hadr] at this
    obtain ⟨t, a1, b1⟩ := this F rfl X'
    refine ⟨t, step t ?_, b1⟩
    have e9 : T.heap.size = H.size := by rw [hT]
    rw [e9]
    exact a1
  · cases i9 with
    | zero =>
      simp only [List.getElem?_cons_zero, Option.some.injEq] at hc9
      subst hc9
      rw [g_e_q hto]
      show F.heap[H.size + 0]? = some (vp_cell _ _)
      rw [vp_cell_q]
      refine f2.trans (congrArg some (m_arrV_congr (fun j hj => ?_)))
      rw [if_pos hj, List.getD_eq_getElem?_getD, List.getElem?_map, List.getElem?_range hj]
      have e9 : H.size + 1 + j = g_ad g (h.1.length + 1 + j) := by
        have := I.1.2.1
        rw [g_ad_ge (by omega)]
        omega
      rw [e9]
      rfl
    | succ i9 =>
      rw [List.getElem?_cons_succ, List.getElem?_replicate] at hc9
      split at hc9
      · rename_i hi9
        cases hc9
        rw [show g_e g _ _ (ti, k.toNatClampNeg, []) = .inl (g.2.1 ti, k.toNatClampNeg, g_c g _ _ (ti, k.toNatClampNeg, [])) from if_neg (show ¬ ti < 100 by omega)]
        show F.heap[H.size + (i9 + 1)]? = some (vp_cell _ _)
        rw [hin9 _ _ (fun i => m_ci_new (by omega)) (fun i => m_cl_new (by omega)), show H.size + (i9 + 1) = H.size + 1 + i9 by omega]
        exact hrow i9 hi9
      · cases hc9
  · rcases List.mem_cons.mp hc9 with rfl | hc9
    · exact ⟨show to < 200 by omega, fun q9 => absurd q9 (show ¬ to < 100 by omega)⟩
    · have := List.eq_of_mem_replicate hc9
      subst this
      exact ⟨show ti < 200 by omega, fun q9 => absurd q9 (show ¬ ti < 100 by omega)⟩
set_option maxHeartbeats 4000000 in
theorem ok_multianewarray (hLk : m_Lk FL SL CL KI KL) (C : g_Cx g p s m args meth c cc o ii) {sp : Bool} {ix pc len : Nat} {an : List Nat} {kv : Int32} {kl : Int64} {ls : mL} {st : List Value} {h : mH} {sd : Option Prop} {q : List (Option Prop × mN)} {X : List mI → mL → List Value → mH → Prop} {i dm : Nat} (hz0 : s.heap.size = g.2.2.1 + (n0 - 5)) (hn0 : 5 ≤ n0) (hB : ∀ b, B = some b → b.1 ≤ n0 + R.cells ∧ b.2 ≤ s0 + R.slots)
    (hchk : m_chk1 FL SL CL KI KL ii o P (sp, ix, pc, (.multianewarray i dm), len, an, kv, kl) = true) (hd : decode cc pc = .ok ((.multianewarray i dm), len)) (ha : m_act B (sp, ix, pc, (.multianewarray i dm), len, an, kv, kl) ls st h = some (sd, q)) (hsd : ∀ x, sd = some x → x) (hq : m_alls P r X q)
    (hN : ∀ ls st h, X r ls st h → g_K p l e R s m args below meth c Q g nL n0 s0 B (pc + len) ls st h) (hJ : ∀ (t : Nat) (e' : mI), P[t]? = some e' → ∀ ls st h, X (m_drop P t) ls st h → g_K p l e R s m args below meth c Q g nL n0 s0 B e'.2.2.1 ls st h) :
    g_K p l e R s m args below meth c Q g nL n0 s0 B pc ls st h := by
  obtain ⟨hx, hb, hown, hts, hK, hbase, hZ, hin, hAO⟩ := id C
  rw [m_act_eq] at ha
  simp only [m_act0, m_lenK_eq, Nat.zero_add, m_appK_eq, List.append_nil] at ha
  split at ha
  · rename_i b to ti k n s9
    have hl : len = 4 ∧ dm = 2 ∧ (∃ x y z, (x, y, z) ∈ CL ∧ (x = o ∧ y = i) ∧ z = to) ∧ (to = 104 ∧ ti = 100 ∨ to = 105 ∧ ti = 102) := by simpa [m_chk1, and_assoc] using hchk
    obtain ⟨rfl, rfl, ⟨x, y, z, hm, ⟨rfl, rfl⟩, rfl⟩, htt⟩ := hl
    simp only [m_sd, Option.some.injEq, Prod.mk.injEq] at ha
    obtain ⟨rfl, rfl⟩ := ha
    have hs9 := hsd _ rfl
    obtain ⟨hB1, hB2⟩ := hB b rfl
    obtain ⟨a1, a2, a3, a4⟩ := hLk.2.2.2.2.2.2.2
    rcases htt with ⟨rfl, rfl⟩ | ⟨rfl, rfl⟩
    · exact ok_mna (X := fun _ _ _ => True) C hz0 hn0 hB1 hB2 (ty := .int) (Or.inl rfl) (Or.inl rfl) hd (hts _ ((hLk.2.2.2.1 _ hm).2.1 rfl)) hAO.1 (hts _ a1) (by decide) rfl rfl (hK.2 4 _ rfl).2 (hK.2 0 _ rfl).2 (fun h9 k9 e1 e2 => by simp [g_c, vp_cell, e1]; rfl) hs9 (hN _ _ _ hq)
    · exact ok_mna (X := fun _ _ _ => True) C hz0 hn0 hB1 hB2 (ty := .long) (Or.inr rfl) (Or.inr rfl) hd (hts _ ((hLk.2.2.2.1 _ hm).2.2 rfl)) hAO.2.1 (hts _ a3) (by decide) rfl rfl (hK.2 5 _ rfl).2 (hK.2 2 _ rfl).2 (fun h9 k9 e1 e2 => by simp [g_c, vp_cell, e2]; rfl) hs9 (hN _ _ _ hq)
  · cases ha
end Sound
