/-! ===== WHAT THE SMALL MACHINE DOES IN ONE INSTRUCTION, THE MACHINE DOES ===== -/
/-- the statics that hold old int arrays: class, name, descriptor, place -/
def m_ST : List (String × String × String × Nat) := [("LifeList$Rules", "AT_FIRST", "[I", 1), ("LifeList$Rules", "WITHOUT", "[I", 2), ("LifeList$Rules", "ABOVE", "[I", 3)]
/-- links to private members of nest mates: owner, pool index, method, host -/
def m_NL : List (Nat × Nat × MethodName × String) := [(10, 9, ⟨"LifeList$Works", "<init>", "()V"⟩, "LifeList"), (10, 18, ⟨"LifeList$Owners", "<init>", "()V"⟩, "LifeList"), (10, 32, ⟨"LifeList$Committee", "<init>", "()V"⟩, "LifeList"), (2, 13, ⟨"LifeList$Matching", "<init>", "()V"⟩, "LifeList"), (5, 34, ⟨"LifeList", "isWithin", "(III)Z"⟩, "LifeList"), (2, 85, ⟨"LifeList", "isWithin", "(III)Z"⟩, "LifeList"), (6, 37, ⟨"LifeList", "isWithin", "(III)Z"⟩, "LifeList")]
/-- the words of the tables that hold in every later state too -/
def m_tb : List Cond := lw_tbl.filter goodWord
theorem m_tb_mem {w : Cond} : w ∈ m_tb ↔ w ∈ lw_tbl ∧ goodWord w = true := List.mem_filter
def m_AO (ty : FieldType) (U : State) : Prop := (Cond.arrayOver (.array ty)).before #[] U = true
theorem m_AO.moved {ty : FieldType} {u U : State} (hvm : u.vm.Alike U.vm) (h : m_AO ty u) : m_AO ty U := Jvm.Stand.arrayOver_alikeB hvm h
/-- link tables: of them each row is a word of the tables -/
def m_Lk (FL : List (Nat × Nat × Nat × Nat)) (SL CL : List (Nat × Nat × Nat)) (KI : List (Nat × Nat × Int32)) (KL : List (Nat × Nat × Int64)) : Prop :=
  (∀ ci, ci < 12 → ∀ w ∈ u_ws (m_cn ci) (m_T ci) (m_nf ci), w ∈ m_tb) ∧
  (∀ q ∈ FL, Cond.fieldLink (m_cn q.1) q.2.1 (m_T q.2.2.1 q.2.2.2).1 (m_T q.2.2.1 q.2.2.2).2.1 (m_T q.2.2.1 q.2.2.2).2.2.1 ∈ m_tb) ∧
  (∀ q ∈ SL, ∃ z ∈ m_ST, z.2.2.2 = q.2.2 ∧ q.2.2 < 5 ∧ Cond.fieldLink (m_cn q.1) q.2.1 z.1 z.2.1 z.2.2.1 ∈ m_tb) ∧
  (∀ q ∈ CL, (q.2.2 < 12 → Cond.classLink (m_cn q.1) q.2.1 (m_cn q.2.2) ∈ m_tb) ∧ (q.2.2 = 104 → Cond.classLink (m_cn q.1) q.2.1 "[[I" ∈ m_tb) ∧ (q.2.2 = 105 → Cond.classLink (m_cn q.1) q.2.1 "[[J" ∈ m_tb)) ∧
  (∀ q ∈ KI, Cond.constant (m_cn q.1) q.2.1 q.2.2 ∈ m_tb) ∧ (∀ q ∈ KL, Cond.constantLong (m_cn q.1) q.2.1 q.2.2 ∈ m_tb) ∧
  (∀ ci, ci < 12 → Cond.instantiable (m_cn ci) (m_nf ci) ∈ m_tb ∧ Cond.initialized (m_cn ci) ∈ m_tb) ∧ Cond.arrayClass .int ∈ m_tb ∧ Cond.arrayClass .boolean ∈ m_tb ∧ Cond.arrayClass .long ∈ m_tb ∧ Cond.arrayClass .char ∈ m_tb
/-- the place at which a method stands -/
def g_Cx (g : mG) (p : Program) (s : State) (m : MethodId) (args : Array Value) (meth : Method) (c : Code) (cc : ByteArray) (o : Nat) (ii : Bool) : Prop :=
  p.tables.exec = Jvm.exec ∧ c.code = cc ∧ s.vm.findClass (m_cn o) = some m.cls ∧ (∀ w ∈ m_tb, w.before args s = true) ∧ va_K g.1 vwCl (g_tys g) s ∧ g.2.2.1 ≤ s.heap.size ∧
  (∀ z ∈ m_ST, va_Z z.1 z.2.1 z.2.2.1 (.ref (g.2.2.2 z.2.2.2)) (g_A g) s s.heap) ∧ (ii = true → meth.name = "<init>") ∧ m_AO .int s ∧ m_AO .long s ∧ (∀ q ∈ m_NL, va_Nw (.methodLinkNest (m_cn q.1) q.2.1 q.2.2.1 q.2.2.2) s) ∧ m_Lt (g.2.2.2 4) (g_A g) s s.heap
def g_I (g : mG) (s : State) (nL n0 s0 : Nat) (B : Option (Nat × Nat)) (ls : mL) (h : mH) (H : Heap) (locs : List Loc) (cells slots : Nat) (la : Array Slot) : Prop :=
  g_R g s h H ∧ g_L g la nL ls ∧ va_S (g_A g) s.heap H locs ∧ (h.1.length = n0 + cells ∧ m_sz h.1 = s0 + slots) ∧ (B = none → cells = 0 ∧ slots = 0)
theorem m_arr_some {h : mH} {k tg : Nat} {f : Nat → List (Option Nat) → mA} {r : Option Prop × List (Option Prop × mN)} (H : m_arr h k tg f = some r) : ∃ n rf, h.1[k]? = some (tg, n, rf) ∧ f n rf = some r := by
  unfold m_arr at H
  rw [m_nth_eq] at H
  split at H
  · rename_i t n rf hh
    split at H
    · rename_i hb
      have e : t = tg := Nat.eq_of_beq_eq_true hb
      subst e
      exact ⟨n, rf, hh, H⟩
    · cases H
  · cases H
theorem m_arr2_some {h : mH} {k tg tg2 : Nat} {f : Nat → mA} {r : Option Prop × List (Option Prop × mN)} (H : m_arr2 h k tg tg2 f = some r) : ∃ t n rf, (t = tg ∨ t = tg2) ∧ h.1[k]? = some (t, n, rf) ∧ f n = some r := by
  unfold m_arr2 at H
  rw [m_nth_eq] at H
  split at H
  · rename_i t n rf hh
    split at H
    · rename_i hb
      rw [Bool.or_eq_true] at hb
      rcases hb with hb | hb
      · exact ⟨t, n, rf, Or.inl (Nat.eq_of_beq_eq_true hb), hh, H⟩
      · exact ⟨t, n, rf, Or.inr (Nat.eq_of_beq_eq_true hb), hh, H⟩
    · cases H
  · cases H
theorem m_alen_some {h : mH} {k : Nat} {f : Nat → mA} {r : Option Prop × List (Option Prop × mN)} (H : m_alen h k f = some r) : ∃ t n rf, ((100 ≤ t ∧ t ≤ 105) ∨ t = 200) ∧ h.1[k]? = some (t, n, rf) ∧ f n = some r := by
  unfold m_alen at H
  rw [m_nth_eq] at H
  split at H
  · rename_i t n rf hh
    split at H
    · rename_i hb
      rw [Bool.or_eq_true, Bool.and_eq_true] at hb
      exact ⟨t, n, rf, hb.imp (fun q => ⟨Nat.le_of_ble_eq_true q.1, Nat.le_of_ble_eq_true q.2⟩) Nat.eq_of_beq_eq_true, hh, H⟩
    · cases H
  · cases H
theorem g_new {g : mG} {U : State} {h : mH} {H : Heap} (hO : g_O g U h H) {k : Nat} {c : mS} (hc : h.1[k]? = some c) (ht : c.1 < 200) : 5 ≤ k := by
  rcases Nat.lt_or_ge k 5 with q | q
  · have := (hO.2.1 k c hc).1 q
    omega
  · exact q
theorem g_e_i {g : mG} {h : mH} {k n t : Nat} {r : List (Option Nat)} (ht : t = 100 ∨ t = 101 ∨ t = 103) : g_e g h k (t, n, r) = .inl (g.2.1 t, n, .inl (h.2.1 k)) := by
  rcases ht with rfl | rfl | rfl <;> simp [g_e, g_c]
theorem g_e_l {g : mG} {h : mH} {k n : Nat} {r : List (Option Nat)} : g_e g h k (102, n, r) = .inl (g.2.1 102, n, .inr (.inl (h.2.2 k))) := by
  simp [g_e, g_c]
theorem g_e_q {g : mG} {h : mH} {k n t : Nat} {r : List (Option Nat)} (ht : t = 104 ∨ t = 105) : g_e g h k (t, n, r) = .inl (g.2.1 t, n, .inr (.inr (.inr (.inr (fun i => g_r g (r.getD i none)))))) := by
  rcases ht with rfl | rfl <;> simp [g_e, g_c]
theorem g_e_o {g : mG} {h : mH} {k n t : Nat} {r : List (Option Nat)} (ht : t < 100) : g_e g h k (t, n, r) = .inr (t, (List.range n).map (g_f g h k t r)) := by
  simp [g_e, ht]
/-- the old cells stay as they are while ints of new cells change -/
theorem g_O.put {g : mG} {U : State} {h h' : mH} {H H1 : Heap} (hO : g_O g U h H) (hs : h'.1 = h.1) (hi : ∀ a, a < 5 → h'.2.1 a = h.2.1 a) (hk : ∀ a, a < g.2.2.1 → H1[a]? = H[a]?) : g_O g U h' H1 := by
  obtain ⟨h5, h1, h2, h3⟩ := hO
  refine ⟨by rw [hs]; exact h5, fun k c hc => h1 k c (by rw [← hs]; exact hc), h2, fun k n r hc => ?_⟩
  rw [hs] at hc
  have hk5 : k < 5 := by
    rcases Nat.lt_or_ge k 5 with q | q
    · exact q
    · have := (h1 k _ hc).2.1 q
      simp at this
  rw [hi k hk5]
  exact (h3 k n r hc).kept (hk _ (h2 k hk5))
theorem va_S.low {g : mG} {H0 H : Heap} {locs : List Loc} (h : va_S (g_A g) H0 H locs) (hb : g.2.2.1 ≤ H0.size) {a : Nat} (ha : a < g.2.2.1) : H[a]? = H0[a]? := h.2.1 a (by omega) (by show ¬ g.2.2.1 ≤ a; omega)
theorem m_ui_row {f : Nat → Nat → Int32} {k j : Nat} {v : Int32} {a : Nat} (h : a ≠ k) : m_ui f k j v a = f a := by
  funext i
  simp [m_ui, h]
theorem m_ul_row {f : Nat → Nat → Int64} {k j : Nat} {v : Int64} {a : Nat} (h : a ≠ k) : m_ul f k j v a = f a := by
  funext i
  simp [m_ul, h]
theorem m_ui_upd {f : Nat → Nat → Int32} {k j : Nat} {v : Int32} : m_ui f k j v k = upd (f k) j v := by
  funext i
  simp [m_ui, upd]
theorem m_ul_upd {f : Nat → Nat → Int64} {k j : Nat} {v : Int64} : m_ul f k j v k = vp_updL (f k) j v := by
  funext i
  simp [m_ul, vp_updL]
section Sound
variable {p : Program} {l : Launch} {e : Env} {R : Room} {s : State} {m : MethodId} {args : Array Value} {below : List Frame} {meth : Method} {c : Code} {Q : State → Prop}
variable {g : mG} {cc : ByteArray} {o nL n0 s0 : Nat} {ii : Bool} {B : Option (Nat × Nat)} {P r : List mI}
variable {FL : List (Nat × Nat × Nat × Nat)} {SL CL : List (Nat × Nat × Nat)} {KI : List (Nat × Nat × Int32)} {KL : List (Nat × Nat × Int64)}
/-- from here on, in any heap that the small one stands for, the machine comes to its end -/
def g_K (p : Program) (l : Launch) (e : Env) (R : Room) (s : State) (m : MethodId) (args : Array Value) (below : List Frame) (meth : Method) (c : Code) (Q : State → Prop) (g : mG) (nL n0 s0 : Nat) (B : Option (Nat × Nat)) (pc : Nat) (ls : mL) (st : List Value) (h : mH) : Prop :=
  ∀ (H : Heap) (locs : List Loc) (cells slots : Nat) (la : Array Slot), g_I g s nL n0 s0 B ls h H locs cells slots la → W p l e R s m args below meth c H locs cells slots Q (F0 m pc la (st.map (g_v g)))
theorem k_go {pc pc' : Nat} {ls : mL} {st st' : List Value} {h : mH}
    (row : ∀ (H : Heap) (locs : List Loc) (cells slots : Nat) (la : Array Slot), g_I g s nL n0 s0 B ls h H locs cells slots la → W p l e R s m args below meth c H locs cells slots Q (F0 m pc' la (st'.map (g_v g))) → W p l e R s m args below meth c H locs cells slots Q (F0 m pc la (st.map (g_v g))))
    (k : g_K p l e R s m args below meth c Q g nL n0 s0 B pc' ls st' h) : g_K p l e R s m args below meth c Q g nL n0 s0 B pc ls st h :=
  fun _ _ _ _ _ I => row _ _ _ _ _ I (k _ _ _ _ _ I)
theorem k_st {pc pc' i : Nat} {ls ls' : mL} {st st' : List Value} {h : mH} {v : Value}
    (hlen : ls'.length = ls.length) (hs : ∀ (j : Nat) (w : Value), ls'[j]? = some (some w) → (j = i ∧ w = v) ∨ (j ≠ i ∧ ls[j]? = some (some w) ∧ ¬ (j + 1 = i ∧ w.category = 2)))
    (row : ∀ (H : Heap) (locs : List Loc) (cells slots : Nat) (la : Array Slot), g_I g s nL n0 s0 B ls h H locs cells slots la → (∀ la' : Array Slot, lv_has la' nL ((i, g_v g v) :: (m_as g 0 ls).filter (fun q => !(q.1 == i) && !(q.1 + 1 == i && q.2.category == 2))) → W p l e R s m args below meth c H locs cells slots Q (F0 m pc' la' (st'.map (g_v g)))) → W p l e R s m args below meth c H locs cells slots Q (F0 m pc la (st.map (g_v g))))
    (k : g_K p l e R s m args below meth c Q g nL n0 s0 B pc' ls' st' h) : g_K p l e R s m args below meth c Q g nL n0 s0 B pc ls st h :=
  fun H locs cells slots la I => row _ _ _ _ _ I (fun la' h' => k _ _ _ _ la' ⟨I.1, I.2.1.st hlen hs h', I.2.2⟩)
theorem k_st2 {pc pc' i : Nat} {ls ls' : mL} {st st' : List Value} {h : mH} {v : Value}
    (hlen : ls'.length = ls.length) (hs : ∀ (j : Nat) (w : Value), ls'[j]? = some (some w) → (j = i ∧ w = v) ∨ (j ≠ i ∧ j ≠ i + 1 ∧ ls[j]? = some (some w) ∧ ¬ (j + 1 = i ∧ w.category = 2)))
    (row : ∀ (H : Heap) (locs : List Loc) (cells slots : Nat) (la : Array Slot), g_I g s nL n0 s0 B ls h H locs cells slots la → (∀ la' : Array Slot, lv_has la' nL ((i, g_v g v) :: (m_as g 0 ls).filter (fun q => !(q.1 == i) && (!(q.1 == i + 1) && !(q.1 + 1 == i && q.2.category == 2)))) → W p l e R s m args below meth c H locs cells slots Q (F0 m pc' la' (st'.map (g_v g)))) → W p l e R s m args below meth c H locs cells slots Q (F0 m pc la (st.map (g_v g))))
    (k : g_K p l e R s m args below meth c Q g nL n0 s0 B pc' ls' st' h) : g_K p l e R s m args below meth c Q g nL n0 s0 B pc ls st h :=
  fun H locs cells slots la I => row _ _ _ _ _ I (fun la' h' => k _ _ _ _ la' ⟨I.1, I.2.1.st2 hlen hs h', I.2.2⟩)
theorem m_tgt_spec {pc t : Nat} {off : Int} (h : m_tgt P pc off t = true) : ∃ e', P[t]? = some e' ∧ (pc : Int) + off = (e'.2.2.1 : Int) := by
  unfold m_tgt at h
  rw [m_nth_eq] at h
  split at h
  · rename_i e' he
    exact ⟨e', he, of_decide_eq_true h⟩
  · cases h

set_option maxHeartbeats 4000000 in
theorem ok_iadd (hLk : m_Lk FL SL CL KI KL) (C : g_Cx g p s m args meth c cc o ii) {sp : Bool} {ix pc len : Nat} {an : List Nat} {kv : Int32} {kl : Int64} {ls : mL} {st : List Value} {h : mH} {sd : Option Prop} {q : List (Option Prop × mN)} {X : List mI → mL → List Value → mH → Prop} 
    (hchk : m_chk1 FL SL CL KI KL ii o P (sp, ix, pc, .iadd, len, an, kv, kl) = true) (hd : decode cc pc = .ok (.iadd, len)) (ha : m_act B (sp, ix, pc, .iadd, len, an, kv, kl) ls st h = some (sd, q)) (hsd : ∀ x, sd = some x → x) (hq : m_alls P r X q)
    (hN : ∀ ls st h, X r ls st h → g_K p l e R s m args below meth c Q g nL n0 s0 B (pc + len) ls st h) (hJ : ∀ (t : Nat) (e' : mI), P[t]? = some e' → ∀ ls st h, X (m_drop P t) ls st h → g_K p l e R s m args below meth c Q g nL n0 s0 B e'.2.2.1 ls st h) :
    g_K p l e R s m args below meth c Q g nL n0 s0 B pc ls st h := by
  obtain ⟨hx, hb, hown, hts, hK, hbase, hZ, hin, hAO⟩ := C
  have hl : len = 1 := by simpa [m_chk1] using hchk
  subst hl
  rw [m_act_eq] at ha
  simp only [m_act0, m_bin] at ha
  split at ha
  · simp only [m_go, m_sd, Option.some.injEq, Prod.mk.injEq] at ha
    obtain ⟨rfl, rfl⟩ := ha
    exact k_go (fun _ _ _ _ _ _ w => lv_iadd hx hb hd w) (hN _ _ _ hq)
  · cases ha
set_option maxHeartbeats 4000000 in
theorem ok_isub (hLk : m_Lk FL SL CL KI KL) (C : g_Cx g p s m args meth c cc o ii) {sp : Bool} {ix pc len : Nat} {an : List Nat} {kv : Int32} {kl : Int64} {ls : mL} {st : List Value} {h : mH} {sd : Option Prop} {q : List (Option Prop × mN)} {X : List mI → mL → List Value → mH → Prop} 
    (hchk : m_chk1 FL SL CL KI KL ii o P (sp, ix, pc, .isub, len, an, kv, kl) = true) (hd : decode cc pc = .ok (.isub, len)) (ha : m_act B (sp, ix, pc, .isub, len, an, kv, kl) ls st h = some (sd, q)) (hsd : ∀ x, sd = some x → x) (hq : m_alls P r X q)
    (hN : ∀ ls st h, X r ls st h → g_K p l e R s m args below meth c Q g nL n0 s0 B (pc + len) ls st h) (hJ : ∀ (t : Nat) (e' : mI), P[t]? = some e' → ∀ ls st h, X (m_drop P t) ls st h → g_K p l e R s m args below meth c Q g nL n0 s0 B e'.2.2.1 ls st h) :
    g_K p l e R s m args below meth c Q g nL n0 s0 B pc ls st h := by
  obtain ⟨hx, hb, hown, hts, hK, hbase, hZ, hin, hAO⟩ := C
  have hl : len = 1 := by simpa [m_chk1] using hchk
  subst hl
  rw [m_act_eq] at ha
  simp only [m_act0, m_bin] at ha
  split at ha
  · simp only [m_go, m_sd, Option.some.injEq, Prod.mk.injEq] at ha
    obtain ⟨rfl, rfl⟩ := ha
    exact k_go (fun _ _ _ _ _ _ w => lv_isub hx hb hd w) (hN _ _ _ hq)
  · cases ha
set_option maxHeartbeats 4000000 in
theorem ok_imul (hLk : m_Lk FL SL CL KI KL) (C : g_Cx g p s m args meth c cc o ii) {sp : Bool} {ix pc len : Nat} {an : List Nat} {kv : Int32} {kl : Int64} {ls : mL} {st : List Value} {h : mH} {sd : Option Prop} {q : List (Option Prop × mN)} {X : List mI → mL → List Value → mH → Prop} 
    (hchk : m_chk1 FL SL CL KI KL ii o P (sp, ix, pc, .imul, len, an, kv, kl) = true) (hd : decode cc pc = .ok (.imul, len)) (ha : m_act B (sp, ix, pc, .imul, len, an, kv, kl) ls st h = some (sd, q)) (hsd : ∀ x, sd = some x → x) (hq : m_alls P r X q)
    (hN : ∀ ls st h, X r ls st h → g_K p l e R s m args below meth c Q g nL n0 s0 B (pc + len) ls st h) (hJ : ∀ (t : Nat) (e' : mI), P[t]? = some e' → ∀ ls st h, X (m_drop P t) ls st h → g_K p l e R s m args below meth c Q g nL n0 s0 B e'.2.2.1 ls st h) :
    g_K p l e R s m args below meth c Q g nL n0 s0 B pc ls st h := by
  obtain ⟨hx, hb, hown, hts, hK, hbase, hZ, hin, hAO⟩ := C
  have hl : len = 1 := by simpa [m_chk1] using hchk
  subst hl
  rw [m_act_eq] at ha
  simp only [m_act0, m_bin] at ha
  split at ha
  · simp only [m_go, m_sd, Option.some.injEq, Prod.mk.injEq] at ha
    obtain ⟨rfl, rfl⟩ := ha
    exact k_go (fun _ _ _ _ _ _ w => lv_imul hx hb hd w) (hN _ _ _ hq)
  · cases ha
set_option maxHeartbeats 4000000 in
theorem ok_iand (hLk : m_Lk FL SL CL KI KL) (C : g_Cx g p s m args meth c cc o ii) {sp : Bool} {ix pc len : Nat} {an : List Nat} {kv : Int32} {kl : Int64} {ls : mL} {st : List Value} {h : mH} {sd : Option Prop} {q : List (Option Prop × mN)} {X : List mI → mL → List Value → mH → Prop} 
    (hchk : m_chk1 FL SL CL KI KL ii o P (sp, ix, pc, .iand, len, an, kv, kl) = true) (hd : decode cc pc = .ok (.iand, len)) (ha : m_act B (sp, ix, pc, .iand, len, an, kv, kl) ls st h = some (sd, q)) (hsd : ∀ x, sd = some x → x) (hq : m_alls P r X q)
    (hN : ∀ ls st h, X r ls st h → g_K p l e R s m args below meth c Q g nL n0 s0 B (pc + len) ls st h) (hJ : ∀ (t : Nat) (e' : mI), P[t]? = some e' → ∀ ls st h, X (m_drop P t) ls st h → g_K p l e R s m args below meth c Q g nL n0 s0 B e'.2.2.1 ls st h) :
    g_K p l e R s m args below meth c Q g nL n0 s0 B pc ls st h := by
  obtain ⟨hx, hb, hown, hts, hK, hbase, hZ, hin, hAO⟩ := C
  have hl : len = 1 := by simpa [m_chk1] using hchk
  subst hl
  rw [m_act_eq] at ha
  simp only [m_act0, m_bin] at ha
  split at ha
  · simp only [m_go, m_sd, Option.some.injEq, Prod.mk.injEq] at ha
    obtain ⟨rfl, rfl⟩ := ha
    exact k_go (fun _ _ _ _ _ _ w => lv_iand hx hb hd w) (hN _ _ _ hq)
  · cases ha
set_option maxHeartbeats 4000000 in
theorem ok_ior (hLk : m_Lk FL SL CL KI KL) (C : g_Cx g p s m args meth c cc o ii) {sp : Bool} {ix pc len : Nat} {an : List Nat} {kv : Int32} {kl : Int64} {ls : mL} {st : List Value} {h : mH} {sd : Option Prop} {q : List (Option Prop × mN)} {X : List mI → mL → List Value → mH → Prop} 
    (hchk : m_chk1 FL SL CL KI KL ii o P (sp, ix, pc, .ior, len, an, kv, kl) = true) (hd : decode cc pc = .ok (.ior, len)) (ha : m_act B (sp, ix, pc, .ior, len, an, kv, kl) ls st h = some (sd, q)) (hsd : ∀ x, sd = some x → x) (hq : m_alls P r X q)
    (hN : ∀ ls st h, X r ls st h → g_K p l e R s m args below meth c Q g nL n0 s0 B (pc + len) ls st h) (hJ : ∀ (t : Nat) (e' : mI), P[t]? = some e' → ∀ ls st h, X (m_drop P t) ls st h → g_K p l e R s m args below meth c Q g nL n0 s0 B e'.2.2.1 ls st h) :
    g_K p l e R s m args below meth c Q g nL n0 s0 B pc ls st h := by
  obtain ⟨hx, hb, hown, hts, hK, hbase, hZ, hin, hAO⟩ := C
  have hl : len = 1 := by simpa [m_chk1] using hchk
  subst hl
  rw [m_act_eq] at ha
  simp only [m_act0, m_bin] at ha
  split at ha
  · simp only [m_go, m_sd, Option.some.injEq, Prod.mk.injEq] at ha
    obtain ⟨rfl, rfl⟩ := ha
    exact k_go (fun _ _ _ _ _ _ w => lv_ior hx hb hd w) (hN _ _ _ hq)
  · cases ha
set_option maxHeartbeats 4000000 in
theorem ok_ixor (hLk : m_Lk FL SL CL KI KL) (C : g_Cx g p s m args meth c cc o ii) {sp : Bool} {ix pc len : Nat} {an : List Nat} {kv : Int32} {kl : Int64} {ls : mL} {st : List Value} {h : mH} {sd : Option Prop} {q : List (Option Prop × mN)} {X : List mI → mL → List Value → mH → Prop} 
    (hchk : m_chk1 FL SL CL KI KL ii o P (sp, ix, pc, .ixor, len, an, kv, kl) = true) (hd : decode cc pc = .ok (.ixor, len)) (ha : m_act B (sp, ix, pc, .ixor, len, an, kv, kl) ls st h = some (sd, q)) (hsd : ∀ x, sd = some x → x) (hq : m_alls P r X q)
    (hN : ∀ ls st h, X r ls st h → g_K p l e R s m args below meth c Q g nL n0 s0 B (pc + len) ls st h) (hJ : ∀ (t : Nat) (e' : mI), P[t]? = some e' → ∀ ls st h, X (m_drop P t) ls st h → g_K p l e R s m args below meth c Q g nL n0 s0 B e'.2.2.1 ls st h) :
    g_K p l e R s m args below meth c Q g nL n0 s0 B pc ls st h := by
  obtain ⟨hx, hb, hown, hts, hK, hbase, hZ, hin, hAO⟩ := C
  have hl : len = 1 := by simpa [m_chk1] using hchk
  subst hl
  rw [m_act_eq] at ha
  simp only [m_act0, m_bin] at ha
  split at ha
  · simp only [m_go, m_sd, Option.some.injEq, Prod.mk.injEq] at ha
    obtain ⟨rfl, rfl⟩ := ha
    exact k_go (fun _ _ _ _ _ _ w => lv_ixor hx hb hd w) (hN _ _ _ hq)
  · cases ha
set_option maxHeartbeats 4000000 in
theorem ok_ishl (hLk : m_Lk FL SL CL KI KL) (C : g_Cx g p s m args meth c cc o ii) {sp : Bool} {ix pc len : Nat} {an : List Nat} {kv : Int32} {kl : Int64} {ls : mL} {st : List Value} {h : mH} {sd : Option Prop} {q : List (Option Prop × mN)} {X : List mI → mL → List Value → mH → Prop} 
    (hchk : m_chk1 FL SL CL KI KL ii o P (sp, ix, pc, .ishl, len, an, kv, kl) = true) (hd : decode cc pc = .ok (.ishl, len)) (ha : m_act B (sp, ix, pc, .ishl, len, an, kv, kl) ls st h = some (sd, q)) (hsd : ∀ x, sd = some x → x) (hq : m_alls P r X q)
    (hN : ∀ ls st h, X r ls st h → g_K p l e R s m args below meth c Q g nL n0 s0 B (pc + len) ls st h) (hJ : ∀ (t : Nat) (e' : mI), P[t]? = some e' → ∀ ls st h, X (m_drop P t) ls st h → g_K p l e R s m args below meth c Q g nL n0 s0 B e'.2.2.1 ls st h) :
    g_K p l e R s m args below meth c Q g nL n0 s0 B pc ls st h := by
  obtain ⟨hx, hb, hown, hts, hK, hbase, hZ, hin, hAO⟩ := C
  have hl : len = 1 := by simpa [m_chk1] using hchk
  subst hl
  rw [m_act_eq] at ha
  simp only [m_act0, m_bin] at ha
  split at ha
  · simp only [m_go, m_sd, Option.some.injEq, Prod.mk.injEq] at ha
    obtain ⟨rfl, rfl⟩ := ha
    exact k_go (fun _ _ _ _ _ _ w => lv_ishl hx hb hd w) (hN _ _ _ hq)
  · cases ha
set_option maxHeartbeats 4000000 in
theorem ok_ishr (hLk : m_Lk FL SL CL KI KL) (C : g_Cx g p s m args meth c cc o ii) {sp : Bool} {ix pc len : Nat} {an : List Nat} {kv : Int32} {kl : Int64} {ls : mL} {st : List Value} {h : mH} {sd : Option Prop} {q : List (Option Prop × mN)} {X : List mI → mL → List Value → mH → Prop} 
    (hchk : m_chk1 FL SL CL KI KL ii o P (sp, ix, pc, .ishr, len, an, kv, kl) = true) (hd : decode cc pc = .ok (.ishr, len)) (ha : m_act B (sp, ix, pc, .ishr, len, an, kv, kl) ls st h = some (sd, q)) (hsd : ∀ x, sd = some x → x) (hq : m_alls P r X q)
    (hN : ∀ ls st h, X r ls st h → g_K p l e R s m args below meth c Q g nL n0 s0 B (pc + len) ls st h) (hJ : ∀ (t : Nat) (e' : mI), P[t]? = some e' → ∀ ls st h, X (m_drop P t) ls st h → g_K p l e R s m args below meth c Q g nL n0 s0 B e'.2.2.1 ls st h) :
    g_K p l e R s m args below meth c Q g nL n0 s0 B pc ls st h := by
  obtain ⟨hx, hb, hown, hts, hK, hbase, hZ, hin, hAO⟩ := C
  have hl : len = 1 := by simpa [m_chk1] using hchk
  subst hl
  rw [m_act_eq] at ha
  simp only [m_act0, m_bin] at ha
  split at ha
  · simp only [m_go, m_sd, Option.some.injEq, Prod.mk.injEq] at ha
    obtain ⟨rfl, rfl⟩ := ha
    exact k_go (fun _ _ _ _ _ _ w => lv_ishr hx hb hd w) (hN _ _ _ hq)
  · cases ha
set_option maxHeartbeats 4000000 in
theorem ok_iushr (hLk : m_Lk FL SL CL KI KL) (C : g_Cx g p s m args meth c cc o ii) {sp : Bool} {ix pc len : Nat} {an : List Nat} {kv : Int32} {kl : Int64} {ls : mL} {st : List Value} {h : mH} {sd : Option Prop} {q : List (Option Prop × mN)} {X : List mI → mL → List Value → mH → Prop} 
    (hchk : m_chk1 FL SL CL KI KL ii o P (sp, ix, pc, .iushr, len, an, kv, kl) = true) (hd : decode cc pc = .ok (.iushr, len)) (ha : m_act B (sp, ix, pc, .iushr, len, an, kv, kl) ls st h = some (sd, q)) (hsd : ∀ x, sd = some x → x) (hq : m_alls P r X q)
    (hN : ∀ ls st h, X r ls st h → g_K p l e R s m args below meth c Q g nL n0 s0 B (pc + len) ls st h) (hJ : ∀ (t : Nat) (e' : mI), P[t]? = some e' → ∀ ls st h, X (m_drop P t) ls st h → g_K p l e R s m args below meth c Q g nL n0 s0 B e'.2.2.1 ls st h) :
    g_K p l e R s m args below meth c Q g nL n0 s0 B pc ls st h := by
  obtain ⟨hx, hb, hown, hts, hK, hbase, hZ, hin, hAO⟩ := C
  have hl : len = 1 := by simpa [m_chk1] using hchk
  subst hl
  rw [m_act_eq] at ha
  simp only [m_act0, m_bin] at ha
  split at ha
  · simp only [m_go, m_sd, Option.some.injEq, Prod.mk.injEq] at ha
    obtain ⟨rfl, rfl⟩ := ha
    exact k_go (fun _ _ _ _ _ _ w => lv_iushr hx hb hd rfl w) (hN _ _ _ hq)
  · cases ha
set_option maxHeartbeats 4000000 in
theorem ok_ladd (hLk : m_Lk FL SL CL KI KL) (C : g_Cx g p s m args meth c cc o ii) {sp : Bool} {ix pc len : Nat} {an : List Nat} {kv : Int32} {kl : Int64} {ls : mL} {st : List Value} {h : mH} {sd : Option Prop} {q : List (Option Prop × mN)} {X : List mI → mL → List Value → mH → Prop} 
    (hchk : m_chk1 FL SL CL KI KL ii o P (sp, ix, pc, .ladd, len, an, kv, kl) = true) (hd : decode cc pc = .ok (.ladd, len)) (ha : m_act B (sp, ix, pc, .ladd, len, an, kv, kl) ls st h = some (sd, q)) (hsd : ∀ x, sd = some x → x) (hq : m_alls P r X q)
    (hN : ∀ ls st h, X r ls st h → g_K p l e R s m args below meth c Q g nL n0 s0 B (pc + len) ls st h) (hJ : ∀ (t : Nat) (e' : mI), P[t]? = some e' → ∀ ls st h, X (m_drop P t) ls st h → g_K p l e R s m args below meth c Q g nL n0 s0 B e'.2.2.1 ls st h) :
    g_K p l e R s m args below meth c Q g nL n0 s0 B pc ls st h := by
  obtain ⟨hx, hb, hown, hts, hK, hbase, hZ, hin, hAO⟩ := C
  have hl : len = 1 := by simpa [m_chk1] using hchk
  subst hl
  rw [m_act_eq] at ha
  simp only [m_act0, m_binl] at ha
  split at ha
  · simp only [m_go, m_sd, Option.some.injEq, Prod.mk.injEq] at ha
    obtain ⟨rfl, rfl⟩ := ha
    exact k_go (fun _ _ _ _ _ _ w => lv_ladd hx hb hd w) (hN _ _ _ hq)
  · cases ha
set_option maxHeartbeats 4000000 in
theorem ok_lsub (hLk : m_Lk FL SL CL KI KL) (C : g_Cx g p s m args meth c cc o ii) {sp : Bool} {ix pc len : Nat} {an : List Nat} {kv : Int32} {kl : Int64} {ls : mL} {st : List Value} {h : mH} {sd : Option Prop} {q : List (Option Prop × mN)} {X : List mI → mL → List Value → mH → Prop} 
    (hchk : m_chk1 FL SL CL KI KL ii o P (sp, ix, pc, .lsub, len, an, kv, kl) = true) (hd : decode cc pc = .ok (.lsub, len)) (ha : m_act B (sp, ix, pc, .lsub, len, an, kv, kl) ls st h = some (sd, q)) (hsd : ∀ x, sd = some x → x) (hq : m_alls P r X q)
    (hN : ∀ ls st h, X r ls st h → g_K p l e R s m args below meth c Q g nL n0 s0 B (pc + len) ls st h) (hJ : ∀ (t : Nat) (e' : mI), P[t]? = some e' → ∀ ls st h, X (m_drop P t) ls st h → g_K p l e R s m args below meth c Q g nL n0 s0 B e'.2.2.1 ls st h) :
    g_K p l e R s m args below meth c Q g nL n0 s0 B pc ls st h := by
  obtain ⟨hx, hb, hown, hts, hK, hbase, hZ, hin, hAO⟩ := C
  have hl : len = 1 := by simpa [m_chk1] using hchk
  subst hl
  rw [m_act_eq] at ha
  simp only [m_act0, m_binl] at ha
  split at ha
  · simp only [m_go, m_sd, Option.some.injEq, Prod.mk.injEq] at ha
    obtain ⟨rfl, rfl⟩ := ha
    exact k_go (fun _ _ _ _ _ _ w => lv_lsub hx hb hd w) (hN _ _ _ hq)
  · cases ha
set_option maxHeartbeats 4000000 in
theorem ok_lmul (hLk : m_Lk FL SL CL KI KL) (C : g_Cx g p s m args meth c cc o ii) {sp : Bool} {ix pc len : Nat} {an : List Nat} {kv : Int32} {kl : Int64} {ls : mL} {st : List Value} {h : mH} {sd : Option Prop} {q : List (Option Prop × mN)} {X : List mI → mL → List Value → mH → Prop} 
    (hchk : m_chk1 FL SL CL KI KL ii o P (sp, ix, pc, .lmul, len, an, kv, kl) = true) (hd : decode cc pc = .ok (.lmul, len)) (ha : m_act B (sp, ix, pc, .lmul, len, an, kv, kl) ls st h = some (sd, q)) (hsd : ∀ x, sd = some x → x) (hq : m_alls P r X q)
    (hN : ∀ ls st h, X r ls st h → g_K p l e R s m args below meth c Q g nL n0 s0 B (pc + len) ls st h) (hJ : ∀ (t : Nat) (e' : mI), P[t]? = some e' → ∀ ls st h, X (m_drop P t) ls st h → g_K p l e R s m args below meth c Q g nL n0 s0 B e'.2.2.1 ls st h) :
    g_K p l e R s m args below meth c Q g nL n0 s0 B pc ls st h := by
  obtain ⟨hx, hb, hown, hts, hK, hbase, hZ, hin, hAO⟩ := C
  have hl : len = 1 := by simpa [m_chk1] using hchk
  subst hl
  rw [m_act_eq] at ha
  simp only [m_act0, m_binl] at ha
  split at ha
  · simp only [m_go, m_sd, Option.some.injEq, Prod.mk.injEq] at ha
    obtain ⟨rfl, rfl⟩ := ha
    exact k_go (fun _ _ _ _ _ _ w => lv_lmul hx hb hd w) (hN _ _ _ hq)
  · cases ha
set_option maxHeartbeats 4000000 in
theorem ok_land (hLk : m_Lk FL SL CL KI KL) (C : g_Cx g p s m args meth c cc o ii) {sp : Bool} {ix pc len : Nat} {an : List Nat} {kv : Int32} {kl : Int64} {ls : mL} {st : List Value} {h : mH} {sd : Option Prop} {q : List (Option Prop × mN)} {X : List mI → mL → List Value → mH → Prop} 
    (hchk : m_chk1 FL SL CL KI KL ii o P (sp, ix, pc, .land, len, an, kv, kl) = true) (hd : decode cc pc = .ok (.land, len)) (ha : m_act B (sp, ix, pc, .land, len, an, kv, kl) ls st h = some (sd, q)) (hsd : ∀ x, sd = some x → x) (hq : m_alls P r X q)
    (hN : ∀ ls st h, X r ls st h → g_K p l e R s m args below meth c Q g nL n0 s0 B (pc + len) ls st h) (hJ : ∀ (t : Nat) (e' : mI), P[t]? = some e' → ∀ ls st h, X (m_drop P t) ls st h → g_K p l e R s m args below meth c Q g nL n0 s0 B e'.2.2.1 ls st h) :
    g_K p l e R s m args below meth c Q g nL n0 s0 B pc ls st h := by
  obtain ⟨hx, hb, hown, hts, hK, hbase, hZ, hin, hAO⟩ := C
  have hl : len = 1 := by simpa [m_chk1] using hchk
  subst hl
  rw [m_act_eq] at ha
  simp only [m_act0, m_binl] at ha
  split at ha
  · simp only [m_go, m_sd, Option.some.injEq, Prod.mk.injEq] at ha
    obtain ⟨rfl, rfl⟩ := ha
    exact k_go (fun _ _ _ _ _ _ w => lv_land hx hb hd w) (hN _ _ _ hq)
  · cases ha
set_option maxHeartbeats 4000000 in
theorem ok_lor (hLk : m_Lk FL SL CL KI KL) (C : g_Cx g p s m args meth c cc o ii) {sp : Bool} {ix pc len : Nat} {an : List Nat} {kv : Int32} {kl : Int64} {ls : mL} {st : List Value} {h : mH} {sd : Option Prop} {q : List (Option Prop × mN)} {X : List mI → mL → List Value → mH → Prop} 
    (hchk : m_chk1 FL SL CL KI KL ii o P (sp, ix, pc, .lor, len, an, kv, kl) = true) (hd : decode cc pc = .ok (.lor, len)) (ha : m_act B (sp, ix, pc, .lor, len, an, kv, kl) ls st h = some (sd, q)) (hsd : ∀ x, sd = some x → x) (hq : m_alls P r X q)
    (hN : ∀ ls st h, X r ls st h → g_K p l e R s m args below meth c Q g nL n0 s0 B (pc + len) ls st h) (hJ : ∀ (t : Nat) (e' : mI), P[t]? = some e' → ∀ ls st h, X (m_drop P t) ls st h → g_K p l e R s m args below meth c Q g nL n0 s0 B e'.2.2.1 ls st h) :
    g_K p l e R s m args below meth c Q g nL n0 s0 B pc ls st h := by
  obtain ⟨hx, hb, hown, hts, hK, hbase, hZ, hin, hAO⟩ := C
  have hl : len = 1 := by simpa [m_chk1] using hchk
  subst hl
  rw [m_act_eq] at ha
  simp only [m_act0, m_binl] at ha
  split at ha
  · simp only [m_go, m_sd, Option.some.injEq, Prod.mk.injEq] at ha
    obtain ⟨rfl, rfl⟩ := ha
    exact k_go (fun _ _ _ _ _ _ w => lv_lor hx hb hd w) (hN _ _ _ hq)
  · cases ha
set_option maxHeartbeats 4000000 in
theorem ok_lshl (hLk : m_Lk FL SL CL KI KL) (C : g_Cx g p s m args meth c cc o ii) {sp : Bool} {ix pc len : Nat} {an : List Nat} {kv : Int32} {kl : Int64} {ls : mL} {st : List Value} {h : mH} {sd : Option Prop} {q : List (Option Prop × mN)} {X : List mI → mL → List Value → mH → Prop} 
    (hchk : m_chk1 FL SL CL KI KL ii o P (sp, ix, pc, .lshl, len, an, kv, kl) = true) (hd : decode cc pc = .ok (.lshl, len)) (ha : m_act B (sp, ix, pc, .lshl, len, an, kv, kl) ls st h = some (sd, q)) (hsd : ∀ x, sd = some x → x) (hq : m_alls P r X q)
    (hN : ∀ ls st h, X r ls st h → g_K p l e R s m args below meth c Q g nL n0 s0 B (pc + len) ls st h) (hJ : ∀ (t : Nat) (e' : mI), P[t]? = some e' → ∀ ls st h, X (m_drop P t) ls st h → g_K p l e R s m args below meth c Q g nL n0 s0 B e'.2.2.1 ls st h) :
    g_K p l e R s m args below meth c Q g nL n0 s0 B pc ls st h := by
  obtain ⟨hx, hb, hown, hts, hK, hbase, hZ, hin, hAO⟩ := C
  have hl : len = 1 := by simpa [m_chk1] using hchk
  subst hl
  rw [m_act_eq] at ha
  simp only [m_act0, m_shl] at ha
  split at ha
  · simp only [m_go, m_sd, Option.some.injEq, Prod.mk.injEq] at ha
    obtain ⟨rfl, rfl⟩ := ha
    exact k_go (fun _ _ _ _ _ _ w => lv_lshl hx hb hd rfl w) (hN _ _ _ hq)
  · cases ha
set_option maxHeartbeats 4000000 in
theorem ok_lshr (hLk : m_Lk FL SL CL KI KL) (C : g_Cx g p s m args meth c cc o ii) {sp : Bool} {ix pc len : Nat} {an : List Nat} {kv : Int32} {kl : Int64} {ls : mL} {st : List Value} {h : mH} {sd : Option Prop} {q : List (Option Prop × mN)} {X : List mI → mL → List Value → mH → Prop} 
    (hchk : m_chk1 FL SL CL KI KL ii o P (sp, ix, pc, .lshr, len, an, kv, kl) = true) (hd : decode cc pc = .ok (.lshr, len)) (ha : m_act B (sp, ix, pc, .lshr, len, an, kv, kl) ls st h = some (sd, q)) (hsd : ∀ x, sd = some x → x) (hq : m_alls P r X q)
    (hN : ∀ ls st h, X r ls st h → g_K p l e R s m args below meth c Q g nL n0 s0 B (pc + len) ls st h) (hJ : ∀ (t : Nat) (e' : mI), P[t]? = some e' → ∀ ls st h, X (m_drop P t) ls st h → g_K p l e R s m args below meth c Q g nL n0 s0 B e'.2.2.1 ls st h) :
    g_K p l e R s m args below meth c Q g nL n0 s0 B pc ls st h := by
  obtain ⟨hx, hb, hown, hts, hK, hbase, hZ, hin, hAO⟩ := C
  have hl : len = 1 := by simpa [m_chk1] using hchk
  subst hl
  rw [m_act_eq] at ha
  simp only [m_act0, m_shl] at ha
  split at ha
  · simp only [m_go, m_sd, Option.some.injEq, Prod.mk.injEq] at ha
    obtain ⟨rfl, rfl⟩ := ha
    exact k_go (fun _ _ _ _ _ _ w => lv_lshr hx hb hd rfl w) (hN _ _ _ hq)
  · cases ha
set_option maxHeartbeats 4000000 in
theorem ok_lushr (hLk : m_Lk FL SL CL KI KL) (C : g_Cx g p s m args meth c cc o ii) {sp : Bool} {ix pc len : Nat} {an : List Nat} {kv : Int32} {kl : Int64} {ls : mL} {st : List Value} {h : mH} {sd : Option Prop} {q : List (Option Prop × mN)} {X : List mI → mL → List Value → mH → Prop} 
    (hchk : m_chk1 FL SL CL KI KL ii o P (sp, ix, pc, .lushr, len, an, kv, kl) = true) (hd : decode cc pc = .ok (.lushr, len)) (ha : m_act B (sp, ix, pc, .lushr, len, an, kv, kl) ls st h = some (sd, q)) (hsd : ∀ x, sd = some x → x) (hq : m_alls P r X q)
    (hN : ∀ ls st h, X r ls st h → g_K p l e R s m args below meth c Q g nL n0 s0 B (pc + len) ls st h) (hJ : ∀ (t : Nat) (e' : mI), P[t]? = some e' → ∀ ls st h, X (m_drop P t) ls st h → g_K p l e R s m args below meth c Q g nL n0 s0 B e'.2.2.1 ls st h) :
    g_K p l e R s m args below meth c Q g nL n0 s0 B pc ls st h := by
  obtain ⟨hx, hb, hown, hts, hK, hbase, hZ, hin, hAO⟩ := C
  have hl : len = 1 := by simpa [m_chk1] using hchk
  subst hl
  rw [m_act_eq] at ha
  simp only [m_act0, m_shl] at ha
  split at ha
  · simp only [m_go, m_sd, Option.some.injEq, Prod.mk.injEq] at ha
    obtain ⟨rfl, rfl⟩ := ha
    exact k_go (fun _ _ _ _ _ _ w => lv_lushr hx hb hd rfl w) (hN _ _ _ hq)
  · cases ha
set_option maxHeartbeats 4000000 in
theorem ok_idiv (hLk : m_Lk FL SL CL KI KL) (C : g_Cx g p s m args meth c cc o ii) {sp : Bool} {ix pc len : Nat} {an : List Nat} {kv : Int32} {kl : Int64} {ls : mL} {st : List Value} {h : mH} {sd : Option Prop} {q : List (Option Prop × mN)} {X : List mI → mL → List Value → mH → Prop} 
    (hchk : m_chk1 FL SL CL KI KL ii o P (sp, ix, pc, .idiv, len, an, kv, kl) = true) (hd : decode cc pc = .ok (.idiv, len)) (ha : m_act B (sp, ix, pc, .idiv, len, an, kv, kl) ls st h = some (sd, q)) (hsd : ∀ x, sd = some x → x) (hq : m_alls P r X q)
    (hN : ∀ ls st h, X r ls st h → g_K p l e R s m args below meth c Q g nL n0 s0 B (pc + len) ls st h) (hJ : ∀ (t : Nat) (e' : mI), P[t]? = some e' → ∀ ls st h, X (m_drop P t) ls st h → g_K p l e R s m args below meth c Q g nL n0 s0 B e'.2.2.1 ls st h) :
    g_K p l e R s m args below meth c Q g nL n0 s0 B pc ls st h := by
  obtain ⟨hx, hb, hown, hts, hK, hbase, hZ, hin, hAO⟩ := C
  have hl : len = 1 := by simpa [m_chk1] using hchk
  subst hl
  rw [m_act_eq] at ha
  simp only [m_act0] at ha
  split at ha
  · simp only [m_go, m_sd, Option.some.injEq, Prod.mk.injEq] at ha
    obtain ⟨rfl, rfl⟩ := ha
    exact k_go (fun _ _ _ _ _ _ w => lv_idiv hx hb hd (hsd _ rfl) w) (hN _ _ _ hq)
  · cases ha
set_option maxHeartbeats 4000000 in
theorem ok_ldiv (hLk : m_Lk FL SL CL KI KL) (C : g_Cx g p s m args meth c cc o ii) {sp : Bool} {ix pc len : Nat} {an : List Nat} {kv : Int32} {kl : Int64} {ls : mL} {st : List Value} {h : mH} {sd : Option Prop} {q : List (Option Prop × mN)} {X : List mI → mL → List Value → mH → Prop} 
    (hchk : m_chk1 FL SL CL KI KL ii o P (sp, ix, pc, .ldiv, len, an, kv, kl) = true) (hd : decode cc pc = .ok (.ldiv, len)) (ha : m_act B (sp, ix, pc, .ldiv, len, an, kv, kl) ls st h = some (sd, q)) (hsd : ∀ x, sd = some x → x) (hq : m_alls P r X q)
    (hN : ∀ ls st h, X r ls st h → g_K p l e R s m args below meth c Q g nL n0 s0 B (pc + len) ls st h) (hJ : ∀ (t : Nat) (e' : mI), P[t]? = some e' → ∀ ls st h, X (m_drop P t) ls st h → g_K p l e R s m args below meth c Q g nL n0 s0 B e'.2.2.1 ls st h) :
    g_K p l e R s m args below meth c Q g nL n0 s0 B pc ls st h := by
  obtain ⟨hx, hb, hown, hts, hK, hbase, hZ, hin, hAO⟩ := C
  have hl : len = 1 := by simpa [m_chk1] using hchk
  subst hl
  rw [m_act_eq] at ha
  simp only [m_act0] at ha
  split at ha
  · simp only [m_go, m_sd, Option.some.injEq, Prod.mk.injEq] at ha
    obtain ⟨rfl, rfl⟩ := ha
    exact k_go (fun _ _ _ _ _ _ w => lv_ldiv hx hb hd (hsd _ rfl) w) (hN _ _ _ hq)
  · cases ha
set_option maxHeartbeats 4000000 in
theorem ok_ineg (hLk : m_Lk FL SL CL KI KL) (C : g_Cx g p s m args meth c cc o ii) {sp : Bool} {ix pc len : Nat} {an : List Nat} {kv : Int32} {kl : Int64} {ls : mL} {st : List Value} {h : mH} {sd : Option Prop} {q : List (Option Prop × mN)} {X : List mI → mL → List Value → mH → Prop} 
    (hchk : m_chk1 FL SL CL KI KL ii o P (sp, ix, pc, .ineg, len, an, kv, kl) = true) (hd : decode cc pc = .ok (.ineg, len)) (ha : m_act B (sp, ix, pc, .ineg, len, an, kv, kl) ls st h = some (sd, q)) (hsd : ∀ x, sd = some x → x) (hq : m_alls P r X q)
    (hN : ∀ ls st h, X r ls st h → g_K p l e R s m args below meth c Q g nL n0 s0 B (pc + len) ls st h) (hJ : ∀ (t : Nat) (e' : mI), P[t]? = some e' → ∀ ls st h, X (m_drop P t) ls st h → g_K p l e R s m args below meth c Q g nL n0 s0 B e'.2.2.1 ls st h) :
    g_K p l e R s m args below meth c Q g nL n0 s0 B pc ls st h := by
  obtain ⟨hx, hb, hown, hts, hK, hbase, hZ, hin, hAO⟩ := C
  have hl : len = 1 := by simpa [m_chk1] using hchk
  subst hl
  rw [m_act_eq] at ha
  simp only [m_act0] at ha
  split at ha
  · simp only [m_go, m_sd, Option.some.injEq, Prod.mk.injEq] at ha
    obtain ⟨rfl, rfl⟩ := ha
    exact k_go (fun _ _ _ _ _ _ w => lv_ineg hx hb hd w) (hN _ _ _ hq)
  · cases ha
set_option maxHeartbeats 4000000 in
theorem ok_lneg (hLk : m_Lk FL SL CL KI KL) (C : g_Cx g p s m args meth c cc o ii) {sp : Bool} {ix pc len : Nat} {an : List Nat} {kv : Int32} {kl : Int64} {ls : mL} {st : List Value} {h : mH} {sd : Option Prop} {q : List (Option Prop × mN)} {X : List mI → mL → List Value → mH → Prop} 
    (hchk : m_chk1 FL SL CL KI KL ii o P (sp, ix, pc, .lneg, len, an, kv, kl) = true) (hd : decode cc pc = .ok (.lneg, len)) (ha : m_act B (sp, ix, pc, .lneg, len, an, kv, kl) ls st h = some (sd, q)) (hsd : ∀ x, sd = some x → x) (hq : m_alls P r X q)
    (hN : ∀ ls st h, X r ls st h → g_K p l e R s m args below meth c Q g nL n0 s0 B (pc + len) ls st h) (hJ : ∀ (t : Nat) (e' : mI), P[t]? = some e' → ∀ ls st h, X (m_drop P t) ls st h → g_K p l e R s m args below meth c Q g nL n0 s0 B e'.2.2.1 ls st h) :
    g_K p l e R s m args below meth c Q g nL n0 s0 B pc ls st h := by
  obtain ⟨hx, hb, hown, hts, hK, hbase, hZ, hin, hAO⟩ := C
  have hl : len = 1 := by simpa [m_chk1] using hchk
  subst hl
  rw [m_act_eq] at ha
  simp only [m_act0] at ha
  split at ha
  · simp only [m_go, m_sd, Option.some.injEq, Prod.mk.injEq] at ha
    obtain ⟨rfl, rfl⟩ := ha
    exact k_go (fun _ _ _ _ _ _ w => lv_lneg hx hb hd w) (hN _ _ _ hq)
  · cases ha
set_option maxHeartbeats 4000000 in
theorem ok_lcmp (hLk : m_Lk FL SL CL KI KL) (C : g_Cx g p s m args meth c cc o ii) {sp : Bool} {ix pc len : Nat} {an : List Nat} {kv : Int32} {kl : Int64} {ls : mL} {st : List Value} {h : mH} {sd : Option Prop} {q : List (Option Prop × mN)} {X : List mI → mL → List Value → mH → Prop} 
    (hchk : m_chk1 FL SL CL KI KL ii o P (sp, ix, pc, .lcmp, len, an, kv, kl) = true) (hd : decode cc pc = .ok (.lcmp, len)) (ha : m_act B (sp, ix, pc, .lcmp, len, an, kv, kl) ls st h = some (sd, q)) (hsd : ∀ x, sd = some x → x) (hq : m_alls P r X q)
    (hN : ∀ ls st h, X r ls st h → g_K p l e R s m args below meth c Q g nL n0 s0 B (pc + len) ls st h) (hJ : ∀ (t : Nat) (e' : mI), P[t]? = some e' → ∀ ls st h, X (m_drop P t) ls st h → g_K p l e R s m args below meth c Q g nL n0 s0 B e'.2.2.1 ls st h) :
    g_K p l e R s m args below meth c Q g nL n0 s0 B pc ls st h := by
  obtain ⟨hx, hb, hown, hts, hK, hbase, hZ, hin, hAO⟩ := C
  have hl : len = 1 := by simpa [m_chk1] using hchk
  subst hl
  rw [m_act_eq] at ha
  simp only [m_act0] at ha
  split at ha
  · simp only [m_go, m_sd, Option.some.injEq, Prod.mk.injEq] at ha
    obtain ⟨rfl, rfl⟩ := ha
    exact k_go (fun _ _ _ _ _ _ w => W.lcmp hx hb hd w) (hN _ _ _ hq)
  · cases ha
set_option maxHeartbeats 4000000 in
theorem ok_i2l (hLk : m_Lk FL SL CL KI KL) (C : g_Cx g p s m args meth c cc o ii) {sp : Bool} {ix pc len : Nat} {an : List Nat} {kv : Int32} {kl : Int64} {ls : mL} {st : List Value} {h : mH} {sd : Option Prop} {q : List (Option Prop × mN)} {X : List mI → mL → List Value → mH → Prop} 
    (hchk : m_chk1 FL SL CL KI KL ii o P (sp, ix, pc, .i2l, len, an, kv, kl) = true) (hd : decode cc pc = .ok (.i2l, len)) (ha : m_act B (sp, ix, pc, .i2l, len, an, kv, kl) ls st h = some (sd, q)) (hsd : ∀ x, sd = some x → x) (hq : m_alls P r X q)
    (hN : ∀ ls st h, X r ls st h → g_K p l e R s m args below meth c Q g nL n0 s0 B (pc + len) ls st h) (hJ : ∀ (t : Nat) (e' : mI), P[t]? = some e' → ∀ ls st h, X (m_drop P t) ls st h → g_K p l e R s m args below meth c Q g nL n0 s0 B e'.2.2.1 ls st h) :
    g_K p l e R s m args below meth c Q g nL n0 s0 B pc ls st h := by
  obtain ⟨hx, hb, hown, hts, hK, hbase, hZ, hin, hAO⟩ := C
  have hl : len = 1 := by simpa [m_chk1] using hchk
  subst hl
  rw [m_act_eq] at ha
  simp only [m_act0] at ha
  split at ha
  · simp only [m_go, m_sd, Option.some.injEq, Prod.mk.injEq] at ha
    obtain ⟨rfl, rfl⟩ := ha
    exact k_go (fun _ _ _ _ _ _ w => lv_i2l hx hb hd rfl w) (hN _ _ _ hq)
  · cases ha
set_option maxHeartbeats 4000000 in
theorem ok_l2i (hLk : m_Lk FL SL CL KI KL) (C : g_Cx g p s m args meth c cc o ii) {sp : Bool} {ix pc len : Nat} {an : List Nat} {kv : Int32} {kl : Int64} {ls : mL} {st : List Value} {h : mH} {sd : Option Prop} {q : List (Option Prop × mN)} {X : List mI → mL → List Value → mH → Prop} 
    (hchk : m_chk1 FL SL CL KI KL ii o P (sp, ix, pc, .l2i, len, an, kv, kl) = true) (hd : decode cc pc = .ok (.l2i, len)) (ha : m_act B (sp, ix, pc, .l2i, len, an, kv, kl) ls st h = some (sd, q)) (hsd : ∀ x, sd = some x → x) (hq : m_alls P r X q)
    (hN : ∀ ls st h, X r ls st h → g_K p l e R s m args below meth c Q g nL n0 s0 B (pc + len) ls st h) (hJ : ∀ (t : Nat) (e' : mI), P[t]? = some e' → ∀ ls st h, X (m_drop P t) ls st h → g_K p l e R s m args below meth c Q g nL n0 s0 B e'.2.2.1 ls st h) :
    g_K p l e R s m args below meth c Q g nL n0 s0 B pc ls st h := by
  obtain ⟨hx, hb, hown, hts, hK, hbase, hZ, hin, hAO⟩ := C
  have hl : len = 1 := by simpa [m_chk1] using hchk
  subst hl
  rw [m_act_eq] at ha
  simp only [m_act0] at ha
  split at ha
  · simp only [m_go, m_sd, Option.some.injEq, Prod.mk.injEq] at ha
    obtain ⟨rfl, rfl⟩ := ha
    exact k_go (fun _ _ _ _ _ _ w => lv_l2i hx hb hd rfl w) (hN _ _ _ hq)
  · cases ha
set_option maxHeartbeats 4000000 in
theorem ok_i2s (hLk : m_Lk FL SL CL KI KL) (C : g_Cx g p s m args meth c cc o ii) {sp : Bool} {ix pc len : Nat} {an : List Nat} {kv : Int32} {kl : Int64} {ls : mL} {st : List Value} {h : mH} {sd : Option Prop} {q : List (Option Prop × mN)} {X : List mI → mL → List Value → mH → Prop} 
    (hchk : m_chk1 FL SL CL KI KL ii o P (sp, ix, pc, .i2s, len, an, kv, kl) = true) (hd : decode cc pc = .ok (.i2s, len)) (ha : m_act B (sp, ix, pc, .i2s, len, an, kv, kl) ls st h = some (sd, q)) (hsd : ∀ x, sd = some x → x) (hq : m_alls P r X q)
    (hN : ∀ ls st h, X r ls st h → g_K p l e R s m args below meth c Q g nL n0 s0 B (pc + len) ls st h) (hJ : ∀ (t : Nat) (e' : mI), P[t]? = some e' → ∀ ls st h, X (m_drop P t) ls st h → g_K p l e R s m args below meth c Q g nL n0 s0 B e'.2.2.1 ls st h) :
    g_K p l e R s m args below meth c Q g nL n0 s0 B pc ls st h := by
  obtain ⟨hx, hb, hown, hts, hK, hbase, hZ, hin, hAO⟩ := C
  have hl : len = 1 := by simpa [m_chk1] using hchk
  subst hl
  rw [m_act_eq] at ha
  simp only [m_act0] at ha
  split at ha
  · simp only [m_go, m_sd, Option.some.injEq, Prod.mk.injEq] at ha
    obtain ⟨rfl, rfl⟩ := ha
    exact k_go (fun _ _ _ _ _ _ w => lv_i2s hx hb hd rfl w) (hN _ _ _ hq)
  · cases ha
set_option maxHeartbeats 4000000 in
theorem ok_i2c (hLk : m_Lk FL SL CL KI KL) (C : g_Cx g p s m args meth c cc o ii) {sp : Bool} {ix pc len : Nat} {an : List Nat} {kv : Int32} {kl : Int64} {ls : mL} {st : List Value} {h : mH} {sd : Option Prop} {q : List (Option Prop × mN)} {X : List mI → mL → List Value → mH → Prop} 
    (hchk : m_chk1 FL SL CL KI KL ii o P (sp, ix, pc, .i2c, len, an, kv, kl) = true) (hd : decode cc pc = .ok (.i2c, len)) (ha : m_act B (sp, ix, pc, .i2c, len, an, kv, kl) ls st h = some (sd, q)) (hsd : ∀ x, sd = some x → x) (hq : m_alls P r X q)
    (hN : ∀ ls st h, X r ls st h → g_K p l e R s m args below meth c Q g nL n0 s0 B (pc + len) ls st h) (hJ : ∀ (t : Nat) (e' : mI), P[t]? = some e' → ∀ ls st h, X (m_drop P t) ls st h → g_K p l e R s m args below meth c Q g nL n0 s0 B e'.2.2.1 ls st h) :
    g_K p l e R s m args below meth c Q g nL n0 s0 B pc ls st h := by
  obtain ⟨hx, hb, hown, hts, hK, hbase, hZ, hin, hAO⟩ := C
  have hl : len = 1 := by simpa [m_chk1] using hchk
  subst hl
  rw [m_act_eq] at ha
  simp only [m_act0] at ha
  split at ha
  · simp only [m_go, m_sd, Option.some.injEq, Prod.mk.injEq] at ha
    obtain ⟨rfl, rfl⟩ := ha
    exact k_go (fun _ _ _ _ _ _ w => lv_i2c hx hb hd rfl w) (hN _ _ _ hq)
  · cases ha
set_option maxHeartbeats 4000000 in
theorem ok_dup_x1 (hLk : m_Lk FL SL CL KI KL) (C : g_Cx g p s m args meth c cc o ii) {sp : Bool} {ix pc len : Nat} {an : List Nat} {kv : Int32} {kl : Int64} {ls : mL} {st : List Value} {h : mH} {sd : Option Prop} {q : List (Option Prop × mN)} {X : List mI → mL → List Value → mH → Prop} 
    (hchk : m_chk1 FL SL CL KI KL ii o P (sp, ix, pc, .dup_x1, len, an, kv, kl) = true) (hd : decode cc pc = .ok (.dup_x1, len)) (ha : m_act B (sp, ix, pc, .dup_x1, len, an, kv, kl) ls st h = some (sd, q)) (hsd : ∀ x, sd = some x → x) (hq : m_alls P r X q)
    (hN : ∀ ls st h, X r ls st h → g_K p l e R s m args below meth c Q g nL n0 s0 B (pc + len) ls st h) (hJ : ∀ (t : Nat) (e' : mI), P[t]? = some e' → ∀ ls st h, X (m_drop P t) ls st h → g_K p l e R s m args below meth c Q g nL n0 s0 B e'.2.2.1 ls st h) :
    g_K p l e R s m args below meth c Q g nL n0 s0 B pc ls st h := by
  obtain ⟨hx, hb, hown, hts, hK, hbase, hZ, hin, hAO⟩ := C
  have hl : len = 1 := by simpa [m_chk1] using hchk
  subst hl
  rw [m_act_eq] at ha
  simp only [m_act0] at ha
  split at ha
  · simp only [m_go, m_sd, Option.some.injEq, Prod.mk.injEq] at ha
    obtain ⟨rfl, rfl⟩ := ha
    exact k_go (fun _ _ _ _ _ _ w => lv_dup_x1 hx hb hd rfl rfl w) (hN _ _ _ hq)
  · cases ha
set_option maxHeartbeats 4000000 in
theorem ok_dup2 (hLk : m_Lk FL SL CL KI KL) (C : g_Cx g p s m args meth c cc o ii) {sp : Bool} {ix pc len : Nat} {an : List Nat} {kv : Int32} {kl : Int64} {ls : mL} {st : List Value} {h : mH} {sd : Option Prop} {q : List (Option Prop × mN)} {X : List mI → mL → List Value → mH → Prop} 
    (hchk : m_chk1 FL SL CL KI KL ii o P (sp, ix, pc, .dup2, len, an, kv, kl) = true) (hd : decode cc pc = .ok (.dup2, len)) (ha : m_act B (sp, ix, pc, .dup2, len, an, kv, kl) ls st h = some (sd, q)) (hsd : ∀ x, sd = some x → x) (hq : m_alls P r X q)
    (hN : ∀ ls st h, X r ls st h → g_K p l e R s m args below meth c Q g nL n0 s0 B (pc + len) ls st h) (hJ : ∀ (t : Nat) (e' : mI), P[t]? = some e' → ∀ ls st h, X (m_drop P t) ls st h → g_K p l e R s m args below meth c Q g nL n0 s0 B e'.2.2.1 ls st h) :
    g_K p l e R s m args below meth c Q g nL n0 s0 B pc ls st h := by
  obtain ⟨hx, hb, hown, hts, hK, hbase, hZ, hin, hAO⟩ := C
  have hl : len = 1 := by simpa [m_chk1] using hchk
  subst hl
  rw [m_act_eq] at ha
  simp only [m_act0] at ha
  split at ha
  · simp only [m_go, m_sd, Option.some.injEq, Prod.mk.injEq] at ha
    obtain ⟨rfl, rfl⟩ := ha
    exact k_go (fun _ _ _ _ _ _ w => lv_dup2_11 hx hb hd rfl rfl w) (hN _ _ _ hq)
  · cases ha
set_option maxHeartbeats 4000000 in
theorem ok_pop (hLk : m_Lk FL SL CL KI KL) (C : g_Cx g p s m args meth c cc o ii) {sp : Bool} {ix pc len : Nat} {an : List Nat} {kv : Int32} {kl : Int64} {ls : mL} {st : List Value} {h : mH} {sd : Option Prop} {q : List (Option Prop × mN)} {X : List mI → mL → List Value → mH → Prop} 
    (hchk : m_chk1 FL SL CL KI KL ii o P (sp, ix, pc, .pop, len, an, kv, kl) = true) (hd : decode cc pc = .ok (.pop, len)) (ha : m_act B (sp, ix, pc, .pop, len, an, kv, kl) ls st h = some (sd, q)) (hsd : ∀ x, sd = some x → x) (hq : m_alls P r X q)
    (hN : ∀ ls st h, X r ls st h → g_K p l e R s m args below meth c Q g nL n0 s0 B (pc + len) ls st h) (hJ : ∀ (t : Nat) (e' : mI), P[t]? = some e' → ∀ ls st h, X (m_drop P t) ls st h → g_K p l e R s m args below meth c Q g nL n0 s0 B e'.2.2.1 ls st h) :
    g_K p l e R s m args below meth c Q g nL n0 s0 B pc ls st h := by
  obtain ⟨hx, hb, hown, hts, hK, hbase, hZ, hin, hAO⟩ := C
  have hl : len = 1 := by simpa [m_chk1] using hchk
  subst hl
  rw [m_act_eq] at ha
  simp only [m_act0] at ha
  split at ha
  · simp only [m_go, m_sd, Option.some.injEq, Prod.mk.injEq] at ha
    obtain ⟨rfl, rfl⟩ := ha
    exact k_go (fun _ _ _ _ _ _ w => lv_pop hx hb hd rfl w) (hN _ _ _ hq)
  · cases ha
set_option maxHeartbeats 4000000 in
theorem ok_dup (hLk : m_Lk FL SL CL KI KL) (C : g_Cx g p s m args meth c cc o ii) {sp : Bool} {ix pc len : Nat} {an : List Nat} {kv : Int32} {kl : Int64} {ls : mL} {st : List Value} {h : mH} {sd : Option Prop} {q : List (Option Prop × mN)} {X : List mI → mL → List Value → mH → Prop} 
    (hchk : m_chk1 FL SL CL KI KL ii o P (sp, ix, pc, .dup, len, an, kv, kl) = true) (hd : decode cc pc = .ok (.dup, len)) (ha : m_act B (sp, ix, pc, .dup, len, an, kv, kl) ls st h = some (sd, q)) (hsd : ∀ x, sd = some x → x) (hq : m_alls P r X q)
    (hN : ∀ ls st h, X r ls st h → g_K p l e R s m args below meth c Q g nL n0 s0 B (pc + len) ls st h) (hJ : ∀ (t : Nat) (e' : mI), P[t]? = some e' → ∀ ls st h, X (m_drop P t) ls st h → g_K p l e R s m args below meth c Q g nL n0 s0 B e'.2.2.1 ls st h) :
    g_K p l e R s m args below meth c Q g nL n0 s0 B pc ls st h := by
  obtain ⟨hx, hb, hown, hts, hK, hbase, hZ, hin, hAO⟩ := C
  have hl : len = 1 := by simpa [m_chk1] using hchk
  subst hl
  rw [m_act_eq] at ha
  simp only [m_act0] at ha
  split at ha
  · simp only [m_go, Option.some.injEq, Prod.mk.injEq] at ha
    obtain ⟨rfl, rfl⟩ := ha
    exact k_go (fun _ _ _ _ _ _ w => lv_dup hx hb hd rfl w) (hN _ _ _ hq)
  · simp only [m_go, Option.some.injEq, Prod.mk.injEq] at ha
    obtain ⟨rfl, rfl⟩ := ha
    exact k_go (fun _ _ _ _ _ _ w => lv_dup hx hb hd rfl w) (hN _ _ _ hq)
  · cases ha
set_option maxHeartbeats 4000000 in
theorem ok_iconst (hLk : m_Lk FL SL CL KI KL) (C : g_Cx g p s m args meth c cc o ii) {sp : Bool} {ix pc len : Nat} {an : List Nat} {kv : Int32} {kl : Int64} {ls : mL} {st : List Value} {h : mH} {sd : Option Prop} {q : List (Option Prop × mN)} {X : List mI → mL → List Value → mH → Prop} {n : Int}
    (hchk : m_chk1 FL SL CL KI KL ii o P (sp, ix, pc, (.iconst n), len, an, kv, kl) = true) (hd : decode cc pc = .ok ((.iconst n), len)) (ha : m_act B (sp, ix, pc, (.iconst n), len, an, kv, kl) ls st h = some (sd, q)) (hsd : ∀ x, sd = some x → x) (hq : m_alls P r X q)
    (hN : ∀ ls st h, X r ls st h → g_K p l e R s m args below meth c Q g nL n0 s0 B (pc + len) ls st h) (hJ : ∀ (t : Nat) (e' : mI), P[t]? = some e' → ∀ ls st h, X (m_drop P t) ls st h → g_K p l e R s m args below meth c Q g nL n0 s0 B e'.2.2.1 ls st h) :
    g_K p l e R s m args below meth c Q g nL n0 s0 B pc ls st h := by
  obtain ⟨hx, hb, hown, hts, hK, hbase, hZ, hin, hAO⟩ := C
  have hl : len = 1 ∧ Int32.ofInt n = kv := by simpa [m_chk1] using hchk
  obtain ⟨rfl, hv⟩ := hl
  rw [m_act_eq] at ha
  simp only [m_act0, m_go, Option.some.injEq, Prod.mk.injEq] at ha
  obtain ⟨rfl, rfl⟩ := ha
  exact k_go (fun _ _ _ _ _ _ w => lv_iconst hx hb hd hv w) (hN _ _ _ hq)
set_option maxHeartbeats 4000000 in
theorem ok_bipush (hLk : m_Lk FL SL CL KI KL) (C : g_Cx g p s m args meth c cc o ii) {sp : Bool} {ix pc len : Nat} {an : List Nat} {kv : Int32} {kl : Int64} {ls : mL} {st : List Value} {h : mH} {sd : Option Prop} {q : List (Option Prop × mN)} {X : List mI → mL → List Value → mH → Prop} {n : Int}
    (hchk : m_chk1 FL SL CL KI KL ii o P (sp, ix, pc, (.bipush n), len, an, kv, kl) = true) (hd : decode cc pc = .ok ((.bipush n), len)) (ha : m_act B (sp, ix, pc, (.bipush n), len, an, kv, kl) ls st h = some (sd, q)) (hsd : ∀ x, sd = some x → x) (hq : m_alls P r X q)
    (hN : ∀ ls st h, X r ls st h → g_K p l e R s m args below meth c Q g nL n0 s0 B (pc + len) ls st h) (hJ : ∀ (t : Nat) (e' : mI), P[t]? = some e' → ∀ ls st h, X (m_drop P t) ls st h → g_K p l e R s m args below meth c Q g nL n0 s0 B e'.2.2.1 ls st h) :
    g_K p l e R s m args below meth c Q g nL n0 s0 B pc ls st h := by
  obtain ⟨hx, hb, hown, hts, hK, hbase, hZ, hin, hAO⟩ := C
  have hl : len = 2 ∧ (Int8.ofInt n).toInt32 = kv := by simpa [m_chk1] using hchk
  obtain ⟨rfl, hv⟩ := hl
  rw [m_act_eq] at ha
  simp only [m_act0, m_go, Option.some.injEq, Prod.mk.injEq] at ha
  obtain ⟨rfl, rfl⟩ := ha
  exact k_go (fun _ _ _ _ _ _ w => lv_bipush hx hb hd hv w) (hN _ _ _ hq)
set_option maxHeartbeats 4000000 in
theorem ok_sipush (hLk : m_Lk FL SL CL KI KL) (C : g_Cx g p s m args meth c cc o ii) {sp : Bool} {ix pc len : Nat} {an : List Nat} {kv : Int32} {kl : Int64} {ls : mL} {st : List Value} {h : mH} {sd : Option Prop} {q : List (Option Prop × mN)} {X : List mI → mL → List Value → mH → Prop} {n : Int}
    (hchk : m_chk1 FL SL CL KI KL ii o P (sp, ix, pc, (.sipush n), len, an, kv, kl) = true) (hd : decode cc pc = .ok ((.sipush n), len)) (ha : m_act B (sp, ix, pc, (.sipush n), len, an, kv, kl) ls st h = some (sd, q)) (hsd : ∀ x, sd = some x → x) (hq : m_alls P r X q)
    (hN : ∀ ls st h, X r ls st h → g_K p l e R s m args below meth c Q g nL n0 s0 B (pc + len) ls st h) (hJ : ∀ (t : Nat) (e' : mI), P[t]? = some e' → ∀ ls st h, X (m_drop P t) ls st h → g_K p l e R s m args below meth c Q g nL n0 s0 B e'.2.2.1 ls st h) :
    g_K p l e R s m args below meth c Q g nL n0 s0 B pc ls st h := by
  obtain ⟨hx, hb, hown, hts, hK, hbase, hZ, hin, hAO⟩ := C
  have hl : len = 3 ∧ (Int16.ofInt n).toInt32 = kv := by simpa [m_chk1] using hchk
  obtain ⟨rfl, hv⟩ := hl
  rw [m_act_eq] at ha
  simp only [m_act0, m_go, Option.some.injEq, Prod.mk.injEq] at ha
  obtain ⟨rfl, rfl⟩ := ha
  exact k_go (fun _ _ _ _ _ _ w => lv_sipush hx hb hd hv w) (hN _ _ _ hq)
set_option maxHeartbeats 4000000 in
theorem ok_lconst (hLk : m_Lk FL SL CL KI KL) (C : g_Cx g p s m args meth c cc o ii) {sp : Bool} {ix pc len : Nat} {an : List Nat} {kv : Int32} {kl : Int64} {ls : mL} {st : List Value} {h : mH} {sd : Option Prop} {q : List (Option Prop × mN)} {X : List mI → mL → List Value → mH → Prop} {n : Fin 2}
    (hchk : m_chk1 FL SL CL KI KL ii o P (sp, ix, pc, (.lconst n), len, an, kv, kl) = true) (hd : decode cc pc = .ok ((.lconst n), len)) (ha : m_act B (sp, ix, pc, (.lconst n), len, an, kv, kl) ls st h = some (sd, q)) (hsd : ∀ x, sd = some x → x) (hq : m_alls P r X q)
    (hN : ∀ ls st h, X r ls st h → g_K p l e R s m args below meth c Q g nL n0 s0 B (pc + len) ls st h) (hJ : ∀ (t : Nat) (e' : mI), P[t]? = some e' → ∀ ls st h, X (m_drop P t) ls st h → g_K p l e R s m args below meth c Q g nL n0 s0 B e'.2.2.1 ls st h) :
    g_K p l e R s m args below meth c Q g nL n0 s0 B pc ls st h := by
  obtain ⟨hx, hb, hown, hts, hK, hbase, hZ, hin, hAO⟩ := C
  have hl : len = 1 ∧ Int64.ofNat n.val = kl := by simpa [m_chk1] using hchk
  obtain ⟨rfl, hv⟩ := hl
  rw [m_act_eq] at ha
  simp only [m_act0, m_go, Option.some.injEq, Prod.mk.injEq] at ha
  obtain ⟨rfl, rfl⟩ := ha
  exact k_go (fun _ _ _ _ _ _ w => lv_lconst hx hb hd hv w) (hN _ _ _ hq)
set_option maxHeartbeats 4000000 in
theorem ok_ldc2_w (hLk : m_Lk FL SL CL KI KL) (C : g_Cx g p s m args meth c cc o ii) {sp : Bool} {ix pc len : Nat} {an : List Nat} {kv : Int32} {kl : Int64} {ls : mL} {st : List Value} {h : mH} {sd : Option Prop} {q : List (Option Prop × mN)} {X : List mI → mL → List Value → mH → Prop} {i : Nat}
    (hchk : m_chk1 FL SL CL KI KL ii o P (sp, ix, pc, (.ldc2_w i), len, an, kv, kl) = true) (hd : decode cc pc = .ok ((.ldc2_w i), len)) (ha : m_act B (sp, ix, pc, (.ldc2_w i), len, an, kv, kl) ls st h = some (sd, q)) (hsd : ∀ x, sd = some x → x) (hq : m_alls P r X q)
    (hN : ∀ ls st h, X r ls st h → g_K p l e R s m args below meth c Q g nL n0 s0 B (pc + len) ls st h) (hJ : ∀ (t : Nat) (e' : mI), P[t]? = some e' → ∀ ls st h, X (m_drop P t) ls st h → g_K p l e R s m args below meth c Q g nL n0 s0 B e'.2.2.1 ls st h) :
    g_K p l e R s m args below meth c Q g nL n0 s0 B pc ls st h := by
  obtain ⟨hx, hb, hown, hts, hK, hbase, hZ, hin, hAO⟩ := C
  have hl : len = 3 ∧ ∃ a b k, (a, b, k) ∈ KL ∧ (a = o ∧ b = i) ∧ k = kl := by simpa [m_chk1] using hchk
  obtain ⟨rfl, a, b, k, hm, ⟨rfl, rfl⟩, rfl⟩ := hl
  rw [m_act_eq] at ha
  simp only [m_act0, m_go, Option.some.injEq, Prod.mk.injEq] at ha
  obtain ⟨rfl, rfl⟩ := ha
  exact k_go (fun _ _ _ _ _ _ w => lv_ldc2 hx hb hown (hts _ (hLk.2.2.2.2.2.1 _ hm)) hd w) (hN _ _ _ hq)
set_option maxHeartbeats 4000000 in
theorem ok_ldc (hLk : m_Lk FL SL CL KI KL) (C : g_Cx g p s m args meth c cc o ii) {sp : Bool} {ix pc len : Nat} {an : List Nat} {kv : Int32} {kl : Int64} {ls : mL} {st : List Value} {h : mH} {sd : Option Prop} {q : List (Option Prop × mN)} {X : List mI → mL → List Value → mH → Prop} {i : Nat}
    (hchk : m_chk1 FL SL CL KI KL ii o P (sp, ix, pc, (.ldc i), len, an, kv, kl) = true) (hd : decode cc pc = .ok ((.ldc i), len)) (ha : m_act B (sp, ix, pc, (.ldc i), len, an, kv, kl) ls st h = some (sd, q)) (hsd : ∀ x, sd = some x → x) (hq : m_alls P r X q)
    (hN : ∀ ls st h, X r ls st h → g_K p l e R s m args below meth c Q g nL n0 s0 B (pc + len) ls st h) (hJ : ∀ (t : Nat) (e' : mI), P[t]? = some e' → ∀ ls st h, X (m_drop P t) ls st h → g_K p l e R s m args below meth c Q g nL n0 s0 B e'.2.2.1 ls st h) :
    g_K p l e R s m args below meth c Q g nL n0 s0 B pc ls st h := by
  obtain ⟨hx, hb, hown, hts, hK, hbase, hZ, hin, hAO⟩ := C
  rw [m_act_eq] at ha
  simp only [m_act0] at ha
  split at ha
  · have hl : len = 2 ∧ ∃ a b k, (a, b, k) ∈ KI ∧ (a = o ∧ b = i) ∧ k = kv := by simpa [m_chk1] using hchk
    obtain ⟨rfl, a, b, k, hm, ⟨rfl, rfl⟩, rfl⟩ := hl
    simp only [m_go, Option.some.injEq, Prod.mk.injEq] at ha
    obtain ⟨rfl, rfl⟩ := ha
    exact k_go (fun _ _ _ _ _ _ w => lv_ldc hx hb hown (hts _ (hLk.2.2.2.2.1 _ hm)) hd w) (hN _ _ _ hq)
  · rename_i a9
    have hl : len = 2 ∧ (a9 = 4 ∧ o = 6) ∧ i = 91 := by simpa [m_chk1] using hchk
    obtain ⟨rfl, ⟨rfl, rfl⟩, rfl⟩ := hl
    simp only [m_go, Option.some.injEq, Prod.mk.injEq] at ha
    obtain ⟨rfl, rfl⟩ := ha
    refine k_go (fun _ _ _ _ _ _ w => va_ldcS (q := g.2.2.2 4) (tx := "pvdr") hx hb hown hAO.2.2.2.1 hd ?_) (hN _ _ _ hq)
    have e9 : g_v g (.ref 4) = .ref (g.2.2.2 4) := by
      show Value.ref (g_ad g 4) = _
      rw [g_ad_lt (by decide)]
    rw [List.map_cons, e9] at w
    exact w
  · cases ha
set_option maxHeartbeats 4000000 in
theorem ok_ldc_w (hLk : m_Lk FL SL CL KI KL) (C : g_Cx g p s m args meth c cc o ii) {sp : Bool} {ix pc len : Nat} {an : List Nat} {kv : Int32} {kl : Int64} {ls : mL} {st : List Value} {h : mH} {sd : Option Prop} {q : List (Option Prop × mN)} {X : List mI → mL → List Value → mH → Prop} {i : Nat}
    (hchk : m_chk1 FL SL CL KI KL ii o P (sp, ix, pc, (.ldc_w i), len, an, kv, kl) = true) (hd : decode cc pc = .ok ((.ldc_w i), len)) (ha : m_act B (sp, ix, pc, (.ldc_w i), len, an, kv, kl) ls st h = some (sd, q)) (hsd : ∀ x, sd = some x → x) (hq : m_alls P r X q)
    (hN : ∀ ls st h, X r ls st h → g_K p l e R s m args below meth c Q g nL n0 s0 B (pc + len) ls st h) (hJ : ∀ (t : Nat) (e' : mI), P[t]? = some e' → ∀ ls st h, X (m_drop P t) ls st h → g_K p l e R s m args below meth c Q g nL n0 s0 B e'.2.2.1 ls st h) :
    g_K p l e R s m args below meth c Q g nL n0 s0 B pc ls st h := by
  obtain ⟨hx, hb, hown, hts, hK, hbase, hZ, hin, hAO⟩ := C
  have hl : len = 3 ∧ ∃ a b k, (a, b, k) ∈ KI ∧ (a = o ∧ b = i) ∧ k = kv := by simpa [m_chk1] using hchk
  obtain ⟨rfl, a, b, k, hm, ⟨rfl, rfl⟩, rfl⟩ := hl
  rw [m_act_eq] at ha
  simp only [m_act0, m_go, Option.some.injEq, Prod.mk.injEq] at ha
  obtain ⟨rfl, rfl⟩ := ha
  exact k_go (fun _ _ _ _ _ _ w => lv_ldcw hx hb hown (hts _ (hLk.2.2.2.2.1 _ hm)) hd w) (hN _ _ _ hq)
set_option maxHeartbeats 4000000 in
theorem ok_iload (hLk : m_Lk FL SL CL KI KL) (C : g_Cx g p s m args meth c cc o ii) {sp : Bool} {ix pc len : Nat} {an : List Nat} {kv : Int32} {kl : Int64} {ls : mL} {st : List Value} {h : mH} {sd : Option Prop} {q : List (Option Prop × mN)} {X : List mI → mL → List Value → mH → Prop} {i : Nat}
    (hchk : m_chk1 FL SL CL KI KL ii o P (sp, ix, pc, (.iload i), len, an, kv, kl) = true) (hd : decode cc pc = .ok ((.iload i), len)) (ha : m_act B (sp, ix, pc, (.iload i), len, an, kv, kl) ls st h = some (sd, q)) (hsd : ∀ x, sd = some x → x) (hq : m_alls P r X q)
    (hN : ∀ ls st h, X r ls st h → g_K p l e R s m args below meth c Q g nL n0 s0 B (pc + len) ls st h) (hJ : ∀ (t : Nat) (e' : mI), P[t]? = some e' → ∀ ls st h, X (m_drop P t) ls st h → g_K p l e R s m args below meth c Q g nL n0 s0 B e'.2.2.1 ls st h) :
    g_K p l e R s m args below meth c Q g nL n0 s0 B pc ls st h := by
  obtain ⟨hx, hb, hown, hts, hK, hbase, hZ, hin, hAO⟩ := C
  have hl : len = 2 := by simpa [m_chk1] using hchk
  subst hl
  rw [m_act_eq] at ha
  simp only [m_act0, m_ldi] at ha
  obtain ⟨v, hv, ha⟩ := m_ld_spec _ _ _ _ ha
  split at ha
  · simp only [m_go, Option.some.injEq, Prod.mk.injEq] at ha
    obtain ⟨rfl, rfl⟩ := ha
    exact k_go (fun _ _ _ _ _ I w => lv_iload hx hb hd (I.2.1.2.2.2 _ _ hv) w) (hN _ _ _ hq)
  · cases ha
set_option maxHeartbeats 4000000 in
theorem ok_iload_n (hLk : m_Lk FL SL CL KI KL) (C : g_Cx g p s m args meth c cc o ii) {sp : Bool} {ix pc len : Nat} {an : List Nat} {kv : Int32} {kl : Int64} {ls : mL} {st : List Value} {h : mH} {sd : Option Prop} {q : List (Option Prop × mN)} {X : List mI → mL → List Value → mH → Prop} {i : Fin 4}
    (hchk : m_chk1 FL SL CL KI KL ii o P (sp, ix, pc, (.iload_n i), len, an, kv, kl) = true) (hd : decode cc pc = .ok ((.iload_n i), len)) (ha : m_act B (sp, ix, pc, (.iload_n i), len, an, kv, kl) ls st h = some (sd, q)) (hsd : ∀ x, sd = some x → x) (hq : m_alls P r X q)
    (hN : ∀ ls st h, X r ls st h → g_K p l e R s m args below meth c Q g nL n0 s0 B (pc + len) ls st h) (hJ : ∀ (t : Nat) (e' : mI), P[t]? = some e' → ∀ ls st h, X (m_drop P t) ls st h → g_K p l e R s m args below meth c Q g nL n0 s0 B e'.2.2.1 ls st h) :
    g_K p l e R s m args below meth c Q g nL n0 s0 B pc ls st h := by
  obtain ⟨hx, hb, hown, hts, hK, hbase, hZ, hin, hAO⟩ := C
  have hl : len = 1 := by simpa [m_chk1] using hchk
  subst hl
  rw [m_act_eq] at ha
  simp only [m_act0, m_ldi] at ha
  obtain ⟨v, hv, ha⟩ := m_ld_spec _ _ _ _ ha
  split at ha
  · simp only [m_go, Option.some.injEq, Prod.mk.injEq] at ha
    obtain ⟨rfl, rfl⟩ := ha
    exact k_go (fun _ _ _ _ _ I w => lv_iload_n hx hb hd rfl (I.2.1.2.2.2 _ _ hv) w) (hN _ _ _ hq)
  · cases ha
set_option maxHeartbeats 4000000 in
theorem ok_lload (hLk : m_Lk FL SL CL KI KL) (C : g_Cx g p s m args meth c cc o ii) {sp : Bool} {ix pc len : Nat} {an : List Nat} {kv : Int32} {kl : Int64} {ls : mL} {st : List Value} {h : mH} {sd : Option Prop} {q : List (Option Prop × mN)} {X : List mI → mL → List Value → mH → Prop} {i : Nat}
    (hchk : m_chk1 FL SL CL KI KL ii o P (sp, ix, pc, (.lload i), len, an, kv, kl) = true) (hd : decode cc pc = .ok ((.lload i), len)) (ha : m_act B (sp, ix, pc, (.lload i), len, an, kv, kl) ls st h = some (sd, q)) (hsd : ∀ x, sd = some x → x) (hq : m_alls P r X q)
    (hN : ∀ ls st h, X r ls st h → g_K p l e R s m args below meth c Q g nL n0 s0 B (pc + len) ls st h) (hJ : ∀ (t : Nat) (e' : mI), P[t]? = some e' → ∀ ls st h, X (m_drop P t) ls st h → g_K p l e R s m args below meth c Q g nL n0 s0 B e'.2.2.1 ls st h) :
    g_K p l e R s m args below meth c Q g nL n0 s0 B pc ls st h := by
  obtain ⟨hx, hb, hown, hts, hK, hbase, hZ, hin, hAO⟩ := C
  have hl : len = 2 := by simpa [m_chk1] using hchk
  subst hl
  rw [m_act_eq] at ha
  simp only [m_act0, m_ldl] at ha
  obtain ⟨v, hv, ha⟩ := m_ld_spec _ _ _ _ ha
  split at ha
  · simp only [m_go, Option.some.injEq, Prod.mk.injEq] at ha
    obtain ⟨rfl, rfl⟩ := ha
    exact k_go (fun _ _ _ _ _ I w => lv_lload hx hb hd (I.2.1.2.2.2 _ _ hv) w) (hN _ _ _ hq)
  · cases ha
set_option maxHeartbeats 4000000 in
theorem ok_lload_n (hLk : m_Lk FL SL CL KI KL) (C : g_Cx g p s m args meth c cc o ii) {sp : Bool} {ix pc len : Nat} {an : List Nat} {kv : Int32} {kl : Int64} {ls : mL} {st : List Value} {h : mH} {sd : Option Prop} {q : List (Option Prop × mN)} {X : List mI → mL → List Value → mH → Prop} {i : Fin 4}
    (hchk : m_chk1 FL SL CL KI KL ii o P (sp, ix, pc, (.lload_n i), len, an, kv, kl) = true) (hd : decode cc pc = .ok ((.lload_n i), len)) (ha : m_act B (sp, ix, pc, (.lload_n i), len, an, kv, kl) ls st h = some (sd, q)) (hsd : ∀ x, sd = some x → x) (hq : m_alls P r X q)
    (hN : ∀ ls st h, X r ls st h → g_K p l e R s m args below meth c Q g nL n0 s0 B (pc + len) ls st h) (hJ : ∀ (t : Nat) (e' : mI), P[t]? = some e' → ∀ ls st h, X (m_drop P t) ls st h → g_K p l e R s m args below meth c Q g nL n0 s0 B e'.2.2.1 ls st h) :
    g_K p l e R s m args below meth c Q g nL n0 s0 B pc ls st h := by
  obtain ⟨hx, hb, hown, hts, hK, hbase, hZ, hin, hAO⟩ := C
  have hl : len = 1 := by simpa [m_chk1] using hchk
  subst hl
  rw [m_act_eq] at ha
  simp only [m_act0, m_ldl] at ha
  obtain ⟨v, hv, ha⟩ := m_ld_spec _ _ _ _ ha
  split at ha
  · simp only [m_go, Option.some.injEq, Prod.mk.injEq] at ha
    obtain ⟨rfl, rfl⟩ := ha
    exact k_go (fun _ _ _ _ _ I w => lv_lload_n hx hb hd rfl (I.2.1.2.2.2 _ _ hv) w) (hN _ _ _ hq)
  · cases ha
set_option maxHeartbeats 4000000 in
theorem ok_aload (hLk : m_Lk FL SL CL KI KL) (C : g_Cx g p s m args meth c cc o ii) {sp : Bool} {ix pc len : Nat} {an : List Nat} {kv : Int32} {kl : Int64} {ls : mL} {st : List Value} {h : mH} {sd : Option Prop} {q : List (Option Prop × mN)} {X : List mI → mL → List Value → mH → Prop} {i : Nat}
    (hchk : m_chk1 FL SL CL KI KL ii o P (sp, ix, pc, (.aload i), len, an, kv, kl) = true) (hd : decode cc pc = .ok ((.aload i), len)) (ha : m_act B (sp, ix, pc, (.aload i), len, an, kv, kl) ls st h = some (sd, q)) (hsd : ∀ x, sd = some x → x) (hq : m_alls P r X q)
    (hN : ∀ ls st h, X r ls st h → g_K p l e R s m args below meth c Q g nL n0 s0 B (pc + len) ls st h) (hJ : ∀ (t : Nat) (e' : mI), P[t]? = some e' → ∀ ls st h, X (m_drop P t) ls st h → g_K p l e R s m args below meth c Q g nL n0 s0 B e'.2.2.1 ls st h) :
    g_K p l e R s m args below meth c Q g nL n0 s0 B pc ls st h := by
  obtain ⟨hx, hb, hown, hts, hK, hbase, hZ, hin, hAO⟩ := C
  have hl : len = 2 := by simpa [m_chk1] using hchk
  subst hl
  rw [m_act_eq] at ha
  simp only [m_act0, m_lda] at ha
  obtain ⟨v, hv, ha⟩ := m_ld_spec _ _ _ _ ha
  split at ha
  · simp only [m_go, Option.some.injEq, Prod.mk.injEq] at ha
    obtain ⟨rfl, rfl⟩ := ha
    exact k_go (fun _ _ _ _ _ I w => lv_aload hx hb hd (I.2.1.2.2.2 _ _ hv) w) (hN _ _ _ hq)
  · cases ha
set_option maxHeartbeats 4000000 in
theorem ok_aload_n (hLk : m_Lk FL SL CL KI KL) (C : g_Cx g p s m args meth c cc o ii) {sp : Bool} {ix pc len : Nat} {an : List Nat} {kv : Int32} {kl : Int64} {ls : mL} {st : List Value} {h : mH} {sd : Option Prop} {q : List (Option Prop × mN)} {X : List mI → mL → List Value → mH → Prop} {i : Fin 4}
    (hchk : m_chk1 FL SL CL KI KL ii o P (sp, ix, pc, (.aload_n i), len, an, kv, kl) = true) (hd : decode cc pc = .ok ((.aload_n i), len)) (ha : m_act B (sp, ix, pc, (.aload_n i), len, an, kv, kl) ls st h = some (sd, q)) (hsd : ∀ x, sd = some x → x) (hq : m_alls P r X q)
    (hN : ∀ ls st h, X r ls st h → g_K p l e R s m args below meth c Q g nL n0 s0 B (pc + len) ls st h) (hJ : ∀ (t : Nat) (e' : mI), P[t]? = some e' → ∀ ls st h, X (m_drop P t) ls st h → g_K p l e R s m args below meth c Q g nL n0 s0 B e'.2.2.1 ls st h) :
    g_K p l e R s m args below meth c Q g nL n0 s0 B pc ls st h := by
  obtain ⟨hx, hb, hown, hts, hK, hbase, hZ, hin, hAO⟩ := C
  have hl : len = 1 := by simpa [m_chk1] using hchk
  subst hl
  rw [m_act_eq] at ha
  simp only [m_act0, m_lda] at ha
  obtain ⟨v, hv, ha⟩ := m_ld_spec _ _ _ _ ha
  split at ha
  · simp only [m_go, Option.some.injEq, Prod.mk.injEq] at ha
    obtain ⟨rfl, rfl⟩ := ha
    exact k_go (fun _ _ _ _ _ I w => lv_aload_n hx hb hd rfl (I.2.1.2.2.2 _ _ hv) w) (hN _ _ _ hq)
  · cases ha
set_option maxHeartbeats 4000000 in
theorem ok_istore (hLk : m_Lk FL SL CL KI KL) (C : g_Cx g p s m args meth c cc o ii) {sp : Bool} {ix pc len : Nat} {an : List Nat} {kv : Int32} {kl : Int64} {ls : mL} {st : List Value} {h : mH} {sd : Option Prop} {q : List (Option Prop × mN)} {X : List mI → mL → List Value → mH → Prop} {i : Nat}
    (hchk : m_chk1 FL SL CL KI KL ii o P (sp, ix, pc, (.istore i), len, an, kv, kl) = true) (hd : decode cc pc = .ok ((.istore i), len)) (ha : m_act B (sp, ix, pc, (.istore i), len, an, kv, kl) ls st h = some (sd, q)) (hsd : ∀ x, sd = some x → x) (hq : m_alls P r X q)
    (hN : ∀ ls st h, X r ls st h → g_K p l e R s m args below meth c Q g nL n0 s0 B (pc + len) ls st h) (hJ : ∀ (t : Nat) (e' : mI), P[t]? = some e' → ∀ ls st h, X (m_drop P t) ls st h → g_K p l e R s m args below meth c Q g nL n0 s0 B e'.2.2.1 ls st h) :
    g_K p l e R s m args below meth c Q g nL n0 s0 B pc ls st h := by
  obtain ⟨hx, hb, hown, hts, hK, hbase, hZ, hin, hAO⟩ := C
  have hl : len = 2 := by simpa [m_chk1] using hchk
  subst hl
  rw [m_act_eq] at ha
  simp only [m_act0, m_sti] at ha
  split at ha
  · obtain ⟨ls', ha, hlen, hi, hs⟩ := m_st_spec _ _ _ _ _ ha
    simp only [m_go, Option.some.injEq, Prod.mk.injEq] at ha
    obtain ⟨rfl, rfl⟩ := ha
    exact k_st hlen hs (fun _ _ _ _ _ I w => lv_istore hx hb hd I.2.1.has (I.2.1.1 ▸ hi) rfl w) (hN _ _ _ hq)
  · cases ha
set_option maxHeartbeats 4000000 in
theorem ok_istore_n (hLk : m_Lk FL SL CL KI KL) (C : g_Cx g p s m args meth c cc o ii) {sp : Bool} {ix pc len : Nat} {an : List Nat} {kv : Int32} {kl : Int64} {ls : mL} {st : List Value} {h : mH} {sd : Option Prop} {q : List (Option Prop × mN)} {X : List mI → mL → List Value → mH → Prop} {i : Fin 4}
    (hchk : m_chk1 FL SL CL KI KL ii o P (sp, ix, pc, (.istore_n i), len, an, kv, kl) = true) (hd : decode cc pc = .ok ((.istore_n i), len)) (ha : m_act B (sp, ix, pc, (.istore_n i), len, an, kv, kl) ls st h = some (sd, q)) (hsd : ∀ x, sd = some x → x) (hq : m_alls P r X q)
    (hN : ∀ ls st h, X r ls st h → g_K p l e R s m args below meth c Q g nL n0 s0 B (pc + len) ls st h) (hJ : ∀ (t : Nat) (e' : mI), P[t]? = some e' → ∀ ls st h, X (m_drop P t) ls st h → g_K p l e R s m args below meth c Q g nL n0 s0 B e'.2.2.1 ls st h) :
    g_K p l e R s m args below meth c Q g nL n0 s0 B pc ls st h := by
  obtain ⟨hx, hb, hown, hts, hK, hbase, hZ, hin, hAO⟩ := C
  have hl : len = 1 := by simpa [m_chk1] using hchk
  subst hl
  rw [m_act_eq] at ha
  simp only [m_act0, m_sti] at ha
  split at ha
  · obtain ⟨ls', ha, hlen, hi, hs⟩ := m_st_spec _ _ _ _ _ ha
    simp only [m_go, Option.some.injEq, Prod.mk.injEq] at ha
    obtain ⟨rfl, rfl⟩ := ha
    exact k_st hlen hs (fun _ _ _ _ _ I w => lv_istore_n hx hb hd rfl I.2.1.has (I.2.1.1 ▸ hi) rfl w) (hN _ _ _ hq)
  · cases ha
set_option maxHeartbeats 4000000 in
theorem ok_astore (hLk : m_Lk FL SL CL KI KL) (C : g_Cx g p s m args meth c cc o ii) {sp : Bool} {ix pc len : Nat} {an : List Nat} {kv : Int32} {kl : Int64} {ls : mL} {st : List Value} {h : mH} {sd : Option Prop} {q : List (Option Prop × mN)} {X : List mI → mL → List Value → mH → Prop} {i : Nat}
    (hchk : m_chk1 FL SL CL KI KL ii o P (sp, ix, pc, (.astore i), len, an, kv, kl) = true) (hd : decode cc pc = .ok ((.astore i), len)) (ha : m_act B (sp, ix, pc, (.astore i), len, an, kv, kl) ls st h = some (sd, q)) (hsd : ∀ x, sd = some x → x) (hq : m_alls P r X q)
    (hN : ∀ ls st h, X r ls st h → g_K p l e R s m args below meth c Q g nL n0 s0 B (pc + len) ls st h) (hJ : ∀ (t : Nat) (e' : mI), P[t]? = some e' → ∀ ls st h, X (m_drop P t) ls st h → g_K p l e R s m args below meth c Q g nL n0 s0 B e'.2.2.1 ls st h) :
    g_K p l e R s m args below meth c Q g nL n0 s0 B pc ls st h := by
  obtain ⟨hx, hb, hown, hts, hK, hbase, hZ, hin, hAO⟩ := C
  have hl : len = 2 := by simpa [m_chk1] using hchk
  subst hl
  rw [m_act_eq] at ha
  simp only [m_act0, m_sta] at ha
  split at ha
  · obtain ⟨ls', ha, hlen, hi, hs⟩ := m_st_spec _ _ _ _ _ ha
    simp only [m_go, Option.some.injEq, Prod.mk.injEq] at ha
    obtain ⟨rfl, rfl⟩ := ha
    exact k_st hlen hs (fun _ _ _ _ _ I w => lv_astore hx hb hd I.2.1.has (I.2.1.1 ▸ hi) rfl w) (hN _ _ _ hq)
  · cases ha
set_option maxHeartbeats 4000000 in
theorem ok_astore_n (hLk : m_Lk FL SL CL KI KL) (C : g_Cx g p s m args meth c cc o ii) {sp : Bool} {ix pc len : Nat} {an : List Nat} {kv : Int32} {kl : Int64} {ls : mL} {st : List Value} {h : mH} {sd : Option Prop} {q : List (Option Prop × mN)} {X : List mI → mL → List Value → mH → Prop} {i : Fin 4}
    (hchk : m_chk1 FL SL CL KI KL ii o P (sp, ix, pc, (.astore_n i), len, an, kv, kl) = true) (hd : decode cc pc = .ok ((.astore_n i), len)) (ha : m_act B (sp, ix, pc, (.astore_n i), len, an, kv, kl) ls st h = some (sd, q)) (hsd : ∀ x, sd = some x → x) (hq : m_alls P r X q)
    (hN : ∀ ls st h, X r ls st h → g_K p l e R s m args below meth c Q g nL n0 s0 B (pc + len) ls st h) (hJ : ∀ (t : Nat) (e' : mI), P[t]? = some e' → ∀ ls st h, X (m_drop P t) ls st h → g_K p l e R s m args below meth c Q g nL n0 s0 B e'.2.2.1 ls st h) :
    g_K p l e R s m args below meth c Q g nL n0 s0 B pc ls st h := by
  obtain ⟨hx, hb, hown, hts, hK, hbase, hZ, hin, hAO⟩ := C
  have hl : len = 1 := by simpa [m_chk1] using hchk
  subst hl
  rw [m_act_eq] at ha
  simp only [m_act0, m_sta] at ha
  split at ha
  · obtain ⟨ls', ha, hlen, hi, hs⟩ := m_st_spec _ _ _ _ _ ha
    simp only [m_go, Option.some.injEq, Prod.mk.injEq] at ha
    obtain ⟨rfl, rfl⟩ := ha
    exact k_st hlen hs (fun _ _ _ _ _ I w => lv_astore_n hx hb hd rfl I.2.1.has (I.2.1.1 ▸ hi) rfl w) (hN _ _ _ hq)
  · cases ha
set_option maxHeartbeats 4000000 in
theorem ok_lstore (hLk : m_Lk FL SL CL KI KL) (C : g_Cx g p s m args meth c cc o ii) {sp : Bool} {ix pc len : Nat} {an : List Nat} {kv : Int32} {kl : Int64} {ls : mL} {st : List Value} {h : mH} {sd : Option Prop} {q : List (Option Prop × mN)} {X : List mI → mL → List Value → mH → Prop} {i : Nat}
    (hchk : m_chk1 FL SL CL KI KL ii o P (sp, ix, pc, (.lstore i), len, an, kv, kl) = true) (hd : decode cc pc = .ok ((.lstore i), len)) (ha : m_act B (sp, ix, pc, (.lstore i), len, an, kv, kl) ls st h = some (sd, q)) (hsd : ∀ x, sd = some x → x) (hq : m_alls P r X q)
    (hN : ∀ ls st h, X r ls st h → g_K p l e R s m args below meth c Q g nL n0 s0 B (pc + len) ls st h) (hJ : ∀ (t : Nat) (e' : mI), P[t]? = some e' → ∀ ls st h, X (m_drop P t) ls st h → g_K p l e R s m args below meth c Q g nL n0 s0 B e'.2.2.1 ls st h) :
    g_K p l e R s m args below meth c Q g nL n0 s0 B pc ls st h := by
  obtain ⟨hx, hb, hown, hts, hK, hbase, hZ, hin, hAO⟩ := C
  have hl : len = 2 := by simpa [m_chk1] using hchk
  subst hl
  rw [m_act_eq] at ha
  simp only [m_act0, m_stl] at ha
  split at ha
  · obtain ⟨ls', ha, hlen, hi, hs⟩ := m_st2_spec _ _ _ _ _ ha
    simp only [m_go, Option.some.injEq, Prod.mk.injEq] at ha
    obtain ⟨rfl, rfl⟩ := ha
    exact k_st2 hlen hs (fun _ _ _ _ _ I w => lv_lstore hx hb hd I.2.1.has (I.2.1.1 ▸ hi) rfl w) (hN _ _ _ hq)
  · cases ha
set_option maxHeartbeats 4000000 in
theorem ok_lstore_n (hLk : m_Lk FL SL CL KI KL) (C : g_Cx g p s m args meth c cc o ii) {sp : Bool} {ix pc len : Nat} {an : List Nat} {kv : Int32} {kl : Int64} {ls : mL} {st : List Value} {h : mH} {sd : Option Prop} {q : List (Option Prop × mN)} {X : List mI → mL → List Value → mH → Prop} {i : Fin 4}
    (hchk : m_chk1 FL SL CL KI KL ii o P (sp, ix, pc, (.lstore_n i), len, an, kv, kl) = true) (hd : decode cc pc = .ok ((.lstore_n i), len)) (ha : m_act B (sp, ix, pc, (.lstore_n i), len, an, kv, kl) ls st h = some (sd, q)) (hsd : ∀ x, sd = some x → x) (hq : m_alls P r X q)
    (hN : ∀ ls st h, X r ls st h → g_K p l e R s m args below meth c Q g nL n0 s0 B (pc + len) ls st h) (hJ : ∀ (t : Nat) (e' : mI), P[t]? = some e' → ∀ ls st h, X (m_drop P t) ls st h → g_K p l e R s m args below meth c Q g nL n0 s0 B e'.2.2.1 ls st h) :
    g_K p l e R s m args below meth c Q g nL n0 s0 B pc ls st h := by
  obtain ⟨hx, hb, hown, hts, hK, hbase, hZ, hin, hAO⟩ := C
  have hl : len = 1 := by simpa [m_chk1] using hchk
  subst hl
  rw [m_act_eq] at ha
  simp only [m_act0, m_stl] at ha
  split at ha
  · obtain ⟨ls', ha, hlen, hi, hs⟩ := m_st2_spec _ _ _ _ _ ha
    simp only [m_go, Option.some.injEq, Prod.mk.injEq] at ha
    obtain ⟨rfl, rfl⟩ := ha
    exact k_st2 hlen hs (fun _ _ _ _ _ I w => lv_lstore_n hx hb hd rfl I.2.1.has (I.2.1.1 ▸ hi) rfl w) (hN _ _ _ hq)
  · cases ha
set_option maxHeartbeats 4000000 in
theorem ok_iinc (hLk : m_Lk FL SL CL KI KL) (C : g_Cx g p s m args meth c cc o ii) {sp : Bool} {ix pc len : Nat} {an : List Nat} {kv : Int32} {kl : Int64} {ls : mL} {st : List Value} {h : mH} {sd : Option Prop} {q : List (Option Prop × mN)} {X : List mI → mL → List Value → mH → Prop} {i : Nat} {n : Int}
    (hchk : m_chk1 FL SL CL KI KL ii o P (sp, ix, pc, (.iinc i n), len, an, kv, kl) = true) (hd : decode cc pc = .ok ((.iinc i n), len)) (ha : m_act B (sp, ix, pc, (.iinc i n), len, an, kv, kl) ls st h = some (sd, q)) (hsd : ∀ x, sd = some x → x) (hq : m_alls P r X q)
    (hN : ∀ ls st h, X r ls st h → g_K p l e R s m args below meth c Q g nL n0 s0 B (pc + len) ls st h) (hJ : ∀ (t : Nat) (e' : mI), P[t]? = some e' → ∀ ls st h, X (m_drop P t) ls st h → g_K p l e R s m args below meth c Q g nL n0 s0 B e'.2.2.1 ls st h) :
    g_K p l e R s m args below meth c Q g nL n0 s0 B pc ls st h := by
  obtain ⟨hx, hb, hown, hts, hK, hbase, hZ, hin, hAO⟩ := C
  have hl : len = 3 ∧ Int32.ofInt n = kv := by simpa [m_chk1] using hchk
  obtain ⟨rfl, hkv⟩ := hl
  rw [m_act_eq] at ha
  simp only [m_act0] at ha
  obtain ⟨v, hv, ha⟩ := m_ld_spec _ _ _ _ ha
  split at ha
  · rename_i x
    obtain ⟨ls', ha, hlen, hi, hs⟩ := m_st_spec _ _ _ _ _ ha
    simp only [m_go, Option.some.injEq, Prod.mk.injEq] at ha
    obtain ⟨rfl, rfl⟩ := ha
    refine k_st hlen hs (fun _ _ _ _ _ I w => ?_) (hN _ _ _ hq)
    have hm : (i, Value.int x) ∈ m_as g 0 ls := (m_as_mem g ls 0 _).mpr ⟨i, .int x, hv, by rw [show 0 + i = i by omega]; rfl⟩
    obtain ⟨kk, hkk⟩ := List.getElem?_of_mem hm
    exact lv_iinc hx hb hd I.2.1.has hkk (by rw [hkv]) (I.2.1.1 ▸ hi) rfl w
  · cases ha
set_option maxHeartbeats 4000000 in
theorem ok_goto (hLk : m_Lk FL SL CL KI KL) (C : g_Cx g p s m args meth c cc o ii) {sp : Bool} {ix pc len : Nat} {an : List Nat} {kv : Int32} {kl : Int64} {ls : mL} {st : List Value} {h : mH} {sd : Option Prop} {q : List (Option Prop × mN)} {X : List mI → mL → List Value → mH → Prop} {off : Int}
    (hchk : m_chk1 FL SL CL KI KL ii o P (sp, ix, pc, (.goto off), len, an, kv, kl) = true) (hd : decode cc pc = .ok ((.goto off), len)) (ha : m_act B (sp, ix, pc, (.goto off), len, an, kv, kl) ls st h = some (sd, q)) (hsd : ∀ x, sd = some x → x) (hq : m_alls P r X q)
    (hN : ∀ ls st h, X r ls st h → g_K p l e R s m args below meth c Q g nL n0 s0 B (pc + len) ls st h) (hJ : ∀ (t : Nat) (e' : mI), P[t]? = some e' → ∀ ls st h, X (m_drop P t) ls st h → g_K p l e R s m args below meth c Q g nL n0 s0 B e'.2.2.1 ls st h) :
    g_K p l e R s m args below meth c Q g nL n0 s0 B pc ls st h := by
  obtain ⟨hx, hb, hown, hts, hK, hbase, hZ, hin, hAO⟩ := C
  rw [m_act_eq] at ha
  simp only [m_act0] at ha
  split at ha
  · rename_i t
    have hl : len = 3 ∧ m_tgt P pc off t = true := by simpa [m_chk1] using hchk
    obtain ⟨rfl, htg⟩ := hl
    obtain ⟨e', he, hpc⟩ := m_tgt_spec htg
    simp only [Option.some.injEq, Prod.mk.injEq] at ha
    obtain ⟨rfl, rfl⟩ := ha
    exact k_go (fun _ _ _ _ _ _ w => lv_goto hx hb hd hpc w) (hJ _ _ he _ _ _ hq)
  · cases ha
set_option maxHeartbeats 4000000 in
theorem ok_ifCond (hLk : m_Lk FL SL CL KI KL) (C : g_Cx g p s m args meth c cc o ii) {sp : Bool} {ix pc len : Nat} {an : List Nat} {kv : Int32} {kl : Int64} {ls : mL} {st : List Value} {h : mH} {sd : Option Prop} {q : List (Option Prop × mN)} {X : List mI → mL → List Value → mH → Prop} {cn : Jvm.ClassFile.Cond} {off : Int}
    (hchk : m_chk1 FL SL CL KI KL ii o P (sp, ix, pc, (.ifCond cn off), len, an, kv, kl) = true) (hd : decode cc pc = .ok ((.ifCond cn off), len)) (ha : m_act B (sp, ix, pc, (.ifCond cn off), len, an, kv, kl) ls st h = some (sd, q)) (hsd : ∀ x, sd = some x → x) (hq : m_alls P r X q)
    (hN : ∀ ls st h, X r ls st h → g_K p l e R s m args below meth c Q g nL n0 s0 B (pc + len) ls st h) (hJ : ∀ (t : Nat) (e' : mI), P[t]? = some e' → ∀ ls st h, X (m_drop P t) ls st h → g_K p l e R s m args below meth c Q g nL n0 s0 B e'.2.2.1 ls st h) :
    g_K p l e R s m args below meth c Q g nL n0 s0 B pc ls st h := by
  obtain ⟨hx, hb, hown, hts, hK, hbase, hZ, hin, hAO⟩ := C
  rw [m_act_eq] at ha
  simp only [m_act0] at ha
  split at ha
  · rename_i t x s9
    have hl : len = 3 ∧ m_tgt P pc off t = true := by simpa [m_chk1] using hchk
    obtain ⟨rfl, htg⟩ := hl
    obtain ⟨e', he, hpc⟩ := m_tgt_spec htg
    cases cn <;> simp only [m_if, m_br, Option.some.injEq, Prod.mk.injEq] at ha <;> obtain ⟨rfl, rfl⟩ := ha
    · exact fun _ _ _ _ _ I => lv_if_eq hx hb hd hpc (fun q => hJ _ _ he _ _ _ (hq.1 q) _ _ _ _ _ I) (fun q => hN _ _ _ (hq.2 q) _ _ _ _ _ I)
    · exact fun _ _ _ _ _ I => lv_if_ne hx hb hd hpc (fun q => hJ _ _ he _ _ _ (hq.1 q) _ _ _ _ _ I) (fun q => hN _ _ _ (hq.2 q) _ _ _ _ _ I)
    · exact fun _ _ _ _ _ I => lv_if_lt hx hb hd hpc (fun q => hJ _ _ he _ _ _ (hq.1 q) _ _ _ _ _ I) (fun q => hN _ _ _ (hq.2 q) _ _ _ _ _ I)
    · exact fun _ _ _ _ _ I => lv_if_ge hx hb hd hpc (fun q => hJ _ _ he _ _ _ (hq.1 q) _ _ _ _ _ I) (fun q => hN _ _ _ (hq.2 q) _ _ _ _ _ I)
    · exact fun _ _ _ _ _ I => lv_if_gt hx hb hd hpc (fun q => hJ _ _ he _ _ _ (hq.1 q) _ _ _ _ _ I) (fun q => hN _ _ _ (hq.2 q) _ _ _ _ _ I)
    · exact fun _ _ _ _ _ I => lv_if_le hx hb hd hpc (fun q => hJ _ _ he _ _ _ (hq.1 q) _ _ _ _ _ I) (fun q => hN _ _ _ (hq.2 q) _ _ _ _ _ I)
  · cases ha
set_option maxHeartbeats 4000000 in
theorem ok_if_icmp (hLk : m_Lk FL SL CL KI KL) (C : g_Cx g p s m args meth c cc o ii) {sp : Bool} {ix pc len : Nat} {an : List Nat} {kv : Int32} {kl : Int64} {ls : mL} {st : List Value} {h : mH} {sd : Option Prop} {q : List (Option Prop × mN)} {X : List mI → mL → List Value → mH → Prop} {cn : Jvm.ClassFile.Cond} {off : Int}
    (hchk : m_chk1 FL SL CL KI KL ii o P (sp, ix, pc, (.if_icmp cn off), len, an, kv, kl) = true) (hd : decode cc pc = .ok ((.if_icmp cn off), len)) (ha : m_act B (sp, ix, pc, (.if_icmp cn off), len, an, kv, kl) ls st h = some (sd, q)) (hsd : ∀ x, sd = some x → x) (hq : m_alls P r X q)
    (hN : ∀ ls st h, X r ls st h → g_K p l e R s m args below meth c Q g nL n0 s0 B (pc + len) ls st h) (hJ : ∀ (t : Nat) (e' : mI), P[t]? = some e' → ∀ ls st h, X (m_drop P t) ls st h → g_K p l e R s m args below meth c Q g nL n0 s0 B e'.2.2.1 ls st h) :
    g_K p l e R s m args below meth c Q g nL n0 s0 B pc ls st h := by
  obtain ⟨hx, hb, hown, hts, hK, hbase, hZ, hin, hAO⟩ := C
  rw [m_act_eq] at ha
  simp only [m_act0] at ha
  split at ha
  · rename_i t y x s9
    have hl : len = 3 ∧ m_tgt P pc off t = true := by simpa [m_chk1] using hchk
    obtain ⟨rfl, htg⟩ := hl
    obtain ⟨e', he, hpc⟩ := m_tgt_spec htg
    cases cn <;> simp only [m_if, m_br, Option.some.injEq, Prod.mk.injEq] at ha <;> obtain ⟨rfl, rfl⟩ := ha
    · exact fun _ _ _ _ _ I => lv_icmp_eq hx hb hd hpc (fun q => hJ _ _ he _ _ _ (hq.1 q) _ _ _ _ _ I) (fun q => hN _ _ _ (hq.2 q) _ _ _ _ _ I)
    · exact fun _ _ _ _ _ I => lv_icmp_ne hx hb hd hpc (fun q => hJ _ _ he _ _ _ (hq.1 q) _ _ _ _ _ I) (fun q => hN _ _ _ (hq.2 q) _ _ _ _ _ I)
    · exact fun _ _ _ _ _ I => lv_icmp_lt hx hb hd hpc (fun q => hJ _ _ he _ _ _ (hq.1 q) _ _ _ _ _ I) (fun q => hN _ _ _ (hq.2 q) _ _ _ _ _ I)
    · exact fun _ _ _ _ _ I => lv_icmp_ge hx hb hd hpc (fun q => hJ _ _ he _ _ _ (hq.1 q) _ _ _ _ _ I) (fun q => hN _ _ _ (hq.2 q) _ _ _ _ _ I)
    · exact fun _ _ _ _ _ I => lv_icmp_gt hx hb hd hpc (fun q => hJ _ _ he _ _ _ (hq.1 q) _ _ _ _ _ I) (fun q => hN _ _ _ (hq.2 q) _ _ _ _ _ I)
    · exact fun _ _ _ _ _ I => lv_icmp_le hx hb hd hpc (fun q => hJ _ _ he _ _ _ (hq.1 q) _ _ _ _ _ I) (fun q => hN _ _ _ (hq.2 q) _ _ _ _ _ I)
  · cases ha
theorem g_get {h : mH} {H : Heap} {k : Nat} {c0 : mS} (hR : g_R g s h H) (hc : h.1[k]? = some c0) (ht : c0.1 < 200) : (g_W g h)[k - 5]? = some (g_ad g k, g_e g h k c0) := by
  have h5 := g_new hR.2 hc ht
  rw [g_ad_ge h5]
  exact g_W_get h5 hc
set_option maxHeartbeats 4000000 in
theorem ok_iaload (hLk : m_Lk FL SL CL KI KL) (C : g_Cx g p s m args meth c cc o ii) {sp : Bool} {ix pc len : Nat} {an : List Nat} {kv : Int32} {kl : Int64} {ls : mL} {st : List Value} {h : mH} {sd : Option Prop} {q : List (Option Prop × mN)} {X : List mI → mL → List Value → mH → Prop} 
    (hchk : m_chk1 FL SL CL KI KL ii o P (sp, ix, pc, .iaload, len, an, kv, kl) = true) (hd : decode cc pc = .ok (.iaload, len)) (ha : m_act B (sp, ix, pc, .iaload, len, an, kv, kl) ls st h = some (sd, q)) (hsd : ∀ x, sd = some x → x) (hq : m_alls P r X q)
    (hN : ∀ ls st h, X r ls st h → g_K p l e R s m args below meth c Q g nL n0 s0 B (pc + len) ls st h) (hJ : ∀ (t : Nat) (e' : mI), P[t]? = some e' → ∀ ls st h, X (m_drop P t) ls st h → g_K p l e R s m args below meth c Q g nL n0 s0 B e'.2.2.1 ls st h) :
    g_K p l e R s m args below meth c Q g nL n0 s0 B pc ls st h := by
  obtain ⟨hx, hb, hown, hts, hK, hbase, hZ, hin, hAO⟩ := C
  have hl : len = 1 := by simpa [m_chk1] using hchk
  subst hl
  rw [m_act_eq] at ha
  simp only [m_act0] at ha
  split at ha
  · rename_i i k s9
    obtain ⟨t, n, rf, htt, hc, ha⟩ := m_arr2_some ha
    simp only [m_sd, Option.some.injEq, Prod.mk.injEq] at ha
    obtain ⟨rfl, rfl⟩ := ha
    have hin0 : vp_in i n := hsd _ rfl
    refine k_go (fun H locs cells slots la I w => ?_) (hN _ _ _ hq)
    rcases htt with rfl | rfl
    · have hw := g_get I.1 hc (show (100 : Nat) < 200 by decide)
      rw [g_e_i (Or.inl rfl)] at hw
      exact va_iald (t0 := 0) hx hb hK I.1.1 _ hw rfl hin0 hd w
    · have hk5 : k < 5 := by
        rcases Nat.lt_or_ge k 5 with q | q
        · exact q
        · have := (I.1.2.2.1 k _ hc).2.1 q
          simp at this
      obtain ⟨scr, h1, h2, h3, h4, h5⟩ := I.1.2.2.2.2 k n rf hc
      have hlt : i.toNatClampNeg < n := Nat.not_le.mp fun q => hin0 (Or.inr q)
      exact W.iald (v := .int (h.2.1 k i.toNatClampNeg)) (a := g_ad g k) hx hb (by rw [g_ad_lt hk5]; exact h1) h2 h3 (fun q9 => hin0 (q9.imp id (Nat.le_trans h4.1))) (h5 _ hlt) rfl rfl hd w
  · cases ha
set_option maxHeartbeats 4000000 in
theorem ok_baload (hLk : m_Lk FL SL CL KI KL) (C : g_Cx g p s m args meth c cc o ii) {sp : Bool} {ix pc len : Nat} {an : List Nat} {kv : Int32} {kl : Int64} {ls : mL} {st : List Value} {h : mH} {sd : Option Prop} {q : List (Option Prop × mN)} {X : List mI → mL → List Value → mH → Prop} 
    (hchk : m_chk1 FL SL CL KI KL ii o P (sp, ix, pc, .baload, len, an, kv, kl) = true) (hd : decode cc pc = .ok (.baload, len)) (ha : m_act B (sp, ix, pc, .baload, len, an, kv, kl) ls st h = some (sd, q)) (hsd : ∀ x, sd = some x → x) (hq : m_alls P r X q)
    (hN : ∀ ls st h, X r ls st h → g_K p l e R s m args below meth c Q g nL n0 s0 B (pc + len) ls st h) (hJ : ∀ (t : Nat) (e' : mI), P[t]? = some e' → ∀ ls st h, X (m_drop P t) ls st h → g_K p l e R s m args below meth c Q g nL n0 s0 B e'.2.2.1 ls st h) :
    g_K p l e R s m args below meth c Q g nL n0 s0 B pc ls st h := by
  obtain ⟨hx, hb, hown, hts, hK, hbase, hZ, hin, hAO⟩ := C
  have hl : len = 1 := by simpa [m_chk1] using hchk
  subst hl
  rw [m_act_eq] at ha
  simp only [m_act0] at ha
  split at ha
  · rename_i i k s9
    obtain ⟨n, rf, hc, ha⟩ := m_arr_some ha
    simp only [m_sd, Option.some.injEq, Prod.mk.injEq] at ha
    obtain ⟨rfl, rfl⟩ := ha
    have hin0 : vp_in i n := hsd _ rfl
    refine k_go (fun H locs cells slots la I w => ?_) (hN _ _ _ hq)
    have hw := g_get I.1 hc (show (101 : Nat) < 200 by decide)
    rw [g_e_i (Or.inr (Or.inl rfl))] at hw
    exact va_zald (t0 := 1) hx hb hK I.1.1 _ hw rfl hin0 hd w
  · cases ha
set_option maxHeartbeats 4000000 in
theorem ok_caload (hLk : m_Lk FL SL CL KI KL) (C : g_Cx g p s m args meth c cc o ii) {sp : Bool} {ix pc len : Nat} {an : List Nat} {kv : Int32} {kl : Int64} {ls : mL} {st : List Value} {h : mH} {sd : Option Prop} {q : List (Option Prop × mN)} {X : List mI → mL → List Value → mH → Prop} 
    (hchk : m_chk1 FL SL CL KI KL ii o P (sp, ix, pc, .caload, len, an, kv, kl) = true) (hd : decode cc pc = .ok (.caload, len)) (ha : m_act B (sp, ix, pc, .caload, len, an, kv, kl) ls st h = some (sd, q)) (hsd : ∀ x, sd = some x → x) (hq : m_alls P r X q)
    (hN : ∀ ls st h, X r ls st h → g_K p l e R s m args below meth c Q g nL n0 s0 B (pc + len) ls st h) (hJ : ∀ (t : Nat) (e' : mI), P[t]? = some e' → ∀ ls st h, X (m_drop P t) ls st h → g_K p l e R s m args below meth c Q g nL n0 s0 B e'.2.2.1 ls st h) :
    g_K p l e R s m args below meth c Q g nL n0 s0 B pc ls st h := by
  obtain ⟨hx, hb, hown, hts, hK, hbase, hZ, hin, hAO⟩ := C
  have hl : len = 1 := by simpa [m_chk1] using hchk
  subst hl
  rw [m_act_eq] at ha
  simp only [m_act0] at ha
  split at ha
  · rename_i i k s9
    obtain ⟨n, rf, hc, ha⟩ := m_arr_some ha
    simp only [m_sd, Option.some.injEq, Prod.mk.injEq] at ha
    obtain ⟨rfl, rfl⟩ := ha
    have hin0 : vp_in i n := hsd _ rfl
    refine k_go (fun H locs cells slots la I w => ?_) (hN _ _ _ hq)
    have hw := g_get I.1 hc (show (103 : Nat) < 200 by decide)
    rw [g_e_i (Or.inr (Or.inr rfl))] at hw
    exact va_cald (t0 := 3) hx hb hK I.1.1 _ hw rfl hin0 hd w
  · cases ha
set_option maxHeartbeats 4000000 in
theorem ok_laload (hLk : m_Lk FL SL CL KI KL) (C : g_Cx g p s m args meth c cc o ii) {sp : Bool} {ix pc len : Nat} {an : List Nat} {kv : Int32} {kl : Int64} {ls : mL} {st : List Value} {h : mH} {sd : Option Prop} {q : List (Option Prop × mN)} {X : List mI → mL → List Value → mH → Prop} 
    (hchk : m_chk1 FL SL CL KI KL ii o P (sp, ix, pc, .laload, len, an, kv, kl) = true) (hd : decode cc pc = .ok (.laload, len)) (ha : m_act B (sp, ix, pc, .laload, len, an, kv, kl) ls st h = some (sd, q)) (hsd : ∀ x, sd = some x → x) (hq : m_alls P r X q)
    (hN : ∀ ls st h, X r ls st h → g_K p l e R s m args below meth c Q g nL n0 s0 B (pc + len) ls st h) (hJ : ∀ (t : Nat) (e' : mI), P[t]? = some e' → ∀ ls st h, X (m_drop P t) ls st h → g_K p l e R s m args below meth c Q g nL n0 s0 B e'.2.2.1 ls st h) :
    g_K p l e R s m args below meth c Q g nL n0 s0 B pc ls st h := by
  obtain ⟨hx, hb, hown, hts, hK, hbase, hZ, hin, hAO⟩ := C
  have hl : len = 1 := by simpa [m_chk1] using hchk
  subst hl
  rw [m_act_eq] at ha
  simp only [m_act0] at ha
  split at ha
  · rename_i i k s9
    obtain ⟨n, rf, hc, ha⟩ := m_arr_some ha
    simp only [m_sd, Option.some.injEq, Prod.mk.injEq] at ha
    obtain ⟨rfl, rfl⟩ := ha
    have hin0 : vp_in i n := hsd _ rfl
    refine k_go (fun H locs cells slots la I w => ?_) (hN _ _ _ hq)
    have hw := g_get I.1 hc (show (102 : Nat) < 200 by decide)
    rw [g_e_l] at hw
    exact va_lald (t0 := 2) hx hb hK I.1.1 _ hw rfl hin0 hd w
  · cases ha
set_option maxHeartbeats 4000000 in
theorem ok_aaload (hLk : m_Lk FL SL CL KI KL) (C : g_Cx g p s m args meth c cc o ii) {sp : Bool} {ix pc len : Nat} {an : List Nat} {kv : Int32} {kl : Int64} {ls : mL} {st : List Value} {h : mH} {sd : Option Prop} {q : List (Option Prop × mN)} {X : List mI → mL → List Value → mH → Prop} 
    (hchk : m_chk1 FL SL CL KI KL ii o P (sp, ix, pc, .aaload, len, an, kv, kl) = true) (hd : decode cc pc = .ok (.aaload, len)) (ha : m_act B (sp, ix, pc, .aaload, len, an, kv, kl) ls st h = some (sd, q)) (hsd : ∀ x, sd = some x → x) (hq : m_alls P r X q)
    (hN : ∀ ls st h, X r ls st h → g_K p l e R s m args below meth c Q g nL n0 s0 B (pc + len) ls st h) (hJ : ∀ (t : Nat) (e' : mI), P[t]? = some e' → ∀ ls st h, X (m_drop P t) ls st h → g_K p l e R s m args below meth c Q g nL n0 s0 B e'.2.2.1 ls st h) :
    g_K p l e R s m args below meth c Q g nL n0 s0 B pc ls st h := by
  obtain ⟨hx, hb, hown, hts, hK, hbase, hZ, hin, hAO⟩ := C
  have hl : len = 1 := by simpa [m_chk1] using hchk
  subst hl
  rw [m_act_eq] at ha
  simp only [m_act0, m_aald, m_nth_eq] at ha
  split at ha
  · rename_i i k s9
    split at ha
    · rename_i t n rf hc
      split at ha
      · rename_i hb0
        rw [Bool.or_eq_true] at hb0
        have htt : t = 104 ∨ t = 105 := hb0.imp Nat.eq_of_beq_eq_true Nat.eq_of_beq_eq_true
        simp only [Option.some.injEq, Prod.mk.injEq] at ha
        obtain ⟨rfl, rfl⟩ := ha
        obtain ⟨hin0, hlt, hso⟩ := hsd _ rfl
        refine k_go (fun H locs cells slots la I w => ?_) (hN _ _ _ hq)
        have hw := g_get I.1 hc (show t < 200 by omega)
        rw [g_e_q htt] at hw
        obtain ⟨a, hae⟩ := Option.isSome_iff_exists.mp hso
        have hcell := I.1.1 _ _ hw
        have hcell' : H[g_ad g k]? = some (vp_cell (g.2.1 t) (n, .inr (.inr (.inr (.inr (fun i => g_r g (rf.getD i none))))))) := hcell
        rw [vp_cell_q] at hcell'
        have harr : s.isArrayOf (arrV (g.2.1 t) n (fun j => va_rf (g_r g (rf.getD j none)))) (if t = 104 then .array .int else .array .long) := by
          rcases htt with rfl | rfl
          · exact (hK.2 4 _ rfl).1 n _
          · exact (hK.2 5 _ rfl).1 n _
        have hlt2 : i.toNatClampNeg < n := Nat.not_le.mp fun q => hin0 (Or.inr q)
        refine W.aald (v := g_v g (.ref a)) hx hb hcell' harr (by split <;> rfl) (fun q => by cases q) (by show ¬ (i < 0 ∨ (arrV _ _ _).slots.size ≤ _); rw [arrV_size]; exact hin0) ?_ rfl rfl hd ?_
        · show (Array.ofFn (n := n) fun j => va_rf (g_r g (rf.getD j.val none)))[i.toNatClampNeg]? = _
          rw [Array.getElem?_ofFn, dif_pos hlt2]
          show some (va_rf (g_r g (rf.getD i.toNatClampNeg none))) = _
          rw [hae]
          rfl
        · rw [hae] at w
          exact w
      · cases ha
    · cases ha
  · cases ha
set_option maxHeartbeats 4000000 in
theorem ok_arraylength (hLk : m_Lk FL SL CL KI KL) (C : g_Cx g p s m args meth c cc o ii) {sp : Bool} {ix pc len : Nat} {an : List Nat} {kv : Int32} {kl : Int64} {ls : mL} {st : List Value} {h : mH} {sd : Option Prop} {q : List (Option Prop × mN)} {X : List mI → mL → List Value → mH → Prop} 
    (hchk : m_chk1 FL SL CL KI KL ii o P (sp, ix, pc, .arraylength, len, an, kv, kl) = true) (hd : decode cc pc = .ok (.arraylength, len)) (ha : m_act B (sp, ix, pc, .arraylength, len, an, kv, kl) ls st h = some (sd, q)) (hsd : ∀ x, sd = some x → x) (hq : m_alls P r X q)
    (hN : ∀ ls st h, X r ls st h → g_K p l e R s m args below meth c Q g nL n0 s0 B (pc + len) ls st h) (hJ : ∀ (t : Nat) (e' : mI), P[t]? = some e' → ∀ ls st h, X (m_drop P t) ls st h → g_K p l e R s m args below meth c Q g nL n0 s0 B e'.2.2.1 ls st h) :
    g_K p l e R s m args below meth c Q g nL n0 s0 B pc ls st h := by
  obtain ⟨hx, hb, hown, hts, hK, hbase, hZ, hin, hAO⟩ := C
  have hl : len = 1 := by simpa [m_chk1] using hchk
  subst hl
  rw [m_act_eq] at ha
  simp only [m_act0] at ha
  split at ha
  · rename_i k s9
    obtain ⟨t, n, rf, htt, hc, ha⟩ := m_alen_some ha
    simp only [m_go, Option.some.injEq, Prod.mk.injEq] at ha
    obtain ⟨rfl, rfl⟩ := ha
    refine k_go (fun H locs cells slots la I w => ?_) (hN _ _ _ hq)
    rcases htt with h6 | h2
    · have hw := g_get I.1 hc (show t < 200 by omega)
      rw [show g_e g h k (t, n, rf) = .inl (g.2.1 t, n, g_c g h k (t, n, rf)) from if_neg (show ¬ t < 100 by omega)] at hw
      have h6 : t = 100 ∨ t = 101 ∨ t = 102 ∨ t = 103 ∨ t = 104 ∨ t = 105 := by omega
      rcases h6 with rfl | rfl | rfl | rfl | rfl | rfl
      · exact va_alen (t0 := 0) (ty := .int) hx hb hK I.1.1 _ hw rfl rfl hd w
      · exact va_alen (t0 := 1) (ty := .boolean) hx hb hK I.1.1 _ hw rfl rfl hd w
      · exact va_alen (t0 := 2) (ty := .long) hx hb hK I.1.1 _ hw rfl rfl hd w
      · exact va_alen (t0 := 3) (ty := .char) hx hb hK I.1.1 _ hw rfl rfl hd w
      · exact va_alen (t0 := 4) (ty := .array .int) hx hb hK I.1.1 _ hw rfl rfl hd w
      · exact va_alen (t0 := 5) (ty := .array .long) hx hb hK I.1.1 _ hw rfl rfl hd w
    · subst h2
      have hk5 : k < 5 := by
        rcases Nat.lt_or_ge k 5 with q | q
        · exact q
        · have := (I.1.2.2.1 k _ hc).2.1 q
          simp at this
      obtain ⟨scr, h1, h2, h3, h4, h5⟩ := I.1.2.2.2.2 k n rf hc
      exact W.alen (n := Int32.ofNat n) (a := g_ad g k) hx hb (by rw [g_ad_lt hk5]; exact h1) h2 h4.2 rfl rfl hd w
  · cases ha
end Sound
