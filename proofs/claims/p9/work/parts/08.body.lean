/-! ===== A BODY ===== -/
section Sound
variable {p : Program} {l : Launch} {e : Env} {R : Room} {s : State} {m : MethodId} {args : Array Value} {below : List Frame} {meth : Method} {c : Code} {Q : State → Prop}
variable {g : mG} {cc : ByteArray} {o nL n0 s0 : Nat} {ii : Bool} {B : Option (Nat × Nat)} {P r : List mI}
variable {FL : List (Nat × Nat × Nat × Nat)} {SL CL : List (Nat × Nat × Nat)} {KI : List (Nat × Nat × Int32)} {KL : List (Nat × Nat × Int64)}
set_option maxHeartbeats 4000000 in
theorem m_act_ok (hLk : m_Lk FL SL CL KI KL) (C : g_Cx g p s m args meth c cc o ii) (hz0 : s.heap.size = g.2.2.1 + (n0 - 5)) (hn0 : 5 ≤ n0) (hB : ∀ b, B = some b → b.1 ≤ n0 + R.cells ∧ b.2 ≤ s0 + R.slots)
    {sp : Bool} {ix pc len : Nat} {ins : Instr} {an : List Nat} {kv : Int32} {kl : Int64} {ls : mL} {st : List Value} {h : mH} {sd : Option Prop} {q : List (Option Prop × mN)} {X : List mI → mL → List Value → mH → Prop}
    (hchk : m_chk1 FL SL CL KI KL ii o P (sp, ix, pc, ins, len, an, kv, kl) = true) (hd : decode cc pc = .ok (ins, len)) (ha : m_act B (sp, ix, pc, ins, len, an, kv, kl) ls st h = some (sd, q)) (hsd : ∀ x, sd = some x → x) (hq : m_alls P r X q)
    (hN : ∀ ls st h, X r ls st h → g_K p l e R s m args below meth c Q g nL n0 s0 B (pc + len) ls st h) (hJ : ∀ (t : Nat) (e' : mI), P[t]? = some e' → ∀ ls st h, X (m_drop P t) ls st h → g_K p l e R s m args below meth c Q g nL n0 s0 B e'.2.2.1 ls st h) :
    g_K p l e R s m args below meth c Q g nL n0 s0 B pc ls st h := by
  cases ins with
  | iadd => exact ok_iadd hLk C hchk hd ha hsd hq hN hJ
  | isub => exact ok_isub hLk C hchk hd ha hsd hq hN hJ
  | imul => exact ok_imul hLk C hchk hd ha hsd hq hN hJ
  | iand => exact ok_iand hLk C hchk hd ha hsd hq hN hJ
  | ior => exact ok_ior hLk C hchk hd ha hsd hq hN hJ
  | ixor => exact ok_ixor hLk C hchk hd ha hsd hq hN hJ
  | ishl => exact ok_ishl hLk C hchk hd ha hsd hq hN hJ
  | ishr => exact ok_ishr hLk C hchk hd ha hsd hq hN hJ
  | iushr => exact ok_iushr hLk C hchk hd ha hsd hq hN hJ
  | ladd => exact ok_ladd hLk C hchk hd ha hsd hq hN hJ
  | lsub => exact ok_lsub hLk C hchk hd ha hsd hq hN hJ
  | lmul => exact ok_lmul hLk C hchk hd ha hsd hq hN hJ
  | land => exact ok_land hLk C hchk hd ha hsd hq hN hJ
  | lor => exact ok_lor hLk C hchk hd ha hsd hq hN hJ
  | lshl => exact ok_lshl hLk C hchk hd ha hsd hq hN hJ
  | lshr => exact ok_lshr hLk C hchk hd ha hsd hq hN hJ
  | lushr => exact ok_lushr hLk C hchk hd ha hsd hq hN hJ
  | idiv => exact ok_idiv hLk C hchk hd ha hsd hq hN hJ
  | ldiv => exact ok_ldiv hLk C hchk hd ha hsd hq hN hJ
  | ineg => exact ok_ineg hLk C hchk hd ha hsd hq hN hJ
  | lneg => exact ok_lneg hLk C hchk hd ha hsd hq hN hJ
  | lcmp => exact ok_lcmp hLk C hchk hd ha hsd hq hN hJ
  | i2l => exact ok_i2l hLk C hchk hd ha hsd hq hN hJ
  | l2i => exact ok_l2i hLk C hchk hd ha hsd hq hN hJ
  | i2s => exact ok_i2s hLk C hchk hd ha hsd hq hN hJ
  | i2c => exact ok_i2c hLk C hchk hd ha hsd hq hN hJ
  | dup_x1 => exact ok_dup_x1 hLk C hchk hd ha hsd hq hN hJ
  | dup2 => exact ok_dup2 hLk C hchk hd ha hsd hq hN hJ
  | pop => exact ok_pop hLk C hchk hd ha hsd hq hN hJ
  | dup => exact ok_dup hLk C hchk hd ha hsd hq hN hJ
  | iaload => exact ok_iaload hLk C hchk hd ha hsd hq hN hJ
  | baload => exact ok_baload hLk C hchk hd ha hsd hq hN hJ
  | caload => exact ok_caload hLk C hchk hd ha hsd hq hN hJ
  | laload => exact ok_laload hLk C hchk hd ha hsd hq hN hJ
  | aaload => exact ok_aaload hLk C hchk hd ha hsd hq hN hJ
  | arraylength => exact ok_arraylength hLk C hchk hd ha hsd hq hN hJ
  | iastore => exact ok_iastore hLk C hchk hd ha hsd hq hN hJ
  | bastore => exact ok_bastore hLk C hchk hd ha hsd hq hN hJ
  | castore => exact ok_castore hLk C hchk hd ha hsd hq hN hJ
  | lastore => exact ok_lastore hLk C hchk hd ha hsd hq hN hJ
  | iconst a9 => exact ok_iconst hLk C hchk hd ha hsd hq hN hJ
  | bipush a9 => exact ok_bipush hLk C hchk hd ha hsd hq hN hJ
  | sipush a9 => exact ok_sipush hLk C hchk hd ha hsd hq hN hJ
  | lconst a9 => exact ok_lconst hLk C hchk hd ha hsd hq hN hJ
  | ldc2_w a9 => exact ok_ldc2_w hLk C hchk hd ha hsd hq hN hJ
  | ldc a9 => exact ok_ldc hLk C hchk hd ha hsd hq hN hJ
  | ldc_w a9 => exact ok_ldc_w hLk C hchk hd ha hsd hq hN hJ
  | iload a9 => exact ok_iload hLk C hchk hd ha hsd hq hN hJ
  | iload_n a9 => exact ok_iload_n hLk C hchk hd ha hsd hq hN hJ
  | lload a9 => exact ok_lload hLk C hchk hd ha hsd hq hN hJ
  | lload_n a9 => exact ok_lload_n hLk C hchk hd ha hsd hq hN hJ
  | aload a9 => exact ok_aload hLk C hchk hd ha hsd hq hN hJ
  | aload_n a9 => exact ok_aload_n hLk C hchk hd ha hsd hq hN hJ
  | istore a9 => exact ok_istore hLk C hchk hd ha hsd hq hN hJ
  | istore_n a9 => exact ok_istore_n hLk C hchk hd ha hsd hq hN hJ
  | astore a9 => exact ok_astore hLk C hchk hd ha hsd hq hN hJ
  | astore_n a9 => exact ok_astore_n hLk C hchk hd ha hsd hq hN hJ
  | lstore a9 => exact ok_lstore hLk C hchk hd ha hsd hq hN hJ
  | lstore_n a9 => exact ok_lstore_n hLk C hchk hd ha hsd hq hN hJ
  | goto a9 => exact ok_goto hLk C hchk hd ha hsd hq hN hJ
  | getstatic a9 => exact ok_getstatic hLk C hchk hd ha hsd hq hN hJ
  | getfield a9 => exact ok_getfield hLk C hchk hd ha hsd hq hN hJ
  | putfield a9 => exact ok_putfield hLk C hchk hd ha hsd hq hN hJ
  | iinc a9 b9 => exact ok_iinc hLk C hchk hd ha hsd hq hN hJ
  | ifCond a9 b9 => exact ok_ifCond hLk C hchk hd ha hsd hq hN hJ
  | if_icmp a9 b9 => exact ok_if_icmp hLk C hchk hd ha hsd hq hN hJ
  | tableswitch a9 b9 c9 d9 => exact ok_tableswitch hLk C hchk hd ha hsd hq hN hJ
  | new a9 => exact ok_new hLk C hz0 hn0 hB hchk hd ha hsd hq hN hJ
  | newarray a9 => exact ok_newarray hLk C hz0 hn0 hB hchk hd ha hsd hq hN hJ
  | multianewarray a9 b9 => exact ok_multianewarray hLk C hz0 hn0 hB hchk hd ha hsd hq hN hJ
  | _ =>
    rw [m_act_eq] at ha
    cases ha
/-- what the calls of a body must give -/
def g_calls (p : Program) (l : Launch) (e : Env) (R : Room) (s : State) (m : MethodId) (args : Array Value) (below : List Frame) (meth : Method) (c : Code) (Q : State → Prop) (g : mG) (nL n0 s0 : Nat) (B : Option (Nat × Nat)) (call : mC) (P : List mI) : Prop :=
  ∀ (i : Nat) (e0 : mI), P[i]? = some e0 → (∃ k, e0.2.2.2.1 = .invokestatic k ∨ e0.2.2.2.1 = .invokevirtual k ∨ e0.2.2.2.1 = .invokespecial k) → ∀ (r : List mI) (ls : mL) (st : List Value) (h : mH) (X : List mI → mL → List Value → mH → Prop),
    m_inv B call e0.2.2.2.2.2.1 r ls st h X → (∀ ls st h, X r ls st h → g_K p l e R s m args below meth c Q g nL n0 s0 B (e0.2.2.1 + e0.2.2.2.2.1) ls st h) → g_K p l e R s m args below meth c Q g nL n0 s0 B e0.2.2.1 ls st h
/-- what its returns must give -/
def g_rets (p : Program) (l : Launch) (e : Env) (R : Room) (s : State) (m : MethodId) (args : Array Value) (below : List Frame) (meth : Method) (c : Code) (Q : State → Prop) (g : mG) (nL n0 s0 : Nat) (B : Option (Nat × Nat)) (Qa : Option Value → mH → Prop) (P : List mI) : Prop :=
  ∀ (i : Nat) (e0 : mI), P[i]? = some e0 → ∀ (ls : mL) (h : mH),
    (e0.2.2.2.1 = .ireturn → ∀ x : Int32, (e0.2.2.2.2.2.1 = [] ∨ x = 0 ∨ x = 1) → m_end B h (Qa (some (.int x)) h) → g_K p l e R s m args below meth c Q g nL n0 s0 B e0.2.2.1 ls [.int x] h) ∧
    (e0.2.2.2.1 = .lreturn → ∀ x : Int64, m_end B h (Qa (some (.long x)) h) → g_K p l e R s m args below meth c Q g nL n0 s0 B e0.2.2.1 ls [.long x] h) ∧
    (e0.2.2.2.1 = .return_ → m_end B h (Qa none h) → g_K p l e R s m args below meth c Q g nL n0 s0 B e0.2.2.1 ls [] h)
def g_X (p : Program) (l : Launch) (e : Env) (R : Room) (s : State) (m : MethodId) (args : Array Value) (below : List Frame) (meth : Method) (c : Code) (Q : State → Prop) (g : mG) (nL n0 s0 : Nat) (B : Option (Nat × Nat)) (P : List mI) (c0 : List mI) (ls : mL) (st : List Value) (h : mH) : Prop := match c0 with
  | [] => False
  | e0 :: _ => m_suf P c0 → g_K p l e R s m args below meth c Q g nL n0 s0 B e0.2.2.1 ls st h
set_option maxHeartbeats 4000000 in
theorem m_body (hLk : m_Lk FL SL CL KI KL) (C : g_Cx g p s m args meth c cc o ii) (hz0 : s.heap.size = g.2.2.1 + (n0 - 5)) (hn0 : 5 ≤ n0) (hB : ∀ b, B = some b → b.1 ≤ n0 + R.cells ∧ b.2 ≤ s0 + R.slots)
    (hF : m_fits cc (m_chk1 FL SL CL KI KL ii o P) P) {call : mC} {Qa : Option Value → mH → Prop} (hC : g_calls p l e R s m args below meth c Q g nL n0 s0 B call P) (hR : g_rets p l e R s m args below meth c Q g nL n0 s0 B Qa P)
    {c0 : List mI} {ls : mL} {st : List Value} {h : mH} (H : WPe P B call Qa c0 ls st h) : g_X p l e R s m args below meth c Q g nL n0 s0 B P c0 ls st h := by
  refine H (g_X p l e R s m args below meth c Q g nL n0 s0 B P) ?_
  clear H
  intro c0 ls st h H
  match c0, H with
  | [], H => exact H
  | e0 :: r, H =>
    intro hs
    have hsr := hs.tail
    obtain ⟨j, hj⟩ := hs
    obtain ⟨hat, hr⟩ := m_drop_cons hj.symm
    obtain ⟨f1, f2, f3, f4⟩ := hF j e0 hat
    have hN : ∀ ls st h, g_X p l e R s m args below meth c Q g nL n0 s0 B P r ls st h → g_K p l e R s m args below meth c Q g nL n0 s0 B (e0.2.2.1 + e0.2.2.2.2.1) ls st h := by
      intro ls st h hh
      match r, hr, hsr, hh with
      | [], _, _, hh => exact hh.elim
      | e1 :: r1, hr, hsr, hh =>
        have h1 := (m_drop_cons hr.symm).1
        rw [← f4 e1 h1]
        exact hh hsr
    have hJ : ∀ (t : Nat) (e' : mI), P[t]? = some e' → ∀ ls st h, g_X p l e R s m args below meth c Q g nL n0 s0 B P (m_drop P t) ls st h → g_K p l e R s m args below meth c Q g nL n0 s0 B e'.2.2.1 ls st h := by
      intro t e' he ls st h hh
      have hd : m_drop P t = e' :: m_drop P (t + 1) := by
        rw [m_drop_eq, m_drop_eq]
        have hl := (List.getElem?_eq_some_iff.mp he).1
        rw [List.drop_eq_getElem_cons hl]
        congr 1
        exact (List.getElem?_eq_some_iff.mp he).2
      rw [hd] at hh
      exact hh ⟨t, hd.symm⟩
    unfold m_stp at H
    dsimp only at H
    have hcC := hC j e0 hat
    have hcR := hR j e0 hat ls h
    obtain ⟨sp, ix, pc, ins, len, an, kv, kl⟩ := e0
    dsimp only at H hcC hcR hN f2 f3 ⊢
    split at H
    · exact hcC ⟨_, Or.inl rfl⟩ r ls st h _ H hN
    · exact hcC ⟨_, Or.inr (Or.inl rfl)⟩ r ls st h _ H hN
    · exact hcC ⟨_, Or.inr (Or.inr rfl)⟩ r ls st h _ H hN
    · split at H
      · exact hcR.1 rfl _ (Or.inl rfl) H
      · exact hcR.1 rfl _ (Or.inr H.1) H.2
      · exact H.elim
    · split at H
      · exact hcR.2.1 rfl _ H
      · exact H.elim
    · split at H
      · exact hcR.2.2 rfl H
      · exact H.elim
    · split at H
      · rename_i ha
        exact m_act_ok hLk C hz0 hn0 hB f2 f3 ha (fun x hx => by cases hx) H hN hJ
      · rename_i ha
        exact m_act_ok hLk C hz0 hn0 hB f2 f3 ha (fun x hx => by cases hx; exact H.1) H.2 hN hJ
      · exact H.elim
end Sound
