def dt0 : List (Nat × Jvm.ClassFile.Instr) := [(2, .iconst (-1)), (3, .iconst 0), (4, .iconst 1), (5, .iconst 2), (6, .iconst 3), (7, .iconst 4), (8, .iconst 5), (9, .lconst 0), (10, .lconst 1), (26, .iload_n 0), (27, .iload_n 1), (28, .iload_n 2), (29, .iload_n 3), (30, .lload_n 0), (31, .lload_n 1), (32, .lload_n 2), (33, .lload_n 3), (42, .aload_n 0), (43, .aload_n 1), (44, .aload_n 2), (45, .aload_n 3), (59, .istore_n 0), (60, .istore_n 1), (61, .istore_n 2), (62, .istore_n 3), (63, .lstore_n 0), (64, .lstore_n 1), (65, .lstore_n 2), (66, .lstore_n 3), (75, .astore_n 0), (76, .astore_n 1), (77, .astore_n 2), (78, .astore_n 3), (46, .iaload), (47, .laload), (50, .aaload), (51, .baload), (52, .caload), (79, .iastore), (80, .lastore), (84, .bastore), (85, .castore), (87, .pop), (89, .dup), (90, .dup_x1), (92, .dup2), (96, .iadd), (97, .ladd), (100, .isub), (101, .lsub), (104, .imul), (105, .lmul), (108, .idiv), (109, .ldiv), (116, .ineg), (117, .lneg), (120, .ishl), (121, .lshl), (122, .ishr), (123, .lshr), (124, .iushr), (125, .lushr), (126, .iand), (127, .land), (128, .ior), (129, .lor), (130, .ixor), (133, .i2l), (136, .l2i), (146, .i2c), (147, .i2s), (148, .lcmp), (172, .ireturn), (173, .lreturn), (177, .return_), (190, .arraylength)]
def dt1 : List (Nat × (Nat → Jvm.ClassFile.Instr)) := [(18, fun x => .ldc x), (21, fun x => .iload x), (22, fun x => .lload x), (25, fun x => .aload x), (54, fun x => .istore x), (55, fun x => .lstore x), (58, fun x => .astore x)]
def dt2 : List (Nat × (Nat → Jvm.ClassFile.Instr)) := [(19, fun x => .ldc_w x), (20, fun x => .ldc2_w x), (178, fun x => .getstatic x), (180, fun x => .getfield x), (181, fun x => .putfield x), (182, fun x => .invokevirtual x), (183, fun x => .invokespecial x), (184, fun x => .invokestatic x), (187, fun x => .new x)]
def dt3 : List (Nat × (Int → Jvm.ClassFile.Instr)) := [(17, fun x => .sipush x), (153, fun x => .ifCond .eq x), (154, fun x => .ifCond .ne x), (155, fun x => .ifCond .lt x), (156, fun x => .ifCond .ge x), (157, fun x => .ifCond .gt x), (158, fun x => .ifCond .le x), (159, fun x => .if_icmp .eq x), (160, fun x => .if_icmp .ne x), (161, fun x => .if_icmp .lt x), (162, fun x => .if_icmp .ge x), (163, fun x => .if_icmp .gt x), (164, fun x => .if_icmp .le x), (167, fun x => .goto x)]
theorem dk_ex : ∃ KK : Nat → Nat → Jvm.ClassFile.Decoder Jvm.ClassFile.Instr, (∀ pc, Jvm.ClassFile.Decoder.instr pc = (Jvm.ClassFile.Reader.u1 >>= KK pc)) ∧ (∀ pc, ∀ q ∈ dt0, KK pc q.1 = Pure.pure q.2) ∧ (∀ pc, ∀ q ∈ dt1, KK pc q.1 = (Jvm.ClassFile.Reader.u1 >>= fun x => Pure.pure (q.2 x))) ∧ (∀ pc, ∀ q ∈ dt2, KK pc q.1 = (Jvm.ClassFile.Reader.u2 >>= fun x => Pure.pure (q.2 x))) ∧ (∀ pc, ∀ q ∈ dt3, KK pc q.1 = (Jvm.ClassFile.Reader.s2 >>= fun x => Pure.pure (q.2 x))) ∧ (∀ pc, KK pc 16 = (Jvm.ClassFile.Reader.s1 >>= fun x => Pure.pure (.bipush x))) ∧ (∀ pc, KK pc 132 = (Jvm.ClassFile.Reader.u1 >>= fun x => Jvm.ClassFile.Reader.s1 >>= fun y => Pure.pure (.iinc x y))) ∧ (∀ pc, KK pc 188 = Jvm.ClassFile.Decoder.newarray pc) := by
  refine ⟨_, fun pc => rfl, (by
    intro pc q hq
    simp only [dt0, List.mem_cons, List.not_mem_nil, or_false] at hq
    rcases hq with rfl | rfl | rfl | rfl | rfl | rfl | rfl | rfl | rfl | rfl | rfl | rfl | rfl | rfl | rfl | rfl | rfl | rfl | rfl | rfl | rfl | rfl | rfl | rfl | rfl | rfl | rfl | rfl | rfl | rfl | rfl | rfl | rfl | rfl | rfl | rfl | rfl | rfl | rfl | rfl | rfl | rfl | rfl | rfl | rfl | rfl | rfl | rfl | rfl | rfl | rfl | rfl | rfl | rfl | rfl | rfl | rfl | rfl | rfl | rfl | rfl | rfl | rfl | rfl | rfl | rfl | rfl | rfl | rfl | rfl | rfl | rfl | rfl | rfl | rfl | rfl <;> rfl), (by
    intro pc q hq
    simp only [dt1, List.mem_cons, List.not_mem_nil, or_false] at hq
    rcases hq with rfl | rfl | rfl | rfl | rfl | rfl | rfl <;> rfl), (by
    intro pc q hq
    simp only [dt2, List.mem_cons, List.not_mem_nil, or_false] at hq
    rcases hq with rfl | rfl | rfl | rfl | rfl | rfl | rfl | rfl | rfl <;> rfl), (by
    intro pc q hq
    simp only [dt3, List.mem_cons, List.not_mem_nil, or_false] at hq
    rcases hq with rfl | rfl | rfl | rfl | rfl | rfl | rfl | rfl | rfl | rfl | rfl | rfl | rfl | rfl <;> rfl), fun pc => rfl, fun pc => rfl, fun pc => rfl⟩
theorem dn_ex : ∃ NK : Nat → Nat → Jvm.ClassFile.Decoder Jvm.ClassFile.Instr, (∀ pc, Jvm.ClassFile.Decoder.newarray pc = (Jvm.ClassFile.Reader.u1 >>= NK pc)) ∧ (∀ pc, NK pc 4 = Pure.pure (.newarray .boolean)) ∧ (∀ pc, NK pc 5 = Pure.pure (.newarray .char)) ∧ (∀ pc, NK pc 10 = Pure.pure (.newarray .int)) ∧ (∀ pc, NK pc 11 = Pure.pure (.newarray .long)) := ⟨_, fun pc => rfl, fun pc => rfl, fun pc => rfl, fun pc => rfl, fun pc => rfl⟩
theorem bd_ok {α β : Type} {x : Jvm.ClassFile.Decoder α} {K : α → Jvm.ClassFile.Decoder β} {cc : ByteArray} {p s : Nat} {a : α} (h : x cc p = .ok (a, s)) : (x >>= K) cc p = K a cc s := by
  show Except.bind (x cc p) _ = _
  rw [h]
  rfl
theorem mp_ok {α β : Type} {x : Jvm.ClassFile.Decoder α} {f : α → β} {cc : ByteArray} {p s : Nat} {a : α} (h : x cc p = .ok (a, s)) : (f <$> x) cc p = .ok (f a, s) := by
  show Except.bind (x cc p) _ = _
  rw [h]
  rfl
theorem u1_ok {cc : ByteArray} {p : Nat} (h : p < cc.size) : (Jvm.ClassFile.Reader.u1 : Jvm.ClassFile.Decoder Nat) cc p = .ok ((cc[p]'h).toNat, p + 1) := by
  show (dite (p < cc.size) (fun h => (do set (p + 1); Pure.pure (cc[p]'h).toNat : Jvm.ClassFile.Decoder Nat)) (fun _ => throw _)) cc p = _
  rw [dif_pos h]
  rfl
/-- the bytes from p on -/
def bts (cc : ByteArray) (p : Nat) : List UInt8 := cc.data.toList.drop p
theorem bts_c {cc : ByteArray} {p : Nat} {b : UInt8} {r : List UInt8} (h : bts cc p = b :: r) : ∃ h : p < cc.size, cc[p]'h = b ∧ bts cc (p + 1) = r := by
  unfold bts at h ⊢
  have hl : p < cc.data.toList.length := by
    rcases Nat.lt_or_ge p cc.data.toList.length with q | q
    · exact q
    · rw [List.drop_of_length_le q] at h
      cases h
  rw [List.drop_eq_getElem_cons hl] at h
  injection h with h1 h2
  refine ⟨by simpa using hl, ?_, h2⟩
  rw [← h1]
  rfl
theorem u1_b {cc : ByteArray} {p : Nat} {b : UInt8} {r : List UInt8} (h : bts cc p = b :: r) : (Jvm.ClassFile.Reader.u1 : Jvm.ClassFile.Decoder Nat) cc p = .ok (b.toNat, p + 1) := by
  obtain ⟨h1, h2, _⟩ := bts_c h
  rw [u1_ok h1, h2]
theorem u2_b {cc : ByteArray} {p : Nat} {b b2 : UInt8} {r : List UInt8} (h : bts cc p = b :: b2 :: r) : (Jvm.ClassFile.Reader.u2 : Jvm.ClassFile.Decoder Nat) cc p = .ok (b.toNat * 256 + b2.toNat, p + 2) := by
  obtain ⟨_, _, h2⟩ := bts_c h
  refine (bd_ok (u1_b h)).trans ((bd_ok (u1_b h2)).trans ?_)
  rfl
theorem de_ok {cc : ByteArray} {pc n : Nat} {i : Jvm.ClassFile.Instr} (h : Jvm.ClassFile.Decoder.instr pc cc pc = .ok (i, n)) : decode cc pc = .ok (i, n - pc) := by
  have h2 : (Jvm.ClassFile.Decoder.instr pc).runAt cc pc = .ok (i, n) := h
  unfold Jvm.ClassFile.decode
  rw [h2]
  rfl
def lk {α : Type} : List (Nat × α) → Nat → Option α
  | [], _ => none
  | q :: t, n => bif Nat.beq q.1 n then some q.2 else lk t n
theorem lk_mem {α : Type} : ∀ (l : List (Nat × α)) (n : Nat) (a : α), lk l n = some a → (n, a) ∈ l
  | [], n, a, h => by cases h
  | q :: t, n, a, h => by
    unfold lk at h
    cases hb : Nat.beq q.1 n with
    | true =>
      rw [hb] at h
      cases h
      have := Nat.eq_of_beq_eq_true hb
      subst this
      exact List.mem_cons_self
    | false =>
      rw [hb] at h
      exact List.mem_cons_of_mem _ (lk_mem t n a h)
def ar : Nat → Option Jvm.ClassFile.Instr
  | 4 => some (.newarray .boolean)
  | 5 => some (.newarray .char)
  | 10 => some (.newarray .int)
  | 11 => some (.newarray .long)
  | _ => none
/-- the instruction at the bytes -/
def fd : List UInt8 → Option (Jvm.ClassFile.Instr × Nat)
  | b0 :: r => match lk dt0 b0.toNat with
    | some i => some (i, 1)
    | none => match r with
      | b1 :: r2 => match lk dt1 b0.toNat with
        | some c => some (c b1.toNat, 2)
        | none => bif Nat.beq b0.toNat 16 then some (.bipush (Jvm.ClassFile.Reader.signed 8 b1.toNat), 2) else bif Nat.beq b0.toNat 188 then (match ar b1.toNat with | some i => some (i, 2) | none => none) else match r2 with
          | b2 :: _ => match lk dt2 b0.toNat with
            | some c => some (c (b1.toNat * 256 + b2.toNat), 3)
            | none => match lk dt3 b0.toNat with
              | some c => some (c (Jvm.ClassFile.Reader.signed 16 (b1.toNat * 256 + b2.toNat)), 3)
              | none => bif Nat.beq b0.toNat 132 then some (.iinc b1.toNat (Jvm.ClassFile.Reader.signed 8 b2.toNat), 3) else none
          | [] => none
      | [] => none
  | [] => none
theorem fd_ok {cc : ByteArray} {pc n : Nat} {i : Jvm.ClassFile.Instr} {l : List UInt8} (hl : bts cc pc = l) (h : fd l = some (i, n)) : decode cc pc = .ok (i, n) := by
  obtain ⟨KK, kb, k0, k1, k2, k3, k16, k132, k188⟩ := dk_ex
  obtain ⟨NK, nb, n4, n5, n10, n11⟩ := dn_ex
  have fin : ∀ s, Jvm.ClassFile.Decoder.instr pc cc pc = .ok (i, pc + s) → decode cc pc = .ok (i, s) := fun s hs => by
    have := de_ok hs
    rw [Nat.add_sub_cancel_left] at this
    exact this
  cases l with
  | nil => cases h
  | cons b0 r =>
    have h0 := u1_b hl
    obtain ⟨_, _, hr⟩ := bts_c hl
    have st : Jvm.ClassFile.Decoder.instr pc cc pc = KK pc b0.toNat cc (pc + 1) := by
      rw [kb pc]
      exact bd_ok h0
    unfold fd at h
    dsimp only at h
    cases e0 : lk dt0 b0.toNat with
    | some j =>
      rw [e0] at h
      cases h
      refine fin 1 (st.trans ?_)
      rw [k0 pc _ (lk_mem _ _ _ e0)]
      rfl
    | none =>
      rw [e0] at h
      cases r with
      | nil => cases h
      | cons b1 r2 =>
        have h1 := u1_b hr
        obtain ⟨_, _, hr2⟩ := bts_c hr
        dsimp only at h
        cases e1 : lk dt1 b0.toNat with
        | some c =>
          rw [e1] at h
          cases h
          refine fin 2 (st.trans ?_)
          rw [k1 pc _ (lk_mem _ _ _ e1)]
          exact (bd_ok h1).trans rfl
        | none =>
          rw [e1] at h
          dsimp only at h
          cases q16 : Nat.beq b0.toNat 16 with
          | true =>
            rw [q16] at h
            cases h
            refine fin 2 (st.trans ?_)
            rw [Nat.eq_of_beq_eq_true q16, k16 pc]
            exact (bd_ok (mp_ok h1)).trans rfl
          | false =>
            rw [q16] at h
            dsimp only [cond_false] at h
            cases q188 : Nat.beq b0.toNat 188 with
            | true =>
              rw [q188] at h
              dsimp only [cond_true] at h
              have st2 : Jvm.ClassFile.Decoder.instr pc cc pc = NK pc b1.toNat cc (pc + 2) := by
                rw [st, Nat.eq_of_beq_eq_true q188, k188 pc, nb pc]
                exact bd_ok h1
              have four : b1.toNat = 4 ∨ b1.toNat = 5 ∨ b1.toNat = 10 ∨ b1.toNat = 11 := by
                apply Classical.byContradiction
                intro no
                have e : ar b1.toNat = none := by
                  unfold ar
                  split
                  · exact absurd (Or.inl (by assumption)) no
                  · exact absurd (Or.inr (Or.inl (by assumption))) no
                  · exact absurd (Or.inr (Or.inr (Or.inl (by assumption)))) no
                  · exact absurd (Or.inr (Or.inr (Or.inr (by assumption)))) no
                  · rfl
                rw [e] at h
                cases h
              rcases four with z | z | z | z
              · rw [z] at h st2
                cases h
                refine fin 2 (st2.trans ?_)
                rw [n4 pc]
                rfl
              · rw [z] at h st2
                cases h
                refine fin 2 (st2.trans ?_)
                rw [n5 pc]
                rfl
              · rw [z] at h st2
                cases h
                refine fin 2 (st2.trans ?_)
                rw [n10 pc]
                rfl
              · rw [z] at h st2
                cases h
                refine fin 2 (st2.trans ?_)
                rw [n11 pc]
                rfl
            | false =>
              rw [q188] at h
              dsimp only [cond_false] at h
              cases r2 with
              | nil => cases h
              | cons b2 r3 =>
                have h2 := u2_b hr
                have h2b := u1_b hr2
                dsimp only at h
                cases e2 : lk dt2 b0.toNat with
                | some c =>
                  rw [e2] at h
                  cases h
                  refine fin 3 (st.trans ?_)
                  rw [k2 pc _ (lk_mem _ _ _ e2)]
                  exact (bd_ok h2).trans rfl
                | none =>
                  rw [e2] at h
                  dsimp only at h
                  cases e3 : lk dt3 b0.toNat with
                  | some c =>
                    rw [e3] at h
                    cases h
                    refine fin 3 (st.trans ?_)
                    rw [k3 pc _ (lk_mem _ _ _ e3)]
                    exact (bd_ok (mp_ok h2)).trans rfl
                  | none =>
                    rw [e3] at h
                    dsimp only at h
                    cases q132 : Nat.beq b0.toNat 132 with
                    | true =>
                      rw [q132] at h
                      cases h
                      refine fin 3 (st.trans ?_)
                      rw [Nat.eq_of_beq_eq_true q132, k132 pc]
                      exact (bd_ok h1).trans ((bd_ok (mp_ok h2b)).trans rfl)
                    | false =>
                      rw [q132] at h
                      cases h
/-- the instructions of a method, one behind the other, read from its bytes -/
def m_ly (cc : ByteArray) (chk : mI → Bool) : Nat → Nat → List UInt8 → List mI → Bool
  | _, _, _, [] => true
  | i, pc, l, e :: t => Nat.beq e.2.1 i && (Nat.beq e.2.2.1 pc && (chk e && ((match fd l with | some q => decide (q.1 = e.2.2.2.1) && Nat.beq q.2 e.2.2.2.2.1 | none => decide (decode cc pc = .ok (e.2.2.2.1, e.2.2.2.2.1))) && m_ly cc chk (i + 1) (pc + e.2.2.2.2.1) (l.drop e.2.2.2.2.1) t)))
theorem m_ly_ok {cc : ByteArray} {chk : mI → Bool} : ∀ (P : List mI) (i pc : Nat) (l : List UInt8), bts cc pc = l → m_ly cc chk i pc l P = true → m_lay cc chk i pc P = true
  | [], _, _, _, _, _ => rfl
  | e :: t, i, pc, l, hl, h => by
    simp only [m_ly, Bool.and_eq_true] at h
    obtain ⟨h1, h2, h3, h4, h5⟩ := h
    have hd : decode cc pc = .ok (e.2.2.2.1, e.2.2.2.2.1) := by
      cases hf : fd l with
      | some q =>
        rw [hf] at h4
        simp only [Bool.and_eq_true, decide_eq_true_eq] at h4
        have := fd_ok hl hf
        rw [this, h4.1, Nat.eq_of_beq_eq_true h4.2]
      | none =>
        rw [hf] at h4
        exact of_decide_eq_true h4
    have ih := m_ly_ok t (i + 1) (pc + e.2.2.2.2.1) (l.drop e.2.2.2.2.1) (by rw [← hl]; unfold bts; rw [List.drop_drop]) h5
    simp only [m_lay, Bool.and_eq_true, beq_iff_eq, decide_eq_true_eq]
    exact ⟨⟨⟨⟨Nat.eq_of_beq_eq_true h1, Nat.eq_of_beq_eq_true h2⟩, h3⟩, hd⟩, ih⟩
theorem m_lay_by {cc : ByteArray} {chk : mI → Bool} {i pc : Nat} {P : List mI} (h : m_ly cc chk i pc (bts cc pc) P = true) : m_lay cc chk i pc P = true := m_ly_ok P i pc _ rfl h
