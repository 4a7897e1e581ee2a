/-! ===== WHAT A RESOLVED INSTRUCTION MUST KEEP TO, by program ===== -/
def m_tgt (P : List mI) (pc : Nat) (off : Int) (t : Nat) : Bool := match m_nth P t with
  | some e => decide ((pc : Int) + off = (e.2.2.1 : Int))
  | none => false
def m_sub (P : List mI) (pc : Nat) : List Int → List Nat → Bool
  | [], [] => true
  | o :: os, t :: ts => m_tgt P pc o t && m_sub P pc os ts
  | _, _ => false
/-- FL: field links (owner, pool index, class, field); SL: statics (owner, pool index, place); CL: class links (owner, pool index, class); KI, KL: constants -/
def m_chk1 (FL : List (Nat × Nat × Nat × Nat)) (SL CL : List (Nat × Nat × Nat)) (KI : List (Nat × Nat × Int32)) (KL : List (Nat × Nat × Int64)) (ii : Bool) (o : Nat) (P : List mI) (e : mI) : Bool := match e with
  | (_, _, pc, ins, len, an, kv, kl) => match ins with
    | .iconst n => len == 1 && decide (Int32.ofInt n = kv)
    | .bipush n => len == 2 && decide ((Int8.ofInt n).toInt32 = kv)
    | .sipush n => len == 3 && decide ((Int16.ofInt n).toInt32 = kv)
    | .ldc i => len == 2 && (match an with | [] => KI.any (fun q => q.1 == o && q.2.1 == i && decide (q.2.2 = kv)) | [a] => a == 4 && o == 6 && i == 91 | _ => true)
    | .ldc_w i => len == 3 && KI.any (fun q => q.1 == o && q.2.1 == i && decide (q.2.2 = kv))
    | .lconst n => len == 1 && decide (Int64.ofNat n.val = kl)
    | .ldc2_w i => len == 3 && KL.any (fun q => q.1 == o && q.2.1 == i && decide (q.2.2 = kl))
    | .iload _ | .lload _ | .aload _ | .istore _ | .lstore _ | .astore _ => len == 2
    | .iload_n _ | .lload_n _ | .aload_n _ | .istore_n _ | .lstore_n _ | .astore_n _ => len == 1
    | .iinc _ n => len == 3 && decide (Int32.ofInt n = kv)
    | .iadd | .isub | .imul | .iand | .ior | .ixor | .ishl | .ishr | .iushr | .idiv | .ineg | .ladd | .lsub | .lmul | .land | .lor | .ldiv | .lneg | .lshl | .lshr | .lushr | .lcmp | .i2l | .l2i | .i2s | .i2c | .dup | .dup_x1 | .dup2 | .pop | .arraylength | .iaload | .baload | .caload | .laload | .aaload | .iastore | .bastore | .castore | .lastore => len == 1
    | .goto off => len == 3 && (match an with | [t] => m_tgt P pc off t | _ => false)
    | .ifCond _ off => len == 3 && (match an with | [t] => m_tgt P pc off t | _ => false)
    | .if_icmp _ off => len == 3 && (match an with | [t] => m_tgt P pc off t | _ => false)
    | .tableswitch d lo hi offs => decide (Int32.ofInt lo = kv) && decide (-1000 ≤ lo) && decide (lo ≤ 1000) && decide (offs.size ≤ 1000) && decide (hi + 1 = lo + (offs.size : Int)) && (match an with | t :: ts => m_tgt P pc d t && m_sub P pc offs.toList ts | [] => false)
    | .getstatic i => len == 3 && (match an with | [a] => SL.any (fun q => q.1 == o && q.2.1 == i && q.2.2 == a) | _ => false)
    | .getfield i => len == 3 && (match an with | [f, ci, j, d] => decide (FL[f]? = some (o, i, ci, j)) && decide (ci < 12) && decide (j < m_nf ci) && (m_kd ci j == d || (m_kd ci j == 3 && d == 0)) && decide (d ≤ 2) | _ => false)
    | .putfield i => len == 3 && (match an with | [f, ci, j, d] => decide (FL[f]? = some (o, i, ci, j)) && decide (ci < 12) && decide (j < m_nf ci) && m_kd ci j == d && (!(m_T ci j).2.2.2 || (ii && o == ci && decide ((m_T ci j).1 = m_cn o))) | _ => false)
    | .new i => len == 3 && (match an with | [ci, n] => CL.any (fun q => q.1 == o && q.2.1 == i && q.2.2 == ci) && decide (ci < 12) && m_nf ci == n | _ => false)
    | .newarray ty => len == 2 && m_atag ty != 199
    | .multianewarray i n => len == 4 && n == 2 && (match an with | [to, ti] => CL.any (fun q => q.1 == o && q.2.1 == i && q.2.2 == to) && ((to == 104 && ti == 100) || (to == 105 && ti == 102)) | _ => false)
    | .ireturn | .lreturn | .return_ => len == 1
    | .invokestatic _ | .invokevirtual _ | .invokespecial _ => len == 3
    | _ => false
/-- the instructions of a method, one behind the other, as its bytes have them -/
def m_lay (cc : ByteArray) (chk : mI → Bool) : Nat → Nat → List mI → Bool
  | _, _, [] => true
  | i, pc, e :: t => e.2.1 == i && e.2.2.1 == pc && chk e && decide (decode cc pc = .ok (e.2.2.2.1, e.2.2.2.2.1)) && m_lay cc chk (i + 1) (pc + e.2.2.2.2.1) t
def m_fits (cc : ByteArray) (chk : mI → Bool) (P : List mI) : Prop := ∀ (i : Nat) (e : mI), P[i]? = some e → e.2.1 = i ∧ chk e = true ∧ decode cc e.2.2.1 = .ok (e.2.2.2.1, e.2.2.2.2.1) ∧ ∀ e', P[i + 1]? = some e' → e'.2.2.1 = e.2.2.1 + e.2.2.2.2.1
theorem m_lay_spec {cc : ByteArray} {chk : mI → Bool} : ∀ (P : List mI) (i pc : Nat), m_lay cc chk i pc P = true → ∀ (k : Nat) (e : mI), P[k]? = some e → e.2.1 = i + k ∧ (k = 0 → e.2.2.1 = pc) ∧ chk e = true ∧ decode cc e.2.2.1 = .ok (e.2.2.2.1, e.2.2.2.2.1) ∧ ∀ e', P[k + 1]? = some e' → e'.2.2.1 = e.2.2.1 + e.2.2.2.2.1
  | [], i, pc, _, k, e, he => by simp at he
  | a :: t, i, pc, h, k, e, he => by
    simp only [m_lay, Bool.and_eq_true, beq_iff_eq, decide_eq_true_eq] at h
    obtain ⟨⟨⟨⟨h1, h2⟩, h3⟩, h4⟩, h5⟩ := h
    have ih := m_lay_spec t (i + 1) (pc + a.2.2.2.2.1) h5
    cases k with
    | zero =>
      simp at he
      subst he
      refine ⟨by omega, fun _ => h2, h3, by rw [h2]; exact h4, fun e' he' => ?_⟩
      have := (ih 0 e' (by simpa using he')).2.1 rfl
      rw [this, h2]
    | succ k =>
      obtain ⟨a1, -, a3, a4, a5⟩ := ih k e (by simpa using he)
      exact ⟨by omega, fun q => by omega, a3, a4, fun e' he' => a5 e' (by simpa using he')⟩
theorem m_fits_of {cc : ByteArray} {chk : mI → Bool} {P : List mI} (h : m_lay cc chk 0 0 P = true) : m_fits cc chk P := fun i e he => by
  obtain ⟨a1, -, a3, a4, a5⟩ := m_lay_spec P 0 0 h i e he
  exact ⟨by omega, a3, a4, a5⟩
