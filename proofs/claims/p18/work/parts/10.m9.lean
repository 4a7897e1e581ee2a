section Sound
variable {p : Program} {l : Launch} {e : Env} {R : Room} {s : State} {m : MethodId} {args : Array Value} {below : List Frame} {meth : Method} {c : Code} {Q : State → Prop}
variable {g : mG} {cc : ByteArray} {o nL n0 s0 : Nat} {ii : Bool} {B : Option (Nat × Nat)} {P r : List mI}
set_option maxHeartbeats 4000000 in
theorem g_calls_ok {FL : List (Nat × Nat × Nat × Nat)} {SL CL : List (Nat × Nat × Nat)} {KI : List (Nat × Nat × Int32)} {KL : List (Nat × Nat × Int64)} {tab : List mM} {d : Nat} (hT : ∀ (k : Nat) (M : mM), tab[k]? = some M → m_good FL SL CL KI KL tab M)
    (hIH : ∀ (k : Nat) (M : mM) (as : List Value) (h : mH) (R' : Option Value → mH → Prop), tab[k]? = some M → Run tab d (k + 6) as h R' → Met l M.1 (m_ws M) (m_rm d M) (g_P g as h) (g_Q g h R' M.2.2.2.2.2.2.2.1.1 M.2.2.2.2.2.2.2.1.2) M.2.2.2.2.2.2.2.1.1 M.2.2.2.2.2.2.2.1.2 (g_A g))
    (hIX : m_ixw) (C : g_Cx g p s m args meth c cc o ii) {Ts : List Cond} (hTs : ∀ w ∈ Ts, w.before args s = true) (hsub : ∀ w ∈ m_tb, w ∈ Ts) (hml : c.maxLocals = nL) (hz0 : s.heap.size = g.2.2.1 + (n0 - 5)) (hn0 : 5 ≤ n0) (hB : ∀ b, B = some b → b.1 ≤ n0 + R.cells ∧ b.2 ≤ s0 + R.slots) (hroom : g_room d R)
    {chk : mI → Bool} (hF : m_fits cc chk P) (hlen : ∀ e0, chk e0 = true → (∃ k, e0.2.2.2.1 = .invokestatic k ∨ e0.2.2.2.1 = .invokevirtual k ∨ e0.2.2.2.1 = .invokespecial k) → e0.2.2.2.2.1 = 3)
    (hsite : ∀ (i : Nat) (e0 : mI), P[i]? = some e0 → (∃ k, e0.2.2.2.1 = .invokestatic k ∨ e0.2.2.2.1 = .invokevirtual k ∨ e0.2.2.2.1 = .invokespecial k) → m_site tab o e0.2.2.2.1 e0.2.2.2.2.2.1) :
    g_calls p l e R s m args below meth c Q g nL n0 s0 B (Run tab d) P := by
  intro i0 e0 hat hinv r ls st h X H hN
  obtain ⟨hx, hb, hown, hts, hK, hbase, hZ, hin, hA1, hA2, hNw⟩ := id C
  obtain ⟨-, hck, hd, -⟩ := hF i0 e0 hat
  have hl3 := hlen e0 hck hinv
  have hs := hsite i0 e0 hat hinv
  obtain ⟨sp, ix, pc, ins, len, an, kv, kl⟩ := e0
  dsimp only at hl3 hs H hN hd ⊢
  subst hl3
  rcases hs with ⟨i, k, n, M, rfl, rfl, hk, hnp, hst, hli⟩ | ⟨i, k, n, ci, M, rfl, rfl, hk, hnp, hrc, hci, hcn, hli, hinm, hsel⟩ | ⟨i, k, n, ci, M, rfl, rfl, hk, hnp, hrc, hnm, hret, hinm, hli⟩ | ⟨i, rfl, rfl, hli, hinm, hco⟩ | ⟨i, rfl, rfl, hli, hna, hst, hini⟩ | ⟨i, rfl, rfl, hli⟩ | ⟨i, rfl, rfl, hli, hst, hini, hco⟩ | ⟨i, rfl, rfl, hli, hst, hini, hco⟩
  · exact gc_1 hT hIH hIX C hTs hsub hml hz0 hn0 hB hroom hk hnp hst hli hd H hN
  · exact gc_2 hT hIH hIX C hTs hsub hml hz0 hn0 hB hroom hk hnp hrc hci hcn hli hinm hsel hd H hN
  · exact gc_3 hT hIH hIX C hTs hsub hml hz0 hn0 hB hroom hk hnp hrc hnm hret hinm hli hd H hN
  · exact gc_4 hT hIH hIX C hTs hsub hml hz0 hn0 hB hroom hli hinm hco hd H hN
  · exact gc_5 hT hIH hIX C hTs hsub hml hz0 hn0 hB hroom hli hna hst hini hd H hN
  · exact gc_6 hT hIH hIX C hTs hsub hml hz0 hn0 hB hroom hli hd H hN
  · exact gc_7 hT hIH hIX C hTs hsub hml hz0 hn0 hB hroom hli hst hini hco hd H hN
  · exact gc_8 hT hIH hIX C hTs hsub hml hz0 hn0 hB hroom hli hst hini hco hd H hN
end Sound
