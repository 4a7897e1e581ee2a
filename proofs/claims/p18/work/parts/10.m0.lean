/-! ===== every method of the table keeps what Run says of it ===== -/
theorem m_call_spec {B : Option (Nat × Nat)} {mc ms : Nat} {h : mH} {q : Prop} (H : m_call B mc ms h q) : q ∧ (B = none → mc = 0 ∧ ms = 0) ∧ (∀ b, B = some b → h.1.length + mc ≤ b.1 ∧ m_sz h.1 + ms ≤ b.2) := by
  cases B with
  | none =>
    cases mc with
    | zero => cases ms with
      | zero => exact ⟨H, fun _ => ⟨rfl, rfl⟩, fun b hb => by cases hb⟩
      | succ _ => exact H.elim
    | succ _ => exact H.elim
  | some b => exact ⟨H.2, (fun q => by cases q), (fun b' hb => by cases hb; exact H.1)⟩
theorem m_cpy_row {f : Nat → Nat → Int32} {a b sp dp n k : Nat} (h : k ≠ b) : m_cpy f a b sp dp n k = f k := by
  funext i
  simp [m_cpy, h]
theorem m_cpy_at {f : Nat → Nat → Int32} {a b sp dp n : Nat} : m_cpy f a b sp dp n b = va_cpy (f a) (f b) sp dp n := by
  funext i
  simp [m_cpy, va_cpy]
theorem g_W_cpy {g : mG} {h : mH} {a k sp dp n9 n : Nat} {r : List (Option Nat)} (h5 : 5 ≤ k) (hc : h.1[k]? = some (100, n, r)) :
    g_W g (h.1, m_cpy h.2.1 a k sp dp n9, h.2.2) = (g_W g h).set (k - 5) (g_ad g k, .inl (g.2.1 100, n, .inl (va_cpy (h.2.1 a) (h.2.1 k) sp dp n9))) := by
  have e := g_W_put (g := g) (h := h) (h' := (h.1, m_cpy h.2.1 a k sp dp n9, h.2.2)) h5 hc rfl (fun a ha => m_cpy_row ha) (fun a ha => rfl)
  rw [e, g_e_i (Or.inl rfl), g_ad_ge h5, ← m_cpy_at]
theorem run_recv {tab : List mM} {d k ci : Nat} {M : mM} {as : List Value} {h : mH} {R' : Option Value → mH → Prop} (hk : tab[k]? = some M) (hrc : M.2.2.2.2.2.2.1 = some ci) (Hc : Run tab d (k + 6) as h R') : ∃ (q0 : Nat) (as' : List Value) (n9 : Nat) (rf9 : List (Option Nat)), as = .ref q0 :: as' ∧ h.1[q0]? = some (ci, n9, rf9) := by
  cases d with
  | zero => exact Hc.elim
  | succ d =>
    unfold Run at Hc
    dsimp only at Hc
    rw [m_nth_eq, hk] at Hc
    dsimp only at Hc
    unfold m_ent at Hc
    rw [hrc] at Hc
    split at Hc
    · dsimp only at Hc
      split at Hc
      · rename_i q0 as' _
        rw [m_nth_eq] at Hc
        split at Hc
        · rename_i t n9 rf9 hcell
          split at Hc
          · rename_i hbq
            have e9 := Nat.eq_of_beq_eq_true hbq
            subst e9
            exact ⟨q0, as', n9, rf9, rfl, hcell⟩
          · exact Hc.elim
        · exact Hc.elim
      · exact Hc.elim
    · exact Hc.elim
theorem prim_copy {as : List Value} {h : mH} {R' : Option Value → mH → Prop} (H : m_prim 1 as h R') : ∃ (a : Nat) (sp : Int32) (b : Nat) (dp n : Int32) (t na : Nat) (ra : List (Option Nat)) (nb : Nat) (rb : List (Option Nat)), as = [.ref a, .int sp, .ref b, .int dp, .int n] ∧ h.1[a]? = some (t, na, ra) ∧ (t = 100 ∨ t = 200) ∧ h.1[b]? = some (100, nb, rb) ∧
    (¬ sp < 0 ∧ ¬ dp < 0 ∧ ¬ n < 0 ∧ sp.toNatClampNeg + n.toNatClampNeg ≤ na ∧ dp.toNatClampNeg + n.toNatClampNeg ≤ nb) ∧ R' none (h.1, m_cpy h.2.1 a b sp.toNatClampNeg dp.toNatClampNeg n.toNatClampNeg, h.2.2) := by
  unfold m_prim at H
  split at H
  · exfalso
    omega
  · rename_i a sp9 b dp9 n9 heq9
    rw [m_nth_eq, m_nth_eq] at H
    split at H
    · rename_i t na ra nb rb hca hcb
      split at H
      · rename_i htt
        rw [Bool.or_eq_true] at htt
        exact ⟨a, sp9, b, dp9, n9, t, na, ra, nb, rb, rfl, hca, htt.imp Nat.eq_of_beq_eq_true Nat.eq_of_beq_eq_true, hcb, H.1, H.2⟩
      · exact H.elim
    · exact H.elim
  · exfalso
    omega
  · exfalso
    omega
  · exact H.elim
theorem prim_max {as : List Value} {h : mH} {R' : Option Value → mH → Prop} (H : m_prim 3 as h R') : ∃ x y : Int32, as = [.int x, .int y] ∧ R' (some (.int (if x < y then y else x))) h := by
  unfold m_prim at H
  split at H
  · exfalso
    omega
  · exfalso
    omega
  · rename_i x y heq9
    exact ⟨x, y, rfl, H⟩
  · exfalso
    omega
  · exact H.elim
theorem prim_min {as : List Value} {h : mH} {R' : Option Value → mH → Prop} (H : m_prim 4 as h R') : ∃ x y : Int32, as = [.int x, .int y] ∧ R' (some (.int (if y < x then y else x))) h := by
  unfold m_prim at H
  split at H
  · exfalso
    omega
  · exfalso
    omega
  · exfalso
    omega
  · rename_i x y heq9
    exact ⟨x, y, rfl, H⟩
  · exact H.elim
section Sound
variable {p : Program} {l : Launch} {e : Env} {R : Room} {s : State} {m : MethodId} {args : Array Value} {below : List Frame} {meth : Method} {c : Code} {Q : State → Prop}
variable {g : mG} {cc : ByteArray} {o nL n0 s0 : Nat} {ii : Bool} {B : Option (Nat × Nat)} {P r : List mI}
/-- System.arraycopy out of an old int array -/
theorem m_copyx {H : Heap} {locs : List Loc} {cells slots pc : Nat} {ls : Array Slot} {rest : List Value} {D : va_G} {cl : List vw_C} {A : Nat → Prop} {a : Nat} {tys : List (ClassId × FieldType)} {ws : va_W} {H0 : Heap} (hexec : p.tables.exec = Jvm.exec) (hb : c.code = cc) (hml : c.maxLocals = ls.size) {own : String} {index : Nat} (hown : s.vm.findClass own = some m.cls) (hlink : (Cond.methodLink own index arraycopyName).before args s = true) (hnat : (Cond.native arraycopyName).before args s = true) (hstat : (Cond.static arraycopyName).before args s = true) (hini : (Cond.initialized "java/lang/System").before args s = true)
    (hK : va_K D cl tys s) (hP : va_P D cl ws H) (hD : va_D A ws) (hS : va_S A H0 H locs) {b0 na : Nat} {f : Nat → Int32} (hX : m_X b0 na f s H) (q1 t1 : Nat) {c1 : ClassId} {n1 : Nat} {g' : Nat → Int32} (ha1 : ws[q1]? = some (a, .inl (c1, n1, .inl g'))) (ht1 : tys[t1]? = some (c1, .int))
    {sp dp n : Int32} (h1 : ¬ sp < 0) (h2 : ¬ dp < 0) (h3 : ¬ n < 0) (h4 : sp.toNatClampNeg + n.toNatClampNeg ≤ na) (h5 : dp.toNatClampNeg + n.toNatClampNeg ≤ n1)
    (hframes : 1 ≤ R.frames) (hlocals : (rest.map fun v => v.category).sum + (nativeFrameWords "java/lang/System" "arraycopy" 5 + 11) ≤ R.locals) (hdg : decode cc pc = .ok (.invokestatic index, 3))
    (kk : ∀ (H1 : Heap) (locs1 : List Loc), va_P D cl (ws.set q1 (a, .inl (c1, n1, .inl (va_cpy f g' sp.toNatClampNeg dp.toNatClampNeg n.toNatClampNeg)))) H1 → va_D A (ws.set q1 (a, .inl (c1, n1, .inl (va_cpy f g' sp.toNatClampNeg dp.toNatClampNeg n.toNatClampNeg)))) → va_S A H0 H1 locs1 → W p l e R s m args below meth c H1 locs1 cells slots Q (F0 m (pc + 3) ls rest)) : W p l e R s m args below meth c H locs cells slots Q (F0 m pc ls (.int n :: .int dp :: .ref a :: .int sp :: .ref b0 :: rest)) := by
  have nn : ∀ z : Int32, ¬ z < 0 → z.toInt = (z.toNatClampNeg : Int) := by
    intro z hz
    have hz0 : (0 : Int) ≤ z.toInt := by simpa using Int32.le_iff_toInt_le.mp (Int32.not_lt.mp hz)
    show z.toInt = ((z.toInt.toNat : Nat) : Int)
    omega
  obtain ⟨scr, x1, ⟨x2, k0, hk0, cm0, hkk0⟩, x3, ⟨x4, -⟩, x5⟩ := hX
  have hc1 : H[a]? = some (vp_cell c1 (n1, .inl g')) := hP q1 _ ha1
  obtain ⟨-, k1, hk1, cm1, hkk1⟩ := (hK.2 t1 _ ht1).1 n1 (fun j => .int (g' j))
  generalize hnew : vp_cell c1 (n1, .inl (va_cpy f g' sp.toNatClampNeg dp.toNatClampNeg n.toNatClampNeg)) = N9 at *
  intro T hT X
  obtain ⟨vm', X', step⟩ := X.arraycopy hexec hown hlink hnat hstat hini (src := b0) (dst := a) (cs := scr) (cd := vp_cell c1 (n1, .inl g')) (srcPos := sp) (destPos := dp) (n := n) (by rw [hT]; exact x1) (by rw [hT]; exact hc1)
    x2 (fun _ h => by cases h) x3 (fun h => by cases h) hk0 hk1 hkk0 hkk1 (by simp [refKind]) h1 h2 h3
    (by rw [nn sp h1, nn n h3]; omega)
    (by rw [nn dp h2, nn n h3]; show ¬ _ > ((arrV c1 n1 (fun j => .int (g' j))).slots.size : Int); rw [arrV_size]; omega)
    (fun vm₁ _ i hi => by
      have e9 : scr.slots.getD (sp.toNatClampNeg + i) .null = .int (f (sp.toNatClampNeg + i)) := by
        rw [Array.getD_eq_getD_getElem?, x5 _ (by omega)]
        rfl
      exact ⟨by rw [e9]; rfl, by rw [e9]; exact trivial⟩)
    (g := F0 m pc ls (.int n :: .int dp :: .ref a :: .int sp :: .ref b0 :: rest)) rfl (by rw [hml]) (rest := rest) rfl (by rw [hb]; exact hdg) hframes (by show 2 * 0 + _ + _ ≤ _; omega)
  have e1 : copied scr (vp_cell c1 (n1, .inl g')) sp dp n = N9 := by
    rw [← hnew]
    exact va_copiedX (fun z => .int z) scr c1 f g' x5 h4
  rw [e1] at X' step
  have hl : a < H.size := (Array.getElem?_eq_some_iff.mp hc1).1
  have oq : ∀ q : Nat, q ≠ a → (H.setIfInBounds a N9)[q]? = H[q]? := fun q hq => by simp [Array.getElem?_setIfInBounds, Ne.symm hq]
  have hat : (H.setIfInBounds a N9)[a]? = some N9 := by simp [Array.getElem?_setIfInBounds, hl]
  obtain ⟨t, a1, b1⟩ := kk (H.setIfInBounds a N9) _ (hP.set hD ha1 (by show (H.setIfInBounds a N9)[a]? = some (vp_cell _ _); rw [hat, ← hnew]) oq) (hD.set ha1) ⟨by simp; exact hS.1, fun q y1 y2 => by
      rw [oq q (fun e => y2 (by rw [e]; exact hD.2 q1 _ ha1))]
      exact hS.2.1 q y1 y2, fun q hq => by
      rcases List.mem_append.mp hq with h | h
      · exact hS.2.2 q h
      · obtain ⟨z, -, hz⟩ := List.mem_map.mp h
        rw [← hz]
        exact hD.2 q1 _ ha1⟩ _ (by rw [← hT]; rfl) X'
  exact ⟨t, step t a1, b1⟩
/-- the room that calls have: of depth d+1 -/
def g_room (d : Nat) (R : Room) : Prop := d + 1 ≤ R.frames ∧ 49 * (d + 1) ≤ R.locals
end Sound
