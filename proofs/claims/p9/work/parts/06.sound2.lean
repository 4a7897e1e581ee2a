/-! ===== stores, fields, switches ===== -/
theorem g_W_ui {g : mG} {h : mH} {k j n t : Nat} {r : List (Option Nat)} {v : Int32} (h5 : 5 ≤ k) (hc : h.1[k]? = some (t, n, r)) (ht : t = 100 ∨ t = 101 ∨ t = 103) :
    g_W g (h.1, m_ui h.2.1 k j v, h.2.2) = (g_W g h).set (k - 5) (g_ad g k, .inl (g.2.1 t, n, .inl (upd (h.2.1 k) j v))) := by
  have e := g_W_put (g := g) (h := h) (h' := (h.1, m_ui h.2.1 k j v, h.2.2)) h5 hc rfl (fun a ha => m_ui_row ha) (fun a ha => rfl)
  rw [e, g_e_i ht, g_ad_ge h5, ← m_ui_upd]
theorem g_W_ul {g : mG} {h : mH} {k j n : Nat} {r : List (Option Nat)} {v : Int64} (h5 : 5 ≤ k) (hc : h.1[k]? = some (102, n, r)) :
    g_W g (h.1, h.2.1, m_ul h.2.2 k j v) = (g_W g h).set (k - 5) (g_ad g k, .inl (g.2.1 102, n, .inr (.inl (vp_updL (h.2.2 k) j v)))) := by
  have e := g_W_put (g := g) (h := h) (h' := (h.1, h.2.1, m_ul h.2.2 k j v)) h5 hc rfl (fun a ha => rfl) (fun a ha => m_ul_row ha)
  rw [e, g_e_l, g_ad_ge h5, ← m_ul_upd]
theorem g_f_at {g : mG} {h : mH} {k ci n j : Nat} {r : List (Option Nat)} (hj : j < n) : ((List.range n).map (g_f g h k ci r))[j]? = some (g_f g h k ci r j) := by
  rw [List.getElem?_map, List.getElem?_range hj]
  rfl
theorem g_f_int {g : mG} {h : mH} {k ci j : Nat} {r : List (Option Nat)} (hk : m_kd ci j = 0 ∨ m_kd ci j = 3) : g_f g h k ci r j = .int (h.2.1 k j) := by
  unfold g_f
  rcases hk with e | e <;> (rw [e]; rfl)
theorem g_f_long {g : mG} {h : mH} {k ci j : Nat} {r : List (Option Nat)} (hk : m_kd ci j = 1) : g_f g h k ci r j = .long (h.2.2 k j) := by
  unfold g_f
  rw [hk]
  rfl
theorem g_f_ref {g : mG} {h : mH} {k ci j : Nat} {r : List (Option Nat)} (hk : m_kd ci j = 2) : g_f g h k ci r j = va_rf (g_r g (r.getD j none)) := by
  unfold g_f
  rw [hk]
  rfl
/-- an int field of an object changes -/
theorem g_W_uf {g : mG} {h : mH} {k j n ci : Nat} {r : List (Option Nat)} {v : Int32} (h5 : 5 ≤ k) (hc : h.1[k]? = some (ci, n, r)) (ht : ci < 100) (hj : j < n) (hk : m_kd ci j = 0 ∨ m_kd ci j = 3) :
    g_W g (h.1, m_ui h.2.1 k j v, h.2.2) = (g_W g h).set (k - 5) (g_ad g k, .inr (ci, ((List.range n).map (g_f g h k ci r)).set j (.int v))) := by
  have e := g_W_put (g := g) (h := h) (h' := (h.1, m_ui h.2.1 k j v, h.2.2)) h5 hc rfl (fun a ha => m_ui_row ha) (fun a ha => rfl)
  rw [e, g_e_o ht, g_ad_ge h5]
  congr 4
  apply List.ext_getElem?
  intro i
  rw [List.getElem?_set]
  by_cases hi : j = i
  · subst hi
    rw [if_pos rfl, List.length_map, List.length_range, if_pos hj, g_f_at hj, g_f_int hk]
    simp [m_ui]
  · rw [if_neg hi]
    by_cases hin : i < n
    · rw [g_f_at hin, g_f_at hin]
      unfold g_f
      dsimp only
      have : m_ui h.2.1 k j v k i = h.2.1 k i := by simp [m_ui, show ¬ i = j from fun q => hi q.symm]
      rw [this]
    · rw [List.getElem?_eq_none (by simp; omega), List.getElem?_eq_none (by simp; omega)]
/-- a reference of an object changes -/
theorem g_W_ur {g : mG} {h : mH} {k j n ci a : Nat} {r : List (Option Nat)} (h5 : 5 ≤ k) (hc : h.1[k]? = some (ci, n, r)) (ht : ci < 100) (hj : j < n) (hr : r.length = n) (hk : m_kd ci j = 2) :
    g_W g (h.1.set k (ci, n, r.set j (some a)), h.2.1, h.2.2) = (g_W g h).set (k - 5) (g_ad g k, .inr (ci, ((List.range n).map (g_f g h k ci r)).set j (.ref (g_ad g a)))) := by
  have hl : k < h.1.length := (List.getElem?_eq_some_iff.mp hc).1
  have e := g_W_set (g := g) (h := h) (h' := (h.1.set k (ci, n, r.set j (some a)), h.2.1, h.2.2)) h5 hl rfl (fun a ha => rfl) (fun a ha => rfl)
  rw [e, g_e_o ht, g_ad_ge h5]
  congr 4
  apply List.ext_getElem?
  intro i
  rw [List.getElem?_set]
  by_cases hi : j = i
  · subst hi
    rw [if_pos rfl, List.length_map, List.length_range, if_pos hj, g_f_at hj, g_f_ref hk]
    simp [g_r, va_rf, List.getD_eq_getElem?_getD, hr, hj]
  · rw [if_neg hi]
    by_cases hin : i < n
    · rw [g_f_at hin, g_f_at hin]
      unfold g_f
      dsimp only
      have : (r.set j (some a)).getD i none = r.getD i none := by
        rw [List.getD_eq_getElem?_getD, List.getElem?_set_ne hi, ← List.getD_eq_getElem?_getD]
      rw [this]
    · rw [List.getElem?_eq_none (by simp; omega), List.getElem?_eq_none (by simp; omega)]
theorem m_s1_set : ∀ (l : List mS) (k : Nat) (t n : Nat) (r : List (Option Nat)) (c' : mS), l[k]? = some (t, n, r) → c'.2.1 = n → m_s1 (l.set k c') = m_s1 l
  | [], k, t, n, r, c', h, _ => by simp at h
  | a :: l, 0, t, n, r, c', h, e => by
    simp at h
    subst h
    simp [m_s1, e]
  | a :: l, k + 1, t, n, r, c', h, e => by
    have := m_s1_set l k t n r c' (by simpa using h) e
    simp only [m_s1] at this ⊢
    rw [List.set_cons_succ, List.map_cons, List.map_cons, List.sum_cons, List.sum_cons, this]
theorem m_sz_set (l : List mS) (k t n : Nat) (r : List (Option Nat)) (c' : mS) (h5 : 5 ≤ k) (h : l[k]? = some (t, n, r)) (e : c'.2.1 = n) : m_sz (l.set k c') = m_sz l := by
  unfold m_sz
  rw [List.drop_set, if_neg (by omega)]
  refine m_s1_set _ _ t n r c' ?_ e
  rw [List.getElem?_drop, show 5 + (k - 5) = k by omega]
  exact h
theorem g_O.setc {g : mG} {U : State} {h : mH} {H H1 : Heap} (hO : g_O g U h H) {k ci n : Nat} {r r' : List (Option Nat)} (h5 : 5 ≤ k) (hc : h.1[k]? = some (ci, n, r)) (hr : r'.length = r.length) (ht : ci < 100) (hk : ∀ a, a < g.2.2.1 → H1[a]? = H[a]?) : g_O g U (h.1.set k (ci, n, r'), h.2.1, h.2.2) H1 := by
  obtain ⟨h0, h1, h2, h3⟩ := hO
  have hl : k < h.1.length := (List.getElem?_eq_some_iff.mp hc).1
  refine ⟨by simp; exact h0, fun i c0 hc0 => ?_, h2, fun i n0 r0 hc0 => ?_⟩
  · dsimp only at hc0
    rw [List.getElem?_set] at hc0
    by_cases e : k = i
    · subst e
      rw [if_pos rfl, if_pos hl] at hc0
      cases hc0
      have := h1 k _ hc
      exact ⟨this.1, this.2.1, fun q => ⟨(this.2.2 q).1, (this.2.2 q).2.1, by have := (this.2.2 q).2.2; dsimp only at this ⊢; omega⟩⟩
    · rw [if_neg e] at hc0
      exact h1 i c0 hc0
  · dsimp only at hc0 ⊢
    rw [List.getElem?_set] at hc0
    by_cases e : k = i
    · subst e
      rw [if_pos rfl, if_pos hl] at hc0
      cases hc0
      omega
    · rw [if_neg e] at hc0
      have hi5 : i < 5 := by
        rcases Nat.lt_or_ge i 5 with q | q
        · exact q
        · have := (h1 i _ hc0).2.1 q
          simp at this
      exact (h3 i n0 r0 hc0).kept (hk _ (h2 i hi5))
section Sound
variable {p : Program} {l : Launch} {e : Env} {R : Room} {s : State} {m : MethodId} {args : Array Value} {below : List Frame} {meth : Method} {c : Code} {Q : State → Prop}
variable {g : mG} {cc : ByteArray} {o nL n0 s0 : Nat} {ii : Bool} {B : Option (Nat × Nat)} {P r : List mI}
variable {FL : List (Nat × Nat × Nat × Nat)} {SL CL : List (Nat × Nat × Nat)} {KI : List (Nat × Nat × Int32)} {KL : List (Nat × Nat × Int64)}
set_option maxHeartbeats 4000000 in
theorem ok_iastore (hLk : m_Lk FL SL CL KI KL) (C : g_Cx g p s m args meth c cc o ii) {sp : Bool} {ix pc len : Nat} {an : List Nat} {kv : Int32} {kl : Int64} {ls : mL} {st : List Value} {h : mH} {sd : Option Prop} {q : List (Option Prop × mN)} {X : List mI → mL → List Value → mH → Prop} 
    (hchk : m_chk1 FL SL CL KI KL ii o P (sp, ix, pc, .iastore, len, an, kv, kl) = true) (hd : decode cc pc = .ok (.iastore, len)) (ha : m_act B (sp, ix, pc, .iastore, len, an, kv, kl) ls st h = some (sd, q)) (hsd : ∀ x, sd = some x → x) (hq : m_alls P r X q)
    (hN : ∀ ls st h, X r ls st h → g_K p l e R s m args below meth c Q g nL n0 s0 B (pc + len) ls st h) (hJ : ∀ (t : Nat) (e' : mI), P[t]? = some e' → ∀ ls st h, X (m_drop P t) ls st h → g_K p l e R s m args below meth c Q g nL n0 s0 B e'.2.2.1 ls st h) :
    g_K p l e R s m args below meth c Q g nL n0 s0 B pc ls st h := by
  obtain ⟨hx, hb, hown, hts, hK, hbase, hZ, hin, hAO⟩ := C
  have hl : len = 1 := by simpa [m_chk1] using hchk
  subst hl
  rw [m_act_eq] at ha
  simp only [m_act0] at ha
  split at ha
  · rename_i x i k s9
    obtain ⟨n, rf, hc, ha⟩ := m_arr_some ha
    simp only [m_sd, Option.some.injEq, Prod.mk.injEq] at ha
    obtain ⟨rfl, rfl⟩ := ha
    have hin0 : vp_in i n := hsd _ rfl
    intro H locs cells slots la I
    have h5 := g_new I.1.2 hc (show (100 : Nat) < 200 by decide)
    have hw := g_get I.1 hc (show (100 : Nat) < 200 by decide)
    rw [g_e_i (Or.inl rfl)] at hw
    refine va_iast (t0 := 0) hx hb hK I.1.1 g_D I.2.2.1 _ hw rfl hin0 hd (fun H1 locs1 hP1 hD1 hS1 => ?_)
    refine hN _ _ _ hq H1 locs1 cells slots la ⟨⟨?_, ?_⟩, I.2.1, hS1, I.2.2.2⟩
    · rw [g_W_ui h5 hc (Or.inl rfl)]
      exact hP1
    · exact g_O.put I.1.2 rfl (fun a ha => m_ui_row (by omega)) (fun a ha => (hS1.low hbase ha).trans (I.2.2.1.low hbase ha).symm)
  · cases ha
set_option maxHeartbeats 4000000 in
theorem ok_bastore (hLk : m_Lk FL SL CL KI KL) (C : g_Cx g p s m args meth c cc o ii) {sp : Bool} {ix pc len : Nat} {an : List Nat} {kv : Int32} {kl : Int64} {ls : mL} {st : List Value} {h : mH} {sd : Option Prop} {q : List (Option Prop × mN)} {X : List mI → mL → List Value → mH → Prop} 
    (hchk : m_chk1 FL SL CL KI KL ii o P (sp, ix, pc, .bastore, len, an, kv, kl) = true) (hd : decode cc pc = .ok (.bastore, len)) (ha : m_act B (sp, ix, pc, .bastore, len, an, kv, kl) ls st h = some (sd, q)) (hsd : ∀ x, sd = some x → x) (hq : m_alls P r X q)
    (hN : ∀ ls st h, X r ls st h → g_K p l e R s m args below meth c Q g nL n0 s0 B (pc + len) ls st h) (hJ : ∀ (t : Nat) (e' : mI), P[t]? = some e' → ∀ ls st h, X (m_drop P t) ls st h → g_K p l e R s m args below meth c Q g nL n0 s0 B e'.2.2.1 ls st h) :
    g_K p l e R s m args below meth c Q g nL n0 s0 B pc ls st h := by
  obtain ⟨hx, hb, hown, hts, hK, hbase, hZ, hin, hAO⟩ := C
  have hl : len = 1 := by simpa [m_chk1] using hchk
  subst hl
  rw [m_act_eq] at ha
  simp only [m_act0] at ha
  split at ha
  · rename_i x i k s9
    obtain ⟨n, rf, hc, ha⟩ := m_arr_some ha
    simp only [m_sd, Option.some.injEq, Prod.mk.injEq] at ha
    obtain ⟨rfl, rfl⟩ := ha
    have hin0 : vp_in i n := hsd _ rfl
    intro H locs cells slots la I
    have h5 := g_new I.1.2 hc (show (101 : Nat) < 200 by decide)
    have hw := g_get I.1 hc (show (101 : Nat) < 200 by decide)
    rw [g_e_i (Or.inr (Or.inl rfl))] at hw
    refine va_zast (t0 := 1) hx hb hK I.1.1 g_D I.2.2.1 _ hw rfl hin0 hd (fun H1 locs1 hP1 hD1 hS1 => ?_)
    refine hN _ _ _ hq H1 locs1 cells slots la ⟨⟨?_, ?_⟩, I.2.1, hS1, I.2.2.2⟩
    · rw [g_W_ui h5 hc (Or.inr (Or.inl rfl))]
      exact hP1
    · exact g_O.put I.1.2 rfl (fun a ha => m_ui_row (by omega)) (fun a ha => (hS1.low hbase ha).trans (I.2.2.1.low hbase ha).symm)
  · cases ha
set_option maxHeartbeats 4000000 in
theorem ok_castore (hLk : m_Lk FL SL CL KI KL) (C : g_Cx g p s m args meth c cc o ii) {sp : Bool} {ix pc len : Nat} {an : List Nat} {kv : Int32} {kl : Int64} {ls : mL} {st : List Value} {h : mH} {sd : Option Prop} {q : List (Option Prop × mN)} {X : List mI → mL → List Value → mH → Prop} 
    (hchk : m_chk1 FL SL CL KI KL ii o P (sp, ix, pc, .castore, len, an, kv, kl) = true) (hd : decode cc pc = .ok (.castore, len)) (ha : m_act B (sp, ix, pc, .castore, len, an, kv, kl) ls st h = some (sd, q)) (hsd : ∀ x, sd = some x → x) (hq : m_alls P r X q)
    (hN : ∀ ls st h, X r ls st h → g_K p l e R s m args below meth c Q g nL n0 s0 B (pc + len) ls st h) (hJ : ∀ (t : Nat) (e' : mI), P[t]? = some e' → ∀ ls st h, X (m_drop P t) ls st h → g_K p l e R s m args below meth c Q g nL n0 s0 B e'.2.2.1 ls st h) :
    g_K p l e R s m args below meth c Q g nL n0 s0 B pc ls st h := by
  obtain ⟨hx, hb, hown, hts, hK, hbase, hZ, hin, hAO⟩ := C
  have hl : len = 1 := by simpa [m_chk1] using hchk
  subst hl
  rw [m_act_eq] at ha
  simp only [m_act0] at ha
  split at ha
  · rename_i x i k s9
    obtain ⟨n, rf, hc, ha⟩ := m_arr_some ha
    simp only [m_sd, Option.some.injEq, Prod.mk.injEq] at ha
    obtain ⟨rfl, rfl⟩ := ha
    have hin0 : vp_in i n := hsd _ rfl
    intro H locs cells slots la I
    have h5 := g_new I.1.2 hc (show (103 : Nat) < 200 by decide)
    have hw := g_get I.1 hc (show (103 : Nat) < 200 by decide)
    rw [g_e_i (Or.inr (Or.inr rfl))] at hw
    refine va_cast (t0 := 3) hx hb hK I.1.1 g_D I.2.2.1 _ hw rfl hin0 hd (fun H1 locs1 hP1 hD1 hS1 => ?_)
    refine hN _ _ _ hq H1 locs1 cells slots la ⟨⟨?_, ?_⟩, I.2.1, hS1, I.2.2.2⟩
    · rw [g_W_ui h5 hc (Or.inr (Or.inr rfl))]
      exact hP1
    · exact g_O.put I.1.2 rfl (fun a ha => m_ui_row (by omega)) (fun a ha => (hS1.low hbase ha).trans (I.2.2.1.low hbase ha).symm)
  · cases ha
set_option maxHeartbeats 4000000 in
theorem ok_lastore (hLk : m_Lk FL SL CL KI KL) (C : g_Cx g p s m args meth c cc o ii) {sp : Bool} {ix pc len : Nat} {an : List Nat} {kv : Int32} {kl : Int64} {ls : mL} {st : List Value} {h : mH} {sd : Option Prop} {q : List (Option Prop × mN)} {X : List mI → mL → List Value → mH → Prop} 
    (hchk : m_chk1 FL SL CL KI KL ii o P (sp, ix, pc, .lastore, len, an, kv, kl) = true) (hd : decode cc pc = .ok (.lastore, len)) (ha : m_act B (sp, ix, pc, .lastore, len, an, kv, kl) ls st h = some (sd, q)) (hsd : ∀ x, sd = some x → x) (hq : m_alls P r X q)
    (hN : ∀ ls st h, X r ls st h → g_K p l e R s m args below meth c Q g nL n0 s0 B (pc + len) ls st h) (hJ : ∀ (t : Nat) (e' : mI), P[t]? = some e' → ∀ ls st h, X (m_drop P t) ls st h → g_K p l e R s m args below meth c Q g nL n0 s0 B e'.2.2.1 ls st h) :
    g_K p l e R s m args below meth c Q g nL n0 s0 B pc ls st h := by
  obtain ⟨hx, hb, hown, hts, hK, hbase, hZ, hin, hAO⟩ := C
  have hl : len = 1 := by simpa [m_chk1] using hchk
  subst hl
  rw [m_act_eq] at ha
  simp only [m_act0] at ha
  split at ha
  · rename_i x i k s9
    obtain ⟨n, rf, hc, ha⟩ := m_arr_some ha
    simp only [m_sd, Option.some.injEq, Prod.mk.injEq] at ha
    obtain ⟨rfl, rfl⟩ := ha
    have hin0 : vp_in i n := hsd _ rfl
    intro H locs cells slots la I
    have h5 := g_new I.1.2 hc (show (102 : Nat) < 200 by decide)
    have hw := g_get I.1 hc (show (102 : Nat) < 200 by decide)
    rw [g_e_l] at hw
    refine va_last (t0 := 2) hx hb hK I.1.1 g_D I.2.2.1 _ hw rfl hin0 hd (fun H1 locs1 hP1 hD1 hS1 => ?_)
    refine hN _ _ _ hq H1 locs1 cells slots la ⟨⟨?_, ?_⟩, I.2.1, hS1, I.2.2.2⟩
    · rw [g_W_ul h5 hc]
      exact hP1
    · exact g_O.put I.1.2 rfl (fun a ha => rfl) (fun a ha => (hS1.low hbase ha).trans (I.2.2.1.low hbase ha).symm)
  · cases ha
set_option maxHeartbeats 4000000 in
theorem ok_getstatic (hLk : m_Lk FL SL CL KI KL) (C : g_Cx g p s m args meth c cc o ii) {sp : Bool} {ix pc len : Nat} {an : List Nat} {kv : Int32} {kl : Int64} {ls : mL} {st : List Value} {h : mH} {sd : Option Prop} {q : List (Option Prop × mN)} {X : List mI → mL → List Value → mH → Prop} {i : Nat}
    (hchk : m_chk1 FL SL CL KI KL ii o P (sp, ix, pc, (.getstatic i), len, an, kv, kl) = true) (hd : decode cc pc = .ok ((.getstatic i), len)) (ha : m_act B (sp, ix, pc, (.getstatic i), len, an, kv, kl) ls st h = some (sd, q)) (hsd : ∀ x, sd = some x → x) (hq : m_alls P r X q)
    (hN : ∀ ls st h, X r ls st h → g_K p l e R s m args below meth c Q g nL n0 s0 B (pc + len) ls st h) (hJ : ∀ (t : Nat) (e' : mI), P[t]? = some e' → ∀ ls st h, X (m_drop P t) ls st h → g_K p l e R s m args below meth c Q g nL n0 s0 B e'.2.2.1 ls st h) :
    g_K p l e R s m args below meth c Q g nL n0 s0 B pc ls st h := by
  obtain ⟨hx, hb, hown, hts, hK, hbase, hZ, hin, hAO⟩ := C
  rw [m_act_eq] at ha
  simp only [m_act0] at ha
  split at ha
  · rename_i a
    have hl : len = 3 ∧ ∃ x y z, (x, y, z) ∈ SL ∧ (x = o ∧ y = i) ∧ z = a := by simpa [m_chk1] using hchk
    obtain ⟨rfl, x, y, z, hm, ⟨rfl, rfl⟩, rfl⟩ := hl
    simp only [m_go, Option.some.injEq, Prod.mk.injEq] at ha
    obtain ⟨rfl, rfl⟩ := ha
    obtain ⟨zz, hz, he, hlt, hw⟩ := hLk.2.2.1 _ hm
    dsimp only at he hlt hw
    refine k_go (fun H locs cells slots la I w => ?_) (hN _ _ _ hq)
    have hz2 := hZ zz hz
    rw [he] at hz2
    refine va_gets hx hb hz2 I.2.2.1 hown (hts _ hw) (fun _ h9 => h9) hd ?_
    have e : g_v g (.ref z) = .ref (g.2.2.2 z) := by
      show Value.ref (g_ad g z) = _
      rw [g_ad_lt hlt]
    rw [List.map_cons, e] at w
    exact w
  · cases ha
set_option maxHeartbeats 4000000 in
theorem ok_getfield (hLk : m_Lk FL SL CL KI KL) (C : g_Cx g p s m args meth c cc o ii) {sp : Bool} {ix pc len : Nat} {an : List Nat} {kv : Int32} {kl : Int64} {ls : mL} {st : List Value} {h : mH} {sd : Option Prop} {q : List (Option Prop × mN)} {X : List mI → mL → List Value → mH → Prop} {i : Nat}
    (hchk : m_chk1 FL SL CL KI KL ii o P (sp, ix, pc, (.getfield i), len, an, kv, kl) = true) (hd : decode cc pc = .ok ((.getfield i), len)) (ha : m_act B (sp, ix, pc, (.getfield i), len, an, kv, kl) ls st h = some (sd, q)) (hsd : ∀ x, sd = some x → x) (hq : m_alls P r X q)
    (hN : ∀ ls st h, X r ls st h → g_K p l e R s m args below meth c Q g nL n0 s0 B (pc + len) ls st h) (hJ : ∀ (t : Nat) (e' : mI), P[t]? = some e' → ∀ ls st h, X (m_drop P t) ls st h → g_K p l e R s m args below meth c Q g nL n0 s0 B e'.2.2.1 ls st h) :
    g_K p l e R s m args below meth c Q g nL n0 s0 B pc ls st h := by
  obtain ⟨hx, hb, hown, hts, hK, hbase, hZ, hin, hAO⟩ := C
  rw [m_act_eq] at ha
  simp only [m_act0, m_getf0] at ha
  split at ha
  · rename_i f ci j kd k s9
    have hl : len = 3 ∧ FL[f]? = some (o, i, ci, j) ∧ ci < 12 ∧ j < m_nf ci ∧ (m_kd ci j = kd ∨ m_kd ci j = 3 ∧ kd = 0) ∧ kd ≤ 2 := by simpa [m_chk1, and_assoc] using hchk
    obtain ⟨rfl, hfl, hci, hj, hkd, hk2⟩ := hl
    obtain ⟨n, rf, hc, ha⟩ := m_arr_some ha
    split at ha
    · simp only [m_go, Option.some.injEq, Prod.mk.injEq] at ha
      obtain ⟨rfl, rfl⟩ := ha
      refine k_go (fun H locs cells slots la I w => ?_) (hN _ _ _ hq)
      have hw := g_get I.1 hc (show ci < 200 by omega)
      rw [g_e_o (show ci < 100 by omega)] at hw
      have hn : n = m_nf ci := ((I.1.2.2.1 k _ hc).2.2 (show ci < 100 by omega)).2.1
      refine va_get (D := g.1) (ci := ci) (C := m_cn ci) (T := m_T ci) (N := m_nf ci) hx hb hts (hLk.1 ci hci) hown hK I.1.1 (k - 5) hw (m_cls_at ci hci) j hj (hts _ (hLk.2.1 _ (List.mem_of_getElem? hfl))) (fun _ h9 => h9) (v := .int (h.2.1 k j)) ?_ hd w
      rw [g_f_at (by omega), g_f_int (by omega)]
    · simp only [m_go, Option.some.injEq, Prod.mk.injEq] at ha
      obtain ⟨rfl, rfl⟩ := ha
      refine k_go (fun H locs cells slots la I w => ?_) (hN _ _ _ hq)
      have hw := g_get I.1 hc (show ci < 200 by omega)
      rw [g_e_o (show ci < 100 by omega)] at hw
      have hn : n = m_nf ci := ((I.1.2.2.1 k _ hc).2.2 (show ci < 100 by omega)).2.1
      refine va_get (D := g.1) (ci := ci) (C := m_cn ci) (T := m_T ci) (N := m_nf ci) hx hb hts (hLk.1 ci hci) hown hK I.1.1 (k - 5) hw (m_cls_at ci hci) j hj (hts _ (hLk.2.1 _ (List.mem_of_getElem? hfl))) (fun _ h9 => h9) (v := .long (h.2.2 k j)) ?_ hd w
      rw [g_f_at (by omega), g_f_long (by omega)]
    · rename_i hk0 hk1
      rw [m_nth_eq] at ha
      split at ha
      · rename_i a hra
        have hkd2 : kd = 2 := by
          have h0 : kd ≠ 0 := fun q => hk0 q
          have h1 : kd ≠ 1 := fun q => hk1 q
          omega
        simp only [m_go, Option.some.injEq, Prod.mk.injEq] at ha
        obtain ⟨rfl, rfl⟩ := ha
        refine k_go (fun H locs cells slots la I w => ?_) (hN _ _ _ hq)
        have hw := g_get I.1 hc (show ci < 200 by omega)
        rw [g_e_o (show ci < 100 by omega)] at hw
        have hn : n = m_nf ci := ((I.1.2.2.1 k _ hc).2.2 (show ci < 100 by omega)).2.1
        refine va_get (D := g.1) (ci := ci) (C := m_cn ci) (T := m_T ci) (N := m_nf ci) hx hb hts (hLk.1 ci hci) hown hK I.1.1 (k - 5) hw (m_cls_at ci hci) j hj (hts _ (hLk.2.1 _ (List.mem_of_getElem? hfl))) (fun _ h9 => h9) (v := .ref (g_ad g a)) ?_ hd w
        rw [g_f_at (by omega), g_f_ref (by omega)]
        simp [g_r, va_rf, List.getD_eq_getElem?_getD, hra]
      · cases ha
  · cases ha
theorem m_kind_int {ci j : Nat} (h : m_kd ci j = 0) : m_tyOf ci j = .int := by
  unfold m_kd at h
  cases e : m_tyOf ci j <;> rw [e] at h <;> simp [m_kindOf] at h
theorem m_kind_bool {ci j : Nat} (h : m_kd ci j = 3) : m_tyOf ci j = .boolean := by
  unfold m_kd at h
  cases e : m_tyOf ci j <;> rw [e] at h <;> simp [m_kindOf] at h
theorem m_kind_ref {ci j : Nat} (h : m_kd ci j = 2) (a : Nat) : narrow (m_tyOf ci j) (.ref a) = .ref a ∧ fits (m_tyOf ci j) (.ref a) = true := by
  unfold m_kd at h
  cases e : m_tyOf ci j <;> rw [e] at h <;> simp [m_kindOf] at h
  · exact ⟨rfl, rfl⟩
  · exact ⟨rfl, rfl⟩
set_option maxHeartbeats 4000000 in
theorem ok_putfield (hLk : m_Lk FL SL CL KI KL) (C : g_Cx g p s m args meth c cc o ii) {sp : Bool} {ix pc len : Nat} {an : List Nat} {kv : Int32} {kl : Int64} {ls : mL} {st : List Value} {h : mH} {sd : Option Prop} {q : List (Option Prop × mN)} {X : List mI → mL → List Value → mH → Prop} {i : Nat}
    (hchk : m_chk1 FL SL CL KI KL ii o P (sp, ix, pc, (.putfield i), len, an, kv, kl) = true) (hd : decode cc pc = .ok ((.putfield i), len)) (ha : m_act B (sp, ix, pc, (.putfield i), len, an, kv, kl) ls st h = some (sd, q)) (hsd : ∀ x, sd = some x → x) (hq : m_alls P r X q)
    (hN : ∀ ls st h, X r ls st h → g_K p l e R s m args below meth c Q g nL n0 s0 B (pc + len) ls st h) (hJ : ∀ (t : Nat) (e' : mI), P[t]? = some e' → ∀ ls st h, X (m_drop P t) ls st h → g_K p l e R s m args below meth c Q g nL n0 s0 B e'.2.2.1 ls st h) :
    g_K p l e R s m args below meth c Q g nL n0 s0 B pc ls st h := by
  obtain ⟨hx, hb, hown, hts, hK, hbase, hZ, hin, hAO⟩ := C
  rw [m_act_eq] at ha
  simp only [m_act0, m_putf0, m_setK_eq] at ha
  split at ha
  · rename_i f ci j x k s9
    have hl : len = 3 ∧ FL[f]? = some (o, i, ci, j) ∧ ci < 12 ∧ j < m_nf ci ∧ m_kd ci j = 0 ∧ ((m_T ci j).2.2.2 = false ∨ ((ii = true ∧ o = ci) ∧ (m_T ci j).1 = m_cn o)) := by simpa [m_chk1, and_assoc] using hchk
    obtain ⟨rfl, hfl, hci, hj, hkd, hfin⟩ := hl
    obtain ⟨n, rf, hc, ha⟩ := m_arr_some ha
    simp only [m_go, m_sd, Option.some.injEq, Prod.mk.injEq] at ha
    obtain ⟨rfl, rfl⟩ := ha
    intro H locs cells slots la I
    have h5 := g_new I.1.2 hc (show ci < 200 by omega)
    have hw := g_get I.1 hc (show ci < 200 by omega)
    rw [g_e_o (show ci < 100 by omega)] at hw
    have hnn := (I.1.2.2.1 k _ hc).2.2 (show ci < 100 by omega)
    have hn : n = m_nf ci := hnn.2.1
    have hrl : rf.length = n := hnn.2.2
    have hnar : narrow (m_tyOf ci j) (.int x) = .int x := by rw [m_kind_int hkd]; rfl
    have hfit : fits (m_tyOf ci j) (.int x) = true := by rw [m_kind_int hkd]; rfl
    have kk : ∀ (H1 : Heap) (locs1 : List Loc), va_P g.1 vwCl ((g_W g h).set (k - 5) (g_ad g k, .inr (ci, ((List.range n).map (g_f g h k ci rf)).set j (.int x)))) H1 → va_D (g_A g) ((g_W g h).set (k - 5) (g_ad g k, .inr (ci, ((List.range n).map (g_f g h k ci rf)).set j (.int x)))) → va_S (g_A g) s.heap H1 locs1 → W p l e R s m args below meth c H1 locs1 cells slots Q (F0 m (pc + 3) la (s9.map (g_v g))) := by
      intro H1 locs1 hP1 hD1 hS1
      refine hN _ _ _ hq H1 locs1 cells slots la ⟨⟨?_, ?_⟩, I.2.1, hS1, I.2.2.2⟩
      · rw [g_W_uf h5 hc (by omega) (by omega) (Or.inl hkd)]
        exact hP1
      · exact g_O.put I.1.2 rfl (fun a ha => m_ui_row (by omega)) (fun a ha => (hS1.low hbase ha).trans (I.2.2.1.low hbase ha).symm)
    rcases hfin with hf | ⟨⟨hi1, rfl⟩, hdecl⟩
    · exact va_put (D := g.1) (ci := ci) (C := m_cn ci) (T := m_T ci) (N := m_nf ci) (ty := m_tyOf ci j) hx hb hts (hLk.1 ci hci) (m_tyOf ci) (m_cls_ty ci hci) (m_cls_nm ci hci) hown hK I.1.1 g_D I.2.2.1 (k - 5) hw (m_cls_at ci hci) j hj (hts _ (hLk.2.1 _ (List.mem_of_getElem? hfl))) (fun _ h9 => h9) hf (m_cls_ty ci hci j hj) hnar hfit (by rw [List.length_map, List.length_range]; omega) hd kk
    · cases hf : (m_T o j).2.2.2 with
      | false => exact va_put (D := g.1) (ci := o) (C := m_cn o) (T := m_T o) (N := m_nf o) (ty := m_tyOf o j) hx hb hts (hLk.1 o hci) (m_tyOf o) (m_cls_ty o hci) (m_cls_nm o hci) hown hK I.1.1 g_D I.2.2.1 (k - 5) hw (m_cls_at o hci) j hj (hts _ (hLk.2.1 _ (List.mem_of_getElem? hfl))) (fun _ h9 => h9) hf (m_cls_ty o hci j hj) hnar hfit (by rw [List.length_map, List.length_range]; omega) hd kk
      | true => exact va_putF (D := g.1) (ci := o) (C := m_cn o) (T := m_T o) (N := m_nf o) (ty := m_tyOf o j) hx hb hts (hLk.1 o hci) (m_tyOf o) (m_cls_ty o hci) (m_cls_nm o hci) hown hK I.1.1 g_D I.2.2.1 (k - 5) hw (m_cls_at o hci) j hj (hts _ (hLk.2.1 _ (List.mem_of_getElem? hfl))) (fun _ h9 => h9) hf (hin hi1) hdecl (m_cls_ty o hci j hj) hnar hfit (by rw [List.length_map, List.length_range]; omega) hd kk
  · rename_i f ci j x k s9
    have hl : len = 3 ∧ FL[f]? = some (o, i, ci, j) ∧ ci < 12 ∧ j < m_nf ci ∧ m_kd ci j = 3 ∧ ((m_T ci j).2.2.2 = false ∨ ((ii = true ∧ o = ci) ∧ (m_T ci j).1 = m_cn o)) := by simpa [m_chk1, and_assoc] using hchk
    obtain ⟨rfl, hfl, hci, hj, hkd, hfin⟩ := hl
    obtain ⟨n, rf, hc, ha⟩ := m_arr_some ha
    simp only [m_go, m_sd, Option.some.injEq, Prod.mk.injEq] at ha
    obtain ⟨rfl, rfl⟩ := ha
    have hx01 : x = 0 ∨ x = 1 := hsd _ rfl
    intro H locs cells slots la I
    have h5 := g_new I.1.2 hc (show ci < 200 by omega)
    have hw := g_get I.1 hc (show ci < 200 by omega)
    rw [g_e_o (show ci < 100 by omega)] at hw
    have hnn := (I.1.2.2.1 k _ hc).2.2 (show ci < 100 by omega)
    have hn : n = m_nf ci := hnn.2.1
    have hrl : rf.length = n := hnn.2.2
    have hnar : narrow (m_tyOf ci j) (.int x) = .int x := by rw [m_kind_bool hkd]; rcases hx01 with rfl | rfl <;> rfl
    have hfit : fits (m_tyOf ci j) (.int x) = true := by rw [m_kind_bool hkd]; rcases hx01 with rfl | rfl <;> rfl
    have kk : ∀ (H1 : Heap) (locs1 : List Loc), va_P g.1 vwCl ((g_W g h).set (k - 5) (g_ad g k, .inr (ci, ((List.range n).map (g_f g h k ci rf)).set j (.int x)))) H1 → va_D (g_A g) ((g_W g h).set (k - 5) (g_ad g k, .inr (ci, ((List.range n).map (g_f g h k ci rf)).set j (.int x)))) → va_S (g_A g) s.heap H1 locs1 → W p l e R s m args below meth c H1 locs1 cells slots Q (F0 m (pc + 3) la (s9.map (g_v g))) := by
      intro H1 locs1 hP1 hD1 hS1
      refine hN _ _ _ hq H1 locs1 cells slots la ⟨⟨?_, ?_⟩, I.2.1, hS1, I.2.2.2⟩
      · rw [g_W_uf h5 hc (by omega) (by omega) (Or.inr hkd)]
        exact hP1
      · exact g_O.put I.1.2 rfl (fun a ha => m_ui_row (by omega)) (fun a ha => (hS1.low hbase ha).trans (I.2.2.1.low hbase ha).symm)
    rcases hfin with hf | ⟨⟨hi1, rfl⟩, hdecl⟩
    · exact va_put (D := g.1) (ci := ci) (C := m_cn ci) (T := m_T ci) (N := m_nf ci) (ty := m_tyOf ci j) hx hb hts (hLk.1 ci hci) (m_tyOf ci) (m_cls_ty ci hci) (m_cls_nm ci hci) hown hK I.1.1 g_D I.2.2.1 (k - 5) hw (m_cls_at ci hci) j hj (hts _ (hLk.2.1 _ (List.mem_of_getElem? hfl))) (fun _ h9 => h9) hf (m_cls_ty ci hci j hj) hnar hfit (by rw [List.length_map, List.length_range]; omega) hd kk
    · cases hf : (m_T o j).2.2.2 with
      | false => exact va_put (D := g.1) (ci := o) (C := m_cn o) (T := m_T o) (N := m_nf o) (ty := m_tyOf o j) hx hb hts (hLk.1 o hci) (m_tyOf o) (m_cls_ty o hci) (m_cls_nm o hci) hown hK I.1.1 g_D I.2.2.1 (k - 5) hw (m_cls_at o hci) j hj (hts _ (hLk.2.1 _ (List.mem_of_getElem? hfl))) (fun _ h9 => h9) hf (m_cls_ty o hci j hj) hnar hfit (by rw [List.length_map, List.length_range]; omega) hd kk
      | true => exact va_putF (D := g.1) (ci := o) (C := m_cn o) (T := m_T o) (N := m_nf o) (ty := m_tyOf o j) hx hb hts (hLk.1 o hci) (m_tyOf o) (m_cls_ty o hci) (m_cls_nm o hci) hown hK I.1.1 g_D I.2.2.1 (k - 5) hw (m_cls_at o hci) j hj (hts _ (hLk.2.1 _ (List.mem_of_getElem? hfl))) (fun _ h9 => h9) hf (hin hi1) hdecl (m_cls_ty o hci j hj) hnar hfit (by rw [List.length_map, List.length_range]; omega) hd kk
  · rename_i f ci j a k s9
    have hl : len = 3 ∧ FL[f]? = some (o, i, ci, j) ∧ ci < 12 ∧ j < m_nf ci ∧ m_kd ci j = 2 ∧ ((m_T ci j).2.2.2 = false ∨ ((ii = true ∧ o = ci) ∧ (m_T ci j).1 = m_cn o)) := by simpa [m_chk1, and_assoc] using hchk
    obtain ⟨rfl, hfl, hci, hj, hkd, hfin⟩ := hl
    obtain ⟨n, rf, hc, ha⟩ := m_arr_some ha
    simp only [m_go, m_sd, Option.some.injEq, Prod.mk.injEq] at ha
    obtain ⟨rfl, rfl⟩ := ha
    intro H locs cells slots la I
    have h5 := g_new I.1.2 hc (show ci < 200 by omega)
    have hw := g_get I.1 hc (show ci < 200 by omega)
    rw [g_e_o (show ci < 100 by omega)] at hw
    have hnn := (I.1.2.2.1 k _ hc).2.2 (show ci < 100 by omega)
    have hn : n = m_nf ci := hnn.2.1
    have hrl : rf.length = n := hnn.2.2
    have hnar : narrow (m_tyOf ci j) (.ref (g_ad g a)) = .ref (g_ad g a) := (m_kind_ref hkd _).1
    have hfit : fits (m_tyOf ci j) (.ref (g_ad g a)) = true := (m_kind_ref hkd _).2
    have kk : ∀ (H1 : Heap) (locs1 : List Loc), va_P g.1 vwCl ((g_W g h).set (k - 5) (g_ad g k, .inr (ci, ((List.range n).map (g_f g h k ci rf)).set j (.ref (g_ad g a))))) H1 → va_D (g_A g) ((g_W g h).set (k - 5) (g_ad g k, .inr (ci, ((List.range n).map (g_f g h k ci rf)).set j (.ref (g_ad g a))))) → va_S (g_A g) s.heap H1 locs1 → W p l e R s m args below meth c H1 locs1 cells slots Q (F0 m (pc + 3) la (s9.map (g_v g))) := by
      intro H1 locs1 hP1 hD1 hS1
      refine hN _ _ _ hq H1 locs1 cells slots la ⟨⟨?_, ?_⟩, I.2.1, hS1, ⟨by rw [← I.2.2.2.1.1]; simp, by rw [← I.2.2.2.1.2]; exact m_sz_set _ _ _ _ _ _ h5 hc rfl⟩, I.2.2.2.2⟩
      · rw [g_W_ur h5 hc (by omega) (by omega) hrl hkd]
        exact hP1
      · exact g_O.setc I.1.2 h5 hc (by simp) (by omega) (fun a ha => (hS1.low hbase ha).trans (I.2.2.1.low hbase ha).symm)
    rcases hfin with hf | ⟨⟨hi1, rfl⟩, hdecl⟩
    · exact va_put (D := g.1) (ci := ci) (C := m_cn ci) (T := m_T ci) (N := m_nf ci) (ty := m_tyOf ci j) hx hb hts (hLk.1 ci hci) (m_tyOf ci) (m_cls_ty ci hci) (m_cls_nm ci hci) hown hK I.1.1 g_D I.2.2.1 (k - 5) hw (m_cls_at ci hci) j hj (hts _ (hLk.2.1 _ (List.mem_of_getElem? hfl))) (fun _ h9 => h9) hf (m_cls_ty ci hci j hj) hnar hfit (by rw [List.length_map, List.length_range]; omega) hd kk
    · cases hf : (m_T o j).2.2.2 with
      | false => exact va_put (D := g.1) (ci := o) (C := m_cn o) (T := m_T o) (N := m_nf o) (ty := m_tyOf o j) hx hb hts (hLk.1 o hci) (m_tyOf o) (m_cls_ty o hci) (m_cls_nm o hci) hown hK I.1.1 g_D I.2.2.1 (k - 5) hw (m_cls_at o hci) j hj (hts _ (hLk.2.1 _ (List.mem_of_getElem? hfl))) (fun _ h9 => h9) hf (m_cls_ty o hci j hj) hnar hfit (by rw [List.length_map, List.length_range]; omega) hd kk
      | true => exact va_putF (D := g.1) (ci := o) (C := m_cn o) (T := m_T o) (N := m_nf o) (ty := m_tyOf o j) hx hb hts (hLk.1 o hci) (m_tyOf o) (m_cls_ty o hci) (m_cls_nm o hci) hown hK I.1.1 g_D I.2.2.1 (k - 5) hw (m_cls_at o hci) j hj (hts _ (hLk.2.1 _ (List.mem_of_getElem? hfl))) (fun _ h9 => h9) hf (hin hi1) hdecl (m_cls_ty o hci j hj) hnar hfit (by rw [List.length_map, List.length_range]; omega) hd kk
  · cases ha
theorem m_sw_spec {X : List mI → mL → List Value → mH → Prop} {x : Int32} {ls : mL} {st : List Value} {h : mH} {d : Nat} : ∀ (ts : List Nat) (v : Int32) (no : Option Prop), m_alls P r X (m_sw x ls st h d v ts no) →
    (∀ (i t : Nat), ts[i]? = some t → x = v + Int32.ofNat i → X (m_drop P t) ls st h) ∧ ((∀ q, no = some q → q) → (∀ i : Nat, i < ts.length → ¬ x = v + Int32.ofNat i) → X (m_drop P d) ls st h)
  | [], v, no, H => by
    refine ⟨fun i t ht => by simp at ht, fun hno _ => ?_⟩
    cases no with
    | none => exact H
    | some q => exact H (hno q rfl)
  | t :: ts, v, no, H => by
    have H2 : (x = v → X (m_drop P t) ls st h) ∧ m_alls P r X (m_sw x ls st h d (v + 1) ts (m_nop no (¬ x = v))) := by
      cases ts <;> exact H
    obtain ⟨a, b⟩ := H2
    obtain ⟨i1, i2⟩ := m_sw_spec ts (v + 1) _ b
    have hstep : ∀ i : Nat, v + 1 + Int32.ofNat i = v + Int32.ofNat (i + 1) := by
      intro i
      have : Int32.ofNat (i + 1) = Int32.ofNat i + 1 := inc_ofNat i
      rw [this, Int32.add_assoc, Int32.add_comm 1]
    refine ⟨fun i t' ht hxv => ?_, fun hno hall => ?_⟩
    · cases i with
      | zero =>
        simp at ht
        subst ht
        exact a (by rw [hxv]; simp)
      | succ i => exact i1 i t' (by simpa using ht) (by rw [hstep]; exact hxv)
    · have h0 : ¬ x = v := fun q => hall 0 (by simp) (by rw [q]; simp)
      refine i2 (fun q hq => ?_) (fun i hi hxv => hall (i + 1) (by simp; omega) (by rw [← hstep]; exact hxv))
      cases no with
      | none => cases hq; exact h0
      | some q0 => cases hq; exact ⟨hno q0 rfl, h0⟩
theorem m_sub_spec {pc : Nat} : ∀ (os : List Int) (ts : List Nat), m_sub P pc os ts = true → os.length = ts.length ∧ ∀ (i t : Nat), ts[i]? = some t → ∃ off, os[i]? = some off ∧ m_tgt P pc off t = true
  | [], [], _ => ⟨rfl, fun i t h => by simp at h⟩
  | [], _ :: _, h => by simp [m_sub] at h
  | _ :: _, [], h => by simp [m_sub] at h
  | a :: os, b :: ts, h => by
    simp only [m_sub, Bool.and_eq_true] at h
    obtain ⟨h1, h2⟩ := m_sub_spec os ts h.2
    refine ⟨by simp [h1], fun i t ht => ?_⟩
    cases i with
    | zero =>
      simp at ht
      subst ht
      exact ⟨a, rfl, h.1⟩
    | succ i =>
      obtain ⟨off, e1, e2⟩ := h2 i t (by simpa using ht)
      exact ⟨off, by simpa using e1, e2⟩
set_option maxHeartbeats 4000000 in
theorem ok_tableswitch (hLk : m_Lk FL SL CL KI KL) (C : g_Cx g p s m args meth c cc o ii) {sp : Bool} {ix pc len : Nat} {an : List Nat} {kv : Int32} {kl : Int64} {ls : mL} {st : List Value} {h : mH} {sd : Option Prop} {q : List (Option Prop × mN)} {X : List mI → mL → List Value → mH → Prop} {d lo hi : Int} {offs : Array Int}
    (hchk : m_chk1 FL SL CL KI KL ii o P (sp, ix, pc, (.tableswitch d lo hi offs), len, an, kv, kl) = true) (hd : decode cc pc = .ok ((.tableswitch d lo hi offs), len)) (ha : m_act B (sp, ix, pc, (.tableswitch d lo hi offs), len, an, kv, kl) ls st h = some (sd, q)) (hsd : ∀ x, sd = some x → x) (hq : m_alls P r X q)
    (hN : ∀ ls st h, X r ls st h → g_K p l e R s m args below meth c Q g nL n0 s0 B (pc + len) ls st h) (hJ : ∀ (t : Nat) (e' : mI), P[t]? = some e' → ∀ ls st h, X (m_drop P t) ls st h → g_K p l e R s m args below meth c Q g nL n0 s0 B e'.2.2.1 ls st h) :
    g_K p l e R s m args below meth c Q g nL n0 s0 B pc ls st h := by
  obtain ⟨hx, hb, hown, hts, hK, hbase, hZ, hin, hAO⟩ := C
  rw [m_act_eq] at ha
  simp only [m_act0] at ha
  split at ha
  · rename_i td ts x s9
    have hl : Int32.ofInt lo = kv ∧ -1000 ≤ lo ∧ lo ≤ 1000 ∧ offs.size ≤ 1000 ∧ hi + 1 = lo + (offs.size : Int) ∧ m_tgt P pc d td = true ∧ m_sub P pc offs.toList ts = true := by simpa [m_chk1, and_assoc] using hchk
    obtain ⟨rfl, hlo1, hlo2, hsz, hhi, htd, hsub⟩ := hl
    simp only [Option.some.injEq, Prod.mk.injEq] at ha
    obtain ⟨rfl, rfl⟩ := ha
    obtain ⟨s1, s2⟩ := m_sw_spec ts _ _ hq
    obtain ⟨e1, e2⟩ := m_sub_spec _ _ hsub
    rw [Array.length_toList] at e1
    have hval : ∀ i : Nat, i < 1000 → (Int32.ofInt lo + Int32.ofNat i).toInt = lo + (i : Int) := by
      intro i hi
      rw [Int32.toInt_add, Int32.toInt_ofInt_of_le (by omega) (by omega), toInt_of rfl (show i < 2 ^ 31 by omega)]
      exact Int.bmod_eq_of_le (by omega) (by omega)
    intro H locs cells slots la I
    by_cases hr : x.toInt < lo ∨ hi < x.toInt
    · obtain ⟨e', he, hpc⟩ := m_tgt_spec htd
      refine lv_tableOut hx hb hd hr hpc (hJ _ _ he _ _ _ (s2 (fun q hq => by cases hq) (fun i hi2 hxv => ?_)) _ _ _ _ _ I)
      have := hval i (by omega)
      rw [← hxv] at this
      omega
    · have h1 : ¬ x.toInt < lo := fun q => hr (Or.inl q)
      have h2 : ¬ hi < x.toInt := fun q => hr (Or.inr q)
      have hi0 : (x.toInt - lo).toNat < ts.length := by omega
      obtain ⟨off, o1, o2⟩ := e2 _ _ (List.getElem?_eq_getElem hi0)
      obtain ⟨e', he, hpc⟩ := m_tgt_spec o2
      refine lv_tableIn hx hb hd h1 h2 (off := off) (by rw [← Array.getElem?_toList]; exact o1) hpc (hJ _ _ he _ _ _ (s1 _ _ (List.getElem?_eq_getElem hi0) ?_) _ _ _ _ _ I)
      apply Int32.toInt_inj.mp
      rw [hval _ (by omega)]
      omega
  · cases ha
end Sound
