/-! ===== HOW A SMALL HEAP STANDS FOR A HEAP ===== -/
/-- what is fixed in a run: the classes' numbers and slots, the array classes by tag, where the new cells begin, where the five old cells are -/
abbrev mG : Type := va_G × (Nat → ClassId) × Nat × (Nat → Nat)
def g_ad (g : mG) (k : Nat) : Nat := if k < 5 then g.2.2.2 k else g.2.2.1 + (k - 5)
def g_v (g : mG) (v : Value) : Value := match v with
  | .ref k => .ref (g_ad g k)
  | w => w
def g_r (g : mG) (x : Option Nat) : Option Nat := x.map (g_ad g)
/-- a field's kind: 0 int, 3 boolean, 1 long, 2 a reference -/
def m_kindOf : FieldType → Nat
  | .int => 0
  | .boolean => 3
  | .long => 1
  | .object _ => 2
  | .array _ => 2
  | _ => 9
def m_tyOf (ci : Nat) : Nat → FieldType := match ci with
  | 0 => tyX0 | 1 => tyX1 | 2 => tyX2 | 3 => tyX3 | 4 => tyX4 | 5 => tyX5 | 6 => tyX6 | 7 => tyX7 | 8 => tyX8 | 9 => tyX9 | 10 => tyX10 | _ => tyX11
def m_T (ci : Nat) : u_T := match ci with
  | 0 => TX0 | 1 => TX1 | 2 => TX2 | 3 => TX3 | 4 => TX4 | 5 => TX5 | 6 => TX6 | 7 => TX7 | 8 => TX8 | 9 => TX9 | 10 => TX10 | _ => TX11
def m_nf (ci : Nat) : Nat := match ci with
  | 0 => 10 | 1 => 8 | 2 => 6 | 3 => 9 | 4 => 14 | 5 => 7 | 6 => 6 | 7 => 3 | 8 => 14 | 9 => 14 | 10 => 9 | _ => 59
/-- the classes' names: those whose objects there are, then the law's, then the JDK's -/
def m_cn (o : Nat) : String := match o with
  | 0 => RX0 | 1 => RX1 | 2 => RX2 | 3 => RX3 | 4 => RX4 | 5 => RX5 | 6 => RX6 | 7 => RX7 | 8 => RX8 | 9 => RX9 | 10 => RX10 | 11 => RX11 | 12 => RL | 13 => RJ6 | 14 => RJ13 | 15 => RJ7 | _ => RJ9
def m_kd (ci j : Nat) : Nat := m_kindOf (m_tyOf ci j)
theorem m_cls_at : ∀ ci, ci < 12 → vwCl[ci]? = some (m_cn ci, m_T ci, m_nf ci) := by
  intro ci h
  match ci, h with
  | 0, _ => rfl | 1, _ => rfl | 2, _ => rfl | 3, _ => rfl | 4, _ => rfl | 5, _ => rfl | 6, _ => rfl | 7, _ => rfl | 8, _ => rfl | 9, _ => rfl | 10, _ => rfl | 11, _ => rfl
  | n + 12, h => exact absurd h (by omega)
theorem m_cls_ty : ∀ ci, ci < 12 → ∀ k, k < m_nf ci → parseFieldDescriptor (m_T ci k).2.2.1 = some (m_tyOf ci k) := by
  intro ci h
  match ci, h with
  | 0, _ => exact tyX0_ok | 1, _ => exact tyX1_ok | 2, _ => exact tyX2_ok | 3, _ => exact tyX3_ok | 4, _ => exact tyX4_ok | 5, _ => exact tyX5_ok | 6, _ => exact tyX6_ok | 7, _ => exact tyX7_ok | 8, _ => exact tyX8_ok | 9, _ => exact tyX9_ok | 10, _ => exact tyX10_ok | 11, _ => exact tyX11_ok
  | n + 12, h => exact absurd h (by omega)
theorem m_cls_nm : ∀ ci, ci < 12 → ∀ a, a < m_nf ci → ∀ b, b < m_nf ci → a ≠ b → (m_T ci a).2.1 ≠ (m_T ci b).2.1 := by
  intro ci h
  match ci, h with
  | 0, _ => exact nmX0 | 1, _ => exact nmX1 | 2, _ => exact nmX2 | 3, _ => exact nmX3 | 4, _ => exact nmX4 | 5, _ => exact nmX5 | 6, _ => exact nmX6 | 7, _ => exact nmX7 | 8, _ => exact nmX8 | 9, _ => exact nmX9 | 10, _ => exact nmX10 | 11, _ => exact nmX11
  | n + 12, h => exact absurd h (by omega)
def g_f (g : mG) (h : mH) (k ci : Nat) (r : List (Option Nat)) (j : Nat) : Value := match m_kd ci j with
  | 1 => .long (h.2.2 k j)
  | 2 => va_rf (g_r g (r.getD j none))
  | _ => .int (h.2.1 k j)
def g_c (g : mG) (h : mH) (k : Nat) (c : mS) : (Nat → Int32) ⊕ (Nat → Int64) ⊕ (Nat → UInt32) ⊕ (Nat → UInt64) ⊕ (Nat → Option Nat) :=
  if c.1 = 102 then .inr (.inl (h.2.2 k)) else if c.1 = 104 ∨ c.1 = 105 then .inr (.inr (.inr (.inr (fun i => g_r g (c.2.2.getD i none))))) else .inl (h.2.1 k)
def g_e (g : mG) (h : mH) (k : Nat) (c : mS) : va_E := if c.1 < 100 then .inr (c.1, (List.range c.2.1).map (g_f g h k c.1 c.2.2)) else .inl (g.2.1 c.1, c.2.1, g_c g h k c)
def g_W (g : mG) (h : mH) : va_W := (List.range (h.1.length - 5)).map (fun i => (g.2.2.1 + i, g_e g h (i + 5) (h.1.getD (i + 5) (0, 0, []))))
def g_tys (g : mG) : List (ClassId × FieldType) := [(g.2.1 100, .int), (g.2.1 101, .boolean), (g.2.1 102, .long), (g.2.1 103, .char), (g.2.1 104, .array .int), (g.2.1 105, .array .long)]
def g_A (g : mG) : Nat → Prop := fun q => g.2.2.1 ≤ q
/-- an old int array: what it holds at its first n places, and that its length reads as n -/
def m_X (b n : Nat) (f : Nat → Int32) (U : State) (H : Heap) : Prop := ∃ scr : Cell, H[b]? = some scr ∧ U.isArrayOf scr .int ∧ scr.vm ≠ .unknown ∧ (n ≤ scr.slots.size ∧ scr.slots.size.toInt32 = Int32.ofNat n) ∧ ∀ j : Nat, j < n → scr.slots[j]? = some (.int (f j))
theorem m_X.kept {b n : Nat} {f : Nat → Int32} {U : State} {H H1 : Heap} (h : m_X b n f U H) (hq : H1[b]? = H[b]?) : m_X b n f U H1 := by
  obtain ⟨scr, h1, h2⟩ := h
  exact ⟨scr, by rw [hq]; exact h1, h2⟩
theorem m_X.moved {b n : Nat} {f : Nat → Int32} {u U : State} {H : Heap} (hvm : u.vm.Alike U.vm) (h : m_X b n f u H) : m_X b n f U H := by
  obtain ⟨scr, h1, h2, h3⟩ := h
  exact ⟨scr, h1, State.isArrayOf_alike hvm h2, h3⟩
/-- the old cells: five, apart from the new ones by their tags; the int arrays among them hold what the small heap says -/
def g_O (g : mG) (U : State) (h : mH) (H : Heap) : Prop :=
  5 ≤ h.1.length ∧ (∀ (k : Nat) (c : mS), h.1[k]? = some c → (k < 5 → 200 ≤ c.1) ∧ (5 ≤ k → c.1 < 200) ∧ (c.1 < 100 → c.1 < 12 ∧ c.2.1 = m_nf c.1 ∧ c.2.2.length = c.2.1)) ∧ (∀ k, k < 5 → g.2.2.2 k < g.2.2.1) ∧
  ∀ (k n : Nat) (r : List (Option Nat)), h.1[k]? = some (200, n, r) → m_X (g.2.2.2 k) n (h.2.1 k) U H
def g_R (g : mG) (U : State) (h : mH) (H : Heap) : Prop := va_P g.1 vwCl (g_W g h) H ∧ g_O g U h H
theorem g_W_length (g : mG) (h : mH) : (g_W g h).length = h.1.length - 5 := by simp [g_W]
theorem g_W_get {g : mG} {h : mH} {k : Nat} {c : mS} (hk : 5 ≤ k) (hc : h.1[k]? = some c) : (g_W g h)[k - 5]? = some (g.2.2.1 + (k - 5), g_e g h k c) := by
  have hl : k < h.1.length := (List.getElem?_eq_some_iff.mp hc).1
  have e : k - 5 + 5 = k := by omega
  unfold g_W
  rw [List.getElem?_map, List.getElem?_range (by omega)]
  simp only [Option.map_some, e, List.getD_eq_getElem?_getD, hc, Option.getD_some]
theorem g_W_inv {g : mG} {h : mH} {i : Nat} {q : Nat × va_E} (hq : (g_W g h)[i]? = some q) : ∃ c, h.1[i + 5]? = some c ∧ q = (g.2.2.1 + i, g_e g h (i + 5) c) := by
  have hl : i < (g_W g h).length := (List.getElem?_eq_some_iff.mp hq).1
  rw [g_W_length] at hl
  have hlt : i + 5 < h.1.length := by omega
  have hc : h.1[i + 5]? = some h.1[i + 5] := List.getElem?_eq_getElem hlt
  refine ⟨_, hc, ?_⟩
  have := g_W_get (g := g) (k := i + 5) (by omega) hc
  rw [show i + 5 - 5 = i by omega] at this
  exact Option.some.inj (hq.symm.trans this)
theorem g_D {g : mG} {h : mH} : va_D (g_A g) (g_W g h) := by
  refine ⟨fun i j p q hi hj hpq => ?_, fun k q hk => ?_⟩
  · obtain ⟨c, -, rfl⟩ := g_W_inv hi
    obtain ⟨c', -, rfl⟩ := g_W_inv hj
    dsimp only at hpq
    omega
  · obtain ⟨c, -, rfl⟩ := g_W_inv hk
    exact Nat.le_add_right _ _
/-- an entry depends on its own row alone -/
theorem g_e_congr {g : mG} {h h' : mH} {k : Nat} (c : mS) (h1 : h'.2.1 k = h.2.1 k) (h2 : h'.2.2 k = h.2.2 k) : g_e g h' k c = g_e g h k c := by
  have hf : g_f g h' k c.1 c.2.2 = g_f g h k c.1 c.2.2 := by
    funext j
    unfold g_f
    rw [h1, h2]
  have hc : g_c g h' k c = g_c g h k c := by
    unfold g_c
    rw [h1, h2]
  unfold g_e
  rw [hf, hc]
/-- one cell changes -/
theorem g_W_set {g : mG} {h h' : mH} {k : Nat} {c : mS} (hk : 5 ≤ k) (hl : k < h.1.length) (hs : h'.1 = h.1.set k c) (h1 : ∀ a, a ≠ k → h'.2.1 a = h.2.1 a) (h2 : ∀ a, a ≠ k → h'.2.2 a = h.2.2 a) :
    g_W g h' = (g_W g h).set (k - 5) (g.2.2.1 + (k - 5), g_e g h' k c) := by
  apply List.ext_getElem?
  intro i
  rw [List.getElem?_set]
  by_cases e : k - 5 = i
  · subst e
    rw [if_pos rfl, g_W_length, if_pos (by omega)]
    exact g_W_get hk (by rw [hs]; simp [hl])
  · rw [if_neg e]
    cases hq : (g_W g h)[i]? with
    | none =>
      rw [List.getElem?_eq_none_iff, g_W_length] at hq
      rw [List.getElem?_eq_none_iff, g_W_length, hs, List.length_set]
      exact hq
    | some q =>
      obtain ⟨c', hc', rfl⟩ := g_W_inv hq
      have hne : i + 5 ≠ k := by omega
      have := g_W_get (g := g) (h := h') (k := i + 5) (c := c') (by omega) (by rw [hs, List.getElem?_set_ne (by omega)]; exact hc')
      rw [show i + 5 - 5 = i by omega] at this
      rw [this, g_e_congr c' (h1 _ hne) (h2 _ hne)]
theorem g_W_put {g : mG} {h h' : mH} {k : Nat} {c : mS} (hk : 5 ≤ k) (hc : h.1[k]? = some c) (hs : h'.1 = h.1) (h1 : ∀ a, a ≠ k → h'.2.1 a = h.2.1 a) (h2 : ∀ a, a ≠ k → h'.2.2 a = h.2.2 a) :
    g_W g h' = (g_W g h).set (k - 5) (g.2.2.1 + (k - 5), g_e g h' k c) := by
  have hl : k < h.1.length := (List.getElem?_eq_some_iff.mp hc).1
  refine g_W_set hk hl ?_ h1 h2
  rw [hs]
  apply List.ext_getElem?
  intro i
  rw [List.getElem?_set]
  by_cases e : k = i
  · subst e
    rw [if_pos rfl, if_pos hl]
    exact hc
  · rw [if_neg e]
/-- cells come behind -/
theorem g_W_app {g : mG} {h h' : mH} {cs : List mS} (h5 : 5 ≤ h.1.length) (hs : h'.1 = h.1 ++ cs) (h1 : ∀ a, a < h.1.length → h'.2.1 a = h.2.1 a) (h2 : ∀ a, a < h.1.length → h'.2.2 a = h.2.2 a) :
    g_W g h' = g_W g h ++ (List.range cs.length).map (fun i => (g.2.2.1 + (h.1.length - 5) + i, g_e g h' (h.1.length + i) (cs.getD i (0, 0, [])))) := by
  apply List.ext_getElem?
  intro i
  by_cases hi : i < h.1.length - 5
  · rw [List.getElem?_append_left (by rw [g_W_length]; exact hi)]
    cases hq : (g_W g h)[i]? with
    | none =>
      rw [List.getElem?_eq_none_iff, g_W_length] at hq
      omega
    | some q =>
      obtain ⟨c', hc', rfl⟩ := g_W_inv hq
      have := g_W_get (g := g) (h := h') (k := i + 5) (c := c') (by omega) (by rw [hs, List.getElem?_append_left (by omega)]; exact hc')
      rw [show i + 5 - 5 = i by omega] at this
      rw [this, g_e_congr c' (h1 _ (by omega)) (h2 _ (by omega))]
  · rw [List.getElem?_append_right (by rw [g_W_length]; omega), g_W_length, List.getElem?_map]
    by_cases hj : i - (h.1.length - 5) < cs.length
    · rw [List.getElem?_range hj]
      have hc' : h'.1[i + 5]? = some (cs.getD (i - (h.1.length - 5)) (0, 0, [])) := by
        rw [hs, List.getElem?_append_right (by omega), show i + 5 - h.1.length = i - (h.1.length - 5) by omega, List.getD_eq_getElem?_getD, List.getElem?_eq_getElem hj]
        rfl
      have := g_W_get (g := g) (h := h') (k := i + 5) (by omega) hc'
      rw [show i + 5 - 5 = i by omega] at this
      rw [this]
      simp only [Option.map_some, Option.some.injEq]
      rw [show g.2.2.1 + (h.1.length - 5) + (i - (h.1.length - 5)) = g.2.2.1 + i by omega, show h.1.length + (i - (h.1.length - 5)) = i + 5 by omega]
    · have hn : (List.range cs.length)[i - (h.1.length - 5)]? = none := List.getElem?_eq_none (by rw [List.length_range]; omega)
      rw [hn]
      simp only [Option.map_none]
      rw [List.getElem?_eq_none_iff, g_W_length, hs, List.length_append]
      omega
theorem g_ad_ge {g : mG} {k : Nat} (h : 5 ≤ k) : g_ad g k = g.2.2.1 + (k - 5) := if_neg (by omega)
theorem g_ad_lt {g : mG} {k : Nat} (h : k < 5) : g_ad g k = g.2.2.2 k := if_pos h
/-! the locals -/
def g_L (g : mG) (la : Array Slot) (nL : Nat) (ls : mL) : Prop := ls.length = nL ∧ la.size = nL ∧ lv_wf la ∧ ∀ (j : Nat) (w : Value), ls[j]? = some (some w) → la[j]? = some (.val (g_v g w))
def m_as (g : mG) : Nat → mL → List (Nat × Value)
  | _, [] => []
  | i, some v :: t => (i, g_v g v) :: m_as g (i + 1) t
  | i, none :: t => m_as g (i + 1) t
theorem m_as_mem (g : mG) : ∀ (ls : mL) (i : Nat) (q : Nat × Value), q ∈ m_as g i ls ↔ ∃ (j : Nat) (w : Value), ls[j]? = some (some w) ∧ q = (i + j, g_v g w)
  | [], i, q => by simp [m_as]
  | some v :: t, i, q => by
    have ih := m_as_mem g t (i + 1) q
    simp only [m_as, List.mem_cons, ih]
    constructor
    · rintro (rfl | ⟨j, w, h1, rfl⟩)
      · exact ⟨0, v, rfl, rfl⟩
      · exact ⟨j + 1, w, by simpa using h1, by rw [show i + 1 + j = i + (j + 1) by omega]⟩
    · rintro ⟨j, w, h1, rfl⟩
      cases j with
      | zero =>
        simp at h1
        subst h1
        exact Or.inl rfl
      | succ j => exact Or.inr ⟨j, w, by simpa using h1, by rw [show i + 1 + j = i + (j + 1) by omega]⟩
  | none :: t, i, q => by
    have ih := m_as_mem g t (i + 1) q
    simp only [m_as, ih]
    constructor
    · rintro ⟨j, w, h1, rfl⟩
      exact ⟨j + 1, w, by simpa using h1, by rw [show i + 1 + j = i + (j + 1) by omega]⟩
    · rintro ⟨j, w, h1, rfl⟩
      cases j with
      | zero => simp at h1
      | succ j => exact ⟨j, w, by simpa using h1, by rw [show i + 1 + j = i + (j + 1) by omega]⟩
theorem g_L.has {g : mG} {la : Array Slot} {nL : Nat} {ls : mL} (h : g_L g la nL ls) : lv_has la nL (m_as g 0 ls) := by
  refine ⟨h.2.1, h.2.2.1, fun q hq => ?_⟩
  obtain ⟨j, w, h1, rfl⟩ := (m_as_mem g ls 0 q).mp hq
  rw [show 0 + j = j by omega]
  exact h.2.2.2 j w h1
theorem g_v_cat (g : mG) (v : Value) : (g_v g v).category = v.category := by cases v <;> rfl
theorem m_ld_spec : ∀ (ls : mL) (i : Nat) (k : Value → mA) (r : Option Prop × List (Option Prop × mN)), m_ld ls i k = some r → ∃ v, ls[i]? = some (some v) ∧ k v = some r
  | [], i, k, r, h => by cases i <;> simp [m_ld] at h
  | some v :: t, 0, k, r, h => ⟨v, rfl, h⟩
  | none :: t, 0, k, r, h => by simp [m_ld] at h
  | x :: t, n + 1, k, r, h => by
    have h' : m_ld t n k = some r := by
      cases x <;> exact h
    obtain ⟨v, h1, h2⟩ := m_ld_spec t n k r h'
    exact ⟨v, by simpa using h1, h2⟩
theorem m_k2_spec {x : Option Value} {k : Option Value → mA} {r : Option Prop × List (Option Prop × mN)} (h : m_k2 x k = some r) : ∃ x', k x' = some r ∧ ∀ w, x' = some w → x = some w ∧ w.category = 1 := by
  unfold m_k2 at h
  split at h
  · exact ⟨none, h, fun w hw => by cases hw⟩
  · exact ⟨none, h, fun w hw => by cases hw⟩
  · rename_i v h1 h2
    refine ⟨some v, h, fun w hw => ?_⟩
    cases hw
    refine ⟨rfl, ?_⟩
    cases v with
    | long a => exact absurd rfl (h1 a)
    | double a => exact absurd rfl (h2 a)
    | _ => rfl
  · exact ⟨none, h, fun w hw => by cases hw⟩
theorem m_st_spec : ∀ (ls : mL) (i : Nat) (v : Value) (k : mL → mA) (r : Option Prop × List (Option Prop × mN)), m_st ls i v k = some r →
    ∃ ls', k ls' = some r ∧ ls'.length = ls.length ∧ i < ls.length ∧ ∀ (j : Nat) (w : Value), ls'[j]? = some (some w) → (j = i ∧ w = v) ∨ (j ≠ i ∧ ls[j]? = some (some w) ∧ ¬ (j + 1 = i ∧ w.category = 2))
  | [], i, v, k, r, h => by
    rcases i with _ | _ | i <;> simp [m_st] at h
  | x :: t, 0, v, k, r, h => by
    refine ⟨some v :: t, ?_, rfl, Nat.zero_lt_succ _, fun j w hw => ?_⟩
    · cases t <;> exact h
    · cases j with
      | zero => simp at hw; exact Or.inl ⟨rfl, hw.symm⟩
      | succ j => exact Or.inr ⟨by omega, by simpa using hw, by omega⟩
  | [x], 1, v, k, r, h => by simp [m_st] at h
  | x :: y :: t, 1, v, k, r, h => by
    have h' : m_k2 x (fun x' => k (x' :: some v :: t)) = some r := h
    obtain ⟨x', h1, h2⟩ := m_k2_spec h'
    refine ⟨x' :: some v :: t, h1, rfl, by simp, fun j w hw => ?_⟩
    rcases j with _ | _ | j
    · have hw' : x' = some w := by simpa using hw
      obtain ⟨e1, e2⟩ := h2 w hw'
      refine Or.inr ⟨by omega, by rw [e1]; rfl, fun hh => by omega⟩
    · simp at hw
      exact Or.inl ⟨rfl, hw.symm⟩
    · exact Or.inr ⟨by omega, by simpa using hw, by omega⟩
  | x :: t, n + 2, v, k, r, h => by
    have h' : m_st t (n + 1) v (fun t' => k (x :: t')) = some r := by
      cases t with
      | nil => simp [m_st] at h
      | cons y t => exact h
    obtain ⟨t', h1, h2, h3, h4⟩ := m_st_spec t (n + 1) v (fun t' => k (x :: t')) r h'
    refine ⟨x :: t', h1, by simp [h2], by simp; omega, fun j w hw => ?_⟩
    cases j with
    | zero => exact Or.inr ⟨by omega, by simpa using hw, by omega⟩
    | succ j =>
      rcases h4 j w (by simpa using hw) with ⟨a, b⟩ | ⟨a, b, d⟩
      · exact Or.inl ⟨by omega, b⟩
      · exact Or.inr ⟨by omega, by simpa using b, fun q => d ⟨by omega, q.2⟩⟩
theorem m_st2_spec : ∀ (ls : mL) (i : Nat) (v : Value) (k : mL → mA) (r : Option Prop × List (Option Prop × mN)), m_st2 ls i v k = some r →
    ∃ ls', k ls' = some r ∧ ls'.length = ls.length ∧ i + 1 < ls.length ∧ ∀ (j : Nat) (w : Value), ls'[j]? = some (some w) → (j = i ∧ w = v) ∨ (j ≠ i ∧ j ≠ i + 1 ∧ ls[j]? = some (some w) ∧ ¬ (j + 1 = i ∧ w.category = 2))
  | [], i, v, k, r, h => by
    rcases i with _ | _ | i <;> simp [m_st2] at h
  | [x], 0, v, k, r, h => by simp [m_st2] at h
  | x :: y :: t, 0, v, k, r, h => by
    refine ⟨some v :: none :: t, ?_, rfl, by simp, fun j w hw => ?_⟩
    · cases t <;> exact h
    · rcases j with _ | _ | j
      · simp at hw; exact Or.inl ⟨rfl, hw.symm⟩
      · simp at hw
      · exact Or.inr ⟨by omega, by omega, by simpa using hw, by omega⟩
  | [x], 1, v, k, r, h => by simp [m_st2] at h
  | [x, y], 1, v, k, r, h => by simp [m_st2] at h
  | x :: y :: z :: t, 1, v, k, r, h => by
    have h' : m_k2 x (fun x' => k (x' :: some v :: none :: t)) = some r := h
    obtain ⟨x', h1, h2⟩ := m_k2_spec h'
    refine ⟨x' :: some v :: none :: t, h1, rfl, by simp, fun j w hw => ?_⟩
    rcases j with _ | _ | _ | j
    · have hw' : x' = some w := by simpa using hw
      obtain ⟨e1, e2⟩ := h2 w hw'
      refine Or.inr ⟨by omega, by omega, by rw [e1]; rfl, fun hh => by omega⟩
    · simp at hw
      exact Or.inl ⟨rfl, hw.symm⟩
    · simp at hw
    · exact Or.inr ⟨by omega, by omega, by simpa using hw, by omega⟩
  | x :: t, n + 2, v, k, r, h => by
    have h' : m_st2 t (n + 1) v (fun t' => k (x :: t')) = some r := by
      rcases t with _ | ⟨y, _ | ⟨z, t⟩⟩
      · simp [m_st2] at h
      · exact h
      · exact h
    obtain ⟨t', h1, h2, h3, h4⟩ := m_st2_spec t (n + 1) v (fun t' => k (x :: t')) r h'
    refine ⟨x :: t', h1, by simp [h2], by simp; omega, fun j w hw => ?_⟩
    cases j with
    | zero => exact Or.inr ⟨by omega, by omega, by simpa using hw, by omega⟩
    | succ j =>
      rcases h4 j w (by simpa using hw) with ⟨a, b⟩ | ⟨a, a', b, d⟩
      · exact Or.inl ⟨by omega, b⟩
      · exact Or.inr ⟨by omega, by omega, by simpa using b, fun q => d ⟨by omega, q.2⟩⟩
theorem g_L.st {g : mG} {la la' : Array Slot} {nL i : Nat} {ls ls' : mL} {v : Value} (h : g_L g la nL ls) (hlen : ls'.length = ls.length) (hs : ∀ (j : Nat) (w : Value), ls'[j]? = some (some w) → (j = i ∧ w = v) ∨ (j ≠ i ∧ ls[j]? = some (some w) ∧ ¬ (j + 1 = i ∧ w.category = 2)))
    (h' : lv_has la' nL ((i, g_v g v) :: (m_as g 0 ls).filter (fun q => !(q.1 == i) && !(q.1 + 1 == i && q.2.category == 2)))) : g_L g la' nL ls' := by
  refine ⟨hlen.trans h.1, h'.1, h'.2.1, fun j w hw => ?_⟩
  rcases hs j w hw with ⟨rfl, rfl⟩ | ⟨h1, h2, h3⟩
  · exact h'.2.2 (j, g_v g w) List.mem_cons_self
  · refine h'.2.2 (j, g_v g w) (List.mem_cons_of_mem _ (List.mem_filter.mpr ⟨(m_as_mem g ls 0 _).mpr ⟨j, w, h2, by rw [show 0 + j = j by omega]⟩, ?_⟩))
    rw [g_v_cat]
    have h3' : j + 1 = i → ¬ w.category = 2 := fun a b => h3 ⟨a, b⟩
    by_cases e : j + 1 = i
    · simp [h1, h3' e]
    · simp [h1, e]
theorem g_L.st2 {g : mG} {la la' : Array Slot} {nL i : Nat} {ls ls' : mL} {v : Value} (h : g_L g la nL ls) (hlen : ls'.length = ls.length) (hs : ∀ (j : Nat) (w : Value), ls'[j]? = some (some w) → (j = i ∧ w = v) ∨ (j ≠ i ∧ j ≠ i + 1 ∧ ls[j]? = some (some w) ∧ ¬ (j + 1 = i ∧ w.category = 2)))
    (h' : lv_has la' nL ((i, g_v g v) :: (m_as g 0 ls).filter (fun q => !(q.1 == i) && (!(q.1 == i + 1) && !(q.1 + 1 == i && q.2.category == 2))))) : g_L g la' nL ls' := by
  refine ⟨hlen.trans h.1, h'.1, h'.2.1, fun j w hw => ?_⟩
  rcases hs j w hw with ⟨rfl, rfl⟩ | ⟨h1, h1', h2, h3⟩
  · exact h'.2.2 (j, g_v g w) List.mem_cons_self
  · refine h'.2.2 (j, g_v g w) (List.mem_cons_of_mem _ (List.mem_filter.mpr ⟨(m_as_mem g ls 0 _).mpr ⟨j, w, h2, by rw [show 0 + j = j by omega]⟩, ?_⟩))
    rw [g_v_cat]
    have h3' : j + 1 = i → ¬ w.category = 2 := fun a b => h3 ⟨a, b⟩
    by_cases e : j + 1 = i
    · simp [h1, h1', h3' e]
    · simp [h1, h1', e]
