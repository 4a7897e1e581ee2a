/-! the order of an edition -/
def insP (mid : Nat → Int32) (o : Nat → Nat) (w : Nat) : Nat → Nat
  | 0 => 0
  | t + 1 => if mid w < mid (o t) then insP mid o w t else t + 1
def insO (o : Nat → Nat) (t w : Nat) : Nat → Nat := fun i => if i < t then o i else if i = t then w else o (i - 1)
noncomputable def srt (mid : Nat → Int32) (inn : Nat → Prop) : Nat → Nat × (Nat → Nat)
  | 0 => (0, fun _ => 0)
  | w + 1 => @ite _ (inn w) (Classical.propDecidable _) ((srt mid inn w).1 + 1, insO (srt mid inn w).2 (insP mid (srt mid inn w).2 w (srt mid inn w).1) w) (srt mid inn w)
theorem srt_y {mid : Nat → Int32} {inn : Nat → Prop} {w : Nat} (h : inn w) : srt mid inn (w + 1) = ((srt mid inn w).1 + 1, insO (srt mid inn w).2 (insP mid (srt mid inn w).2 w (srt mid inn w).1) w) := @if_pos _ (Classical.propDecidable _) h _ _ _
theorem srt_n {mid : Nat → Int32} {inn : Nat → Prop} {w : Nat} (h : ¬ inn w) : srt mid inn (w + 1) = srt mid inn w := @if_neg _ (Classical.propDecidable _) h _ _ _
theorem insP_le {mid : Nat → Int32} {o : Nat → Nat} {w : Nat} : ∀ t, insP mid o w t ≤ t
  | 0 => Nat.le_refl _
  | t + 1 => by
    have := insP_le (mid := mid) (o := o) (w := w) t
    show (if mid w < mid (o t) then insP mid o w t else t + 1) ≤ t + 1
    by_cases q : mid w < mid (o t)
    · rw [if_pos q]
      omega
    · rw [if_neg q]
      omega
theorem insP_y {mid : Nat → Int32} {o : Nat → Nat} {w t : Nat} (h : mid w < mid (o t)) : insP mid o w (t + 1) = insP mid o w t := if_pos h
theorem insP_n {mid : Nat → Int32} {o : Nat → Nat} {w t : Nat} (h : ¬ mid w < mid (o t)) : insP mid o w (t + 1) = t + 1 := if_neg h
/-- what is in the order: lesser than w, each once -/
theorem srtI {mid : Nat → Int32} {inn : Nat → Prop} : ∀ w, (srt mid inn w).1 ≤ w ∧ (∀ i, i < (srt mid inn w).1 → (srt mid inn w).2 i < w) ∧ ∀ i j, i < j → j < (srt mid inn w).1 → ¬ (srt mid inn w).2 i = (srt mid inn w).2 j
  | 0 => ⟨Nat.le_refl _, fun i hi => absurd hi (Nat.not_lt_zero i), fun i j _ hj => absurd hj (Nat.not_lt_zero j)⟩
  | w + 1 => by
    obtain ⟨a, b, c⟩ := srtI (mid := mid) (inn := inn) w
    by_cases h : inn w
    · rw [srt_y h]
      generalize hs : srt mid inn w = s at a b c
      obtain ⟨m, o⟩ := s
      have lt := insP_le (mid := mid) (o := o) (w := w) m
      generalize insP mid o w m = t at lt
      have key : ∀ i, i < m + 1 → (i < t ∧ insO o t w i = o i) ∨ (i = t ∧ insO o t w i = w) ∨ (t < i ∧ insO o t w i = o (i - 1)) := fun i _ => by
        unfold insO
        rcases Nat.lt_trichotomy i t with q | q | q
        · exact Or.inl ⟨q, if_pos q⟩
        · exact Or.inr (Or.inl ⟨q, by rw [if_neg (by omega), if_pos q]⟩)
        · exact Or.inr (Or.inr ⟨q, by rw [if_neg (by omega), if_neg (by omega)]⟩)
      refine ⟨Nat.succ_le_succ a, fun i hi => ?_, fun i j hij hj => ?_⟩
      · show insO o t w i < w + 1
        have hi' : i < m + 1 := hi
        rcases key i hi' with ⟨q, e⟩ | ⟨q, e⟩ | ⟨q, e⟩
        · rw [e]
          have := b i (show i < m by omega)
          exact Nat.lt_succ_of_lt this
        · rw [e]
          omega
        · rw [e]
          have := b (i - 1) (show i - 1 < m by omega)
          exact Nat.lt_succ_of_lt this
      · show ¬ insO o t w i = insO o t w j
        have hj' : j < m + 1 := hj
        rcases key i (by omega) with ⟨q, e⟩ | ⟨q, e⟩ | ⟨q, e⟩ <;> rcases key j hj' with ⟨q', e'⟩ | ⟨q', e'⟩ | ⟨q', e'⟩ <;> rw [e, e']
        · exact c i j hij (show j < m by omega)
        · have : o i < w := b i (show i < m by omega)
          omega
        · by_cases z : i < j - 1
          · exact c i (j - 1) z (show j - 1 < m by omega)
          · omega
        · omega
        · omega
        · have : o (j - 1) < w := b (j - 1) (show j - 1 < m by omega)
          omega
        · omega
        · omega
        · exact c (i - 1) (j - 1) (by omega) (show j - 1 < m by omega)
    · rw [srt_n h]
      exact ⟨by omega, fun i hi => Nat.lt_succ_of_lt (b i hi), c⟩
theorem srt_congr {mid mid' : Nat → Int32} {inn inn' : Nat → Prop} : ∀ n, (∀ w, w < n → mid w = mid' w) → (∀ w, w < n → (inn w ↔ inn' w)) → srt mid inn n = srt mid' inn' n
  | 0, _, _ => rfl
  | w + 1, h1, h2 => by
    have ih := srt_congr w (fun u hu => h1 u (by omega)) (fun u hu => h2 u (by omega))
    by_cases h : inn w
    · rw [srt_y h, srt_y ((h2 w (by omega)).mp h), ih]
      have e : ∀ t, t ≤ (srt mid' inn' w).1 → insP mid (srt mid' inn' w).2 w t = insP mid' (srt mid' inn' w).2 w t := by
        intro t
        induction t with
        | zero => exact fun _ => rfl
        | succ t iht =>
          intro ht
          have lt := (srtI (mid := mid') (inn := inn') w).2.1 t (by omega)
          have a := h1 w (by omega)
          have b := h1 ((srt mid' inn' w).2 t) (by omega)
          by_cases q : mid w < mid ((srt mid' inn' w).2 t)
          · rw [insP_y q, insP_y (by rw [← a, ← b]; exact q)]
            exact iht (by omega)
          · rw [insP_n q, insP_n (by rw [← a, ← b]; exact q)]
      rw [e _ (Nat.le_refl _)]
    · rw [srt_n h, srt_n (fun z => h ((h2 w (by omega)).mpr z)), ih]
/-! numbers and letters: N w the number or -4, l w the letter, v k the letters given with a number; a: the number ahead, g: how many got one -/
abbrev EdS := (Nat → Int32) × (Nat → Int32) × (Nat → Int32) × Int32 × Int32
def up1 (f : Nat → Int32) (k : Nat) (x : Int32) : Nat → Int32 := fun i => if i = k then x else f i
theorem up1_s {f : Nat → Int32} {k : Nat} {x : Int32} : up1 f k x k = x := if_pos rfl
theorem up1_o {f : Nat → Int32} {k i : Nat} {x : Int32} (h : ¬ i = k) : up1 f k x i = f i := if_neg h
/-- a work's turn in the first edition -/
def ed1 (w : Nat) (s : EdS) : EdS := if s.1 w = -4 then (up1 s.1 w (s.2.2.2.1 + 1), s.2.1, s.2.2.1, s.2.2.2.1 + 1, s.2.2.2.2 + 1) else (s.1, s.2.1, s.2.2.1, s.1 w, s.2.2.2.2)
/-- a work's turn in a later one -/
def edL (w : Nat) (s : EdS) : EdS := if s.1 w = -4 then (if s.2.2.1 s.2.2.2.1.toNatClampNeg = 26 then s else (up1 s.1 w s.2.2.2.1, up1 s.2.1 w (s.2.2.1 s.2.2.2.1.toNatClampNeg + 1), up1 s.2.2.1 s.2.2.2.1.toNatClampNeg (s.2.2.1 s.2.2.2.1.toNatClampNeg + 1), s.2.2.2.1, s.2.2.2.2 + 1)) else (s.1, s.2.1, s.2.2.1, s.1 w, s.2.2.2.2)
def edR (st : Nat → EdS → EdS) (o : Nat → Nat) (s : EdS) : Nat → EdS
  | 0 => s
  | i + 1 => st (o i) (edR st o s i)
