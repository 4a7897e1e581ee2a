/-! edges k < m from u k to v k, of a k years; L: a year for each work -/
def Sol (m : Nat) (A : Nat → Bool) (u v : Nat → Nat) (a : Nat → Int) (X : Nat → Int) : Prop := ∀ k, k < m → A k = true → X (u k) + a k ≤ X (v k)
def rlx (A : Nat → Bool) (u v : Nat → Nat) (a : Nat → Int) (k : Nat) (L : Nat → Int) : Nat → Int := fun w => if w = v k ∧ A k = true ∧ L (v k) < L (u k) + a k then L (u k) + a k else L w
/-- the first i edges of a round -/
def rnd_ (A : Nat → Bool) (u v : Nat → Nat) (a : Nat → Int) : Nat → (Nat → Int) → (Nat → Int)
  | 0, L => L
  | i + 1, L => rlx A u v a i (rnd_ A u v a i L)
theorem rlx_ge {A : Nat → Bool} {u v : Nat → Nat} {a : Nat → Int} {k : Nat} {L : Nat → Int} (w : Nat) : L w ≤ rlx A u v a k L w := by
  unfold rlx
  by_cases h : w = v k ∧ A k = true ∧ L (v k) < L (u k) + a k
  · rw [if_pos h, h.1]
    omega
  · rw [if_neg h]
    omega
theorem rlx_le {m : Nat} {A : Nat → Bool} {u v : Nat → Nat} {a : Nat → Int} {k : Nat} {L X : Nat → Int} (hk : k < m) (hX : Sol m A u v a X) (h : ∀ w, L w ≤ X w) (w : Nat) : rlx A u v a k L w ≤ X w := by
  unfold rlx
  by_cases q : w = v k ∧ A k = true ∧ L (v k) < L (u k) + a k
  · rw [if_pos q, q.1]
    have h1 := hX k hk q.2.1
    have h2 := h (u k)
    omega
  · rw [if_neg q]
    exact h w
theorem rnd_ge {A : Nat → Bool} {u v : Nat → Nat} {a : Nat → Int} {L : Nat → Int} : ∀ (i w : Nat), L w ≤ rnd_ A u v a i L w
  | 0, w => Int.le_refl _
  | i + 1, w => Int.le_trans (rnd_ge i w) (rlx_ge w)
theorem rnd_le {m : Nat} {A : Nat → Bool} {u v : Nat → Nat} {a : Nat → Int} {L X : Nat → Int} (hX : Sol m A u v a X) (h : ∀ w, L w ≤ X w) : ∀ (i : Nat), i ≤ m → ∀ w, rnd_ A u v a i L w ≤ X w
  | 0, _, w => h w
  | i + 1, hi, w => rlx_le (by omega) hX (rnd_le hX h i (by omega)) w
theorem rnd_at {A : Nat → Bool} {u v : Nat → Nat} {a : Nat → Int} {L : Nat → Int} {k : Nat} (hA : A k = true) : rnd_ A u v a k L (u k) + a k ≤ rnd_ A u v a (k + 1) L (v k) := by
  show _ ≤ rlx A u v a k (rnd_ A u v a k L) (v k)
  unfold rlx
  by_cases h : rnd_ A u v a k L (v k) < rnd_ A u v a k L (u k) + a k
  · rw [if_pos ⟨rfl, hA, h⟩]
    omega
  · rw [if_neg (fun z => h z.2.2)]
    omega
theorem rnd_up {A : Nat → Bool} {u v : Nat → Nat} {a : Nat → Int} {L : Nat → Int} (w : Nat) : ∀ (j i : Nat), i ≤ j → rnd_ A u v a i L w ≤ rnd_ A u v a j L w
  | 0, i, h => by
    have e : i = 0 := by omega
    subst e
    exact Int.le_refl _
  | j + 1, i, h => by
    by_cases e : i = j + 1
    · subst e
      exact Int.le_refl _
    · exact Int.le_trans (rnd_up w j i (by omega)) (rlx_ge w)
/-- a round that changes nothing: all edges are kept -/
theorem rnd_fix {m : Nat} {A : Nat → Bool} {u v : Nat → Nat} {a : Nat → Int} {L : Nat → Int} (h : ∀ w, rnd_ A u v a m L w = L w) : Sol m A u v a L := fun k hk hA => by
  have h1 := rnd_at (A := A) (u := u) (v := v) (a := a) (L := L) (k := k) hA
  have h2 := rnd_ge (A := A) (u := u) (v := v) (a := a) (L := L) k (u k)
  have h3 := rnd_up (A := A) (u := u) (v := v) (a := a) (L := L) (v k) m (k + 1) (by omega)
  rw [h (v k)] at h3
  omega
theorem fix_rnd {m : Nat} {A : Nat → Bool} {u v : Nat → Nat} {a : Nat → Int} {L : Nat → Int} (hL : Sol m A u v a L) (w : Nat) : rnd_ A u v a m L w = L w := by
  have h1 := rnd_le hL (fun w => Int.le_refl (L w)) m (Nat.le_refl m) w
  have h2 := rnd_ge (A := A) (u := u) (v := v) (a := a) (L := L) m w
  omega
/-- the least solution from lo on -/
def Lst (m : Nat) (A : Nat → Bool) (u v : Nat → Nat) (a : Nat → Int) (lo X : Nat → Int) : Prop := Sol m A u v a X ∧ (∀ w, lo w ≤ X w) ∧ ∀ Y, Sol m A u v a Y → (∀ w, lo w ≤ Y w) → ∀ w, X w ≤ Y w
theorem Lst_u {m : Nat} {A : Nat → Bool} {u v : Nat → Nat} {a : Nat → Int} {lo X Y : Nat → Int} (h1 : Lst m A u v a lo X) (h2 : Lst m A u v a lo Y) (w : Nat) : X w = Y w := by
  have a1 := h1.2.2 Y h2.1 h2.2.1 w
  have a2 := h2.2.2 X h1.1 h1.2.1 w
  omega
theorem min_nat (P : Nat → Prop) : ∀ n, P n → ∃ k, P k ∧ ∀ j, P j → k ≤ j := by
  intro n
  induction n using Nat.strongRecOn with
  | ind n ih =>
    intro hn
    by_cases h : ∃ j, j < n ∧ P j
    · obtain ⟨j, hj, hp⟩ := h
      exact ih j hj hp
    · refine ⟨n, hn, fun j hj => ?_⟩
      rcases Nat.lt_or_ge j n with q | q
      · exact absurd ⟨j, q, hj⟩ h
      · exact q
theorem Lst_ex {m : Nat} {A : Nat → Bool} {u v : Nat → Nat} {a : Nat → Int} {lo X : Nat → Int} (hX : Sol m A u v a X) (hl : ∀ w, lo w ≤ X w) : ∃ Z, Lst m A u v a lo Z := by
  have key : ∀ w, ∃ k : Nat, (∃ Y, Sol m A u v a Y ∧ (∀ w, lo w ≤ Y w) ∧ Y w = lo w + (k : Int)) ∧ ∀ Y, Sol m A u v a Y → (∀ w, lo w ≤ Y w) → lo w + (k : Int) ≤ Y w := fun w => by
    obtain ⟨k, ⟨Y, y1, y2, y3⟩, hk⟩ := min_nat (fun k => ∃ Y, Sol m A u v a Y ∧ (∀ w, lo w ≤ Y w) ∧ Y w = lo w + (k : Int)) (X w - lo w).toNat ⟨X, hX, hl, by have := hl w; omega⟩
    refine ⟨k, ⟨Y, y1, y2, y3⟩, fun Z z1 z2 => ?_⟩
    have h3 := z2 w
    have := hk (Z w - lo w).toNat ⟨Z, z1, z2, by omega⟩
    omega
  have c := Classical.axiomOfChoice key
  obtain ⟨kk, hk⟩ := c
  refine ⟨fun w => lo w + (kk w : Int), fun k hkm hA => ?_, fun w => by show lo w ≤ lo w + (kk w : Int); omega, fun Y y1 y2 w => (hk w).2 Y y1 y2⟩
  obtain ⟨Y, y1, y2, y3⟩ := (hk (v k)).1
  have h1 := (hk (u k)).2 Y y1 y2
  have h2 := y1 k hkm hA
  show lo (u k) + (kk (u k) : Int) + a k ≤ lo (v k) + (kk (v k) : Int)
  omega
/-- where something is wanting, an edge gives it in the next round -/
theorem Lst_tight {m : Nat} {A : Nat → Bool} {u v : Nat → Nat} {a : Nat → Int} {lo L Z : Nat → Int} (hZ : Lst m A u v a lo Z) (h1 : ∀ w, lo w ≤ L w) (h2 : ∀ w, L w ≤ Z w) {w0 : Nat} (hw : L w0 < Z w0) : ∃ k, k < m ∧ A k = true ∧ L (u k) = Z (u k) ∧ L (v k) < Z (v k) ∧ Z (u k) + a k = Z (v k) := by
  apply Classical.byContradiction
  intro no
  have hS : Sol m A u v a (fun w => if L w < Z w then Z w - 1 else Z w) := fun k hk hA => by
    have hz := hZ.1 k hk hA
    show (if L (u k) < Z (u k) then Z (u k) - 1 else Z (u k)) + a k ≤ (if L (v k) < Z (v k) then Z (v k) - 1 else Z (v k))
    by_cases qv : L (v k) < Z (v k)
    · rw [if_pos qv]
      by_cases qu : L (u k) < Z (u k)
      · rw [if_pos qu]
        omega
      · rw [if_neg qu]
        have e : L (u k) = Z (u k) := by
          have := h2 (u k)
          omega
        have ne : ¬ Z (u k) + a k = Z (v k) := fun z => no ⟨k, hk, hA, e, qv, z⟩
        omega
    · rw [if_neg qv]
      by_cases qu : L (u k) < Z (u k)
      · rw [if_pos qu]
        omega
      · rw [if_neg qu]
        omega
  have hl : ∀ w, lo w ≤ (fun w => if L w < Z w then Z w - 1 else Z w) w := fun w => by
    show lo w ≤ (if L w < Z w then Z w - 1 else Z w)
    have a1 := h1 w
    have a2 := hZ.2.1 w
    by_cases q : L w < Z w
    · rw [if_pos q]
      omega
    · rw [if_neg q]
      exact a2
  have := hZ.2.2 _ hS hl w0
  have e : Z w0 ≤ (if L w0 < Z w0 then Z w0 - 1 else Z w0) := this
  rw [if_pos hw] at e
  omega
/-- how many edges lead to a work that lacks years -/
noncomputable def lack (v : Nat → Nat) (L Z : Nat → Int) : Nat → Nat
  | 0 => 0
  | k + 1 => lack v L Z k + (if L (v k) < Z (v k) then 1 else 0)
theorem lack_le {v : Nat → Nat} {L Z : Nat → Int} : ∀ m, lack v L Z m ≤ m
  | 0 => Nat.le_refl _
  | m + 1 => by
    have := lack_le (v := v) (L := L) (Z := Z) m
    show lack v L Z m + (if L (v m) < Z (v m) then 1 else 0) ≤ m + 1
    by_cases q : L (v m) < Z (v m)
    · rw [if_pos q]; omega
    · rw [if_neg q]; omega
theorem lack_mono {v : Nat → Nat} {L L' Z : Nat → Int} (h : ∀ w, L w ≤ L' w) : ∀ m, lack v L' Z m ≤ lack v L Z m
  | 0 => Nat.le_refl _
  | m + 1 => by
    have ih := lack_mono (v := v) (Z := Z) h m
    have hm := h (v m)
    show lack v L' Z m + (if L' (v m) < Z (v m) then 1 else 0) ≤ lack v L Z m + (if L (v m) < Z (v m) then 1 else 0)
    by_cases q : L' (v m) < Z (v m)
    · rw [if_pos q, if_pos (show L (v m) < Z (v m) by omega)]; omega
    · rw [if_neg q]
      by_cases q2 : L (v m) < Z (v m)
      · rw [if_pos q2]; omega
      · rw [if_neg q2]; omega
theorem lack_lt {v : Nat → Nat} {L L' Z : Nat → Int} (h : ∀ w, L w ≤ L' w) {k : Nat} (h1 : L (v k) < Z (v k)) (h2 : ¬ L' (v k) < Z (v k)) : ∀ m, k < m → lack v L' Z m < lack v L Z m
  | 0, hk => absurd hk (by omega)
  | m + 1, hk => by
    have hm := h (v m)
    have mono := lack_mono (v := v) (Z := Z) h m
    show lack v L' Z m + (if L' (v m) < Z (v m) then 1 else 0) < lack v L Z m + (if L (v m) < Z (v m) then 1 else 0)
    by_cases e : k = m
    · subst e
      rw [if_neg h2, if_pos h1]
      omega
    · have ih := lack_lt h h1 h2 m (by omega)
      by_cases q : L' (v m) < Z (v m)
      · rw [if_pos q, if_pos (show L (v m) < Z (v m) by omega)]; omega
      · rw [if_neg q]
        by_cases q2 : L (v m) < Z (v m)
        · rw [if_pos q2]; omega
        · rw [if_neg q2]; omega
/-- r rounds -/
def rnds (m : Nat) (A : Nat → Bool) (u v : Nat → Nat) (a : Nat → Int) : Nat → (Nat → Int) → (Nat → Int)
  | 0, L => L
  | r + 1, L => rnd_ A u v a m (rnds m A u v a r L)
theorem rnds_lack {m : Nat} {A : Nat → Bool} {u v : Nat → Nat} {a : Nat → Int} {lo Z : Nat → Int} (hZ : Lst m A u v a lo Z) : ∀ r, (∀ w, lo w ≤ rnds m A u v a r lo w) ∧ (∀ w, rnds m A u v a r lo w ≤ Z w) ∧ ((∀ w, rnds m A u v a r lo w = Z w) ∨ lack v (rnds m A u v a r lo) Z m + r ≤ m)
  | 0 => ⟨fun w => Int.le_refl _, hZ.2.1, Or.inr (by have := lack_le (v := v) (L := lo) (Z := Z) m; exact this)⟩
  | r + 1 => by
    obtain ⟨i1, i2, i3⟩ := rnds_lack hZ r
    have g1 : ∀ w, rnds m A u v a r lo w ≤ rnds m A u v a (r + 1) lo w := fun w => rnd_ge m w
    have g2 : ∀ w, rnds m A u v a (r + 1) lo w ≤ Z w := rnd_le hZ.1 i2 m (Nat.le_refl m)
    refine ⟨fun w => Int.le_trans (i1 w) (g1 w), g2, ?_⟩
    rcases i3 with e | c
    · left
      intro w
      have a1 := g1 w
      have a2 := g2 w
      rw [e w] at a1
      omega
    · by_cases q : ∃ w, rnds m A u v a r lo w < Z w
      · obtain ⟨w0, hw⟩ := q
        obtain ⟨k, hk, tA, t1, t2, t3⟩ := Lst_tight hZ i1 i2 hw
        right
        have fin : ¬ rnds m A u v a (r + 1) lo (v k) < Z (v k) := by
          have b1 := rnd_at (A := A) (u := u) (v := v) (a := a) (L := rnds m A u v a r lo) (k := k) tA
          have b2 := rnd_ge (A := A) (u := u) (v := v) (a := a) (L := rnds m A u v a r lo) k (u k)
          have b3 := rnd_up (A := A) (u := u) (v := v) (a := a) (L := rnds m A u v a r lo) (v k) m (k + 1) (by omega)
          have b4 : rnds m A u v a (r + 1) lo (v k) = rnd_ A u v a m (rnds m A u v a r lo) (v k) := rfl
          omega
        have := lack_lt (L' := rnds m A u v a (r + 1) lo) g1 t2 fin m hk
        omega
      · left
        intro w
        have a1 := g1 w
        have a2 := g2 w
        have a3 : ¬ rnds m A u v a r lo w < Z w := fun z => q ⟨w, z⟩
        omega
/-- as many rounds as edges are enough -/
theorem rnds_m {m : Nat} {A : Nat → Bool} {u v : Nat → Nat} {a : Nat → Int} {lo Z : Nat → Int} (hZ : Lst m A u v a lo Z) {r : Nat} (hr : m ≤ r) (w : Nat) : rnds m A u v a r lo w = Z w := by
  obtain ⟨i1, i2, i3⟩ := rnds_lack hZ r
  rcases i3 with e | c
  · exact e w
  · have l0 : lack v (rnds m A u v a r lo) Z m = 0 := by omega
    apply Classical.byContradiction
    intro ne
    have hw : rnds m A u v a r lo w < Z w := by
      have := i2 w
      omega
    obtain ⟨k, hk, tA, t1, t2, t3⟩ := Lst_tight hZ i1 i2 hw
    have := lack_lt (L' := Z) i2 t2 (by omega) m hk
    omega
