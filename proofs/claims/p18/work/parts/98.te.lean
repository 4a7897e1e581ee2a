/-- sizes are as told -/
def SZ (n : Nat) (f : Nat → Nat → Int32) : Prop := ∀ j, j < n → inr 10 5000 (f 185 j) ∧ inr 10 5000 (f 186 j) ∧ (0 < f 192 j → inr 10 5000 (f 193 j) ∧ inr 10 5000 (f 194 j))
def SZe (f : Nat → Nat → Int32) : Prop := ∃ n, n ≤ 40 ∧ f 181 0 = nI n ∧ SZ n f
theorem SZ_q {f f' : Nat → Nat → Int32} {n : Nat} (h : ∀ a i, (a = 185 ∨ a = 186 ∨ a = 192 ∨ a = 193 ∨ a = 194) → f' a i = f a i) (s : SZ n f) : SZ n f' := fun j hj => by
  rw [h 185 j (by omega), h 186 j (by omega), h 192 j (by omega), h 193 j (by omega), h 194 j (by omega)]
  exact s j hj
def ok11 (l : List Nat) : Bool := !hasN l 11
theorem SZe_kp {l : List Nat} {f f' : Nat → Nat → Int32} (k : kp l f f') (hl : ok11 l = true) (h : SZe f) : SZe f' := by
  unfold ok11 at hl
  simp only [Bool.not_eq_true'] at hl
  obtain ⟨n, hn, e, s⟩ := h
  refine ⟨n, hn, (k 181 0 (by exact hl)).trans e, SZ_q (fun a i z => ?_) s⟩
  rcases z with rfl | rfl | rfl | rfl | rfl
  · exact k 185 i (by exact hl)
  · exact k 186 i (by exact hl)
  · exact k 192 i (by exact hl)
  · exact k 193 i (by exact hl)
  · exact k 194 i (by exact hl)
theorem SZ_kp {l : List Nat} {f f' : Nat → Nat → Int32} {n : Nat} (k : kp l f f') (hl : ok11 l = true) (s : SZ n f) : SZ n f' := by
  unfold ok11 at hl
  simp only [Bool.not_eq_true'] at hl
  refine SZ_q (fun a i z => ?_) s
  rcases z with rfl | rfl | rfl | rfl | rfl
  · exact k 185 i (by exact hl)
  · exact k 186 i (by exact hl)
  · exact k 192 i (by exact hl)
  · exact k 193 i (by exact hl)
  · exact k 194 i (by exact hl)
theorem SZ_at {f : Nat → Nat → Int32} {n : Nat} (h : SZe f) (hR : RW n f) : SZ n f := by
  obtain ⟨n', hn, e, s⟩ := h
  have a := hR.1
  have e1 : n' = n := (nI_eq (by omega) (by omega)).mp (e.symm.trans hR.2.2.1)
  subst e1
  exact s
theorem SZ_add {n : Nat} {f f1 : Nat → Nat → Int32} {kind of tu h w t lo hi r : Int32} (hn : n ≤ 40) (e : f 181 0 = nI n) (hz : ∀ j, n ≤ j → f 192 j = 0) (s : SZ n f) (ht : toldw h w t lo hi) (a : AddM n f f1 kind of tu h w t lo hi r) : SZe f1 := by
  rcases a with ⟨_, _, rfl⟩ | ⟨hn4, _, rfl⟩
  · exact ⟨n, hn, e, s⟩
  · refine ⟨n + 1, by omega, ?_, fun j hj => ?_⟩
    · unfold madd
      rw [m_ui_o (by omega), m_ui_s]
      exact nI_1 n
    · unfold madd
      by_cases q : j = n
      · subst q
        have e1 : ∀ g : Nat → Nat → Int32, m_ui (m_ui (m_ui (m_ui (m_ui (m_ui (m_ui (m_ui g 185 j h) 186 j w) 187 j lo) 188 j hi) 189 (4 * j) t) 191 j 1) 181 0 (nI j + 1)) 181 29 0 185 j = h := fun g => by rw [m_ui_o (by omega), m_ui_o (by omega), m_ui_o (by omega), m_ui_o (by omega), m_ui_o (by omega), m_ui_o (by omega), m_ui_o (by omega), m_ui_s]
        have e2 : ∀ g : Nat → Nat → Int32, m_ui (m_ui (m_ui (m_ui (m_ui (m_ui (m_ui g 186 j w) 187 j lo) 188 j hi) 189 (4 * j) t) 191 j 1) 181 0 (nI j + 1)) 181 29 0 186 j = w := fun g => by rw [m_ui_o (by omega), m_ui_o (by omega), m_ui_o (by omega), m_ui_o (by omega), m_ui_o (by omega), m_ui_o (by omega), m_ui_s]
        rw [e1, e2]
        refine ⟨ht.1, ht.2.1, fun z => ?_⟩
        rw [m_ui_o (by omega), m_ui_o (by omega), m_ui_o (by omega), m_ui_o (by omega), m_ui_o (by omega), m_ui_o (by omega), m_ui_o (by omega), m_ui_o (by omega), m_ui_o (by omega), m_ui_o (by omega), m_ui_o (by omega), hz j (Nat.le_refl _)] at z
        exact absurd z (by decide)
      · have y := s j (by omega)
        rw [m_ui_o (by omega), m_ui_o (by omega), m_ui_o (by omega), m_ui_o (by omega), m_ui_o (by omega), m_ui_o (by omega), m_ui_o (by omega), m_ui_o (by omega), m_ui_o (by omega), m_ui_o (by omega), m_ui_o (by omega)]
        rw [m_ui_o (by omega), m_ui_o (by omega), m_ui_o (by omega), m_ui_o (by omega), m_ui_o (by omega), m_ui_o (by omega), m_ui_o (by omega), m_ui_o (by omega), m_ui_o (by omega), m_ui_o (by omega), m_ui_o (by omega)]
        rw [m_ui_o (by omega), m_ui_o (by omega), m_ui_o (by omega), m_ui_o (by omega), m_ui_o (by omega), m_ui_o (by omega), m_ui_o (by omega), m_ui_o (by omega), m_ui_o (by omega), m_ui_o (by omega), m_ui_o (by omega)]
        rw [m_ui_o (by omega), m_ui_o (by omega), m_ui_o (by omega), m_ui_o (by omega), m_ui_o (by omega), m_ui_o (by omega), m_ui_o (by omega), m_ui_o (by omega), m_ui_o (by omega), m_ui_o (by omega), m_ui_o (by omega)]
        rw [m_ui_o (by omega), m_ui_o (by omega), m_ui_o (by omega), m_ui_o (by omega), m_ui_o (by omega), m_ui_o (by omega), m_ui_o (by omega), m_ui_o (by omega), m_ui_o (by omega), m_ui_o (by omega), m_ui_o (by omega)]
        exact y
theorem SZ_work {n : Nat} {f f1 : Nat → Nat → Int32} {x1 x2 x3 x4 x5 x6 r : Int32} (hn : n ≤ 40) (e : f 181 0 = nI n) (hz : ∀ j, n ≤ j → f 192 j = 0) (s : SZ n f) (q : SM_work n f f1 x1 x2 x3 x4 x5 x6 r) : SZe f1 := by
  rcases q with ⟨_, _, rfl⟩ | ⟨⟨_, ht⟩, a⟩
  · exact ⟨n, hn, e, s⟩
  · exact SZ_add hn e hz s ht a
theorem SZ_version {n : Nat} {f f1 : Nat → Nat → Int32} {x1 x2 x3 x4 x5 x6 r : Int32} (hn : n ≤ 40) (e : f 181 0 = nI n) (hz : ∀ j, n ≤ j → f 192 j = 0) (s : SZ n f) (q : SM_version n f f1 x1 x2 x3 x4 x5 x6 r) : SZe f1 := by
  rcases q with ⟨_, _, rfl⟩ | ⟨j, _, _, ht, ⟨_, _, rfl⟩ | ⟨_, a⟩⟩
  · exact ⟨n, hn, e, s⟩
  · exact ⟨n, hn, e, s⟩
  · exact SZ_add hn e hz s ht a
theorem SZ_print {n : Nat} {f f1 : Nat → Nat → Int32} {x1 x2 x3 x4 x5 x6 x7 r : Int32} (hn : n ≤ 40) (e : f 181 0 = nI n) (hz : ∀ j, n ≤ j → f 192 j = 0) (s : SZ n f) (q : SM_print n f f1 x1 x2 x3 x4 x5 x6 x7 r) : SZe f1 := by
  rcases q with ⟨_, _, rfl⟩ | ⟨j, _, _, ht, a⟩
  · exact ⟨n, hn, e, s⟩
  · exact SZ_add hn e hz s ht a
theorem SZ_retitle {n : Nat} {f f1 : Nat → Nat → Int32} {x1 x2 x3 v : Int32} (hn : n ≤ 40) (e : f 181 0 = nI n) (hz : ∀ j, n ≤ j → f 192 j = 0) (s : SZ n f) (q : SM_retitle n f f1 x1 x2 x3 v) : SZe f1 := by
  rcases q with ⟨_, _, rfl⟩ | ⟨j, q, _, _, _, _, _, _, _, ⟨_, _, rfl⟩ | ⟨_, _, _, rfl⟩ | ⟨_, _, _, rfl⟩⟩
  · exact ⟨n, hn, e, s⟩
  · exact ⟨n, hn, e, s⟩
  · exact ⟨n, hn, e, s⟩
  · unfold mtit
    refine ⟨n, hn, ?_, SZ_q (fun a i z => ?_) s⟩
    · rw [m_ui_o (by omega), m_ui_o (by omega), m_ui_o (by omega), m_ui_o (by omega)]
      exact e
    · rw [m_ui_o (by omega), m_ui_o (by omega), m_ui_o (by omega), m_ui_o (by omega)]
theorem SZ_cut {n : Nat} {f f1 : Nat → Nat → Int32} {x1 x2 x3 x4 v : Int32} (hn : n ≤ 40) (e : f 181 0 = nI n) (hz : ∀ j, n ≤ j → f 192 j = 0) (s : SZ n f) (q : SM_cut n f f1 x1 x2 x3 x4 v) : SZe f1 := by
  rcases q with ⟨_, _, rfl⟩ | ⟨j, hj, _, _, r3, r4, ⟨_, _, rfl⟩ | ⟨_, _, _, rfl⟩ | ⟨_, _, _, rfl⟩⟩
  · exact ⟨n, hn, e, s⟩
  · exact ⟨n, hn, e, s⟩
  · exact ⟨n, hn, e, s⟩
  · unfold mcut
    refine ⟨n, hn, ?_, fun i hi => ?_⟩
    · rw [m_ui_o (by omega), m_ui_o (by omega), m_ui_o (by omega), m_ui_o (by omega)]
      exact e
    · have y := s i hi
      by_cases q : i = j
      · subst q
        rw [m_ui_o (by omega), m_ui_o (by omega), m_ui_o (by omega), m_ui_o (by omega)]
        rw [m_ui_o (by omega), m_ui_o (by omega), m_ui_o (by omega), m_ui_o (by omega)]
        refine ⟨y.1, y.2.1, fun _ => ⟨?_, ?_⟩⟩
        · rw [m_ui_o (by omega), m_ui_o (by omega), m_ui_s]
          exact r3
        · rw [m_ui_o (by omega), m_ui_s]
          exact r4
      · rw [m_ui_o (by omega), m_ui_o (by omega), m_ui_o (by omega), m_ui_o (by omega)]
        rw [m_ui_o (by omega), m_ui_o (by omega), m_ui_o (by omega), m_ui_o (by omega)]
        rw [m_ui_o (by omega), m_ui_o (by omega), m_ui_o (by omega), m_ui_o (by omega)]
        rw [m_ui_o (by omega), m_ui_o (by omega), m_ui_o (by omega), m_ui_o (by omega)]
        rw [m_ui_o (by omega), m_ui_o (by omega), m_ui_o (by omega), m_ui_o (by omega)]
        exact y
theorem hM_in {n w : Nat} {f : Nat → Nat → Int32} {y : Int32} (s : SZ n f) (hw : w < n) : inr 10 5000 (hM f w y) ∧ inr 10 5000 (wM f w y) := by
  obtain ⟨a, b, c⟩ := s w hw
  unfold hM wM
  by_cases q : 0 < f 192 w ∧ f 192 w ≤ y
  · rw [if_pos q, if_pos q]
    exact c q.1
  · rw [if_neg q, if_neg q]
    exact ⟨a, b⟩
theorem hC_hM {n w : Nat} {f : Nat → Nat → Int32} {y : Int32} (hR : RW n f) (hw : w < n) (hy : inr 1800 1999 y) : hC f w y = hM f w y ∧ wC f w y = wM f w y := by
  obtain ⟨c1, c2, c3, c4, c5, c6, _, _, c9⟩ := hR.2.2.2.1 w hw
  exact ⟨cut_eq (c9.imp id (fun z => ⟨z.1, z.2.1, z.2.2.1⟩)) c3 hy, cut_eq (c9.imp id (fun z => ⟨z.1, z.2.1, z.2.2.2⟩)) c4 hy⟩
theorem own_r {N : Int32 → Prop} {P : Nat → Prop} {D : Nat → Int32} (hD : ∀ i, i < 60 → ¬ D i < 0) : ∀ (k i : Nat) (a : Int32), i + k ≤ 60 → (a = -4 ∨ ¬ a < 0) → (ownl N P D k i a = -4 ∨ ¬ ownl N P D k i a < 0)
  | 0, i, a, _, ha => ha
  | k + 1, i, a, hk, ha => by
    by_cases q : P i
    · by_cases z : N a ∧ ¬ a = D i
      · rw [own_q q z]
        exact Or.inl rfl
      · rw [own_y q z]
        exact own_r hD k (i + 1) _ (by omega) (Or.inr (hD i (by omega)))
    · rw [own_n q]
      exact own_r hD k (i + 1) _ (by omega) ha
theorem scw_eq {bad sized : Prop} {B ow hd : Int32} (h : ow = -4 ∨ ¬ ow < 0) : scw bad sized B (ci (hd < 0) (-4) ow) hd = scv bad sized B ow hd := by
  unfold scw scv
  by_cases b : bad
  · rw [ci_t b, ci_t b]
  · rw [ci_f b, ci_f b]
    have z3 : ∀ x : Int32, x + ci sized 3 0 = ci sized (x + 3) x := fun x => by
      by_cases s : sized
      · rw [ci_t s, ci_t s]
      · rw [ci_f s, ci_f s, Int32.add_zero]
    rw [z3]
    generalize ci sized (4 * B + 3) (4 * B) = S
    by_cases q : hd < 0
    · rw [ci_t q, ci_f (p := ¬ (-4 : Int32) < 0 ∧ ¬ (-4 : Int32) = hd) (fun z => z.1 (by decide)), ci_f (p := ¬ (-4 : Int32) < 0) (fun z => z (by decide)), ci_f (p := ¬ hd < 0 ∧ ¬ ow = hd ∧ ¬ ow = -4) (fun z => z.1 q), ci_f (p := ¬ hd < 0 ∧ ow = hd) (fun z => z.1 q), Int32.add_zero]
    · rw [ci_f (p := hd < 0) q]
      rcases h with e | e
      · have hn : ¬ ow = hd := fun z => q (by rw [← z, e]; decide)
        rw [ci_f (p := ¬ ow < 0 ∧ ¬ ow = hd) (fun z => z.1 (by rw [e]; decide)), ci_f (p := ¬ ow < 0) (fun z => z (by rw [e]; decide)), ci_f (p := ¬ hd < 0 ∧ ¬ ow = hd ∧ ¬ ow = -4) (fun z => z.2.2 e), ci_f (p := ¬ hd < 0 ∧ ow = hd) (fun z => hn z.2), Int32.add_zero]
      · by_cases g : ow = hd
        · rw [ci_f (p := ¬ ow < 0 ∧ ¬ ow = hd) (fun z => z.2 g), ci_t (p := ¬ ow < 0) e, ci_f (p := ¬ hd < 0 ∧ ¬ ow = hd ∧ ¬ ow = -4) (fun z => z.2.1 g), ci_t (p := ¬ hd < 0 ∧ ow = hd) ⟨q, g⟩]
        · rw [ci_t (p := ¬ ow < 0 ∧ ¬ ow = hd) ⟨e, g⟩, ci_t (p := ¬ hd < 0 ∧ ¬ ow = hd ∧ ¬ ow = -4) ⟨q, g, fun z => e (by rw [z]; decide)⟩]
theorem cnt_lt {x : Int32} (h : x = 0 ∨ inr 1 6000 x) : (0 < x) ↔ ¬ x = 0 := by
  rcases h with e | e
  · rw [e]
    exact ⟨fun z => absurd z (by decide), fun z => absurd rfl z⟩
  · have a := (i_inr e).1
    have e1 : (1 : Int32).toInt = 1 := rfl
    have e0 : (0 : Int32).toInt = 0 := rfl
    have p : 0 < x := by
      rw [Int32.lt_iff_toInt_lt]
      omega
    exact ⟨fun _ z => by rw [z] at p; exact absurd p (by decide), fun _ => p⟩
theorem and_30 {x y : Int32} (h : inr 0 1073741823 x) : inr 0 1073741823 (x &&& y) := by
  obtain ⟨j, hj, rfl⟩ := inr_nat (n := 1073741823) rfl h
  rw [bv_nI (nI j &&& y)]
  refine inr_n (m := 1073741823) ?_ rfl (by decide)
  show ((nI j).toBitVec &&& y.toBitVec).toNat ≤ 1073741823
  rw [BitVec.toNat_and, nI_bv (by omega)]
  exact Nat.le_trans Nat.and_le_left hj
theorem own_r2 {f : Nat → Nat → Int32} {h : Nat} (hO : RO h f) (P : Nat → Prop) : ownl (fun a => ¬ a = -4) P (fun i => f 102 i) h 0 (-4) = -4 ∨ ¬ ownl (fun a => ¬ a = -4) P (fun i => f 102 i) h 0 (-4) < 0 := by
  have key : ∀ (k i : Nat) (a : Int32), i + k = h → (a = -4 ∨ ¬ a < 0) → (ownl (fun a => ¬ a = -4) P (fun i => f 102 i) k i a = -4 ∨ ¬ ownl (fun a => ¬ a = -4) P (fun i => f 102 i) k i a < 0) := by
    intro k
    induction k with
    | zero => exact fun i a _ ha => ha
    | succ k ih =>
      intro i a hk ha
      by_cases q : P i
      · by_cases z : (fun a => ¬ a = -4) a ∧ ¬ a = (fun i => f 102 i) i
        · rw [own_q q z]
          exact Or.inl rfl
        · rw [own_y q z]
          exact ih (i + 1) _ (by omega) (Or.inr (i32_nlt.mpr (hO.2.2.2 i (by omega)).2.2.1.1))
      · rw [own_n q]
        exact ih (i + 1) _ (by omega) ha
  exact key h 0 (-4) (by omega) (Or.inl rfl)
/-- both sides' scores are the same -/
theorem sce_eq {f f1 f2 : Nat → Nat → Int32} {n c v h m j w : Nat} (hW : RW n f) (hCc : RC c f) (hV : RV v f) (hO : RO h f) (hMm : RM m f) (hj : j < m) (hw : w < n) (r1 : rkY f f1 n c v) (o : o6 f1 f2) (y : YC f2 n c v) : scC f1 h j w = scM f2 v h j w := by
  have hn40 := hW.1
  have fr1 : ∀ a i, (a < 127 ∨ 137 < a) → f1 a i = f a i := fun a i z => r1.2.1 a i (by omega) (by omega) (by omega) (by omega) (by omega) (by omega) (by omega)
  have fr2 : ∀ a i, 182 ≤ a → ¬ a = 200 → ¬ a = 201 → f2 a i = f a i := fun a i h1 h2 h3 => (o a i h2 h3 (by omega) (by omega) (by omega) (by omega)).trans (fr1 a i (by omega))
  obtain ⟨ye, yw⟩ := years_eq hW hCc hV r1 o y
  obtain ⟨b0, b1, b2, b3, b4, b5, b6, b7, b8, bm, bf⟩ := hMm.2.2.2 j hj
  have p1 : inr 1800 1999 (f 142 j) := bm.1.2.2
  have m0 : f1 140 j = f2 203 (9 * j) := (fr1 140 j (by omega)).trans (b0.trans (fr2 203 _ (by omega) (by omega) (by omega)).symm)
  have m2 : f1 142 j = f2 203 (9 * j + 2) := (fr1 142 j (by omega)).trans (b2.trans (fr2 203 _ (by omega) (by omega) (by omega)).symm)
  have m3 : f1 143 j = f2 203 (9 * j + 3) := (fr1 143 j (by omega)).trans (b3.trans (fr2 203 _ (by omega) (by omega) (by omega)).symm)
  have m4 : f1 144 j = f2 203 (9 * j + 4) := (fr1 144 j (by omega)).trans (b4.trans (fr2 203 _ (by omega) (by omega) (by omega)).symm)
  have m5 : f1 145 j = f2 203 (9 * j + 5) := (fr1 145 j (by omega)).trans (b5.trans (fr2 203 _ (by omega) (by omega) (by omega)).symm)
  have m6 : f1 146 j = f2 203 (9 * j + 6) := (fr1 146 j (by omega)).trans (b6.trans (fr2 203 _ (by omega) (by omega) (by omega)).symm)
  have m7 : f1 147 j = f2 203 (9 * j + 7) := (fr1 147 j (by omega)).trans (b7.trans (fr2 203 _ (by omega) (by omega) (by omega)).symm)
  have m8 : f1 148 j = f2 203 (9 * j + 8) := (fr1 148 j (by omega)).trans (b8.trans (fr2 203 _ (by omega) (by omega) (by omega)).symm)
  have e142 : f1 142 j = f 142 j := fr1 142 j (by omega)
  -- sizes
  obtain ⟨z1, z2⟩ := hC_hM (w := w) (y := f 142 j) hW hw p1
  have hc : hC f1 w (f1 142 j) = hM f2 w (f2 203 (9 * j + 2)) := by
    rw [← m2, e142]
    unfold hC
    rw [fr1 97 w (by omega), fr1 9 w (by omega), fr1 98 w (by omega)]
    refine Eq.trans (show _ = hC f w (f 142 j) from rfl) (z1.trans ?_)
    unfold hM
    rw [fr2 192 w (by omega) (by omega) (by omega), fr2 193 w (by omega) (by omega) (by omega), fr2 185 w (by omega) (by omega) (by omega)]
  have wc : wC f1 w (f1 142 j) = wM f2 w (f2 203 (9 * j + 2)) := by
    rw [← m2, e142]
    unfold wC
    rw [fr1 97 w (by omega), fr1 10 w (by omega), fr1 99 w (by omega)]
    refine Eq.trans (show _ = wC f w (f 142 j) from rfl) (z2.trans ?_)
    unfold wM
    rw [fr2 192 w (by omega) (by omega) (by omega), fr2 194 w (by omega) (by omega) (by omega), fr2 186 w (by omega) (by omega) (by omega)]
  -- the title
  obtain ⟨_, _, _, _, _, _, _, ⟨q, TT⟩, _⟩ := hW.2.2.2.1 w hw
  have q96 : (f1 96 w).toNatClampNeg = q := by
    rw [fr1 96 w (by omega), TT.2.2.1]
    exact nI_clamp (by have := TT.2.1; omega)
  have q191 : (f2 191 w).toNatClampNeg = q := by
    rw [fr2 191 w (by omega) (by omega) (by omega), TT.2.2.2.1]
    exact nI_clamp (by have := TT.2.1; omega)
  have te : titC f1 w q (f 142 j) = titM f2 w q (f 142 j) := by
    have t1 : titC f1 w q (f 142 j) = titC f w q (f 142 j) := by
      have e := lat_congr (p := fun i => f1 (56 + w) i ≤ f 142 j) (p' := fun i => f (56 + w) i ≤ f 142 j) (q - 1) (fun i h1 h2 => by
        show f1 (56 + w) i ≤ f 142 j ↔ f (56 + w) i ≤ f 142 j
        rw [fr1 (56 + w) i (by omega)])
      unfold titC
      rw [e, fr1 (15 + w) _ (by omega)]
    have t2 : titM f2 w q (f 142 j) = titM f w q (f 142 j) := by
      have e := lat_congr (p := fun i => f2 190 (4 * w + i) ≤ f 142 j) (p' := fun i => f 190 (4 * w + i) ≤ f 142 j) (q - 1) (fun i h1 h2 => by
        show f2 190 (4 * w + i) ≤ f 142 j ↔ f 190 (4 * w + i) ≤ f 142 j
        rw [fr2 190 _ (by omega) (by omega) (by omega)])
      unfold titM
      rw [e, fr2 189 _ (by omega) (by omega) (by omega)]
    rw [t1, t2]
    exact tit_eq TT
  -- the owner
  have oe : ownl (fun a => ¬ a = -4) (PO f1 104 105 (nI w) (f 142 j)) (fun i => f1 102 i) h 0 (-4) = ownl (fun a => ¬ a < 0) (PM f2 3 4 (nI w) (f 142 j)) (fun i => f2 195 (6 * i + 1)) h 0 (-4) := by
    have t1 : PO f1 104 105 (nI w) (f 142 j) = PO f 104 105 (nI w) (f 142 j) := funext (fun i => by unfold PO; rw [fr1 101 i (by omega), fr1 104 i (by omega), fr1 105 i (by omega)])
    have t2 : (fun i => f1 102 i) = fun i => f 102 i := funext (fun i => fr1 102 i (by omega))
    have t3 : PM f2 3 4 (nI w) (f 142 j) = PM f 3 4 (nI w) (f 142 j) := funext (fun i => by unfold PM; rw [fr2 195 _ (by omega) (by omega) (by omega), fr2 195 _ (by omega) (by omega) (by omega), fr2 195 _ (by omega) (by omega) (by omega)])
    have t4 : (fun i => f2 195 (6 * i + 1)) = fun i => f 195 (6 * i + 1) := funext (fun i => fr2 195 _ (by omega) (by omega) (by omega))
    rw [t1, t2, t3, t4]
    exact own_RO hO _ _
  have orr : ownl (fun a => ¬ a = -4) (PO f1 104 105 (nI w) (f 142 j)) (fun i => f1 102 i) h 0 (-4) = -4 ∨ ¬ ownl (fun a => ¬ a = -4) (PO f1 104 105 (nI w) (f 142 j)) (fun i => f1 102 i) h 0 (-4) < 0 := by
    rw [show (fun i => f1 102 i) = fun i => f 102 i from funext (fun i => fr1 102 i (by omega))]
    exact own_r2 hO (PO f1 104 105 (nI w) (f 142 j))
  -- states
  have se : f1 127 w = (smp f2 9999 (nI w) v).1 := by
    rw [r1.1 w (by omega), smp_kp (fun i => fr2 218 i (by omega) (by omega) (by omega))]
    exact (st_eq hV 9999 (nI w) v (Nat.le_refl _)).1
  have hs : (0 < f2 203 (9 * j + 3)) ↔ ¬ f1 143 j = 0 := by
    rw [← m3, fr1 143 j (by omega)]
    exact cnt_lt (bm.2.1.imp (fun z => z.1) (fun z => z.1))
  have hf : SFC f1 j w ↔ (f1 143 j = 0 ∨ SFM f2 j w) := by
    unfold SFC SFM
    rw [hc, wc, m5, m6, m4, m0, ← m3]
  have hb : (f1 142 j < f1 134 w ∨ f1 127 w = 2 ∨ ¬ SFC f1 j w) ↔ ((0 < f2 203 (9 * j + 3) ∧ ¬ SFM f2 j w) ∨ f2 203 (9 * j + 2) < f2 200 w ∨ (smp f2 9999 (nI w) v).1 = 2) := by
    rw [hf, hs, se, m2, (yw w hw).1]
    constructor
    · rintro (a | a | a)
      · exact Or.inr (Or.inl a)
      · exact Or.inr (Or.inr a)
      · exact Or.inl ⟨fun z => a (Or.inl z), fun z => a (Or.inr z)⟩
    · rintro (a | a | a)
      · exact Or.inr (Or.inr (fun z => z.elim a.1 a.2))
      · exact Or.inl a
      · exact Or.inr (Or.inl a)
  have be : bcE (f1 147 j &&& titC f1 w (f1 96 w).toNatClampNeg (f1 142 j)) = onE (f2 203 (9 * j + 7) &&& titM f2 w (f2 191 w).toNatClampNeg (f2 203 (9 * j + 2))) := by
    rw [q96, q191, ← m2, e142, te, ← m7]
    exact bc_30 (and_30 (by rw [fr1 147 j (by omega)]; exact bm.2.2.2.1))
  have h8 : f1 148 j = f2 203 (9 * j + 8) := m8
  have os : ownl (fun a => ¬ a < 0) (PM f2 3 4 (nI w) (f2 203 (9 * j + 2))) (fun i => f2 195 (6 * i + 1)) h 0 (-4) = ownl (fun a => ¬ a = -4) (PO f1 104 105 (nI w) (f1 142 j)) (fun i => f1 102 i) h 0 (-4) := by
    rw [← m2, e142]
    exact oe.symm
  have orr' : ownl (fun a => ¬ a = -4) (PO f1 104 105 (nI w) (f1 142 j)) (fun i => f1 102 i) h 0 (-4) = -4 ∨ ¬ ownl (fun a => ¬ a = -4) (PO f1 104 105 (nI w) (f1 142 j)) (fun i => f1 102 i) h 0 (-4) < 0 := by
    rw [e142]
    exact orr
  unfold scC scM
  rw [os, scw_eq orr', ← propext hb, propext hs, ← be, ← h8]
def SX_score (n c v h m : Nat) (f f1 : Nat → Nat → Int32) (x1 x2 r : Int32) : Prop := (¬ (hasw m x1 ∧ hasw n x2) ∧ r = -1 ∧ f1 = f) ∨ (∃ j w, j < m ∧ w < n ∧ x1 = nI j ∧ x2 = nI w ∧ rkY f f1 n c v ∧ r = scC f1 h j w)
def SM_score (n c v h m : Nat) (f f1 : Nat → Nat → Int32) (x1 x2 r : Int32) : Prop := (¬ (hasw m x1 ∧ hasw n x2) ∧ r = -1 ∧ f1 = f) ∨ (∃ j w, j < m ∧ w < n ∧ x1 = nI j ∧ x2 = nI w ∧ o6 f f1 ∧ YC f1 n c v ∧ r = scM f1 v h j w)
def SX_rivals (n c v h m : Nat) (f f1 : Nat → Nat → Int32) (x1 r : Int32) : Prop := (¬ hasw m x1 ∧ r = -1 ∧ f1 = f) ∨ (∃ j, j < m ∧ x1 = nI j ∧ rkY f f1 n c v ∧ r = cntl (fun i => 0 < scC f1 h j i) n 0 0)
def SM_rivals (n c v h m : Nat) (f f1 : Nat → Nat → Int32) (x1 r : Int32) : Prop := (¬ hasw m x1 ∧ r = -1 ∧ f1 = f) ∨ (∃ j, j < m ∧ x1 = nI j ∧ o6 f f1 ∧ YC f1 n c v ∧ r = cntl (fun i => 0 < scM f1 v h j i) n 0 0)
set_option maxRecDepth 100000 in
set_option maxHeartbeats 4000000 in
theorem sf_score {d L : Nat} {f : Nat → Nat → Int32} {g : Nat → Nat → Int64} {n c v h m : Nat} {x1 x2 : Int32} {R : Option Value → mH → Prop} (hd : 6 ≤ d) (hX : XI f) (hW : RW n f) (hC : RC c f) (hV : RV v f) (hO : RO h f) (hMm : RM m f) (hSz : SZ n f) (hRY : RY n c v f) (H : ∀ r f1, SX_score n c v h m f f1 x1 x2 r → R (some (.int r)) (shF L, f1, g)) : Run mtab d 105 [.ref 5, .int x1, .int x2] (shF L, f, g) R := by
  obtain ⟨d, rfl⟩ : ∃ e, d = e + 1 := ⟨d - 1, by omega⟩
  refine go_X10_score rfl ?_
  conv => whnf
  obtain ⟨hn, hnb, hvb, hv, hE, cy, hA0⟩ := YK_of hW hC hV hRY
  have hm50 := hMm.1
  refine ct_shas (by omega) hMm.2.1 hMm.1 (fun j hj e => ?_) (fun q => ?_)
  · subst e
    conv => whnf
    (refine ⟨fun z9 => ?_, fun z9 => ?_⟩ <;> first | ((have c9 : (1 : Int32) = 0 := by with_reducible exact z9); exact absurd c9 (by decide)) | exact absurd (rfl : (0 : Int32) = 0) (by with_reducible exact z9) | exact absurd True.intro (by with_reducible exact z9) | exact False.elim (by with_reducible exact z9) | (conv => whnf))
    refine ct_has (by omega) hnb hn (fun w hw e => ?_) (fun q => ?_)
    · subst e
      conv => whnf
      (refine ⟨fun z9 => ?_, fun z9 => ?_⟩ <;> first | ((have c9 : (1 : Int32) = 0 := by with_reducible exact z9); exact absurd c9 (by decide)) | exact absurd (rfl : (0 : Int32) = 0) (by with_reducible exact z9) | exact absurd True.intro (by with_reducible exact z9) | exact False.elim (by with_reducible exact z9) | (conv => whnf))
      refine sf_reckon (n := n) (c := c) (v := v) (by omega) hX hn hnb hvb hv hE cy hA0 (fun f1 r1 => ?_)
      conv => whnf
      have fr1 : ∀ a i, (a < 127 ∨ 137 < a) → f1 a i = f a i := fun a i z => r1.2.1 a i (by omega) (by omega) (by omega) (by omega) (by omega) (by omega) (by omega)
      have hW1 : RW n f1 := RW_kp (kp_rkY r1) rfl rfl hW
      have hN1 : RN f1 j := (RM_kp (kp_rkY r1) rfl rfl hMm).2.2.2 j hj
      have hS1 : SZ n f1 := SZ_q (fun a i z => fr1 a i (by omega)) hSz
      have hO1 : f1 100 6 = nI h := (fr1 100 6 (by omega)).trans hO.2.1
      have hSC : ∀ w, w < n → SZ1 f1 w (f1 142 j) := fun w hw => by
        obtain ⟨e1, e2⟩ := hC_hM (w := w) (y := f1 142 j) hW1 hw hN1.2.2.2.2.2.2.2.2.2.1.1.2.2
        unfold SZ1
        rw [e1, e2]
        exact hM_in hS1 hw
      obtain ⟨q, hq1, hq4, hq⟩ := RW_T hW1 w hw
      refine sf_scoreFor (h := h) (by omega) (by omega) (by omega) hN1 (hSC w hw) hq hq1 hq4 hO1 hO.1 (fun r er => ?_)
      conv => whnf
      exact H _ _ (Or.inr ⟨j, w, hj, hw, rfl, rfl, r1, er⟩)
    · conv => whnf
      (refine ⟨fun z9 => ?_, fun z9 => ?_⟩ <;> first | ((have c9 : (1 : Int32) = 0 := by with_reducible exact z9); exact absurd c9 (by decide)) | exact absurd (rfl : (0 : Int32) = 0) (by with_reducible exact z9) | exact absurd True.intro (by with_reducible exact z9) | exact False.elim (by with_reducible exact z9) | (conv => whnf))
      exact H _ _ (Or.inl ⟨fun hh => nhasw q hh.2, rfl, rfl⟩)
  · conv => whnf
    (refine ⟨fun z9 => ?_, fun z9 => ?_⟩ <;> first | ((have c9 : (1 : Int32) = 0 := by with_reducible exact z9); exact absurd c9 (by decide)) | exact absurd (rfl : (0 : Int32) = 0) (by with_reducible exact z9) | exact absurd True.intro (by with_reducible exact z9) | exact False.elim (by with_reducible exact z9) | (conv => whnf))
    exact H _ _ (Or.inl ⟨fun hh => nhasw q hh.1, rfl, rfl⟩)
set_option maxRecDepth 100000 in
set_option maxHeartbeats 4000000 in
theorem sf_rivals {d L : Nat} {f : Nat → Nat → Int32} {g : Nat → Nat → Int64} {n c v h m : Nat} {x1 : Int32} {R : Option Value → mH → Prop} (hd : 6 ≤ d) (hX : XI f) (hW : RW n f) (hC : RC c f) (hV : RV v f) (hO : RO h f) (hMm : RM m f) (hSz : SZ n f) (hRY : RY n c v f) (H : ∀ r f1, SX_rivals n c v h m f f1 x1 r → R (some (.int r)) (shF L, f1, g)) : Run mtab d 106 [.ref 5, .int x1] (shF L, f, g) R := by
  obtain ⟨d, rfl⟩ : ∃ e, d = e + 1 := ⟨d - 1, by omega⟩
  refine go_X10_rivals rfl ?_
  conv => whnf
  obtain ⟨hn, hnb, hvb, hv, hE, cy, hA0⟩ := YK_of hW hC hV hRY
  have hm50 := hMm.1
  refine ct_shas (by omega) hMm.2.1 hMm.1 (fun j hj e => ?_) (fun q => ?_)
  · subst e
    conv => whnf
    (refine ⟨fun z9 => ?_, fun z9 => ?_⟩ <;> first | ((have c9 : (1 : Int32) = 0 := by with_reducible exact z9); exact absurd c9 (by decide)) | exact absurd (rfl : (0 : Int32) = 0) (by with_reducible exact z9) | exact absurd True.intro (by with_reducible exact z9) | exact False.elim (by with_reducible exact z9) | (conv => whnf))
    refine sf_reckon (n := n) (c := c) (v := v) (by omega) hX hn hnb hvb hv hE cy hA0 (fun f1 r1 => ?_)
    conv => whnf
    have fr1 : ∀ a i, (a < 127 ∨ 137 < a) → f1 a i = f a i := fun a i z => r1.2.1 a i (by omega) (by omega) (by omega) (by omega) (by omega) (by omega) (by omega)
    have hW1 : RW n f1 := RW_kp (kp_rkY r1) rfl rfl hW
    have hN1 : RN f1 j := (RM_kp (kp_rkY r1) rfl rfl hMm).2.2.2 j hj
    have hS1 : SZ n f1 := SZ_q (fun a i z => fr1 a i (by omega)) hSz
    have hO1 : f1 100 6 = nI h := (fr1 100 6 (by omega)).trans hO.2.1
    have hSC : ∀ w, w < n → SZ1 f1 w (f1 142 j) := fun w hw => by
      obtain ⟨e1, e2⟩ := hC_hM (w := w) (y := f1 142 j) hW1 hw hN1.2.2.2.2.2.2.2.2.2.1.1.2.2
      unfold SZ1
      rw [e1, e2]
      exact hM_in hS1 hw
    refine sf_countFits (n := n) (h := h) (by omega) (by omega) hN1 hSC (RW_T hW1) hW1.2.1 hW1.1 hO1 hO.1 ?_
    conv => whnf
    exact H _ _ (Or.inr ⟨j, hj, rfl, r1, rfl⟩)
  · conv => whnf
    (refine ⟨fun z9 => ?_, fun z9 => ?_⟩ <;> first | ((have c9 : (1 : Int32) = 0 := by with_reducible exact z9); exact absurd c9 (by decide)) | exact absurd (rfl : (0 : Int32) = 0) (by with_reducible exact z9) | exact absurd True.intro (by with_reducible exact z9) | exact False.elim (by with_reducible exact z9) | (conv => whnf))
    exact H _ _ (Or.inl ⟨fun hh => nhasw q hh, rfl, rfl⟩)
set_option maxRecDepth 100000 in
set_option maxHeartbeats 4000000 in
theorem smf_score {d L : Nat} {f : Nat → Nat → Int32} {g : Nat → Nat → Int64} {n c v h m : Nat} {x1 x2 : Int32} {R : Option Value → mH → Prop} (hd : 7 ≤ d) (hX : XI f) (hW : RW n f) (hO : RO h f) (hMm : RM m f) (hSz : SZ n f) (hY : MY n c v f) (H : ∀ r f1, SM_score n c v h m f f1 x1 x2 r → XI f1 → MY n c v f1 → R (some (.int r)) (shF L, f1, g)) : Run mtab d 197 [.ref 181, .int x1, .int x2] (shF L, f, g) R := by
  obtain ⟨d, rfl⟩ : ∃ e, d = e + 1 := ⟨d - 1, by omega⟩
  refine go_X11_score rfl ?_
  conv => whnf
  have hm50 := hMm.1
  have hn40 := hW.1
  refine sm_isMention (by omega) hMm.2.2.1 hMm.1 (fun j hj e => ?_) (fun q => ?_)
  · subst e
    conv => whnf
    (refine ⟨fun z9 => ?_, fun z9 => ?_⟩ <;> first | ((have c9 : (1 : Int32) = 0 := by with_reducible exact z9); exact absurd c9 (by decide)) | exact absurd (rfl : (0 : Int32) = 0) (by with_reducible exact z9) | exact absurd True.intro (by with_reducible exact z9) | exact False.elim (by with_reducible exact z9) | (conv => whnf))
    refine ct_mIsWork (by omega) hW.2.2.1 hW.1 (fun w hw e => ?_) (fun q => ?_)
    · subst e
      conv => whnf
      (refine ⟨fun z9 => ?_, fun z9 => ?_⟩ <;> first | ((have c9 : (1 : Int32) = 0 := by with_reducible exact z9); exact absurd c9 (by decide)) | exact absurd (rfl : (0 : Int32) = 0) (by with_reducible exact z9) | exact absurd True.intro (by with_reducible exact z9) | exact False.elim (by with_reducible exact z9) | (conv => whnf))
      refine smq_refresh (n := n) (c := c) (v := v) (by omega) hX hY (fun f1 h1 o1 k1 y1 yc1 z1 => ?_)
      conv => whnf
      have fr1 : ∀ a i, 182 ≤ a → ¬ a = 200 → ¬ a = 201 → f1 a i = f a i := fun a i a1 a2 a3 => o1 a i a2 a3 (by omega) (by omega) (by omega) (by omega)
      have hW1 : RW n f1 := RW_kp k1 rfl rfl hW
      have hN1 : RN f1 j := (RM_kp k1 rfl rfl hMm).2.2.2 j hj
      have hS1 : SZ n f1 := SZ_q (fun a i z => fr1 a i (by omega) (by omega) (by omega)) hSz
      have hO1 : f1 181 14 = nI h := (o1 181 14 (by omega) (by omega) (by omega) (by omega) (by omega) (by omega)).trans hO.2.2.1
      obtain ⟨b0, b1, b2, b3, b4, b5, b6, b7, b8, bm, bf⟩ := hN1
      have gU : f1 203 (9 * j + 5) = 0 ∨ f1 203 (9 * j + 5) = 1 := by rw [← b5]; exact c01 bm.2.2.1
      have gF : f1 203 (9 * j + 6) = 0 ∨ f1 203 (9 * j + 6) = 1 := by rw [← b6]; exact bf
      have gH : (f1 203 (9 * j + 3) = 0 ∧ f1 203 (9 * j + 4) = 0) ∨ (inr 1 6000 (f1 203 (9 * j + 3)) ∧ inr 1 6000 (f1 203 (9 * j + 4))) := by rw [← b3, ← b4]; exact bm.2.1
      obtain ⟨q, hq1, hq4, hq⟩ := RW_M hW1 w hw
      refine smf_scoreOf (v := v) (h := h) (by omega) (by omega) (by omega) gU gF gH (hM_in hS1 hw).1 (hM_in hS1 hw).2 hq hq1 hq4 y1.2.1 y1.2.2.1 hO1 hO.1 (fun r er => ?_)
      conv => whnf
      exact H _ _ (Or.inr ⟨j, w, hj, hw, rfl, rfl, o1, yc1, er⟩) h1 y1
    · conv => whnf
      (refine ⟨fun z9 => ?_, fun z9 => ?_⟩ <;> first | ((have c9 : (1 : Int32) = 0 := by with_reducible exact z9); exact absurd c9 (by decide)) | exact absurd (rfl : (0 : Int32) = 0) (by with_reducible exact z9) | exact absurd True.intro (by with_reducible exact z9) | exact False.elim (by with_reducible exact z9) | (conv => whnf))
      exact H _ _ (Or.inl ⟨fun hh => nhasw q hh.2, rfl, rfl⟩) hX hY
  · conv => whnf
    (refine ⟨fun z9 => ?_, fun z9 => ?_⟩ <;> first | ((have c9 : (1 : Int32) = 0 := by with_reducible exact z9); exact absurd c9 (by decide)) | exact absurd (rfl : (0 : Int32) = 0) (by with_reducible exact z9) | exact absurd True.intro (by with_reducible exact z9) | exact False.elim (by with_reducible exact z9) | (conv => whnf))
    exact H _ _ (Or.inl ⟨fun hh => nhasw q hh.1, rfl, rfl⟩) hX hY
set_option maxRecDepth 100000 in
set_option maxHeartbeats 4000000 in
theorem smf_rivals {d L : Nat} {f : Nat → Nat → Int32} {g : Nat → Nat → Int64} {n c v h m : Nat} {x1 : Int32} {R : Option Value → mH → Prop} (hd : 7 ≤ d) (hX : XI f) (hW : RW n f) (hO : RO h f) (hMm : RM m f) (hSz : SZ n f) (hY : MY n c v f) (H : ∀ r f1, SM_rivals n c v h m f f1 x1 r → XI f1 → MY n c v f1 → R (some (.int r)) (shF L, f1, g)) : Run mtab d 199 [.ref 181, .int x1] (shF L, f, g) R := by
  obtain ⟨d, rfl⟩ : ∃ e, d = e + 1 := ⟨d - 1, by omega⟩
  refine go_X11_rivals rfl ?_
  conv => whnf
  have hm50 := hMm.1
  refine sm_isMention (by omega) hMm.2.2.1 hMm.1 (fun j hj e => ?_) (fun q => ?_)
  · subst e
    conv => whnf
    (refine ⟨fun z9 => ?_, fun z9 => ?_⟩ <;> first | ((have c9 : (1 : Int32) = 0 := by with_reducible exact z9); exact absurd c9 (by decide)) | exact absurd (rfl : (0 : Int32) = 0) (by with_reducible exact z9) | exact absurd True.intro (by with_reducible exact z9) | exact False.elim (by with_reducible exact z9) | (conv => whnf))
    refine smq_refresh (n := n) (c := c) (v := v) (by omega) hX hY (fun f1 h1 o1 k1 y1 yc1 z1 => ?_)
    conv => whnf
    have fr1 : ∀ a i, 182 ≤ a → ¬ a = 200 → ¬ a = 201 → f1 a i = f a i := fun a i a1 a2 a3 => o1 a i a2 a3 (by omega) (by omega) (by omega) (by omega)
    have hW1 : RW n f1 := RW_kp k1 rfl rfl hW
    have hN1 : RN f1 j := (RM_kp k1 rfl rfl hMm).2.2.2 j hj
    have hS1 : SZ n f1 := SZ_q (fun a i z => fr1 a i (by omega) (by omega) (by omega)) hSz
    have hO1 : f1 181 14 = nI h := (o1 181 14 (by omega) (by omega) (by omega) (by omega) (by omega) (by omega)).trans hO.2.2.1
    obtain ⟨b0, b1, b2, b3, b4, b5, b6, b7, b8, bm, bf⟩ := hN1
    have gU : f1 203 (9 * j + 5) = 0 ∨ f1 203 (9 * j + 5) = 1 := by rw [← b5]; exact c01 bm.2.2.1
    have gF : f1 203 (9 * j + 6) = 0 ∨ f1 203 (9 * j + 6) = 1 := by rw [← b6]; exact bf
    have gH : (f1 203 (9 * j + 3) = 0 ∧ f1 203 (9 * j + 4) = 0) ∨ (inr 1 6000 (f1 203 (9 * j + 3)) ∧ inr 1 6000 (f1 203 (9 * j + 4))) := by rw [← b3, ← b4]; exact bm.2.1
    refine smf_rivalsOf (n := n) (v := v) (h := h) (by omega) (by omega) gU gF gH (fun w hw => hM_in hS1 hw) (RW_M hW1) hW1.2.2.1 hW1.1 y1.2.1 y1.2.2.1 hO1 hO.1 ?_
    conv => whnf
    exact H _ _ (Or.inr ⟨j, hj, rfl, o1, yc1, rfl⟩) h1 y1
  · conv => whnf
    (refine ⟨fun z9 => ?_, fun z9 => ?_⟩ <;> first | ((have c9 : (1 : Int32) = 0 := by with_reducible exact z9); exact absurd c9 (by decide)) | exact absurd (rfl : (0 : Int32) = 0) (by with_reducible exact z9) | exact absurd True.intro (by with_reducible exact z9) | exact False.elim (by with_reducible exact z9) | (conv => whnf))
    exact H _ _ (Or.inl ⟨fun hh => nhasw q hh, rfl, rfl⟩) hX hY
theorem kx_score {f f1 : Nat → Nat → Int32} {n c v h m : Nat} {x1 x2 r : Int32} (s : SX_score n c v h m f f1 x1 x2 r) : kp [0] f f1 := by
  rcases s with ⟨_, _, rfl⟩ | ⟨j, w, _, _, _, _, y, _⟩
  · exact kp_refl _ _
  · exact kp_rkY y
theorem XI_score {f f1 : Nat → Nat → Int32} {n c v h m : Nat} {x1 x2 r : Int32} (hX : XI f) (s : SX_score n c v h m f f1 x1 x2 r) : XI f1 := by
  rcases s with ⟨_, _, rfl⟩ | ⟨j, w, _, _, _, _, y, _⟩
  · exact hX
  · exact XI_rkY hX y
theorem km_score {f f1 : Nat → Nat → Int32} {n c v h m : Nat} {x1 x2 r : Int32} (s : SM_score n c v h m f f1 x1 x2 r) : kp [10, 22, 23] f f1 := by
  rcases s with ⟨_, _, rfl⟩ | ⟨j, w, _, _, _, _, y, _⟩
  · exact kp_refl _ _
  · exact kp_o6 y
theorem kx_rivals {f f1 : Nat → Nat → Int32} {n c v h m : Nat} {x1 r : Int32} (s : SX_rivals n c v h m f f1 x1 r) : kp [0] f f1 := by
  rcases s with ⟨_, _, rfl⟩ | ⟨j, _, _, y, _⟩
  · exact kp_refl _ _
  · exact kp_rkY y
theorem XI_rivals {f f1 : Nat → Nat → Int32} {n c v h m : Nat} {x1 r : Int32} (hX : XI f) (s : SX_rivals n c v h m f f1 x1 r) : XI f1 := by
  rcases s with ⟨_, _, rfl⟩ | ⟨j, _, _, y, _⟩
  · exact hX
  · exact XI_rkY hX y
theorem km_rivals {f f1 : Nat → Nat → Int32} {n c v h m : Nat} {x1 r : Int32} (s : SM_rivals n c v h m f f1 x1 r) : kp [10, 22, 23] f f1 := by
  rcases s with ⟨_, _, rfl⟩ | ⟨j, _, _, y, _⟩
  · exact kp_refl _ _
  · exact kp_o6 y
theorem fin_score {f f1 f2 : Nat → Nat → Int32} {n c v h m : Nat} {x1 x2 v1 v2 : Int32} (hW : RW n f) (hC : RC c f) (hV : RV v f) (hO : RO h f) (hMm : RM m f) (s1 : SX_score n c v h m f f1 x1 x2 v1) (s2 : SM_score n c v h m f1 f2 x1 x2 v2) : v1 = v2 := by
  have hn := hW.1
  have hm50 := hMm.1
  rcases s1 with ⟨q1, rfl, rfl⟩ | ⟨j, w, hj, hw, e1, e2, r1, rfl⟩
  · rcases s2 with ⟨q2, rfl, rfl⟩ | ⟨j, w, hj, hw, e1, e2, _⟩
    · rfl
    · exact absurd ⟨⟨j, hj, e1⟩, ⟨w, hw, e2⟩⟩ q1
  · rcases s2 with ⟨q2, _⟩ | ⟨j', w', hj', hw', e1', e2', o, y, rfl⟩
    · exact absurd ⟨⟨j, hj, e1⟩, ⟨w, hw, e2⟩⟩ q2
    · have a : j = j' := (nI_eq (by omega) (by omega)).mp (e1.symm.trans e1')
      have b : w = w' := (nI_eq (by omega) (by omega)).mp (e2.symm.trans e2')
      subst a
      subst b
      exact sce_eq hW hC hV hO hMm hj hw r1 o y
theorem fin_rivals {f f1 f2 : Nat → Nat → Int32} {n c v h m : Nat} {x1 v1 v2 : Int32} (hW : RW n f) (hC : RC c f) (hV : RV v f) (hO : RO h f) (hMm : RM m f) (s1 : SX_rivals n c v h m f f1 x1 v1) (s2 : SM_rivals n c v h m f1 f2 x1 v2) : v1 = v2 := by
  have hm50 := hMm.1
  rcases s1 with ⟨q1, rfl, rfl⟩ | ⟨j, hj, e1, r1, rfl⟩
  · rcases s2 with ⟨q2, rfl, rfl⟩ | ⟨j, hj, e1, _⟩
    · rfl
    · exact absurd ⟨j, hj, e1⟩ q1
  · rcases s2 with ⟨q2, _⟩ | ⟨j', hj', e1', o, y, rfl⟩
    · exact absurd ⟨j, hj, e1⟩ q2
    · have a : j = j' := (nI_eq (by omega) (by omega)).mp (e1.symm.trans e1')
      subst a
      exact cntl_eq n (fun i hi => by rw [sce_eq hW hC hV hO hMm hj hi r1 o y]) n 0 0 (by omega)
/-- what holds between calls, with the sizes -/
def GS (f : Nat → Nat → Int32) : Prop := GM f ∧ SZe f
theorem GS_x {l : List Nat} {f f' : Nat → Nat → Int32} (h : GS f) (x : XI f') (k : kp l f f') (hl : (((okg l && oke l) && (okm l && ok21 l)) && ok11 l) = true) : GS f' := by
  rw [Bool.and_eq_true] at hl
  exact ⟨GM_x h.1 x k hl.1, SZe_kp k hl.2 h.2⟩
theorem GS_m {l : List Nat} {f f' : Nat → Nat → Int32} (h : GS f) (x : XI f') (k : kp l f f') (m : ∃ n c v, MY n c v f') (hl : (((okg l && oke l) && ok21 l) && ok11 l) = true) : GS f' := by
  rw [Bool.and_eq_true] at hl
  exact ⟨GM_m h.1 x k m hl.1, SZe_kp k hl.2 h.2⟩
theorem GS_s {l l' : List Nat} {f f1 f2 : Nat → Nat → Int32} (h : GS f) (k1 : kp l f f1) (k2 : kp l' f1 f2) (j : GK f2) (m : ∃ n c v, MY n c v f2) (hl : (((okw l && oke l) && ok21 l) && ok11 l) = true) (hl' : (((okw l' && oke l') && ok21 l') && ok11 l') = true) : GS f2 := by
  rw [Bool.and_eq_true] at hl hl'
  exact ⟨GM_s h.1 k1 k2 j m hl.1 hl'.1, SZe_kp k2 hl'.2 (SZe_kp k1 hl.2 h.2)⟩
theorem GS_w {l l' : List Nat} {f f1 f2 : Nat → Nat → Int32} (h : GS f) (k1 : kp l f f1) (k2 : kp l' f1 f2) (j : GK f2) (m : ∃ n c v, MY n c v f2) (z : SZe f2) (hl : ((okw l && oke l) && ok21 l) = true) (hl' : ((okw l' && oke l') && ok21 l') = true) : GS f2 := ⟨GM_s h.1 k1 k2 j m hl hl', z⟩
theorem GS_j {l l' : List Nat} {f f1 f2 : Nat → Nat → Int32} (h : GS f) (k1 : kp l f f1) (k2 : kp l' f1 f2) (j : GK f2) (hl : (((okw l && oke l) && (okm l && ok21 l)) && ok11 l) = true) (hl' : (((okw l' && oke l') && (okm l' && ok21 l')) && ok11 l') = true) : GS f2 := by
  rw [Bool.and_eq_true] at hl hl'
  exact ⟨GM_j h.1 k1 k2 j hl.1 hl'.1, SZe_kp k2 hl'.2 (SZe_kp k1 hl.2 h.2)⟩
theorem GS_v {f f1 f2 : Nat → Nat → Int32} (h : GS f) (k1 : kp [4] f f1) (k2 : kp [10, 14, 22] f1 f2) (x : XI f2) (r : ∃ v, RV v f2) (m : ∃ n c v, MY n c v f2) : GS f2 := ⟨GM_v h.1 k1 k2 x r m, SZe_kp k2 rfl (SZe_kp k1 rfl h.2)⟩
theorem GS_ed {f f1 f2 : Nat → Nat → Int32} (h : GS f) (x1 : XI f1) (k1 : kp [0, 7] f f1) (e1 : EI f1) (q1 : f1 168 7 = edn (f 168 7)) (x2 : XI f2) (k2 : kp [10, 17, 22, 23] f1 f2) (m : ∃ n c v, MY n c v f2) (q2 : f2 181 50 = edn (f1 181 50)) : GS f2 := ⟨GM_ed h.1 x1 k1 e1 q1 x2 k2 m q2, SZe_kp k2 rfl (SZe_kp k1 rfl h.2)⟩
theorem GS_ini {f : Nat → Nat → Int32} (hf : ∀ a i, 6 ≤ a → f a i = if a < 227 then inix a i else 0) (h3 : ab3 f) (h2 : ab2 f) : GS f := by
  refine ⟨GM_ini hf h3 h2, 0, by omega, ?_, fun j hj => absurd hj (by omega)⟩
  rw [hf 181 0 (by omega), if_pos (by omega), inix_0 _ (by decide)]
  rfl
