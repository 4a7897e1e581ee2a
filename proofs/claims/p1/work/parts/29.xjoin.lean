set_option maxRecDepth 100000 in
set_option maxHeartbeats 4000000 in
theorem ct_gather {d L : Nat} {f : Nat → Nat → Int32} {g : Nat → Nat → Int64} {x : Int32} {R : Option Value → mH → Prop} (hd : 1 ≤ d) (z : z0 f) (H : R none (shF L, m_ui f 150 7 0, g)) : Run mtab d 20 [.ref 149, .int x] (shF L, f, g) R := by
  obtain ⟨d, rfl⟩ : ∃ e, d = e + 1 := ⟨d - 1, by omega⟩
  obtain ⟨z1, z2, z3, z4, z5, z6, z7⟩ := id z
  refine go_X2_gather rfl ?_
  conv => whnf
  repeat' first
    | (simp only [z1, z2, z3, z4, z5, z6, z7])
    | (refine ⟨by decide, ?_⟩ <;> conv => whnf)
    | (refine ⟨by unfold vp_in; decide, ?_⟩ <;> conv => whnf)
    | (refine ⟨fun c => ?_, fun c => ?_⟩ <;> first | exact absurd c (by decide) | exact absurd (by decide) c | (conv => whnf))
    | (refine at_X2_gather ?_ <;> conv => whnf)
    | fail
  exact H
set_option maxRecDepth 100000 in
set_option maxHeartbeats 4000000 in
theorem ct_solve {d L : Nat} {f : Nat → Nat → Int32} {g : Nat → Nat → Int64}  {R : Option Value → mH → Prop} (hd : 2 ≤ d) (hr : f 150 7 = 0) (H : ∀ g', R (some (.long 0)) (shF L, m_fil f 163 49 0, g')) : Run mtab d 28 [.ref 150] (shF L, f, g) R := by
  obtain ⟨d, rfl⟩ : ∃ e, d = e + 1 := ⟨d - 1, by omega⟩
  refine go_X3_solve rfl ?_
  conv => whnf
  repeat' first
    | (simp only [hr, m_ui_ap, m_fil_ap, m_cpy_ap, Nat.reduceEqDiff, Nat.reduceLT, Nat.reduceLeDiff, eq_self, ↓reduceIte, false_and, and_false, true_and, and_true, and_self])
    | (refine ⟨by decide, ?_⟩ <;> conv => whnf)
    | (refine ⟨by unfold vp_in; decide, ?_⟩ <;> conv => whnf)
    | (refine ⟨fun c => ?_, fun c => ?_⟩ <;> first | exact absurd c (by decide) | exact absurd (by decide) c | (conv => whnf))
    | (refine at_X3_solve ?_ <;> conv => whnf)
    | (refine ct_fill (n := 49) (by omega) rfl (by decide) ?_ <;> conv => whnf)
    | (refine ct_fillL (n := 9) (by omega) rfl (by decide) (fun g' => ?_) <;> conv => whnf)
    | (refine ct_fillL (n := 49) (by omega) rfl (by decide) (fun g' => ?_) <;> conv => whnf)
    | fail
  exact H _
def jnF (f : Nat → Nat → Int32) : Nat → Nat → Int32 := m_ui (m_ui f 150 7 0) 150 8 0
def jnG (f : Nat → Nat → Int32) : Nat → Nat → Int32 := m_ui (m_fil (jnF f) 163 49 0) 149 5 0
theorem jn_z {f : Nat → Nat → Int32} (z : z0 f) : z0 (jnG f) := z
theorem jn_fr (f : Nat → Nat → Int32) : fr f (jnG f) := fr_ui (by decide) (by decide) (fr_fil (by decide) (by decide) (fr_ui (by decide) (by decide) (fr_ui (by decide) (by decide) (fr_refl f))))
set_option maxRecDepth 100000 in
set_option maxHeartbeats 4000000 in
theorem ct_join {d L : Nat} {f : Nat → Nat → Int32} {g : Nat → Nat → Int64} {x : Int32} {R : Option Value → mH → Prop} (hd : 3 ≤ d) (z : z0 f) (H : ∀ f' g', z0 f' → fr f f' → f' 150 7 = 0 → f' 149 5 = 0 → R none (shF L, f', g')) : Run mtab d 19 [.ref 149, .int x] (shF L, f, g) R := by
  obtain ⟨d, rfl⟩ : ∃ e, d = e + 1 := ⟨d - 1, by omega⟩
  obtain ⟨z1, z2, z3, z4, z5, z6, z7⟩ := id z
  refine go_X2_join rfl ?_
  conv => whnf
  repeat' first
    | (simp only [z1, z2, z3, z4, z5, z6, z7, (show jnF f 150 7 = 0 from rfl), m_ui_ap, m_fil_ap, m_cpy_ap, Nat.reduceEqDiff, Nat.reduceLT, Nat.reduceLeDiff, eq_self, ↓reduceIte, false_and, and_false, true_and, and_true, and_self])
    | (refine ⟨by decide, ?_⟩ <;> conv => whnf)
    | (refine ⟨by unfold vp_in; decide, ?_⟩ <;> conv => whnf)
    | (refine ⟨fun c => ?_, fun c => ?_⟩ <;> first | exact absurd c (by decide) | exact absurd (by decide) c | (conv => whnf))
    | (refine at_X2_join ?_ <;> conv => whnf)
    | (refine ct_gather (by omega) z ?_ <;> conv => whnf)
    | (refine ct_solve (f := jnF f) (by omega) rfl (fun g' => ?_) <;> conv => whnf)
    | fail
  exact H (jnG f) _ (jn_z z) (jn_fr f) rfl rfl
set_option maxRecDepth 100000 in
set_option maxHeartbeats 4000000 in
theorem ct_countLost {d L : Nat} {f : Nat → Nat → Int32} {g : Nat → Nat → Int64}  {R : Option Value → mH → Prop} (hd : 1 ≤ d) (z : z0 f) (H : R (some (.int 0)) (shF L, f, g)) : Run mtab d 39 [.ref 139] (shF L, f, g) R := by
  obtain ⟨d, rfl⟩ : ∃ e, d = e + 1 := ⟨d - 1, by omega⟩
  obtain ⟨z1, z2, z3, z4, z5, z6, z7⟩ := id z
  refine go_X4_countLost rfl ?_
  conv => whnf
  repeat' first
    | (simp only [z1, z2, z3, z4, z5, z6, z7])
    | (refine ⟨by decide, ?_⟩ <;> conv => whnf)
    | (refine ⟨by unfold vp_in; decide, ?_⟩ <;> conv => whnf)
    | (refine ⟨fun c => ?_, fun c => ?_⟩ <;> first | exact absurd c (by decide) | exact absurd (by decide) c | (conv => whnf))
    | (refine at_X4_countLost ?_ <;> conv => whnf)
    | fail
  exact H
set_option maxRecDepth 100000 in
set_option maxHeartbeats 4000000 in
theorem ct_countJoined_loop {d L : Nat} {f0 : Nat → Nat → Int32} {x : Int32} {R : Option Value → mH → Prop} (hd : 3 ≤ d) (H : ∀ f' g', z0 f' → fr f0 f' → R (some (.int 0)) (shF L, f', g')) :
    ∀ (j e : Nat) (s : Option Value) (f : Nat → Nat → Int32) (g : Nat → Nat → Int64), e + j = 16 → z0 f → fr f0 f → WPe pg_X2_countJoined none (Run mtab d) R (m_drop pg_X2_countJoined 4) [some (.ref 149), some (.int x), some (.int 0), some (.int (nI e)), s] [] (shF L, f, g)
  | 0, e, s, f, g, he, z, hf => by
    have e9 : e = 16 := by omega
    subst e9
    refine at_X2_countJoined ?_
    conv => whnf
    refine ⟨fun c => ?_, fun c => absurd (by decide) c⟩
    conv => whnf
    exact H f g z hf
  | j + 1, e, s, f, g, he, z, hf => by
    refine at_X2_countJoined ?_
    conv => whnf
    refine ⟨fun c => absurd c (nI_ge (show e < 16 by omega) (by decide)), fun c => ?_⟩
    conv => whnf
    refine ct_join (by omega) z (fun f' g' z' hf' hr _ => ?_)
    conv => whnf
    refine at_X2_countJoined ?_
    conv => whnf
    rw [hr]
    refine ⟨fun c => ?_, fun c => absurd (by decide) c⟩
    conv => whnf
    have ih := ct_countJoined_loop (d := d) (L := L) (x := x) hd H j (e + 1) (some (.int 0)) f' g' (by omega) z' (fr_trans hf hf')
    rw [nI_succ] at ih
    exact ih
set_option maxRecDepth 100000 in
set_option maxHeartbeats 4000000 in
theorem ct_countJoined {d L : Nat} {f : Nat → Nat → Int32} {g : Nat → Nat → Int64} {x : Int32} {R : Option Value → mH → Prop} (hd : 4 ≤ d) (z : z0 f) (H : ∀ f' g', z0 f' → fr f f' → R (some (.int 0)) (shF L, f', g')) : Run mtab d 25 [.ref 149, .int x] (shF L, f, g) R := by
  obtain ⟨d, rfl⟩ : ∃ e, d = e + 1 := ⟨d - 1, by omega⟩
  obtain ⟨z1, z2, z3, z4, z5, z6, z7⟩ := id z
  refine go_X2_countJoined rfl ?_
  conv => whnf
  exact ct_countJoined_loop (by omega) H 16 0 none f g (by omega) z (fr_refl f)
set_option maxRecDepth 100000 in
set_option maxHeartbeats 4000000 in
theorem ct_sureWorks_loop {d L : Nat} {f0 : Nat → Nat → Int32} {x : Int32} {R : Option Value → mH → Prop} (hd : 3 ≤ d) (H : ∀ f' g', z0 f' → fr f0 f' → R (some (.long 0)) (shF L, f', g')) :
    ∀ (j e : Nat) (s : Option Value) (f : Nat → Nat → Int32) (g : Nat → Nat → Int64), e + j = 16 → z0 f → fr f0 f → WPe pg_X2_sureWorks none (Run mtab d) R (m_drop pg_X2_sureWorks 4) [some (.ref 149), some (.int x), some (.long 0), none, some (.int (nI e)), s] [] (shF L, f, g)
  | 0, e, s, f, g, he, z, hf => by
    have e9 : e = 16 := by omega
    subst e9
    refine at_X2_sureWorks ?_
    conv => whnf
    refine ⟨fun c => ?_, fun c => absurd (by decide) c⟩
    conv => whnf
    exact H f g z hf
  | j + 1, e, s, f, g, he, z, hf => by
    refine at_X2_sureWorks ?_
    conv => whnf
    refine ⟨fun c => absurd c (nI_ge (show e < 16 by omega) (by decide)), fun c => ?_⟩
    conv => whnf
    refine ct_join (by omega) z (fun f' g' z' hf' hr _ => ?_)
    conv => whnf
    refine at_X2_sureWorks ?_
    conv => whnf
    rw [hr]
    refine ⟨fun c => ?_, fun c => absurd (by decide) c⟩
    conv => whnf
    have ih := ct_sureWorks_loop (d := d) (L := L) (x := x) hd H j (e + 1) (some (.int 0)) f' g' (by omega) z' (fr_trans hf hf')
    rw [nI_succ] at ih
    exact ih
set_option maxRecDepth 100000 in
set_option maxHeartbeats 4000000 in
theorem ct_sureWorks {d L : Nat} {f : Nat → Nat → Int32} {g : Nat → Nat → Int64} {x : Int32} {R : Option Value → mH → Prop} (hd : 4 ≤ d) (z : z0 f) (H : ∀ f' g', z0 f' → fr f f' → R (some (.long 0)) (shF L, f', g')) : Run mtab d 26 [.ref 149, .int x] (shF L, f, g) R := by
  obtain ⟨d, rfl⟩ : ∃ e, d = e + 1 := ⟨d - 1, by omega⟩
  obtain ⟨z1, z2, z3, z4, z5, z6, z7⟩ := id z
  refine go_X2_sureWorks rfl ?_
  conv => whnf
  exact ct_sureWorks_loop (by omega) H 16 0 none f g (by omega) z (fr_refl f)
set_option maxRecDepth 100000 in
set_option maxHeartbeats 4000000 in
theorem ct_bitCountL0 {d L : Nat} {f : Nat → Nat → Int32} {g : Nat → Nat → Int64}  {R : Option Value → mH → Prop} (hd : 1 ≤ d) (H : R (some (.int 0)) (shF L, f, g)) : Run mtab d 242 [.long 0] (shF L, f, g) R := by
  obtain ⟨d, rfl⟩ : ∃ e, d = e + 1 := ⟨d - 1, by omega⟩
  refine go_J13_bitCount_95d88 rfl ?_
  conv => whnf
  exact H
set_option maxRecDepth 100000 in
set_option maxHeartbeats 4000000 in
theorem ct_sortThoseIn {d L : Nat} {f : Nat → Nat → Int32} {g : Nat → Nat → Int64}  {R : Option Value → mH → Prop} (hd : 1 ≤ d) (z : z0 f) (H : R (some (.int 0)) (shF L, f, g)) : Run mtab d 16 [.ref 168] (shF L, f, g) R := by
  obtain ⟨d, rfl⟩ : ∃ e, d = e + 1 := ⟨d - 1, by omega⟩
  obtain ⟨z1, z2, z3, z4, z5, z6, z7⟩ := id z
  refine go_X1_sortThoseIn rfl ?_
  conv => whnf
  repeat' first
    | (simp only [z1, z2, z3, z4, z5, z6, z7])
    | (refine ⟨by decide, ?_⟩ <;> conv => whnf)
    | (refine ⟨by unfold vp_in; decide, ?_⟩ <;> conv => whnf)
    | (refine ⟨fun c => ?_, fun c => ?_⟩ <;> first | exact absurd c (by decide) | exact absurd (by decide) c | (conv => whnf))
    | (refine at_X1_sortThoseIn ?_ <;> conv => whnf)
    | fail
  exact H
set_option maxRecDepth 100000 in
set_option maxHeartbeats 4000000 in
theorem ct_publish {d L : Nat} {f : Nat → Nat → Int32} {g : Nat → Nat → Int64}  {R : Option Value → mH → Prop} (hd : 2 ≤ d) (z : z0 f) (H : ∀ f', fr f f' → R (some (.int 0)) (shF L, f', g)) : Run mtab d 14 [.ref 168] (shF L, f, g) R := by
  obtain ⟨d, rfl⟩ : ∃ e, d = e + 1 := ⟨d - 1, by omega⟩
  obtain ⟨z1, z2, z3, z4, z5, z6, z7⟩ := id z
  refine go_X1_publish rfl ?_
  conv => whnf
  repeat' first
    | (simp only [z1, z2, z3, z4, z5, z6, z7])
    | (refine ⟨by decide, ?_⟩ <;> conv => whnf)
    | (refine ⟨by unfold vp_in; decide, ?_⟩ <;> conv => whnf)
    | (refine ⟨fun c => ?_, fun c => ?_⟩ <;> first | exact absurd c (by decide) | exact absurd (by decide) c | (conv => whnf))
    | (refine at_X1_publish ?_ <;> conv => whnf)
    | (refine ct_sortThoseIn (by omega) z ?_ <;> conv => whnf)
    | fail
  exact H _ (fr_ui (by decide) (by decide) (fr_refl f))
set_option maxRecDepth 100000 in
set_option maxHeartbeats 4000000 in
theorem x_quarrel {d L : Nat} {f : Nat → Nat → Int32} {g : Nat → Nat → Int64}  {R : Option Value → mH → Prop} (hd : 6 ≤ d) (z : z0 f) (H : ∀ f' g', fr f f' → R (some (.int 0)) (shF L, f', g')) : Run mtab d 115 [.ref 5] (shF L, f, g) R := by
  obtain ⟨d, rfl⟩ : ∃ e, d = e + 1 := ⟨d - 1, by omega⟩
  obtain ⟨z1, z2, z3, z4, z5, z6, z7⟩ := id z
  refine go_X10_quarrel rfl ?_
  conv => whnf
  repeat' first
    | (simp only [hq])
    | (refine ⟨by decide, ?_⟩ <;> conv => whnf)
    | (refine ⟨by unfold vp_in; decide, ?_⟩ <;> conv => whnf)
    | (refine ⟨fun c => ?_, fun c => ?_⟩ <;> first | exact absurd c (by decide) | exact absurd (by decide) c | (conv => whnf))
    | (refine ct_reckon (by omega) z (fun f1 z1 h1 hq hc => ?_) <;> conv => whnf)
    | (refine ct_bit (by omega) (fun p => ?_) (fun p => ?_) <;> conv => whnf)
    | fail
  · exact absurd (by decide) p
  · exact H _ _ h1
