theorem inr_c4 {x : Int32} (h : inr 0 4 x) : x = 0 ∨ x = 1 ∨ x = 2 ∨ x = 3 ∨ x = 4 := by
  have h1 := Int32.le_iff_toInt_le.mp h.1
  have h2 := Int32.le_iff_toInt_le.mp h.2
  simp only [← Int32.toInt_inj]
  have e0 : (0 : Int32).toInt = 0 := rfl
  have e1 : (1 : Int32).toInt = 1 := rfl
  have e2 : (2 : Int32).toInt = 2 := rfl
  have e3 : (3 : Int32).toInt = 3 := rfl
  have e4 : (4 : Int32).toInt = 4 := rfl
  omega
set_option maxRecDepth 100000 in
set_option maxHeartbeats 4000000 in
theorem ct_findCounting {d L : Nat} {f : Nat → Nat → Int32} {g : Nat → Nat → Int64}  {R : Option Value → mH → Prop} (hd : 1 ≤ d) (z : mz f) (H : R (some (.int 0)) (shF L, f, g)) : Run mtab d 178 [.ref 181] (shF L, f, g) R := by
  obtain ⟨d, rfl⟩ : ∃ e, d = e + 1 := ⟨d - 1, by omega⟩
  obtain ⟨y1, y2, y3, y4, y5, y6, y7⟩ := id z
  refine go_X11_findCounting rfl ?_
  conv => whnf
  repeat' first
    | (simp only [y1, y2, y3, y4, y5, y6, y7])
    | (refine ⟨by decide, ?_⟩ <;> conv => whnf)
    | (refine ⟨by unfold vp_in; decide, ?_⟩ <;> conv => whnf)
    | (refine ⟨fun c => ?_, fun c => ?_⟩ <;> first | exact absurd c (by decide) | exact absurd (by decide) c | (conv => whnf))
    | (refine at_X11_findCounting ?_ <;> conv => whnf)
    | fail
  exact H
set_option maxRecDepth 100000 in
set_option maxHeartbeats 4000000 in
theorem ct_findLeast {d L : Nat} {f : Nat → Nat → Int32} {g : Nat → Nat → Int64} {x : Int32} {R : Option Value → mH → Prop} (hd : 1 ≤ d) (z : mz f) (H : R (some (.int 1)) (shF L, f, g)) : Run mtab d 179 [.ref 181, .int x] (shF L, f, g) R := by
  obtain ⟨d, rfl⟩ : ∃ e, d = e + 1 := ⟨d - 1, by omega⟩
  obtain ⟨y1, y2, y3, y4, y5, y6, y7⟩ := id z
  refine go_X11_findLeast rfl ?_
  conv => whnf
  repeat' first
    | (simp only [y1, y2, y3, y4, y5, y6, y7])
    | (refine ⟨by decide, ?_⟩ <;> conv => whnf)
    | (refine ⟨by unfold vp_in; decide, ?_⟩ <;> conv => whnf)
    | (refine ⟨fun c => ?_, fun c => ?_⟩ <;> first | exact absurd c (by decide) | exact absurd (by decide) c | (conv => whnf))
    | (refine at_X11_findLeast ?_ <;> conv => whnf)
    | fail
  exact H
set_option maxRecDepth 100000 in
set_option maxHeartbeats 4000000 in
theorem ct_findMost {d L : Nat} {f : Nat → Nat → Int32} {g : Nat → Nat → Int64} {x : Int32} {R : Option Value → mH → Prop} (hd : 1 ≤ d) (z : mz f) (H : R none (shF L, f, g)) : Run mtab d 180 [.ref 181, .int x] (shF L, f, g) R := by
  obtain ⟨d, rfl⟩ : ∃ e, d = e + 1 := ⟨d - 1, by omega⟩
  obtain ⟨y1, y2, y3, y4, y5, y6, y7⟩ := id z
  refine go_X11_findMost rfl ?_
  conv => whnf
  repeat' first
    | (simp only [y1, y2, y3, y4, y5, y6, y7])
    | (refine ⟨by decide, ?_⟩ <;> conv => whnf)
    | (refine ⟨by unfold vp_in; decide, ?_⟩ <;> conv => whnf)
    | (refine ⟨fun c => ?_, fun c => ?_⟩ <;> first | exact absurd c (by decide) | exact absurd (by decide) c | (conv => whnf))
    | (refine at_X11_findMost ?_ <;> conv => whnf)
    | fail
  exact H
def fyF (f : Nat → Nat → Int32) : Nat → Nat → Int32 := m_ui (m_ui f 181 21 0) 181 24 0
def rfF (f : Nat → Nat → Int32) : Nat → Nat → Int32 := fyF (m_ui (m_ui f 181 29 1) 181 39 0)
set_option maxRecDepth 100000 in
set_option maxHeartbeats 4000000 in
theorem ct_findYears {d L : Nat} {f : Nat → Nat → Int32} {g : Nat → Nat → Int64}  {R : Option Value → mH → Prop} (hd : 2 ≤ d) (z : mz f) (H : R none (shF L, fyF f, g)) : Run mtab d 181 [.ref 181] (shF L, f, g) R := by
  obtain ⟨d, rfl⟩ : ∃ e, d = e + 1 := ⟨d - 1, by omega⟩
  obtain ⟨y1, y2, y3, y4, y5, y6, y7⟩ := id z
  refine go_X11_findYears rfl ?_
  conv => whnf
  repeat' first
    | (simp only [m_ui_ap, m_fil_ap, m_cpy_ap, Nat.reduceEqDiff, Nat.reduceLT, Nat.reduceLeDiff, eq_self, ↓reduceIte, false_and, and_false, true_and, and_true, and_self])
    | (refine ⟨by decide, ?_⟩ <;> conv => whnf)
    | (refine ⟨by unfold vp_in; decide, ?_⟩ <;> conv => whnf)
    | (refine ⟨fun c => ?_, fun c => ?_⟩ <;> first | exact absurd c (by decide) | exact absurd (by decide) c | (conv => whnf))
    | (refine ct_findCounting (by omega) z ?_ <;> conv => whnf)
    | (refine ct_findLeast (f := m_ui f 181 21 0) (by omega) z ?_ <;> conv => whnf)
    | (refine ct_findMost (f := fyF f) (by omega) z ?_ <;> conv => whnf)
    | fail
  exact H
set_option maxRecDepth 100000 in
set_option maxHeartbeats 4000000 in
theorem ct_refresh {d L : Nat} {f : Nat → Nat → Int32} {g : Nat → Nat → Int64}  {R : Option Value → mH → Prop} (hd : 3 ≤ d) (z : mz f) (h29 : f 181 29 = 0) (H : R none (shF L, rfF f, g)) : Run mtab d 206 [.ref 181] (shF L, f, g) R := by
  obtain ⟨d, rfl⟩ : ∃ e, d = e + 1 := ⟨d - 1, by omega⟩
  obtain ⟨y1, y2, y3, y4, y5, y6, y7⟩ := id z
  refine go_X11_refresh rfl ?_
  conv => whnf
  repeat' first
    | (simp only [h29])
    | (refine ⟨by decide, ?_⟩ <;> conv => whnf)
    | (refine ⟨by unfold vp_in; decide, ?_⟩ <;> conv => whnf)
    | (refine ⟨fun c => ?_, fun c => ?_⟩ <;> first | exact absurd c (by decide) | exact absurd (by decide) c | (conv => whnf))
    | (refine ct_findYears (f := m_ui (m_ui f 181 29 1) 181 39 0) (by omega) z ?_ <;> conv => whnf)
    | fail
  exact H
set_option maxRecDepth 100000 in
set_option maxHeartbeats 4000000 in
theorem m_quarrel {d L : Nat} {f : Nat → Nat → Int32} {g : Nat → Nat → Int64}  {R : Option Value → mH → Prop} (hd : 5 ≤ d) (z : mz f) (h29 : f 181 29 = 0) (H : ∀ f' g', R (some (.int 0)) (shF L, f', g')) : Run mtab d 183 [.ref 181] (shF L, f, g) R := by
  obtain ⟨d, rfl⟩ : ∃ e, d = e + 1 := ⟨d - 1, by omega⟩
  obtain ⟨y1, y2, y3, y4, y5, y6, y7⟩ := id z
  refine go_X11_quarrel rfl ?_
  conv => whnf
  repeat' first
    | (simp only [(show rfF f 181 24 = 0 from rfl)])
    | (refine ⟨by decide, ?_⟩ <;> conv => whnf)
    | (refine ⟨by unfold vp_in; decide, ?_⟩ <;> conv => whnf)
    | (refine ⟨fun c => ?_, fun c => ?_⟩ <;> first | exact absurd c (by decide) | exact absurd (by decide) c | (conv => whnf))
    | (refine ct_refresh (by omega) z h29 ?_ <;> conv => whnf)
    | fail
  exact H _ _
set_option maxRecDepth 100000 in
set_option maxHeartbeats 4000000 in
theorem ct_isWell {d L : Nat} {f : Nat → Nat → Int32} {g : Nat → Nat → Int64} {x : Int32} {R : Option Value → mH → Prop} (hd : 2 ≤ d) (z : mz f) (H : R (some (.int 1)) (shF L, f, g)) : Run mtab d 184 [.ref 181, .int x] (shF L, f, g) R := by
  obtain ⟨d, rfl⟩ : ∃ e, d = e + 1 := ⟨d - 1, by omega⟩
  obtain ⟨y1, y2, y3, y4, y5, y6, y7⟩ := id z
  refine go_X11_isWell rfl ?_
  conv => whnf
  repeat' first
    | exact ⟨Or.inr rfl, H⟩
    | (refine ⟨by decide, ?_⟩ <;> conv => whnf)
    | (refine ⟨by unfold vp_in; decide, ?_⟩ <;> conv => whnf)
    | (refine ⟨fun c => ?_, fun c => ?_⟩ <;> first | exact absurd c (by decide) | exact absurd (by decide) c | (conv => whnf))
    | (refine ct_findLeast (by omega) z ?_ <;> conv => whnf)
    | fail
set_option maxRecDepth 100000 in
set_option maxHeartbeats 4000000 in
theorem ct_mFindAsides {d L : Nat} {f : Nat → Nat → Int32} {g : Nat → Nat → Int64}  {R : Option Value → mH → Prop} (hd : 3 ≤ d) (z : mz f) (H : R (some (.int 0)) (shF L, f, g)) : Run mtab d 186 [.ref 181] (shF L, f, g) R := by
  obtain ⟨d, rfl⟩ : ∃ e, d = e + 1 := ⟨d - 1, by omega⟩
  obtain ⟨y1, y2, y3, y4, y5, y6, y7⟩ := id z
  refine go_X11_findAsides rfl ?_
  conv => whnf
  repeat' first
    | (refine ⟨by decide, ?_⟩ <;> conv => whnf)
    | (refine ⟨by unfold vp_in; decide, ?_⟩ <;> conv => whnf)
    | (refine ⟨fun c => ?_, fun c => ?_⟩ <;> first | exact absurd c (by decide) | exact absurd (by decide) c | (conv => whnf))
    | (refine ct_isWell (by omega) z ?_ <;> conv => whnf)
    | fail
  exact H
set_option maxRecDepth 100000 in
set_option maxHeartbeats 4000000 in
theorem ct_lookAside {d L : Nat} {f : Nat → Nat → Int32} {g : Nat → Nat → Int64}  {R : Option Value → mH → Prop} (hd : 4 ≤ d) (z : mz f) (h29 : f 181 29 = 0) (H : ∀ f' g', R (some (.int 0)) (shF L, f', g')) : Run mtab d 187 [.ref 181] (shF L, f, g) R := by
  obtain ⟨d, rfl⟩ : ∃ e, d = e + 1 := ⟨d - 1, by omega⟩
  obtain ⟨y1, y2, y3, y4, y5, y6, y7⟩ := id z
  refine go_X11_lookAside rfl ?_
  conv => whnf
  repeat' first
    | (refine ⟨by decide, ?_⟩ <;> conv => whnf)
    | (refine ⟨by unfold vp_in; decide, ?_⟩ <;> conv => whnf)
    | (refine ⟨fun c => ?_, fun c => ?_⟩ <;> first | exact absurd c (by decide) | exact absurd (by decide) c | (conv => whnf))
    | (refine ct_refresh (by omega) z h29 ?_ <;> conv => whnf)
    | (refine ct_mFindAsides (f := rfF f) (by omega) z ?_ <;> conv => whnf)
    | (refine ct_findYears (f := rfF f) (by omega) z ?_ <;> conv => whnf)
    | fail
  exact H _ _
set_option maxRecDepth 100000 in
set_option maxHeartbeats 4000000 in
theorem m_asides {d L : Nat} {f : Nat → Nat → Int32} {g : Nat → Nat → Int64}  {R : Option Value → mH → Prop} (hd : 5 ≤ d) (z : mz f) (h29 : f 181 29 = 0) (H : ∀ f' g', R (some (.int 0)) (shF L, f', g')) : Run mtab d 188 [.ref 181] (shF L, f, g) R := by
  obtain ⟨d, rfl⟩ : ∃ e, d = e + 1 := ⟨d - 1, by omega⟩
  obtain ⟨y1, y2, y3, y4, y5, y6, y7⟩ := id z
  refine go_X11_asides rfl ?_
  conv => whnf
  repeat' first
    | (refine ⟨by decide, ?_⟩ <;> conv => whnf)
    | (refine ⟨by unfold vp_in; decide, ?_⟩ <;> conv => whnf)
    | (refine ⟨fun c => ?_, fun c => ?_⟩ <;> first | exact absurd c (by decide) | exact absurd (by decide) c | (conv => whnf))
    | (refine ct_lookAside (by omega) z h29 (fun f1 g1 => ?_) <;> conv => whnf)
    | fail
  exact H _ _
set_option maxRecDepth 100000 in
set_option maxHeartbeats 4000000 in
theorem m_aside {d L : Nat} {f : Nat → Nat → Int32} {g : Nat → Nat → Int64} {x : Int32} {R : Option Value → mH → Prop} (hd : 6 ≤ d) (z : mz f) (h29 : f 181 29 = 0) (H : ∀ f' g', R (some (.int (-1))) (shF L, f', g')) : Run mtab d 189 [.ref 181, .int x] (shF L, f, g) R := by
  obtain ⟨d, rfl⟩ : ∃ e, d = e + 1 := ⟨d - 1, by omega⟩
  obtain ⟨y1, y2, y3, y4, y5, y6, y7⟩ := id z
  refine go_X11_aside rfl ?_
  conv => whnf
  repeat' first
    | (refine ⟨by decide, ?_⟩ <;> conv => whnf)
    | (refine ⟨by unfold vp_in; decide, ?_⟩ <;> conv => whnf)
    | (refine ⟨fun c => ?_, fun c => ?_⟩ <;> first | exact absurd c (by decide) | exact absurd (by decide) c | (conv => whnf))
    | (refine ct_lookAside (by omega) z h29 (fun f1 g1 => ?_) <;> conv => whnf)
    | fail
  all_goals first | exact H _ _ | exact absurd ‹0 ≤ x› c
set_option maxRecDepth 100000 in
set_option maxHeartbeats 4000000 in
theorem m_unhold {d L : Nat} {f : Nat → Nat → Int32} {g : Nat → Nat → Int64}  {R : Option Value → mH → Prop} (hd : 1 ≤ d) (z : mz f) (H : ∀ f' g', R (some (.int (-2))) (shF L, f', g')) : Run mtab d 169 [.ref 181] (shF L, f, g) R := by
  obtain ⟨d, rfl⟩ : ∃ e, d = e + 1 := ⟨d - 1, by omega⟩
  obtain ⟨y1, y2, y3, y4, y5, y6, y7⟩ := id z
  refine go_X11_unhold rfl ?_
  conv => whnf
  repeat' first
    | (simp only [y1, y2, y3, y4, y5, y6, y7])
    | (refine ⟨by decide, ?_⟩ <;> conv => whnf)
    | (refine ⟨by unfold vp_in; decide, ?_⟩ <;> conv => whnf)
    | (refine ⟨fun c => ?_, fun c => ?_⟩ <;> first | exact absurd c (by decide) | exact absurd (by decide) c | (conv => whnf))
    | fail
  exact H _ _
set_option maxRecDepth 100000 in
set_option maxHeartbeats 4000000 in
theorem ct_mfill {d L : Nat} {f : Nat → Nat → Int32} {g : Nat → Nat → Int64}  {R : Option Value → mH → Prop} (hd : 1 ≤ d) (h34 : f 181 34 = 0) (H : R none (shF L, f, g)) : Run mtab d 202 [.ref 181] (shF L, f, g) R := by
  obtain ⟨d, rfl⟩ : ∃ e, d = e + 1 := ⟨d - 1, by omega⟩
  refine go_X11_fillTable rfl ?_
  conv => whnf
  repeat' first
    | (simp only [h34])
    | (refine ⟨by decide, ?_⟩ <;> conv => whnf)
    | (refine ⟨by unfold vp_in; decide, ?_⟩ <;> conv => whnf)
    | (refine ⟨fun c => ?_, fun c => ?_⟩ <;> first | exact absurd c (by decide) | exact absurd (by decide) c | (conv => whnf))
    | (refine at_X11_fillTable ?_ <;> conv => whnf)
    | fail
  exact H
set_option maxRecDepth 100000 in
set_option maxHeartbeats 4000000 in
theorem ct_greatest {d L : Nat} {f : Nat → Nat → Int32} {g : Nat → Nat → Int64}  {R : Option Value → mH → Prop} (hd : 1 ≤ d) (z : mz f) (h34 : f 181 34 = 0) (H : R (some (.int 0)) (shF L, m_ui f 209 0 0, g)) : Run mtab d 200 [.ref 181] (shF L, f, g) R := by
  obtain ⟨d, rfl⟩ : ∃ e, d = e + 1 := ⟨d - 1, by omega⟩
  obtain ⟨y1, y2, y3, y4, y5, y6, y7⟩ := id z
  refine go_X11_greatest rfl ?_
  conv => whnf
  repeat' first
    | (simp only [h34, y1, y2, y3, y4, y5, y6, y7, (show Int32.toNatClampNeg 0 = 0 from rfl), m_ui_ap, m_fil_ap, m_cpy_ap, Nat.reduceEqDiff, Nat.reduceLT, Nat.reduceLeDiff, eq_self, ↓reduceIte, false_and, and_false, true_and, and_true, and_self])
    | (refine ⟨by decide, ?_⟩ <;> conv => whnf)
    | (refine ⟨by unfold vp_in; decide, ?_⟩ <;> conv => whnf)
    | (refine ⟨fun c => ?_, fun c => ?_⟩ <;> first | exact absurd c (by decide) | exact absurd (by decide) c | (conv => whnf))
    | (refine at_X11_greatest ?_ <;> conv => whnf)
    | fail
  exact H
/-- the model's state as far as a join on it goes -/
def mj0 (f : Nat → Nat → Int32) : Prop := mz f ∧ ∀ i, f 206 i = 0
def jeF (f : Nat → Nat → Int32) : Nat → Nat → Int32 := m_ui (m_ui f 181 34 0) 209 0 0
theorem je_j {f : Nat → Nat → Int32} (h : mj0 f) (k : Nat) : mj0 (m_ui (jeF f) 206 k 0) := by
  refine ⟨h.1, fun i => ?_⟩
  show (if i = k then (0 : Int32) else f 206 i) = 0
  rw [h.2 i]
  split <;> rfl
set_option maxRecDepth 100000 in
set_option maxHeartbeats 4000000 in
theorem ct_joinEvent {d L : Nat} {f : Nat → Nat → Int32} {g : Nat → Nat → Int64} {x : Int32} {R : Option Value → mH → Prop} (hd : 2 ≤ d) (z : mz f) (hx : vp_in x 16) (H : R none (shF L, m_ui (jeF f) 206 x.toNatClampNeg 0, g)) : Run mtab d 204 [.ref 181, .int x] (shF L, f, g) R := by
  obtain ⟨d, rfl⟩ : ∃ e, d = e + 1 := ⟨d - 1, by omega⟩
  obtain ⟨y1, y2, y3, y4, y5, y6, y7⟩ := id z
  refine go_X11_joinEvent rfl ?_
  conv => whnf
  repeat' first
    | (refine ⟨hx, ?_⟩ <;> conv => whnf)
    | (exact H)
    | (simp only [y1, y2, y3, y4, y5, y6, y7, m_ui_ap, m_fil_ap, m_cpy_ap, Nat.reduceEqDiff, Nat.reduceLT, Nat.reduceLeDiff, eq_self, ↓reduceIte, false_and, and_false, true_and, and_true, and_self])
    | (refine ⟨by decide, ?_⟩ <;> conv => whnf)
    | (refine ⟨by unfold vp_in; decide, ?_⟩ <;> conv => whnf)
    | (refine ⟨fun c => ?_, fun c => ?_⟩ <;> first | exact absurd c (by decide) | exact absurd (by decide) c | (conv => whnf))
    | (refine at_X11_joinEvent ?_ <;> conv => whnf)
    | (refine ct_mfill (f := m_ui f 181 34 0) (by omega) rfl ?_ <;> conv => whnf)
    | (refine ct_greatest (f := m_ui f 181 34 0) (by omega) z rfl ?_ <;> conv => whnf)
    | fail
set_option maxRecDepth 100000 in
theorem ja_loop2 {d L : Nat} {g : Nat → Nat → Int64} {R : Option Value → mH → Prop} (hd : 2 ≤ d) (H : ∀ f', mj0 f' → R none (shF L, f', g)) :
    ∀ (k i : Nat) (f : Nat → Nat → Int32), i + k = 16 → mj0 f → WPe pg_X11_joinAll none (Run mtab d) R (m_drop pg_X11_joinAll 28) [some (.ref 181), some (.int (nI i))] [] (shF L, f, g)
  | 0, i, f, hi, z => by
    have e : i = 16 := by omega
    subst e
    refine at_X11_joinAll ?_
    conv => whnf
    refine ⟨fun c => ?_, fun c => absurd (by decide) c⟩
    conv => whnf
    exact H f z
  | k + 1, i, f, hi, z => by
    refine at_X11_joinAll ?_
    conv => whnf
    refine ⟨fun c => absurd c (nI_ge (b := 16) (by omega) (by decide)), fun c => ?_⟩
    conv => whnf
    refine ct_joinEvent hd z.1 (vp_in_nI (by omega) (by decide)) ?_
    conv => whnf
    have ih := ja_loop2 hd H k (i + 1) (m_ui (jeF f) 206 (nI i).toNatClampNeg 0) (by omega) (je_j z _)
    rw [nI_succ] at ih
    exact ih
set_option maxRecDepth 100000 in
theorem ja_loop1 {d L : Nat} {g : Nat → Nat → Int64} {R : Option Value → mH → Prop} (hd : 2 ≤ d) (H : ∀ f', mj0 f' → R none (shF L, f', g)) :
    ∀ (k i : Nat) (f : Nat → Nat → Int32), i + k = 50 → mj0 f → WPe pg_X11_joinAll none (Run mtab d) R (m_drop pg_X11_joinAll 11) [some (.ref 181), some (.int (nI i))] [] (shF L, f, g)
  | 0, i, f, hi, z => by
    have e : i = 50 := by omega
    subst e
    refine at_X11_joinAll ?_
    conv => whnf
    refine ⟨fun c => ?_, fun c => absurd (by decide) c⟩
    conv => whnf
    exact ja_loop2 hd H 16 0 f (by omega) z
  | k + 1, i, f, hi, z => by
    refine at_X11_joinAll ?_
    conv => whnf
    refine ⟨fun c => absurd c (nI_ge (b := 50) (by omega) (by decide)), fun c => ?_⟩
    conv => whnf
    refine ⟨vp_in_nI (by omega) (by decide), ?_⟩
    conv => whnf
    refine ⟨vp_in_nI (by omega) (by decide), ?_⟩
    conv => whnf
    have ih := fun a b c e => ja_loop1 hd H k (i + 1) (m_ui (m_ui f 204 a b) 205 c e) (by omega) ⟨z.1, z.2⟩
    rw [nI_succ] at ih
    exact ih _ _ _ _
set_option maxRecDepth 100000 in
set_option maxHeartbeats 4000000 in
theorem ct_joinAll {d L : Nat} {f : Nat → Nat → Int32} {g : Nat → Nat → Int64}  {R : Option Value → mH → Prop} (hd : 4 ≤ d) (z : mz f) (h29 : f 181 29 = 0) (hs : ∀ i, f 206 i = 0) (H : ∀ f', mj0 f' → R none (shF L, f', g)) : Run mtab d 207 [.ref 181] (shF L, f, g) R := by
  obtain ⟨d, rfl⟩ : ∃ e, d = e + 1 := ⟨d - 1, by omega⟩
  obtain ⟨y1, y2, y3, y4, y5, y6, y7⟩ := id z
  refine go_X11_joinAll rfl ?_
  conv => whnf
  repeat' first
    | exact ja_loop1 (by omega) H 50 0 (m_ui (rfF f) 181 39 1) (by omega) ⟨z, hs⟩
    | (simp only [(show rfF f 181 39 = 0 from rfl)])
    | (refine ⟨by decide, ?_⟩ <;> conv => whnf)
    | (refine ⟨by unfold vp_in; decide, ?_⟩ <;> conv => whnf)
    | (refine ⟨fun c => ?_, fun c => ?_⟩ <;> first | exact absurd c (by decide) | exact absurd (by decide) c | (conv => whnf))
    | (refine ct_refresh (by omega) z h29 ?_ <;> conv => whnf)
    | fail
set_option maxRecDepth 100000 in
set_option maxHeartbeats 4000000 in
theorem m_sum {d L : Nat} {f : Nat → Nat → Int32} {g : Nat → Nat → Int64} {x : Int32} {R : Option Value → mH → Prop} (hd : 6 ≤ d) (z : mz f) (h29 : f 181 29 = 0) (hs : ∀ i, f 206 i = 0) (H : ∀ v f' g', v2 (inr 0 15 x) 0 (-1) v → R (some (.int v)) (shF L, f', g')) : Run mtab d 210 [.ref 181, .int x] (shF L, f, g) R := by
  obtain ⟨d, rfl⟩ : ∃ e, d = e + 1 := ⟨d - 1, by omega⟩
  obtain ⟨y1, y2, y3, y4, y5, y6, y7⟩ := id z
  refine go_X11_sum rfl ?_
  conv => whnf
  repeat' first
    | (refine ⟨vpi ‹inr 0 15 x› (by decide), ?_⟩ <;> conv => whnf)
    | (simp only [j1.2])
    | (refine ⟨by decide, ?_⟩ <;> conv => whnf)
    | (refine ⟨by unfold vp_in; decide, ?_⟩ <;> conv => whnf)
    | (refine ⟨fun c => ?_, fun c => ?_⟩ <;> first | exact absurd c (by decide) | exact absurd (by decide) c | (conv => whnf))
    | (refine ct_in (by omega) rfl (lo := 0) rfl (hi := 15) rfl (fun p => ?_) (fun p => ?_) <;> conv => whnf)
    | (refine ct_joinAll (by omega) z h29 hs (fun f1 j1 => ?_) <;> conv => whnf)
    | fail
  all_goals first | exact H _ _ _ (v2_y (by grind)) | exact H _ _ _ (v2_n (by grind))
set_option maxRecDepth 100000 in
set_option maxHeartbeats 4000000 in
theorem m_mentions {d L : Nat} {f : Nat → Nat → Int32} {g : Nat → Nat → Int64} {x : Int32} {R : Option Value → mH → Prop} (hd : 6 ≤ d) (z : mz f) (h29 : f 181 29 = 0) (hs : ∀ i, f 206 i = 0) (H : ∀ v f' g', v2 (inr 0 2 x) 0 (-1) v → R (some (.int v)) (shF L, f', g')) : Run mtab d 211 [.ref 181, .int x] (shF L, f, g) R := by
  obtain ⟨d, rfl⟩ : ∃ e, d = e + 1 := ⟨d - 1, by omega⟩
  obtain ⟨y1, y2, y3, y4, y5, y6, y7⟩ := id z
  refine go_X11_mentions rfl ?_
  conv => whnf
  repeat' first
    | (simp only [j1.1.2.2.2.1])
    | (refine ⟨by decide, ?_⟩ <;> conv => whnf)
    | (refine ⟨by unfold vp_in; decide, ?_⟩ <;> conv => whnf)
    | (refine ⟨fun c => ?_, fun c => ?_⟩ <;> first | exact absurd c (by decide) | exact absurd (by decide) c | (conv => whnf))
    | (refine at_X11_mentions ?_ <;> conv => whnf)
    | (refine ct_in (by omega) rfl (lo := 0) rfl (hi := 2) rfl (fun p => ?_) (fun p => ?_) <;> conv => whnf)
    | (refine ct_joinAll (by omega) z h29 hs (fun f1 j1 => ?_) <;> conv => whnf)
    | fail
  all_goals first | exact H _ _ _ (v2_y (by grind)) | exact H _ _ _ (v2_n (by grind))
set_option maxRecDepth 100000 in
set_option maxHeartbeats 4000000 in
theorem m_counted {d L : Nat} {f : Nat → Nat → Int32} {g : Nat → Nat → Int64} {x y w : Int32} {R : Option Value → mH → Prop} (hd : 6 ≤ d) (z : mz f) (h29 : f 181 29 = 0) (hs : ∀ i, f 206 i = 0) (H : ∀ v f' g', v3 (inr 0 2 x ∧ inr 0 2 y ∧ ¬ x = y ∧ inr 0 4 w) (w = 3) (-1) (-4) 0 v → R (some (.int v)) (shF L, f', g')) : Run mtab d 213 [.ref 181, .int x, .int y, .int w] (shF L, f, g) R := by
  obtain ⟨d, rfl⟩ : ∃ e, d = e + 1 := ⟨d - 1, by omega⟩
  obtain ⟨y1, y2, y3, y4, y5, y6, y7⟩ := id z
  refine go_X11_counted rfl ?_
  conv => whnf
  repeat' first
    | (simp only [j1.1.1])
    | (refine ⟨by decide, ?_⟩ <;> conv => whnf)
    | (refine ⟨by unfold vp_in; decide, ?_⟩ <;> conv => whnf)
    | (refine ⟨fun c => ?_, fun c => ?_⟩ <;> first | exact absurd c (by decide) | exact absurd (by decide) c | (conv => whnf))
    | (refine at_X11_counted ?_ <;> conv => whnf)
    | (refine ct_in (by omega) rfl (lo := 0) rfl (hi := 2) rfl (fun p => ?_) (fun p => ?_) <;> conv => whnf)
    | (refine ct_in (by omega) rfl (lo := 0) rfl (hi := 4) rfl (fun p => ?_) (fun p => ?_) <;> conv => whnf)
    | (refine ct_joinAll (by omega) z h29 hs (fun f1 j1 => ?_) <;> conv => whnf)
    | fail
  all_goals first | exact H _ _ _ (v3_n (by first | grind | (have := @inr_c4 w; grind))) | exact H _ _ _ (v3_y (by first | grind | (have := @inr_c4 w; grind)) (by first | grind | (have := @inr_c4 w; grind))) | exact H _ _ _ (v3_z (by first | grind | (have := @inr_c4 w; grind)) (by first | grind | (have := @inr_c4 w; grind)))
