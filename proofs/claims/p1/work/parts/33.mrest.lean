set_option maxRecDepth 100000 in
set_option maxHeartbeats 4000000 in
theorem ct_findCounting {d L : Nat} {f : Nat → Nat → Int32} {g : Nat → Nat → Int64}  {R : Option Value → mH → Prop} (hd : 1 ≤ d) (z : mz f) (H : R (some (.int 0)) (shF L, f, g)) : Run mtab d 178 [.ref 181] (shF L, f, g) R := by
  obtain ⟨d, rfl⟩ : ∃ e, d = e + 1 := ⟨d - 1, by omega⟩
  obtain ⟨y1, y2, y3, y4, y5, y6, y7⟩ := id z
  refine go_X11_findCounting rfl ?_
  conv => whnf
  repeat' first
    | (simp only [y1, y2, y3, y4, y5, y6, y7])
    | (refine ⟨by decide, ?_⟩ <;> conv => whnf)
    | (refine ⟨by unfold vp_in; decide, ?_⟩ <;> conv => whnf)
    | (refine ⟨fun c => ?_, fun c => ?_⟩ <;> first | exact absurd c (by decide) | exact absurd (by decide) c | (conv => whnf))
    | (refine at_X11_findCounting ?_ <;> conv => whnf)
    | fail
  exact H
set_option maxRecDepth 100000 in
set_option maxHeartbeats 4000000 in
theorem ct_findLeast {d L : Nat} {f : Nat → Nat → Int32} {g : Nat → Nat → Int64} {x : Int32} {R : Option Value → mH → Prop} (hd : 1 ≤ d) (z : mz f) (H : R (some (.int 1)) (shF L, f, g)) : Run mtab d 179 [.ref 181, .int x] (shF L, f, g) R := by
  obtain ⟨d, rfl⟩ : ∃ e, d = e + 1 := ⟨d - 1, by omega⟩
  obtain ⟨y1, y2, y3, y4, y5, y6, y7⟩ := id z
  refine go_X11_findLeast rfl ?_
  conv => whnf
  repeat' first
    | (simp only [y1, y2, y3, y4, y5, y6, y7])
    | (refine ⟨by decide, ?_⟩ <;> conv => whnf)
    | (refine ⟨by unfold vp_in; decide, ?_⟩ <;> conv => whnf)
    | (refine ⟨fun c => ?_, fun c => ?_⟩ <;> first | exact absurd c (by decide) | exact absurd (by decide) c | (conv => whnf))
    | (refine at_X11_findLeast ?_ <;> conv => whnf)
    | fail
  exact H
set_option maxRecDepth 100000 in
set_option maxHeartbeats 4000000 in
theorem ct_findMost {d L : Nat} {f : Nat → Nat → Int32} {g : Nat → Nat → Int64} {x : Int32} {R : Option Value → mH → Prop} (hd : 1 ≤ d) (z : mz f) (H : R none (shF L, f, g)) : Run mtab d 180 [.ref 181, .int x] (shF L, f, g) R := by
  obtain ⟨d, rfl⟩ : ∃ e, d = e + 1 := ⟨d - 1, by omega⟩
  obtain ⟨y1, y2, y3, y4, y5, y6, y7⟩ := id z
  refine go_X11_findMost rfl ?_
  conv => whnf
  repeat' first
    | (simp only [y1, y2, y3, y4, y5, y6, y7])
    | (refine ⟨by decide, ?_⟩ <;> conv => whnf)
    | (refine ⟨by unfold vp_in; decide, ?_⟩ <;> conv => whnf)
    | (refine ⟨fun c => ?_, fun c => ?_⟩ <;> first | exact absurd c (by decide) | exact absurd (by decide) c | (conv => whnf))
    | (refine at_X11_findMost ?_ <;> conv => whnf)
    | fail
  exact H
def fyF (f : Nat → Nat → Int32) : Nat → Nat → Int32 := m_ui (m_ui f 181 21 0) 181 24 0
def rfF (f : Nat → Nat → Int32) : Nat → Nat → Int32 := fyF (m_ui (m_ui f 181 29 1) 181 39 0)
set_option maxRecDepth 100000 in
set_option maxHeartbeats 4000000 in
theorem ct_findYears {d L : Nat} {f : Nat → Nat → Int32} {g : Nat → Nat → Int64}  {R : Option Value → mH → Prop} (hd : 2 ≤ d) (z : mz f) (H : R none (shF L, fyF f, g)) : Run mtab d 181 [.ref 181] (shF L, f, g) R := by
  obtain ⟨d, rfl⟩ : ∃ e, d = e + 1 := ⟨d - 1, by omega⟩
  obtain ⟨y1, y2, y3, y4, y5, y6, y7⟩ := id z
  refine go_X11_findYears rfl ?_
  conv => whnf
  repeat' first
    | (simp only [m_ui_ap, m_fil_ap, m_cpy_ap, Nat.reduceEqDiff, Nat.reduceLT, Nat.reduceLeDiff, eq_self, ↓reduceIte, false_and, and_false, true_and, and_true, and_self])
    | (refine ⟨by decide, ?_⟩ <;> conv => whnf)
    | (refine ⟨by unfold vp_in; decide, ?_⟩ <;> conv => whnf)
    | (refine ⟨fun c => ?_, fun c => ?_⟩ <;> first | exact absurd c (by decide) | exact absurd (by decide) c | (conv => whnf))
    | (refine ct_findCounting (by omega) z ?_ <;> conv => whnf)
    | (refine ct_findLeast (f := m_ui f 181 21 0) (by omega) z ?_ <;> conv => whnf)
    | (refine ct_findMost (f := fyF f) (by omega) z ?_ <;> conv => whnf)
    | fail
  exact H
set_option maxRecDepth 100000 in
set_option maxHeartbeats 4000000 in
theorem ct_refresh {d L : Nat} {f : Nat → Nat → Int32} {g : Nat → Nat → Int64}  {R : Option Value → mH → Prop} (hd : 3 ≤ d) (z : mz f) (h29 : f 181 29 = 0) (H : R none (shF L, rfF f, g)) : Run mtab d 206 [.ref 181] (shF L, f, g) R := by
  obtain ⟨d, rfl⟩ : ∃ e, d = e + 1 := ⟨d - 1, by omega⟩
  obtain ⟨y1, y2, y3, y4, y5, y6, y7⟩ := id z
  refine go_X11_refresh rfl ?_
  conv => whnf
  repeat' first
    | (simp only [h29])
    | (refine ⟨by decide, ?_⟩ <;> conv => whnf)
    | (refine ⟨by unfold vp_in; decide, ?_⟩ <;> conv => whnf)
    | (refine ⟨fun c => ?_, fun c => ?_⟩ <;> first | exact absurd c (by decide) | exact absurd (by decide) c | (conv => whnf))
    | (refine ct_findYears (f := m_ui (m_ui f 181 29 1) 181 39 0) (by omega) z ?_ <;> conv => whnf)
    | fail
  exact H
set_option maxRecDepth 100000 in
set_option maxHeartbeats 4000000 in
theorem m_quarrel {d L : Nat} {f : Nat → Nat → Int32} {g : Nat → Nat → Int64}  {R : Option Value → mH → Prop} (hd : 5 ≤ d) (z : mz f) (h29 : f 181 29 = 0) (H : ∀ h', R (some (.int 0)) h') : Run mtab d 183 [.ref 181] (shF L, f, g) R := by
  obtain ⟨d, rfl⟩ : ∃ e, d = e + 1 := ⟨d - 1, by omega⟩
  obtain ⟨y1, y2, y3, y4, y5, y6, y7⟩ := id z
  refine go_X11_quarrel rfl ?_
  conv => whnf
  repeat' first
    | (simp only [(show rfF f 181 24 = 0 from rfl)])
    | (refine ⟨by decide, ?_⟩ <;> conv => whnf)
    | (refine ⟨by unfold vp_in; decide, ?_⟩ <;> conv => whnf)
    | (refine ⟨fun c => ?_, fun c => ?_⟩ <;> first | exact absurd c (by decide) | exact absurd (by decide) c | (conv => whnf))
    | (refine ct_refresh (by omega) z h29 ?_ <;> conv => whnf)
    | fail
  exact H _
set_option maxRecDepth 100000 in
set_option maxHeartbeats 4000000 in
theorem ct_isWell {d L : Nat} {f : Nat → Nat → Int32} {g : Nat → Nat → Int64} {x : Int32} {R : Option Value → mH → Prop} (hd : 2 ≤ d) (z : mz f) (H : R (some (.int 1)) (shF L, f, g)) : Run mtab d 184 [.ref 181, .int x] (shF L, f, g) R := by
  obtain ⟨d, rfl⟩ : ∃ e, d = e + 1 := ⟨d - 1, by omega⟩
  obtain ⟨y1, y2, y3, y4, y5, y6, y7⟩ := id z
  refine go_X11_isWell rfl ?_
  conv => whnf
  repeat' first
    | exact ⟨Or.inr rfl, H⟩
    | (refine ⟨by decide, ?_⟩ <;> conv => whnf)
    | (refine ⟨by unfold vp_in; decide, ?_⟩ <;> conv => whnf)
    | (refine ⟨fun c => ?_, fun c => ?_⟩ <;> first | exact absurd c (by decide) | exact absurd (by decide) c | (conv => whnf))
    | (refine ct_findLeast (by omega) z ?_ <;> conv => whnf)
    | fail
set_option maxRecDepth 100000 in
set_option maxHeartbeats 4000000 in
theorem ct_mFindAsides {d L : Nat} {f : Nat → Nat → Int32} {g : Nat → Nat → Int64}  {R : Option Value → mH → Prop} (hd : 3 ≤ d) (z : mz f) (H : R (some (.int 0)) (shF L, f, g)) : Run mtab d 186 [.ref 181] (shF L, f, g) R := by
  obtain ⟨d, rfl⟩ : ∃ e, d = e + 1 := ⟨d - 1, by omega⟩
  obtain ⟨y1, y2, y3, y4, y5, y6, y7⟩ := id z
  refine go_X11_findAsides rfl ?_
  conv => whnf
  repeat' first
    | (refine ⟨by decide, ?_⟩ <;> conv => whnf)
    | (refine ⟨by unfold vp_in; decide, ?_⟩ <;> conv => whnf)
    | (refine ⟨fun c => ?_, fun c => ?_⟩ <;> first | exact absurd c (by decide) | exact absurd (by decide) c | (conv => whnf))
    | (refine ct_isWell (by omega) z ?_ <;> conv => whnf)
    | fail
  exact H
set_option maxRecDepth 100000 in
set_option maxHeartbeats 4000000 in
theorem ct_lookAside {d L : Nat} {f : Nat → Nat → Int32} {g : Nat → Nat → Int64}  {R : Option Value → mH → Prop} (hd : 4 ≤ d) (z : mz f) (h29 : f 181 29 = 0) (H : ∀ h', R (some (.int 0)) h') : Run mtab d 187 [.ref 181] (shF L, f, g) R := by
  obtain ⟨d, rfl⟩ : ∃ e, d = e + 1 := ⟨d - 1, by omega⟩
  obtain ⟨y1, y2, y3, y4, y5, y6, y7⟩ := id z
  refine go_X11_lookAside rfl ?_
  conv => whnf
  repeat' first
    | (refine ⟨by decide, ?_⟩ <;> conv => whnf)
    | (refine ⟨by unfold vp_in; decide, ?_⟩ <;> conv => whnf)
    | (refine ⟨fun c => ?_, fun c => ?_⟩ <;> first | exact absurd c (by decide) | exact absurd (by decide) c | (conv => whnf))
    | (refine ct_refresh (by omega) z h29 ?_ <;> conv => whnf)
    | (refine ct_mFindAsides (f := rfF f) (by omega) z ?_ <;> conv => whnf)
    | (refine ct_findYears (f := rfF f) (by omega) z ?_ <;> conv => whnf)
    | fail
  exact H _
set_option maxRecDepth 100000 in
set_option maxHeartbeats 4000000 in
theorem m_asides {d L : Nat} {f : Nat → Nat → Int32} {g : Nat → Nat → Int64}  {R : Option Value → mH → Prop} (hd : 5 ≤ d) (z : mz f) (h29 : f 181 29 = 0) (H : ∀ h', R (some (.int 0)) h') : Run mtab d 188 [.ref 181] (shF L, f, g) R := by
  obtain ⟨d, rfl⟩ : ∃ e, d = e + 1 := ⟨d - 1, by omega⟩
  obtain ⟨y1, y2, y3, y4, y5, y6, y7⟩ := id z
  refine go_X11_asides rfl ?_
  conv => whnf
  repeat' first
    | (refine ⟨by decide, ?_⟩ <;> conv => whnf)
    | (refine ⟨by unfold vp_in; decide, ?_⟩ <;> conv => whnf)
    | (refine ⟨fun c => ?_, fun c => ?_⟩ <;> first | exact absurd c (by decide) | exact absurd (by decide) c | (conv => whnf))
    | (refine ct_lookAside (by omega) z h29 (fun h' => ?_) <;> conv => whnf)
    | fail
  exact H _
