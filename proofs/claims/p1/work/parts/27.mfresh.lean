/-- the model's counts are 0 -/
def mz (f : Nat → Nat → Int32) : Prop := f 181 0 = 0 ∧ f 181 14 = 0 ∧ f 181 16 = 0 ∧ f 181 27 = 0 ∧ f 181 46 = 0 ∧ f 181 48 = 0 ∧ f 181 50 = 0
set_option maxRecDepth 100000 in
theorem ct_mIsWork {d L : Nat} {f : Nat → Nat → Int32} {g : Nat → Nat → Int64} {w : Int32} {R : Option Value → mH → Prop} (hd : 2 ≤ d) (z : mz f) (H0 : R (some (.int 0)) (shF L, f, g)) : Run mtab d 150 [.ref 181, .int w] (shF L, f, g) R := by
  obtain ⟨d, rfl⟩ : ∃ e, d = e + 1 := ⟨d - 1, by omega⟩
  obtain ⟨y1, y2, y3, y4, y5, y6, y7⟩ := id z
  refine go_X11_isWork rfl ?_
  conv => whnf
  refine ct_in (by omega) rfl (lo := 0) rfl (hi := f 181 0 - 1) rfl (fun p => ?_) (fun p => ?_)
  · rw [y1] at p
    exact absurd p (inr_none w)
  · conv => whnf
    exact ⟨Or.inl rfl, H0⟩
set_option maxRecDepth 100000 in
theorem ct_mIsMention {d L : Nat} {f : Nat → Nat → Int32} {g : Nat → Nat → Int64} {w : Int32} {R : Option Value → mH → Prop} (hd : 2 ≤ d) (z : mz f) (H0 : R (some (.int 0)) (shF L, f, g)) : Run mtab d 196 [.ref 181, .int w] (shF L, f, g) R := by
  obtain ⟨d, rfl⟩ : ∃ e, d = e + 1 := ⟨d - 1, by omega⟩
  obtain ⟨y1, y2, y3, y4, y5, y6, y7⟩ := id z
  refine go_X11_isMention rfl ?_
  conv => whnf
  refine ct_in (by omega) rfl (lo := 0) rfl (hi := f 181 27 - 1) rfl (fun p => ?_) (fun p => ?_)
  · rw [y4] at p
    exact absurd p (inr_none w)
  · conv => whnf
    exact ⟨Or.inl rfl, H0⟩
set_option maxRecDepth 100000 in
theorem ct_mIsHolding {d L : Nat} {f : Nat → Nat → Int32} {g : Nat → Nat → Int64} {x1 x2 x3 x4 x5 x6 : Int32} {R : Option Value → mH → Prop} (hd : 3 ≤ d) (z : mz f) (H0 : R (some (.int 0)) (shF L, f, g)) : Run mtab d 166 [.ref 181, .int x1, .int x2, .int x3, .int x4, .int x5, .int x6] (shF L, f, g) R := by
  obtain ⟨d, rfl⟩ : ∃ e, d = e + 1 := ⟨d - 1, by omega⟩
  obtain ⟨y1, y2, y3, y4, y5, y6, y7⟩ := id z
  refine go_X11_isHolding rfl ?_
  conv => whnf
  repeat' first
    | (refine ⟨fun c => ?_, fun c => ?_⟩ <;> first | exact absurd c (by decide) | exact absurd (by decide) c | (conv => whnf))
    | (refine ct_mIsWork (by omega) z ?_ <;> conv => whnf)
    | (refine ct_mIsMention (by omega) z ?_ <;> conv => whnf)
    | (refine ct_mIsYear (by omega) (fun p => ?_) (fun p => ?_) <;> conv => whnf)
  all_goals exact ⟨Or.inl rfl, H0⟩
set_option maxRecDepth 100000 in
theorem m_version {d L : Nat} {f : Nat → Nat → Int32} {g : Nat → Nat → Int64} {x1 x2 x3 x4 x5 x6 : Int32} {R : Option Value → mH → Prop} (hd : 5 ≤ d) (z : mz f) (H : R (some (.int (-1))) (shF L, f, g)) : Run mtab d 155 [.ref 181, .int x1, .int x2, .int x3, .int x4, .int x5, .int x6] (shF L, f, g) R := by
  obtain ⟨d, rfl⟩ : ∃ e, d = e + 1 := ⟨d - 1, by omega⟩
  obtain ⟨y1, y2, y3, y4, y5, y6, y7⟩ := id z
  refine go_X11_version rfl ?_
  conv => whnf
  repeat' first
    | (refine ⟨fun c => ?_, fun c => ?_⟩ <;> first | exact absurd c (by decide) | exact absurd (by decide) c | (conv => whnf))
    | (refine ct_mIsWork (by omega) z ?_ <;> conv => whnf)
    | (refine ct_mIsMention (by omega) z ?_ <;> conv => whnf)
  all_goals exact H
set_option maxRecDepth 100000 in
theorem m_print {d L : Nat} {f : Nat → Nat → Int32} {g : Nat → Nat → Int64} {x1 x2 x3 x4 x5 x6 x7 : Int32} {R : Option Value → mH → Prop} (hd : 5 ≤ d) (z : mz f) (H : R (some (.int (-1))) (shF L, f, g)) : Run mtab d 156 [.ref 181, .int x1, .int x2, .int x3, .int x4, .int x5, .int x6, .int x7] (shF L, f, g) R := by
  obtain ⟨d, rfl⟩ : ∃ e, d = e + 1 := ⟨d - 1, by omega⟩
  obtain ⟨y1, y2, y3, y4, y5, y6, y7⟩ := id z
  refine go_X11_print rfl ?_
  conv => whnf
  repeat' first
    | (refine ⟨fun c => ?_, fun c => ?_⟩ <;> first | exact absurd c (by decide) | exact absurd (by decide) c | (conv => whnf))
    | (refine ct_mIsWork (by omega) z ?_ <;> conv => whnf)
    | (refine ct_mIsMention (by omega) z ?_ <;> conv => whnf)
  all_goals exact H
set_option maxRecDepth 100000 in
theorem m_retitle {d L : Nat} {f : Nat → Nat → Int32} {g : Nat → Nat → Int64} {x1 x2 x3 : Int32} {R : Option Value → mH → Prop} (hd : 5 ≤ d) (z : mz f) (H : R (some (.int (-1))) (shF L, f, g)) : Run mtab d 157 [.ref 181, .int x1, .int x2, .int x3] (shF L, f, g) R := by
  obtain ⟨d, rfl⟩ : ∃ e, d = e + 1 := ⟨d - 1, by omega⟩
  obtain ⟨y1, y2, y3, y4, y5, y6, y7⟩ := id z
  refine go_X11_retitle rfl ?_
  conv => whnf
  repeat' first
    | (refine ⟨fun c => ?_, fun c => ?_⟩ <;> first | exact absurd c (by decide) | exact absurd (by decide) c | (conv => whnf))
    | (refine ct_mIsWork (by omega) z ?_ <;> conv => whnf)
    | (refine ct_mIsMention (by omega) z ?_ <;> conv => whnf)
  all_goals exact H
set_option maxRecDepth 100000 in
theorem m_cut {d L : Nat} {f : Nat → Nat → Int32} {g : Nat → Nat → Int64} {x1 x2 x3 x4 : Int32} {R : Option Value → mH → Prop} (hd : 5 ≤ d) (z : mz f) (H : R (some (.int (-1))) (shF L, f, g)) : Run mtab d 158 [.ref 181, .int x1, .int x2, .int x3, .int x4] (shF L, f, g) R := by
  obtain ⟨d, rfl⟩ : ∃ e, d = e + 1 := ⟨d - 1, by omega⟩
  obtain ⟨y1, y2, y3, y4, y5, y6, y7⟩ := id z
  refine go_X11_cut rfl ?_
  conv => whnf
  repeat' first
    | (refine ⟨fun c => ?_, fun c => ?_⟩ <;> first | exact absurd c (by decide) | exact absurd (by decide) c | (conv => whnf))
    | (refine ct_mIsWork (by omega) z ?_ <;> conv => whnf)
    | (refine ct_mIsMention (by omega) z ?_ <;> conv => whnf)
  all_goals exact H
set_option maxRecDepth 100000 in
theorem m_told {d L : Nat} {f : Nat → Nat → Int32} {g : Nat → Nat → Int64} {x1 x2 : Int32} {R : Option Value → mH → Prop} (hd : 5 ≤ d) (z : mz f) (H : R (some (.int (-1))) (shF L, f, g)) : Run mtab d 159 [.ref 181, .int x1, .int x2] (shF L, f, g) R := by
  obtain ⟨d, rfl⟩ : ∃ e, d = e + 1 := ⟨d - 1, by omega⟩
  obtain ⟨y1, y2, y3, y4, y5, y6, y7⟩ := id z
  refine go_X11_told rfl ?_
  conv => whnf
  repeat' first
    | (refine ⟨fun c => ?_, fun c => ?_⟩ <;> first | exact absurd c (by decide) | exact absurd (by decide) c | (conv => whnf))
    | (refine ct_mIsWork (by omega) z ?_ <;> conv => whnf)
    | (refine ct_mIsMention (by omega) z ?_ <;> conv => whnf)
  all_goals exact H
set_option maxRecDepth 100000 in
theorem m_then {d L : Nat} {f : Nat → Nat → Int32} {g : Nat → Nat → Int64} {x1 x2 x3 : Int32} {R : Option Value → mH → Prop} (hd : 5 ≤ d) (z : mz f) (H : R (some (.int (-1))) (shF L, f, g)) : Run mtab d 164 [.ref 181, .int x1, .int x2, .int x3] (shF L, f, g) R := by
  obtain ⟨d, rfl⟩ : ∃ e, d = e + 1 := ⟨d - 1, by omega⟩
  obtain ⟨y1, y2, y3, y4, y5, y6, y7⟩ := id z
  refine go_X11_then rfl ?_
  conv => whnf
  repeat' first
    | (refine ⟨fun c => ?_, fun c => ?_⟩ <;> first | exact absurd c (by decide) | exact absurd (by decide) c | (conv => whnf))
    | (refine ct_mIsWork (by omega) z ?_ <;> conv => whnf)
    | (refine ct_mIsMention (by omega) z ?_ <;> conv => whnf)
  all_goals exact H
set_option maxRecDepth 100000 in
theorem m_turned {d L : Nat} {f : Nat → Nat → Int32} {g : Nat → Nat → Int64} {x1 : Int32} {R : Option Value → mH → Prop} (hd : 5 ≤ d) (z : mz f) (H : R (some (.int (-1))) (shF L, f, g)) : Run mtab d 165 [.ref 181, .int x1] (shF L, f, g) R := by
  obtain ⟨d, rfl⟩ : ∃ e, d = e + 1 := ⟨d - 1, by omega⟩
  obtain ⟨y1, y2, y3, y4, y5, y6, y7⟩ := id z
  refine go_X11_turned rfl ?_
  conv => whnf
  repeat' first
    | (refine ⟨fun c => ?_, fun c => ?_⟩ <;> first | exact absurd c (by decide) | exact absurd (by decide) c | (conv => whnf))
    | (refine ct_mIsWork (by omega) z ?_ <;> conv => whnf)
    | (refine ct_mIsMention (by omega) z ?_ <;> conv => whnf)
  all_goals exact H
set_option maxRecDepth 100000 in
theorem m_holding {d L : Nat} {f : Nat → Nat → Int32} {g : Nat → Nat → Int64} {x1 x2 x3 x4 x5 x6 : Int32} {R : Option Value → mH → Prop} (hd : 5 ≤ d) (z : mz f) (H : R (some (.int (-1))) (shF L, f, g)) : Run mtab d 168 [.ref 181, .int x1, .int x2, .int x3, .int x4, .int x5, .int x6] (shF L, f, g) R := by
  obtain ⟨d, rfl⟩ : ∃ e, d = e + 1 := ⟨d - 1, by omega⟩
  obtain ⟨y1, y2, y3, y4, y5, y6, y7⟩ := id z
  refine go_X11_holding rfl ?_
  conv => whnf
  repeat' first
    | (refine ⟨fun c => ?_, fun c => ?_⟩ <;> first | exact absurd c (by decide) | exact absurd (by decide) c | (conv => whnf))
    | (refine ct_mIsHolding (by omega) z ?_ <;> conv => whnf)
    | (refine ct_mIsWork (by omega) z ?_ <;> conv => whnf)
    | (refine ct_mIsMention (by omega) z ?_ <;> conv => whnf)
  all_goals exact H
set_option maxRecDepth 100000 in
theorem m_owner {d L : Nat} {f : Nat → Nat → Int32} {g : Nat → Nat → Int64} {x1 x2 : Int32} {R : Option Value → mH → Prop} (hd : 5 ≤ d) (z : mz f) (H : R (some (.int (-1))) (shF L, f, g)) : Run mtab d 172 [.ref 181, .int x1, .int x2] (shF L, f, g) R := by
  obtain ⟨d, rfl⟩ : ∃ e, d = e + 1 := ⟨d - 1, by omega⟩
  obtain ⟨y1, y2, y3, y4, y5, y6, y7⟩ := id z
  refine go_X11_owner rfl ?_
  conv => whnf
  repeat' first
    | (refine ⟨fun c => ?_, fun c => ?_⟩ <;> first | exact absurd c (by decide) | exact absurd (by decide) c | (conv => whnf))
    | (refine ct_mIsWork (by omega) z ?_ <;> conv => whnf)
    | (refine ct_mIsMention (by omega) z ?_ <;> conv => whnf)
  all_goals exact H
set_option maxRecDepth 100000 in
theorem m_may {d L : Nat} {f : Nat → Nat → Int32} {g : Nat → Nat → Int64} {x1 x2 : Int32} {R : Option Value → mH → Prop} (hd : 5 ≤ d) (z : mz f) (H : R (some (.int (-1))) (shF L, f, g)) : Run mtab d 173 [.ref 181, .int x1, .int x2] (shF L, f, g) R := by
  obtain ⟨d, rfl⟩ : ∃ e, d = e + 1 := ⟨d - 1, by omega⟩
  obtain ⟨y1, y2, y3, y4, y5, y6, y7⟩ := id z
  refine go_X11_may rfl ?_
  conv => whnf
  repeat' first
    | (refine ⟨fun c => ?_, fun c => ?_⟩ <;> first | exact absurd c (by decide) | exact absurd (by decide) c | (conv => whnf))
    | (refine ct_mIsWork (by omega) z ?_ <;> conv => whnf)
    | (refine ct_mIsMention (by omega) z ?_ <;> conv => whnf)
  all_goals exact H
set_option maxRecDepth 100000 in
theorem m_twice {d L : Nat} {f : Nat → Nat → Int32} {g : Nat → Nat → Int64} {x1 : Int32} {R : Option Value → mH → Prop} (hd : 5 ≤ d) (z : mz f) (H : R (some (.int (-1))) (shF L, f, g)) : Run mtab d 174 [.ref 181, .int x1] (shF L, f, g) R := by
  obtain ⟨d, rfl⟩ : ∃ e, d = e + 1 := ⟨d - 1, by omega⟩
  obtain ⟨y1, y2, y3, y4, y5, y6, y7⟩ := id z
  refine go_X11_twice rfl ?_
  conv => whnf
  repeat' first
    | (refine ⟨fun c => ?_, fun c => ?_⟩ <;> first | exact absurd c (by decide) | exact absurd (by decide) c | (conv => whnf))
    | (refine ct_mIsWork (by omega) z ?_ <;> conv => whnf)
    | (refine ct_mIsMention (by omega) z ?_ <;> conv => whnf)
  all_goals exact H
set_option maxRecDepth 100000 in
theorem m_gap {d L : Nat} {f : Nat → Nat → Int32} {g : Nat → Nat → Int64} {x1 x2 : Int32} {R : Option Value → mH → Prop} (hd : 5 ≤ d) (z : mz f) (H : R (some (.int (-1))) (shF L, f, g)) : Run mtab d 175 [.ref 181, .int x1, .int x2] (shF L, f, g) R := by
  obtain ⟨d, rfl⟩ : ∃ e, d = e + 1 := ⟨d - 1, by omega⟩
  obtain ⟨y1, y2, y3, y4, y5, y6, y7⟩ := id z
  refine go_X11_gap rfl ?_
  conv => whnf
  repeat' first
    | (refine ⟨fun c => ?_, fun c => ?_⟩ <;> first | exact absurd c (by decide) | exact absurd (by decide) c | (conv => whnf))
    | (refine ct_mIsWork (by omega) z ?_ <;> conv => whnf)
    | (refine ct_mIsMention (by omega) z ?_ <;> conv => whnf)
  all_goals exact H
set_option maxRecDepth 100000 in
theorem m_score {d L : Nat} {f : Nat → Nat → Int32} {g : Nat → Nat → Int64} {x1 x2 : Int32} {R : Option Value → mH → Prop} (hd : 5 ≤ d) (z : mz f) (H : R (some (.int (-1))) (shF L, f, g)) : Run mtab d 197 [.ref 181, .int x1, .int x2] (shF L, f, g) R := by
  obtain ⟨d, rfl⟩ : ∃ e, d = e + 1 := ⟨d - 1, by omega⟩
  obtain ⟨y1, y2, y3, y4, y5, y6, y7⟩ := id z
  refine go_X11_score rfl ?_
  conv => whnf
  repeat' first
    | (refine ⟨fun c => ?_, fun c => ?_⟩ <;> first | exact absurd c (by decide) | exact absurd (by decide) c | (conv => whnf))
    | (refine ct_mIsWork (by omega) z ?_ <;> conv => whnf)
    | (refine ct_mIsMention (by omega) z ?_ <;> conv => whnf)
  all_goals exact H
set_option maxRecDepth 100000 in
theorem m_rivals {d L : Nat} {f : Nat → Nat → Int32} {g : Nat → Nat → Int64} {x1 : Int32} {R : Option Value → mH → Prop} (hd : 5 ≤ d) (z : mz f) (H : R (some (.int (-1))) (shF L, f, g)) : Run mtab d 199 [.ref 181, .int x1] (shF L, f, g) R := by
  obtain ⟨d, rfl⟩ : ∃ e, d = e + 1 := ⟨d - 1, by omega⟩
  obtain ⟨y1, y2, y3, y4, y5, y6, y7⟩ := id z
  refine go_X11_rivals rfl ?_
  conv => whnf
  repeat' first
    | (refine ⟨fun c => ?_, fun c => ?_⟩ <;> first | exact absurd c (by decide) | exact absurd (by decide) c | (conv => whnf))
    | (refine ct_mIsWork (by omega) z ?_ <;> conv => whnf)
    | (refine ct_mIsMention (by omega) z ?_ <;> conv => whnf)
  all_goals exact H
set_option maxRecDepth 100000 in
theorem m_joined {d L : Nat} {f : Nat → Nat → Int32} {g : Nat → Nat → Int64} {x1 : Int32} {R : Option Value → mH → Prop} (hd : 5 ≤ d) (z : mz f) (H : R (some (.int (-1))) (shF L, f, g)) : Run mtab d 208 [.ref 181, .int x1] (shF L, f, g) R := by
  obtain ⟨d, rfl⟩ : ∃ e, d = e + 1 := ⟨d - 1, by omega⟩
  obtain ⟨y1, y2, y3, y4, y5, y6, y7⟩ := id z
  refine go_X11_joined rfl ?_
  conv => whnf
  repeat' first
    | (refine ⟨fun c => ?_, fun c => ?_⟩ <;> first | exact absurd c (by decide) | exact absurd (by decide) c | (conv => whnf))
    | (refine ct_mIsWork (by omega) z ?_ <;> conv => whnf)
    | (refine ct_mIsMention (by omega) z ?_ <;> conv => whnf)
  all_goals exact H
set_option maxRecDepth 100000 in
theorem m_sure {d L : Nat} {f : Nat → Nat → Int32} {g : Nat → Nat → Int64} {x1 : Int32} {R : Option Value → mH → Prop} (hd : 5 ≤ d) (z : mz f) (H : R (some (.int (-1))) (shF L, f, g)) : Run mtab d 209 [.ref 181, .int x1] (shF L, f, g) R := by
  obtain ⟨d, rfl⟩ : ∃ e, d = e + 1 := ⟨d - 1, by omega⟩
  obtain ⟨y1, y2, y3, y4, y5, y6, y7⟩ := id z
  refine go_X11_sure rfl ?_
  conv => whnf
  repeat' first
    | (refine ⟨fun c => ?_, fun c => ?_⟩ <;> first | exact absurd c (by decide) | exact absurd (by decide) c | (conv => whnf))
    | (refine ct_mIsWork (by omega) z ?_ <;> conv => whnf)
    | (refine ct_mIsMention (by omega) z ?_ <;> conv => whnf)
  all_goals exact H
set_option maxRecDepth 100000 in
theorem m_clue {d L : Nat} {f : Nat → Nat → Int32} {g : Nat → Nat → Int64} {x1 x2 x3 : Int32} {R : Option Value → mH → Prop} (hd : 5 ≤ d) (z : mz f) (H : R (some (.int (-1))) (shF L, f, g)) : Run mtab d 176 [.ref 181, .int x1, .int x2, .int x3] (shF L, f, g) R := by
  obtain ⟨d, rfl⟩ : ∃ e, d = e + 1 := ⟨d - 1, by omega⟩
  obtain ⟨y1, y2, y3, y4, y5, y6, y7⟩ := id z
  refine go_X11_clue rfl ?_
  conv => whnf
  repeat' first
    | (refine ⟨fun c => ?_, fun c => ?_⟩ <;> first | exact absurd c (by decide) | exact absurd (by decide) c | (conv => whnf))
    | (refine ct_mIsWork (by omega) z ?_ <;> conv => whnf)
    | (refine ct_mIsMention (by omega) z ?_ <;> conv => whnf)
  all_goals exact H
set_option maxRecDepth 100000 in
theorem m_use {d L : Nat} {f : Nat → Nat → Int32} {g : Nat → Nat → Int64} {x1 x2 : Int32} {R : Option Value → mH → Prop} (hd : 5 ≤ d) (z : mz f) (H : R (some (.int (-1))) (shF L, f, g)) : Run mtab d 177 [.ref 181, .int x1, .int x2] (shF L, f, g) R := by
  obtain ⟨d, rfl⟩ : ∃ e, d = e + 1 := ⟨d - 1, by omega⟩
  obtain ⟨y1, y2, y3, y4, y5, y6, y7⟩ := id z
  refine go_X11_use rfl ?_
  conv => whnf
  repeat' first
    | exact absurd (show inr 0 (0 - 1) _ from y3 ▸ ‹inr 0 (f 181 16 - 1) _›) (inr_none _)
    | (refine ⟨fun c => ?_, fun c => ?_⟩ <;> first | exact absurd c (by decide) | exact absurd (by decide) c | (conv => whnf))
    | (refine ct_in (by omega) rfl (lo := 0) rfl (hi := f 181 16 - 1) rfl (fun p => ?_) (fun p => ?_) <;> conv => whnf)
    | (refine ct_mIsWork (by omega) z ?_ <;> conv => whnf)
    | (refine ct_mIsMention (by omega) z ?_ <;> conv => whnf)
  all_goals exact H
set_option maxRecDepth 100000 in
theorem m_made {d L : Nat} {f : Nat → Nat → Int32} {g : Nat → Nat → Int64} {x1 x2 : Int32} {R : Option Value → mH → Prop} (hd : 5 ≤ d) (z : mz f) (H : R (some (.int (-1))) (shF L, f, g)) : Run mtab d 182 [.ref 181, .int x1, .int x2] (shF L, f, g) R := by
  obtain ⟨d, rfl⟩ : ∃ e, d = e + 1 := ⟨d - 1, by omega⟩
  obtain ⟨y1, y2, y3, y4, y5, y6, y7⟩ := id z
  refine go_X11_made rfl ?_
  conv => whnf
  repeat' first
    | (refine ⟨fun c => ?_, fun c => ?_⟩ <;> first | exact absurd c (by decide) | exact absurd (by decide) c | (conv => whnf))
    | (refine ct_mIsWork (by omega) z ?_ <;> conv => whnf)
    | (refine ct_mIsMention (by omega) z ?_ <;> conv => whnf)
  all_goals exact H
set_option maxRecDepth 100000 in
theorem m_vote {d L : Nat} {f : Nat → Nat → Int32} {g : Nat → Nat → Int64} {x1 x2 x3 x4 x5 : Int32} {R : Option Value → mH → Prop} (hd : 5 ≤ d) (z : mz f) (H : R (some (.int (-1))) (shF L, f, g)) : Run mtab d 225 [.ref 181, .int x1, .int x2, .int x3, .int x4, .int x5] (shF L, f, g) R := by
  obtain ⟨d, rfl⟩ : ∃ e, d = e + 1 := ⟨d - 1, by omega⟩
  obtain ⟨y1, y2, y3, y4, y5, y6, y7⟩ := id z
  refine go_X11_vote rfl ?_
  conv => whnf
  repeat' first
    | (refine ⟨fun c => ?_, fun c => ?_⟩ <;> first | exact absurd c (by decide) | exact absurd (by decide) c | (conv => whnf))
    | (refine ct_mIsWork (by omega) z ?_ <;> conv => whnf)
    | (refine ct_mIsMention (by omega) z ?_ <;> conv => whnf)
  all_goals exact H
set_option maxRecDepth 100000 in
theorem m_votes {d L : Nat} {f : Nat → Nat → Int32} {g : Nat → Nat → Int64} {x1 x2 : Int32} {R : Option Value → mH → Prop} (hd : 5 ≤ d) (z : mz f) (H : R (some (.int (-1))) (shF L, f, g)) : Run mtab d 226 [.ref 181, .int x1, .int x2] (shF L, f, g) R := by
  obtain ⟨d, rfl⟩ : ∃ e, d = e + 1 := ⟨d - 1, by omega⟩
  obtain ⟨y1, y2, y3, y4, y5, y6, y7⟩ := id z
  refine go_X11_votes rfl ?_
  conv => whnf
  repeat' first
    | exact absurd (show inr 0 (0 - 1) _ from y6 ▸ ‹inr 0 (f 181 48 - 1) _›) (inr_none _)
    | (refine ⟨fun c => ?_, fun c => ?_⟩ <;> first | exact absurd c (by decide) | exact absurd (by decide) c | (conv => whnf))
    | (refine ct_in (by omega) rfl (lo := 0) rfl (hi := f 181 48 - 1) rfl (fun p => ?_) (fun p => ?_) <;> conv => whnf)
    | (refine ct_mIsWork (by omega) z ?_ <;> conv => whnf)
    | (refine ct_mIsMention (by omega) z ?_ <;> conv => whnf)
  all_goals exact H
set_option maxRecDepth 100000 in
theorem m_state {d L : Nat} {f : Nat → Nat → Int32} {g : Nat → Nat → Int64} {x1 x2 x3 : Int32} {R : Option Value → mH → Prop} (hd : 5 ≤ d) (z : mz f) (H : R (some (.int (-1))) (shF L, f, g)) : Run mtab d 229 [.ref 181, .int x1, .int x2, .int x3] (shF L, f, g) R := by
  obtain ⟨d, rfl⟩ : ∃ e, d = e + 1 := ⟨d - 1, by omega⟩
  obtain ⟨y1, y2, y3, y4, y5, y6, y7⟩ := id z
  refine go_X11_state rfl ?_
  conv => whnf
  repeat' first
    | (refine ⟨fun c => ?_, fun c => ?_⟩ <;> first | exact absurd c (by decide) | exact absurd (by decide) c | (conv => whnf))
    | (refine ct_mIsWork (by omega) z ?_ <;> conv => whnf)
    | (refine ct_mIsMention (by omega) z ?_ <;> conv => whnf)
  all_goals exact H
set_option maxRecDepth 100000 in
theorem m_leaning {d L : Nat} {f : Nat → Nat → Int32} {g : Nat → Nat → Int64} {x1 : Int32} {R : Option Value → mH → Prop} (hd : 5 ≤ d) (z : mz f) (H : R (some (.int (-1))) (shF L, f, g)) : Run mtab d 231 [.ref 181, .int x1] (shF L, f, g) R := by
  obtain ⟨d, rfl⟩ : ∃ e, d = e + 1 := ⟨d - 1, by omega⟩
  obtain ⟨y1, y2, y3, y4, y5, y6, y7⟩ := id z
  refine go_X11_leaning rfl ?_
  conv => whnf
  repeat' first
    | (refine ⟨fun c => ?_, fun c => ?_⟩ <;> first | exact absurd c (by decide) | exact absurd (by decide) c | (conv => whnf))
    | (refine ct_mIsWork (by omega) z ?_ <;> conv => whnf)
    | (refine ct_mIsMention (by omega) z ?_ <;> conv => whnf)
  all_goals exact H
set_option maxRecDepth 100000 in
theorem m_number {d L : Nat} {f : Nat → Nat → Int32} {g : Nat → Nat → Int64} {x1 : Int32} {R : Option Value → mH → Prop} (hd : 5 ≤ d) (z : mz f) (H : R (some (.int (-1))) (shF L, f, g)) : Run mtab d 234 [.ref 181, .int x1] (shF L, f, g) R := by
  obtain ⟨d, rfl⟩ : ∃ e, d = e + 1 := ⟨d - 1, by omega⟩
  obtain ⟨y1, y2, y3, y4, y5, y6, y7⟩ := id z
  refine go_X11_number_ rfl ?_
  conv => whnf
  repeat' first
    | (refine ⟨fun c => ?_, fun c => ?_⟩ <;> first | exact absurd c (by decide) | exact absurd (by decide) c | (conv => whnf))
    | (refine ct_mIsWork (by omega) z ?_ <;> conv => whnf)
    | (refine ct_mIsMention (by omega) z ?_ <;> conv => whnf)
  all_goals exact H
