set_option maxRecDepth 100000 in
theorem ct_isYear {d : Nat} {x : Int32} {h : mH} {R : Option Value → mH → Prop} (hd : 2 ≤ d) (H1 : inr 1800 1999 x → R (some (.int 1)) h) (H0 : ¬ (inr 1800 1999 x) → R (some (.int 0)) h) : Run mtab d 135 [.int x] h R := by
  obtain ⟨d, rfl⟩ : ∃ e, d = e + 1 := ⟨d - 1, by omega⟩
  refine go_X10_isYear rfl ?_
  conv => whnf
  repeat' first
    | (refine ⟨fun c => ?_, fun c => ?_⟩ <;> first | exact absurd c (by decide) | exact absurd (by decide) c | (conv => whnf))
    | (refine ct_isWithin (by omega) (fun p => ?_) (fun p => ?_) <;> conv => whnf)
  all_goals first | exact ⟨Or.inr rfl, H1 (by grind)⟩ | exact ⟨Or.inl rfl, H0 (by grind)⟩
set_option maxRecDepth 100000 in
theorem ct_isSide {d : Nat} {x : Int32} {h : mH} {R : Option Value → mH → Prop} (hd : 2 ≤ d) (H1 : inr 10 5000 x → R (some (.int 1)) h) (H0 : ¬ (inr 10 5000 x) → R (some (.int 0)) h) : Run mtab d 138 [.int x] h R := by
  obtain ⟨d, rfl⟩ : ∃ e, d = e + 1 := ⟨d - 1, by omega⟩
  refine go_X10_isSide rfl ?_
  conv => whnf
  repeat' first
    | (refine ⟨fun c => ?_, fun c => ?_⟩ <;> first | exact absurd c (by decide) | exact absurd (by decide) c | (conv => whnf))
    | (refine ct_isWithin (by omega) (fun p => ?_) (fun p => ?_) <;> conv => whnf)
  all_goals first | exact ⟨Or.inr rfl, H1 (by grind)⟩ | exact ⟨Or.inl rfl, H0 (by grind)⟩
set_option maxRecDepth 100000 in
theorem ct_isSheet {d : Nat} {x : Int32} {h : mH} {R : Option Value → mH → Prop} (hd : 2 ≤ d) (H1 : inr 0 3 x → R (some (.int 1)) h) (H0 : ¬ (inr 0 3 x) → R (some (.int 0)) h) : Run mtab d 140 [.int x] h R := by
  obtain ⟨d, rfl⟩ : ∃ e, d = e + 1 := ⟨d - 1, by omega⟩
  refine go_X10_isSheet rfl ?_
  conv => whnf
  repeat' first
    | (refine ⟨fun c => ?_, fun c => ?_⟩ <;> first | exact absurd c (by decide) | exact absurd (by decide) c | (conv => whnf))
    | (refine ct_isWithin (by omega) (fun p => ?_) (fun p => ?_) <;> conv => whnf)
  all_goals first | exact ⟨Or.inr rfl, H1 (by grind)⟩ | exact ⟨Or.inl rfl, H0 (by grind)⟩
set_option maxRecDepth 100000 in
theorem ct_isLane {d : Nat} {x : Int32} {h : mH} {R : Option Value → mH → Prop} (hd : 2 ≤ d) (H1 : inr 0 2 x → R (some (.int 1)) h) (H0 : ¬ (inr 0 2 x) → R (some (.int 0)) h) : Run mtab d 141 [.int x] h R := by
  obtain ⟨d, rfl⟩ : ∃ e, d = e + 1 := ⟨d - 1, by omega⟩
  refine go_X10_isLane rfl ?_
  conv => whnf
  repeat' first
    | (refine ⟨fun c => ?_, fun c => ?_⟩ <;> first | exact absurd c (by decide) | exact absurd (by decide) c | (conv => whnf))
    | (refine ct_isWithin (by omega) (fun p => ?_) (fun p => ?_) <;> conv => whnf)
  all_goals first | exact ⟨Or.inr rfl, H1 (by grind)⟩ | exact ⟨Or.inl rfl, H0 (by grind)⟩
theorem ct_isBits30 {d : Nat} {x : Int32} {h : mH} {R : Option Value → mH → Prop} (hd : 1 ≤ d) (H1 : inr 0 1073741823 x → R (some (.int 1)) h) (H0 : ¬ inr 0 1073741823 x → R (some (.int 0)) h) : Run mtab d 136 [.int x, .int 30] h R := by
  obtain ⟨d, rfl⟩ : ∃ e, d = e + 1 := ⟨d - 1, by omega⟩
  refine go_X10_isBits rfl ?_
  conv => whnf
  refine ⟨fun c => ?_, fun c => ?_⟩
  · conv => whnf
    exact ⟨Or.inl rfl, H0 (fun q => c ((bits30 x).mpr q))⟩
  · conv => whnf
    exact ⟨Or.inr rfl, H1 ((bits30 x).mp c)⟩
theorem ct_isBits20 {d : Nat} {x : Int32} {h : mH} {R : Option Value → mH → Prop} (hd : 1 ≤ d) (H1 : inr 0 1048575 x → R (some (.int 1)) h) (H0 : ¬ inr 0 1048575 x → R (some (.int 0)) h) : Run mtab d 136 [.int x, .int 20] h R := by
  obtain ⟨d, rfl⟩ : ∃ e, d = e + 1 := ⟨d - 1, by omega⟩
  refine go_X10_isBits rfl ?_
  conv => whnf
  refine ⟨fun c => ?_, fun c => ?_⟩
  · conv => whnf
    exact ⟨Or.inl rfl, H0 (fun q => c ((bits20 x).mpr q))⟩
  · conv => whnf
    exact ⟨Or.inr rfl, H1 ((bits20 x).mp c)⟩
theorem ct_isBits8 {d : Nat} {x : Int32} {h : mH} {R : Option Value → mH → Prop} (hd : 1 ≤ d) (H1 : inr 0 255 x → R (some (.int 1)) h) (H0 : ¬ inr 0 255 x → R (some (.int 0)) h) : Run mtab d 136 [.int x, .int 8] h R := by
  obtain ⟨d, rfl⟩ : ∃ e, d = e + 1 := ⟨d - 1, by omega⟩
  refine go_X10_isBits rfl ?_
  conv => whnf
  refine ⟨fun c => ?_, fun c => ?_⟩
  · conv => whnf
    exact ⟨Or.inl rfl, H0 (fun q => c ((bits8 x).mpr q))⟩
  · conv => whnf
    exact ⟨Or.inr rfl, H1 ((bits8 x).mp c)⟩
set_option maxRecDepth 100000 in
theorem ct_isTitle {d : Nat} {x : Int32} {h : mH} {R : Option Value → mH → Prop} (hd : 2 ≤ d) (H1 : inr 1 1073741823 x → R (some (.int 1)) h) (H0 : ¬ (inr 1 1073741823 x) → R (some (.int 0)) h) : Run mtab d 137 [.int x] h R := by
  obtain ⟨d, rfl⟩ : ∃ e, d = e + 1 := ⟨d - 1, by omega⟩
  refine go_X10_isTitle rfl ?_
  conv => whnf
  repeat' first
    | (refine ⟨fun c => ?_, fun c => ?_⟩ <;> first | exact absurd c (by decide) | exact absurd (by decide) c | (conv => whnf))
    | (refine ct_isBits30 (by omega) (fun p => ?_) (fun p => ?_) <;> conv => whnf)
  all_goals first | exact ⟨Or.inr rfl, H1 (by rw [inr_one]; grind)⟩ | exact ⟨Or.inl rfl, H0 (by rw [inr_one]; grind)⟩
def toldw (a b c x y : Int32) : Prop := inr 10 5000 a ∧ inr 10 5000 b ∧ inr 1 1073741823 c ∧ inr 1800 1999 x ∧ inr 1800 1999 y ∧ x ≤ y
set_option maxRecDepth 100000 in
theorem ct_isToldWell {d : Nat} {a b c x y : Int32} {h : mH} {R : Option Value → mH → Prop} (hd : 3 ≤ d) (H1 : toldw a b c x y → R (some (.int 1)) h) (H0 : ¬ (toldw a b c x y) → R (some (.int 0)) h) : Run mtab d 139 [.int a, .int b, .int c, .int x, .int y] h R := by
  obtain ⟨d, rfl⟩ : ∃ e, d = e + 1 := ⟨d - 1, by omega⟩
  refine go_X10_isToldWell rfl ?_
  conv => whnf
  repeat' first
    | (refine ⟨fun c => ?_, fun c => ?_⟩ <;> first | exact absurd c (by decide) | exact absurd (by decide) c | (conv => whnf))
    | (refine ct_isSide (by omega) (fun p => ?_) (fun p => ?_) <;> conv => whnf)
    | (refine ct_isTitle (by omega) (fun p => ?_) (fun p => ?_) <;> conv => whnf)
    | (refine ct_isYear (by omega) (fun p => ?_) (fun p => ?_) <;> conv => whnf)
  all_goals first | exact ⟨Or.inr rfl, H1 (by unfold toldw; simp only [← i32_nle] at *; grind)⟩ | exact ⟨Or.inl rfl, H0 (by unfold toldw; simp only [← i32_nle] at *; grind)⟩
set_option maxRecDepth 100000 in
theorem ct_mIsYear {d : Nat} {x : Int32} {h : mH} {R : Option Value → mH → Prop} (hd : 2 ≤ d) (H1 : inr 1800 1999 x → R (some (.int 1)) h) (H0 : ¬ (inr 1800 1999 x) → R (some (.int 0)) h) : Run mtab d 148 [.int x] h R := by
  obtain ⟨d, rfl⟩ : ∃ e, d = e + 1 := ⟨d - 1, by omega⟩
  refine go_X11_isYear rfl ?_
  conv => whnf
  repeat' first
    | (refine ⟨fun c => ?_, fun c => ?_⟩ <;> first | exact absurd c (by decide) | exact absurd (by decide) c | (conv => whnf))
    | (refine ct_in (by omega) rfl (lo := 1800) rfl (hi := 1999) rfl (fun p => ?_) (fun p => ?_) <;> conv => whnf)
  all_goals first | exact ⟨Or.inr rfl, H1 (by grind)⟩ | exact ⟨Or.inl rfl, H0 (by grind)⟩
set_option maxRecDepth 100000 in
theorem ct_mIsSides {d : Nat} {x y : Int32} {h : mH} {R : Option Value → mH → Prop} (hd : 2 ≤ d) (H1 : inr 10 5000 x ∧ inr 10 5000 y → R (some (.int 1)) h) (H0 : ¬ (inr 10 5000 x ∧ inr 10 5000 y) → R (some (.int 0)) h) : Run mtab d 151 [.int x, .int y] h R := by
  obtain ⟨d, rfl⟩ : ∃ e, d = e + 1 := ⟨d - 1, by omega⟩
  refine go_X11_isSides rfl ?_
  conv => whnf
  repeat' first
    | (refine ⟨fun c => ?_, fun c => ?_⟩ <;> first | exact absurd c (by decide) | exact absurd (by decide) c | (conv => whnf))
    | (refine ct_in (by omega) rfl (lo := 10) rfl (hi := 5000) rfl (fun p => ?_) (fun p => ?_) <;> conv => whnf)
  all_goals first | exact ⟨Or.inr rfl, H1 (by grind)⟩ | exact ⟨Or.inl rfl, H0 (by grind)⟩
set_option maxRecDepth 100000 in
theorem ct_mIsTold {d : Nat} {a b c x y : Int32} {h : mH} {R : Option Value → mH → Prop} (hd : 3 ≤ d) (H1 : toldw a b c x y → R (some (.int 1)) h) (H0 : ¬ (toldw a b c x y) → R (some (.int 0)) h) : Run mtab d 152 [.int a, .int b, .int c, .int x, .int y] h R := by
  obtain ⟨d, rfl⟩ : ∃ e, d = e + 1 := ⟨d - 1, by omega⟩
  refine go_X11_isTold rfl ?_
  conv => whnf
  repeat' first
    | (refine ⟨fun c => ?_, fun c => ?_⟩ <;> first | exact absurd c (by decide) | exact absurd (by decide) c | (conv => whnf))
    | (refine ct_mIsSides (by omega) (fun p => ?_) (fun p => ?_) <;> conv => whnf)
    | (refine ct_in (by omega) rfl (lo := 1) rfl (hi := 1073741823) rfl (fun p => ?_) (fun p => ?_) <;> conv => whnf)
    | (refine ct_mIsYear (by omega) (fun p => ?_) (fun p => ?_) <;> conv => whnf)
  all_goals first | exact ⟨Or.inr rfl, H1 (by unfold toldw; simp only [← i32_nle] at *; grind)⟩ | exact ⟨Or.inl rfl, H0 (by unfold toldw; simp only [← i32_nle] at *; grind)⟩
set_option maxRecDepth 100000 in
theorem ct_mIsSheet {d : Nat} {x y : Int32} {h : mH} {R : Option Value → mH → Prop} (hd : 2 ≤ d) (H1 : inr 0 3 x ∧ inr 0 2 y → R (some (.int 1)) h) (H0 : ¬ (inr 0 3 x ∧ inr 0 2 y) → R (some (.int 0)) h) : Run mtab d 236 [.int x, .int y] h R := by
  obtain ⟨d, rfl⟩ : ∃ e, d = e + 1 := ⟨d - 1, by omega⟩
  refine go_X11_isSheet rfl ?_
  conv => whnf
  repeat' first
    | (refine ⟨fun c => ?_, fun c => ?_⟩ <;> first | exact absurd c (by decide) | exact absurd (by decide) c | (conv => whnf))
    | (refine ct_in (by omega) rfl (lo := 0) rfl (hi := 3) rfl (fun p => ?_) (fun p => ?_) <;> conv => whnf)
    | (refine ct_in (by omega) rfl (lo := 0) rfl (hi := 2) rfl (fun p => ?_) (fun p => ?_) <;> conv => whnf)
  all_goals first | exact ⟨Or.inr rfl, H1 (by grind)⟩ | exact ⟨Or.inl rfl, H0 (by grind)⟩
theorem ct_bit {d : Nat} {x : Int32} {h : mH} {R : Option Value → mH → Prop} (hd : 1 ≤ d) (H1 : ¬ x = 0 → R (some (.int 1)) h) (H0 : x = 0 → R (some (.int 0)) h) : Run mtab d 142 [.int x] h R := by
  obtain ⟨d, rfl⟩ : ∃ e, d = e + 1 := ⟨d - 1, by omega⟩
  refine go_X10_bit rfl ?_
  conv => whnf
  refine ⟨fun c => ?_, fun c => ?_⟩
  · conv => whnf
    exact H0 c
  · conv => whnf
    exact H1 c
