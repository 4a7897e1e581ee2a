theorem t1 (d : Nat) (x a b : Int32) (h : mH) (R : Option Value → mH → Prop) (hR : R (some (.int (if a ≤ x ∧ x ≤ b then 1 else 0))) h) : Run mtab (d + 1) 134 [.int x, .int a, .int b] h R := by
  refine go_X10_isWithin rfl ?_
  conv => whnf
  trace_state
  sorry
