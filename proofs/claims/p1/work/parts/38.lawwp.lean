set_option maxRecDepth 100000 in
set_option maxHeartbeats 8000000 in
theorem law_loop {d L : Nat} {f : Nat → Nat → Int32} {g : Nat → Nat → Int64} (hd : 6 ≤ d) (hL : L ≤ 10) (hf : ff f) : WPe pg_L_law (some (lawB L)) (Run mtab d) lawQ (m_drop pg_L_law 10) [some (.ref 0), some (.ref 5), some (.ref 181), some (.int 0)] [] (shF L, f, g) := by
  by_cases h10 : L = 10
  · subst h10
    refine at_law ?_
    conv => whnf
    refine ⟨fun c => absurd c (by decide), fun _ => ?_⟩
    conv => whnf
    refine ⟨by unfold vp_in; decide, ?_⟩
    conv => whnf
    refine ⟨fun _ => lw_0 hd hf, fun _ => lw_1 hd hf, fun _ => lw_2 hd hf, fun _ => lw_3 hd hf, fun _ => lw_4 hd hf, fun _ => lw_5 hd hf, fun _ => lw_6 hd hf, fun _ => lw_7 hd hf, fun _ => lw_8 hd hf, fun _ => lw_9 hd hf, fun _ => lw_10 hd hf, fun _ => lw_11 hd hf, fun _ => lw_12 hd hf, fun _ => lw_13 hd hf, fun _ => lw_14 hd hf, fun _ => lw_15 hd hf, fun _ => lw_16 hd hf, fun _ => lw_17 hd hf, fun _ => lw_18 hd hf, fun _ => lw_19 hd hf, fun _ => lw_20 hd hf, fun _ => lw_21 hd hf, fun _ => lw_22 hd hf, fun _ => lw_23 hd hf, fun _ => lw_24 hd hf, fun _ => lw_25 hd hf, fun _ => lw_26 hd hf, fun _ => lw_27 hd hf, fun _ => lw_28 hd hf, fun _ => lw_29 hd hf, fun _ => lw_30 hd hf, fun _ => lw_31 hd hf, fun _ => lw_32 hd hf, fun _ => lw_33 hd hf, fun _ => lw_34 hd hf, fun _ => lw_35 hd hf, fun _ => lw_36 hd hf, fun _ => lw_37 hd hf, fun _ => lw_38 hd hf, fun _ => lw_39 hd hf, fun _ => lw_40 hd hf, fun _ => lw_41 hd hf, fun _ => lw_42 hd hf, fun _ => lw_43 hd hf, fun _ => ?_⟩
    conv => whnf
    exact law_done rfl
  · have h : L = 0 ∨ L = 1 ∨ L = 2 ∨ L = 3 ∨ L = 4 ∨ L = 5 ∨ L = 6 ∨ L = 7 ∨ L = 8 ∨ L = 9 := by omega
    rcases h with rfl | rfl | rfl | rfl | rfl | rfl | rfl | rfl | rfl | rfl
    all_goals
      refine at_law ?_
      conv => whnf
      refine ⟨fun _ => ?_, fun c => absurd (by decide) c⟩
      conv => whnf
      refine ⟨Or.inr rfl, ⟨rfl, rfl⟩, rfl⟩
set_option maxRecDepth 100000 in
set_option maxHeartbeats 8000000 in
theorem law_wp0 {d L : Nat} {xs : Nat → Int32} (hd : 9 ≤ d) (hL : L ≤ 10) : WPe pg_L_law (some (lawB L)) (Run mtab d) lawQ (m_drop pg_L_law 0) (m_init 4 [.ref 0]) [] (sh0 L, sg0 xs, fun _ _ => 0) := by
  refine at_law ?_
  conv => whnf
  refine ⟨⟨Nat.le_of_ble_eq_true rfl, Nat.le_of_ble_eq_true rfl⟩, ?_⟩
  conv => whnf
  refine ⟨⟨Nat.le_of_ble_eq_true rfl, Nat.le_of_ble_eq_true rfl⟩, ct_LifeList_init (L := L) (by omega) ⟨rfl, rfl, rfl⟩ (fun f1 g1 z1 => ?_)⟩
  conv => whnf
  refine ⟨⟨Nat.le_of_ble_eq_true rfl, Nat.le_of_ble_eq_true rfl⟩, ?_⟩
  conv => whnf
  refine ⟨⟨Nat.le_of_ble_eq_true rfl, Nat.le_of_ble_eq_true rfl⟩, ct_Model_init (L := L) (by omega) (fun f2 g2 z2 => ?_)⟩
  conv => whnf
  have hf : ff f2 := by
    intro a i ha
    rw [z2 a i]
    by_cases q : a < 182
    · rw [if_pos q]
      show (if a < 181 then f1 a i else 0) = _
      rw [z1 a i, if_neg (show ¬ a < 6 by omega)]
      rw [if_pos (show a < 227 by omega)]
      by_cases q1 : a < 181
      · rw [if_pos q1, if_pos q1]
      · rw [if_neg q1, inix_0 i (by omega)]
    · rw [if_neg q]
  exact law_loop (by omega) hL hf
theorem law_wp (L : Nat) (xs : Nat → Int32) (hL : L ≤ 10) : WPe pg_L_law (some (lawB L)) (Run mtab 10) lawQ pg_L_law (m_init 4 [.ref 0]) [] (sh0 L, sg0 xs, fun _ _ => 0) := law_wp0 (by decide) hL
