/-! ===== the methods keep to their bytes ===== -/
def m_chk2 (CS : List (Nat × Nat × Nat × List Nat)) (o : Nat) (ret : Option FieldType) (e0 : mI) : Bool := match e0.2.2.2.1 with
  | .invokestatic i => CS.any (fun q => q.1 == o && q.2.1 == 0 && q.2.2.1 == i && decide (q.2.2.2 = e0.2.2.2.2.2.1))
  | .invokevirtual i => CS.any (fun q => q.1 == o && q.2.1 == 1 && q.2.2.1 == i && decide (q.2.2.2 = e0.2.2.2.2.2.1))
  | .invokespecial i => CS.any (fun q => q.1 == o && q.2.1 == 2 && q.2.2.1 == i && decide (q.2.2.2 = e0.2.2.2.2.2.1))
  | .ireturn => (decide (ret = some .int)) || (decide (ret = some .boolean) && !e0.2.2.2.2.2.1.isEmpty)
  | .lreturn => decide (ret = some .long)
  | .return_ => decide (ret = none)
  | _ => true
theorem m_chk2_inv {o : Nat} {ret : Option FieldType} {e0 : mI} (h : m_chk2 mCS o ret e0 = true) (hi : ∃ k, e0.2.2.2.1 = .invokestatic k ∨ e0.2.2.2.1 = .invokevirtual k ∨ e0.2.2.2.1 = .invokespecial k) : m_site mtab o e0.2.2.2.1 e0.2.2.2.2.2.1 := by
  obtain ⟨k, hk | hk | hk⟩ := hi <;> unfold m_chk2 at h <;> rw [hk] at h <;> dsimp only at h <;> obtain ⟨q, hq, hp⟩ := List.any_eq_true.mp h <;> simp only [Bool.and_eq_true, beq_iff_eq, decide_eq_true_eq] at hp <;> obtain ⟨⟨⟨h1, h2⟩, h3⟩, h4⟩ := hp <;> have hs := mCS_ok q hq <;> rw [h1, h2, h3, h4] at hs <;> rw [hk] <;> exact hs
theorem m_chk2_ok {M : mM} (h : M.2.2.2.2.2.2.2.2.all (m_chk2 mCS M.2.2.2.2.1 M.2.2.2.1) = true) : ∀ (i : Nat) (e0 : mI), M.2.2.2.2.2.2.2.2[i]? = some e0 → ((∃ k, e0.2.2.2.1 = .invokestatic k ∨ e0.2.2.2.1 = .invokevirtual k ∨ e0.2.2.2.1 = .invokespecial k) → m_site mtab M.2.2.2.2.1 e0.2.2.2.1 e0.2.2.2.2.2.1) ∧
    (e0.2.2.2.1 = .ireturn → (M.2.2.2.1 = some .int ∨ (M.2.2.2.1 = some .boolean ∧ e0.2.2.2.2.2.1 ≠ []))) ∧ (e0.2.2.2.1 = .lreturn → M.2.2.2.1 = some .long) ∧ (e0.2.2.2.1 = .return_ → M.2.2.2.1 = none) := by
  intro i e0 he
  have h1 := List.all_eq_true.mp h e0 (List.mem_of_getElem? he)
  refine ⟨m_chk2_inv h1, fun q => ?_, fun q => ?_, fun q => ?_⟩ <;> unfold m_chk2 at h1 <;> rw [q] at h1 <;> simp at h1
  · exact h1
  · exact h1
  · exact h1
theorem m_good_of {M : mM} (h1 : plainName M.1.cls = true) (h2 : Cond.code M.1 M.2.1 M.2.2.1 M.2.2.2.1 ∈ m_tb) (h3 : Cond.initialized M.1.cls ∈ m_tb) (h4 : M.2.2.1 ≤ 30) (h5 : m_cn M.2.2.2.2.1 = M.1.cls) (h6 : M.2.2.2.2.2.1 = true → M.1.name = "<init>")
    (h7 : m_lay M.2.1 (m_chk1 mFL mSL mCL mKI mKL M.2.2.2.2.2.1 M.2.2.2.2.1 M.2.2.2.2.2.2.2.2) 0 0 M.2.2.2.2.2.2.2.2 = true) (h8 : M.2.2.2.2.2.2.2.2.all (m_chk2 mCS M.2.2.2.2.1 M.2.2.2.1) = true) : m_good mFL mSL mCL mKI mKL mtab M := ⟨h1, h2, h3, h4, h5, h6, h7, m_chk2_ok h8⟩
theorem pn_X0 : plainName M_X0_init.1.cls = true := by decide +kernel
theorem mg_X0_init : m_good mFL mSL mCL mKI mKL mtab M_X0_init := m_good_of pn_X0 mw_1103 mw_419 (by decide) rfl (fun _ => rfl) (m_lay_by (by decide +kernel)) (by decide +kernel)
theorem mg_X0_kinOfAny : m_good mFL mSL mCL mKI mKL mtab M_X0_kinOfAny := m_good_of pn_X0 mw_1104 mw_419 (by decide) rfl (fun q => absurd q (by decide)) (m_lay_by (by decide +kernel)) (by decide +kernel)
theorem mg_X0_add : m_good mFL mSL mCL mKI mKL mtab M_X0_add := m_good_of pn_X0 mw_1105 mw_419 (by decide) rfl (fun q => absurd q (by decide)) (m_lay_by (by decide +kernel)) (by decide +kernel)
theorem mg_X0_noteVoters : m_good mFL mSL mCL mKI mKL mtab M_X0_noteVoters := m_good_of pn_X0 mw_1106 mw_419 (by decide) rfl (fun q => absurd q (by decide)) (m_lay_by (by decide +kernel)) (by decide +kernel)
theorem mg_X0_reckonAll : m_good mFL mSL mCL mKI mKL mtab M_X0_reckonAll := m_good_of pn_X0 mw_1107 mw_419 (by decide) rfl (fun q => absurd q (by decide)) (m_lay_by (by decide +kernel)) (by decide +kernel)
theorem mg_X0_reckon : m_good mFL mSL mCL mKI mKL mtab M_X0_reckon := m_good_of pn_X0 mw_1108 mw_419 (by decide) rfl (fun q => absurd q (by decide)) (m_lay_by (by decide +kernel)) (by decide +kernel)
theorem pn_X1 : plainName M_X1_init.1.cls = true := by decide +kernel
theorem mg_X1_init : m_good mFL mSL mCL mKI mKL mtab M_X1_init := m_good_of pn_X1 mw_1109 mw_421 (by decide) rfl (fun _ => rfl) (m_lay_by (by decide +kernel)) (by decide +kernel)
theorem mg_X1_numberOf : m_good mFL mSL mCL mKI mKL mtab M_X1_numberOf := m_good_of pn_X1 mw_1110 mw_421 (by decide) rfl (fun q => absurd q (by decide)) (m_lay_by (by decide +kernel)) (by decide +kernel)
theorem mg_X1_publish : m_good mFL mSL mCL mKI mKL mtab M_X1_publish := m_good_of pn_X1 mw_1111 mw_421 (by decide) rfl (fun q => absurd q (by decide)) (m_lay_by (by decide +kernel)) (by decide +kernel)
theorem mg_X1_give : m_good mFL mSL mCL mKI mKL mtab M_X1_give := m_good_of pn_X1 mw_1112 mw_421 (by decide) rfl (fun q => absurd q (by decide)) (m_lay_by (by decide +kernel)) (by decide +kernel)
theorem mg_X1_sortThoseIn : m_good mFL mSL mCL mKI mKL mtab M_X1_sortThoseIn := m_good_of pn_X1 mw_1113 mw_421 (by decide) rfl (fun q => absurd q (by decide)) (m_lay_by (by decide +kernel)) (by decide +kernel)
theorem mg_X1_middle : m_good mFL mSL mCL mKI mKL mtab M_X1_middle := m_good_of pn_X1 mw_1114 mw_421 (by decide) rfl (fun q => absurd q (by decide)) (m_lay_by (by decide +kernel)) (by decide +kernel)
theorem pn_X2 : plainName M_X2_init.1.cls = true := by decide +kernel
theorem mg_X2_init : m_good mFL mSL mCL mKI mKL mtab M_X2_init := m_good_of pn_X2 mw_1115 mw_423 (by decide) rfl (fun _ => rfl) (m_lay_by (by decide +kernel)) (by decide +kernel)
theorem mg_X2_join : m_good mFL mSL mCL mKI mKL mtab M_X2_join := m_good_of pn_X2 mw_1116 mw_423 (by decide) rfl (fun q => absurd q (by decide)) (m_lay_by (by decide +kernel)) (by decide +kernel)
theorem mg_X2_gather : m_good mFL mSL mCL mKI mKL mtab M_X2_gather := m_good_of pn_X2 mw_1117 mw_423 (by decide) rfl (fun q => absurd q (by decide)) (m_lay_by (by decide +kernel)) (by decide +kernel)
theorem mg_X2_weigh : m_good mFL mSL mCL mKI mKL mtab M_X2_weigh := m_good_of pn_X2 mw_1118 mw_423 (by decide) rfl (fun q => absurd q (by decide)) (m_lay_by (by decide +kernel)) (by decide +kernel)
theorem mg_X2_seatOf : m_good mFL mSL mCL mKI mKL mtab M_X2_seatOf := m_good_of pn_X2 mw_1119 mw_423 (by decide) rfl (fun q => absurd q (by decide)) (m_lay_by (by decide +kernel)) (by decide +kernel)
theorem mg_X2_workFor : m_good mFL mSL mCL mKI mKL mtab M_X2_workFor := m_good_of pn_X2 mw_1120 mw_423 (by decide) rfl (fun q => absurd q (by decide)) (m_lay_by (by decide +kernel)) (by decide +kernel)
theorem mg_X2_isSure : m_good mFL mSL mCL mKI mKL mtab M_X2_isSure := m_good_of pn_X2 mw_1121 mw_423 (by decide) rfl (fun q => absurd q (by decide)) (m_lay_by (by decide +kernel)) (by decide +kernel)
theorem mg_X2_countJoined : m_good mFL mSL mCL mKI mKL mtab M_X2_countJoined := m_good_of pn_X2 mw_1122 mw_423 (by decide) rfl (fun q => absurd q (by decide)) (m_lay_by (by decide +kernel)) (by decide +kernel)
theorem mg_X2_sureWorks : m_good mFL mSL mCL mKI mKL mtab M_X2_sureWorks := m_good_of pn_X2 mw_1123 mw_423 (by decide) rfl (fun q => absurd q (by decide)) (m_lay_by (by decide +kernel)) (by decide +kernel)
theorem pn_X3 : plainName M_X3_init.1.cls = true := by decide +kernel
theorem mg_X3_init : m_good mFL mSL mCL mKI mKL mtab M_X3_init := m_good_of pn_X3 mw_1124 mw_425 (by decide) rfl (fun _ => rfl) (m_lay_by (by decide +kernel)) (by decide +kernel)
theorem mg_X3_solve : m_good mFL mSL mCL mKI mKL mtab M_X3_solve := m_good_of pn_X3 mw_1125 mw_425 (by decide) rfl (fun q => absurd q (by decide)) (m_lay_by (by decide +kernel)) (by decide +kernel)
theorem mg_X3_columnOf : m_good mFL mSL mCL mKI mKL mtab M_X3_columnOf := m_good_of pn_X3 mw_1126 mw_425 (by decide) rfl (fun q => absurd q (by decide)) (m_lay_by (by decide +kernel)) (by decide +kernel)
theorem mg_X3_seat : m_good mFL mSL mCL mKI mKL mtab M_X3_seat := m_good_of pn_X3 mw_1127 mw_425 (by decide) rfl (fun q => absurd q (by decide)) (m_lay_by (by decide +kernel)) (by decide +kernel)
theorem mg_X3_reachNext : m_good mFL mSL mCL mKI mKL mtab M_X3_reachNext := m_good_of pn_X3 mw_1128 mw_425 (by decide) rfl (fun q => absurd q (by decide)) (m_lay_by (by decide +kernel)) (by decide +kernel)
theorem mg_X3_shiftPrices : m_good mFL mSL mCL mKI mKL mtab M_X3_shiftPrices := m_good_of pn_X3 mw_1129 mw_425 (by decide) rfl (fun q => absurd q (by decide)) (m_lay_by (by decide +kernel)) (by decide +kernel)
theorem pn_X4 : plainName M_X4_init.1.cls = true := by decide +kernel
theorem mg_X4_init : m_good mFL mSL mCL mKI mKL mtab M_X4_init := m_good_of pn_X4 mw_1130 mw_427 (by decide) rfl (fun _ => rfl) (m_lay_by (by decide +kernel)) (by decide +kernel)
theorem mg_X4_has : m_good mFL mSL mCL mKI mKL mtab M_X4_has := m_good_of pn_X4 mw_1131 mw_427 (by decide) rfl (fun q => absurd q (by decide)) (m_lay_by (by decide +kernel)) (by decide +kernel)
theorem mg_X4_add : m_good mFL mSL mCL mKI mKL mtab M_X4_add := m_good_of pn_X4 mw_1132 mw_427 (by decide) rfl (fun q => absurd q (by decide)) (m_lay_by (by decide +kernel)) (by decide +kernel)
theorem mg_X4_measure : m_good mFL mSL mCL mKI mKL mtab M_X4_measure := m_good_of pn_X4 mw_1133 mw_427 (by decide) rfl (fun q => absurd q (by decide)) (m_lay_by (by decide +kernel)) (by decide +kernel)
theorem mg_X4_scoreFor : m_good mFL mSL mCL mKI mKL mtab M_X4_scoreFor := m_good_of pn_X4 mw_1134 mw_427 (by decide) rfl (fun q => absurd q (by decide)) (m_lay_by (by decide +kernel)) (by decide +kernel)
theorem mg_X4_countFits : m_good mFL mSL mCL mKI mKL mtab M_X4_countFits := m_good_of pn_X4 mw_1135 mw_427 (by decide) rfl (fun q => absurd q (by decide)) (m_lay_by (by decide +kernel)) (by decide +kernel)
theorem mg_X4_countLost : m_good mFL mSL mCL mKI mKL mtab M_X4_countLost := m_good_of pn_X4 mw_1136 mw_427 (by decide) rfl (fun q => absurd q (by decide)) (m_lay_by (by decide +kernel)) (by decide +kernel)
theorem mg_X4_isSizeFit : m_good mFL mSL mCL mKI mKL mtab M_X4_isSizeFit := m_good_of pn_X4 mw_1137 mw_427 (by decide) rfl (fun q => absurd q (by decide)) (m_lay_by (by decide +kernel)) (by decide +kernel)
theorem mg_X4_areSidesFit : m_good mFL mSL mCL mKI mKL mtab M_X4_areSidesFit := m_good_of pn_X4 mw_1138 mw_427 (by decide) rfl (fun q => absurd q (by decide)) (m_lay_by (by decide +kernel)) (by decide +kernel)
theorem pn_X5 : plainName M_X5_init.1.cls = true := by decide +kernel
theorem mg_X5_init : m_good mFL mSL mCL mKI mKL mtab M_X5_init := m_good_of pn_X5 mw_1139 mw_429 (by decide) rfl (fun _ => rfl) (m_lay_by (by decide +kernel)) (by decide +kernel)
theorem mg_X5_add : m_good mFL mSL mCL mKI mKL mtab M_X5_add := m_good_of pn_X5 mw_1140 mw_429 (by decide) rfl (fun q => absurd q (by decide)) (m_lay_by (by decide +kernel)) (by decide +kernel)
theorem mg_X5_theOwner : m_good mFL mSL mCL mKI mKL mtab M_X5_theOwner := m_good_of pn_X5 mw_1141 mw_429 (by decide) rfl (fun q => absurd q (by decide)) (m_lay_by (by decide +kernel)) (by decide +kernel)
theorem mg_X5_whoMay : m_good mFL mSL mCL mKI mKL mtab M_X5_whoMay := m_good_of pn_X5 mw_1142 mw_429 (by decide) rfl (fun q => absurd q (by decide)) (m_lay_by (by decide +kernel)) (by decide +kernel)
