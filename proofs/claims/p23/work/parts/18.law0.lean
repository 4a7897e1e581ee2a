/-! ===== the law keeps to its bytes ===== -/
def m_ln (l : List mI) : Nat := (l.map fun e0 => e0.2.2.2.2.1).sum
theorem m_lay_app {cc : ByteArray} {chk : mI → Bool} : ∀ (a b : List mI) (i pc : Nat), m_lay cc chk i pc a = true → m_lay cc chk (i + a.length) (pc + m_ln a) b = true → m_lay cc chk i pc (a ++ b) = true
  | [], b, i, pc, _, h2 => by simpa [m_ln] using h2
  | x :: a, b, i, pc, h1, h2 => by
    simp only [m_lay, Bool.and_eq_true] at h1
    simp only [List.cons_append, m_lay, Bool.and_eq_true]
    refine ⟨h1.1, m_lay_app a b (i + 1) (pc + x.2.2.2.2.1) h1.2 ?_⟩
    simp only [List.length_cons, m_ln, List.map_cons, List.sum_cons] at h2
    rw [show i + 1 + a.length = i + (a.length + 1) by omega, show pc + x.2.2.2.2.1 + m_ln a = pc + (x.2.2.2.2.1 + (a.map fun e0 => e0.2.2.2.2.1).sum) by simp only [m_ln]; omega]
    exact h2
theorem m_lay_join {cc : ByteArray} {chk : mI → Bool} {a b : List mI} {i pc i' pc' : Nat} (h1 : m_lay cc chk i pc a = true) (hi : i + a.length = i') (hp : pc + m_ln a = pc') (h2 : m_lay cc chk i' pc' b = true) : m_lay cc chk i pc (a ++ b) = true := by
  subst hi
  subst hp
  exact m_lay_app a b i pc h1 h2
theorem law_lay_0 : m_lay code (m_chk1 mFL mSL mCL mKI mKL false 12 pg_L_law) 0 0 pgL_0 = true := m_lay_by (by decide +kernel)
theorem law_lay_1 : m_lay code (m_chk1 mFL mSL mCL mKI mKL false 12 pg_L_law) 40 242 pgL_1 = true := m_lay_by (by decide +kernel)
theorem law_lay_2 : m_lay code (m_chk1 mFL mSL mCL mKI mKL false 12 pg_L_law) 80 285 pgL_2 = true := m_lay_by (by decide +kernel)
theorem law_lay_3 : m_lay code (m_chk1 mFL mSL mCL mKI mKL false 12 pg_L_law) 120 331 pgL_3 = true := m_lay_by (by decide +kernel)
theorem law_lay_4 : m_lay code (m_chk1 mFL mSL mCL mKI mKL false 12 pg_L_law) 160 378 pgL_4 = true := m_lay_by (by decide +kernel)
theorem law_lay_5 : m_lay code (m_chk1 mFL mSL mCL mKI mKL false 12 pg_L_law) 200 426 pgL_5 = true := m_lay_by (by decide +kernel)
theorem law_lay_6 : m_lay code (m_chk1 mFL mSL mCL mKI mKL false 12 pg_L_law) 240 474 pgL_6 = true := m_lay_by (by decide +kernel)
theorem law_lay_7 : m_lay code (m_chk1 mFL mSL mCL mKI mKL false 12 pg_L_law) 280 522 pgL_7 = true := m_lay_by (by decide +kernel)
theorem law_lay_8 : m_lay code (m_chk1 mFL mSL mCL mKI mKL false 12 pg_L_law) 320 564 pgL_8 = true := m_lay_by (by decide +kernel)
theorem law_lay_9 : m_lay code (m_chk1 mFL mSL mCL mKI mKL false 12 pg_L_law) 360 614 pgL_9 = true := m_lay_by (by decide +kernel)
theorem law_lay_10 : m_lay code (m_chk1 mFL mSL mCL mKI mKL false 12 pg_L_law) 400 662 pgL_10 = true := m_lay_by (by decide +kernel)
theorem law_lay_11 : m_lay code (m_chk1 mFL mSL mCL mKI mKL false 12 pg_L_law) 440 709 pgL_11 = true := m_lay_by (by decide +kernel)
theorem law_lay_12 : m_lay code (m_chk1 mFL mSL mCL mKI mKL false 12 pg_L_law) 480 760 pgL_12 = true := m_lay_by (by decide +kernel)
theorem law_lay_13 : m_lay code (m_chk1 mFL mSL mCL mKI mKL false 12 pg_L_law) 520 808 pgL_13 = true := m_lay_by (by decide +kernel)
theorem law_lay_14 : m_lay code (m_chk1 mFL mSL mCL mKI mKL false 12 pg_L_law) 560 858 pgL_14 = true := m_lay_by (by decide +kernel)
theorem law_lay_15 : m_lay code (m_chk1 mFL mSL mCL mKI mKL false 12 pg_L_law) 600 904 pgL_15 = true := m_lay_by (by decide +kernel)
theorem law_lay_16 : m_lay code (m_chk1 mFL mSL mCL mKI mKL false 12 pg_L_law) 640 954 pgL_16 = true := m_lay_by (by decide +kernel)
theorem law_lay_17 : m_lay code (m_chk1 mFL mSL mCL mKI mKL false 12 pg_L_law) 680 1002 pgL_17 = true := m_lay_by (by decide +kernel)
