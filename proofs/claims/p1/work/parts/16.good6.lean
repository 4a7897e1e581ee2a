/-! ===== the methods keep to their bytes ===== -/
theorem mg_J7_fill_53178 : m_good mFL mSL mCL mKI mKL mtab M_J7_fill_53178 := m_good_of (by decide +kernel) mw_1340 mw_1339 (by decide) rfl (fun q => absurd q (by decide)) (by decide +kernel) (by decide +kernel)
