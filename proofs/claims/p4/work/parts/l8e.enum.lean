/-! the constants of the enum at the start -/
theorem n_lay : ∀ i, i < 35 → Cond.laysStatic m_WE (m_WN.getD i "") m_WD ∈ lw_tbl := by decide +kernel
theorem n_ex : ∀ i, i < 35 → Cond.exactly (.static m_WE (m_WN.getD i "") m_WD) m_WE ∈ flatC (Jvm.Cond.and given_1 narrow_1) := by decide +kernel
theorem n_fl : ∀ q ∈ m_WF, ∀ i, i < 35 → Cond.eq (.field (.static m_WE (m_WN.getD i "") m_WD) q.1 q.2.1 q.2.2.1) (.int (q.2.2.2.getD i 0)) ∈ flatC (Jvm.Cond.and given_1 narrow_1) := by decide +kernel
theorem n_or : ∀ i, i < 35 → Cond.eq (.field (.static m_WE (m_WN.getD i "") m_WD) "java/lang/Enum" "ordinal" "I") (.int (Int32.ofNat i)) ∈ flatC (Jvm.Cond.and given_1 narrow_1) := by decide +kernel
theorem n_or2 : ∀ i, i < 35 → ∀ j, j < 35 → Int32.ofNat i = Int32.ofNat j → i = j := by decide +kernel
theorem n_ao : ∀ q ∈ p_AOL.2, ∃ i, i < 35 ∧ q = (m_X + 1 + i, m_WN.getD i "") := by decide +kernel
