/-! words of the tables and of the start that the link needs -/
theorem k_const : ∀ q ∈ p_AOL.2, Cond.laysStatic "DriverHost$Word" q.2 "LDriverHost$Word;" ∈ lw_tbl := by decide +kernel
theorem k_over : ∀ C ∈ p_AOL.1, Cond.arrayOver (.object C) ∈ lw_tbl := by decide +kernel
theorem k_str : ∀ q ∈ p_TL, Cond.stringRef q.1 q.2.1 q.2.2.2.2 ∈ lw_tbl := by decide +kernel
theorem k_nest : ∀ q ∈ p_NL, Cond.methodLinkNest q.1 q.2.1 q.2.2.1 q.2.2.2 ∈ lw_tbl := by decide +kernel
theorem k_ng0 : ∀ w ∈ m_ng 0, w ∈ lw_tbl := by decide +kernel
theorem k_ng1 : ∀ w ∈ m_ng 1, w ∈ lw_tbl := by decide +kernel
theorem k_ng (x : Nat) (hx : x ≤ 1) : ∀ w ∈ m_ng x, w ∈ lw_tbl := by
  rcases (show x = 0 ∨ x = 1 by omega) with rfl | rfl
  · exact k_ng0
  · exact k_ng1
theorem k_ngt (x : Nat) : ∀ w ∈ m_ng x, w.onTables = true := m_ng_all (Q := fun w => w.onTables = true) rfl (fun _ => rfl)
theorem k_thr : Cond.laysStatic Bundle.tN "UNASSIGNED_STACK" Bundle.steD ∈ lw_tbl ∧ Cond.laysStatic Bundle.tN "SUPPRESSED_SENTINEL" Bundle.listD ∈ lw_tbl ∧ Cond.initialized Bundle.tN ∈ lw_tbl ∧ Cond.initialized "DriverHost$Word" ∈ lw_tbl := by decide +kernel
theorem n_const : ∀ q ∈ p_AOL.2, Cond.exactly (.static "DriverHost$Word" q.2 "LDriverHost$Word;") "DriverHost$Word" ∈ flatC (Jvm.Cond.and given_1 narrow_1) := by decide +kernel
theorem n_str : ∀ q ∈ p_TL, Cond.exactly (.string q.1 q.2.1) "java/lang/String" ∈ flatC (Jvm.Cond.and given_1 narrow_1) := by decide +kernel
theorem n_thr : Cond.isRef (.static Bundle.tN "UNASSIGNED_STACK" Bundle.steD) ∈ flatC (Jvm.Cond.and given_1 narrow_1) ∧ Cond.isRef (.static Bundle.tN "SUPPRESSED_SENTINEL" Bundle.listD) ∈ flatC (Jvm.Cond.and given_1 narrow_1) ∧ Cond.not (.castable (m_en 1) (m_en 0)) ∈ flatC (Jvm.Cond.and given_1 narrow_1) := by decide +kernel
theorem k_key : ∀ q ∈ p_AOL.2, q.1 ≠ m_X ∧ ∀ r ∈ p_AOL.2, q.1 = r.1 → q.2 = r.2 := by decide +kernel
theorem k_inst : Cond.instantiable RX0 4 ∈ lw_tbl ∧ Cond.instantiable RX1 8 ∈ lw_tbl ∧ Cond.instantiable RX2 16 ∈ lw_tbl ∧ Cond.instantiable RX3 3 ∈ lw_tbl ∧ Cond.instantiable RX4 7 ∈ lw_tbl ∧ Cond.instantiable RX5 11 ∈ lw_tbl ∧ Cond.instantiable RX6 7 ∈ lw_tbl ∧ Cond.instantiable RX7 16 ∈ lw_tbl ∧ Cond.instantiable RX8 11 ∈ lw_tbl ∧ Cond.instantiable RX9 7 ∈ lw_tbl ∧ Cond.instantiable RX10 7 ∈ lw_tbl ∧ Cond.instantiable RX11 8 ∈ lw_tbl ∧ Cond.instantiable RX12 37 ∈ lw_tbl := by decide +kernel
