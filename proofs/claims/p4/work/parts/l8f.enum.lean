/-! their addresses -/
theorem l_ne {args : Array Value} {s : State} {t u : Term} {a b : Nat} (ht : t.eval args s none [] s = some (.ref a)) (hu : u.eval args s none [] s = some (.ref b)) (h : a ≠ b) : (Cond.not (.eq t u)).before args s = true := by
  simp [Cond.before, Cond.holds, Cond.value, ht, hu, h]
/-- an address for each constant, and the script -/
theorem l_xc2 {s : State} {args : Array Value} {b : Nat} (hts : ∀ w ∈ lw_tbl, w.before args s = true) (hn : ∀ w ∈ flatC (Jvm.Cond.and given_1 narrow_1), w.before args s = true) : ∃ xc : Nat → Nat, xc m_X = b ∧ (∀ q ∈ p_AOL.2, (Term.static "DriverHost$Word" q.2 "LDriverHost$Word;").eval args s none [] s = some (.ref (xc q.1))) ∧ va_En m_WE m_WD m_WN m_WF (fun i => xc (m_X + 1 + i)) (fun q => s.heap.size ≤ q) s s.heap := by
  have hA : ∀ a : Nat, a < s.heap.size → ¬ (fun q : Nat => s.heap.size ≤ q) a := fun a h => Nat.not_le.mpr h
  have hd : ∀ i j, i < m_WN.length → j < m_WN.length → i ≠ j → (Cond.not (.eq (.static m_WE (m_WN.getD i "") m_WD) (.static m_WE (m_WN.getD j "") m_WD))).before args s = true ∨ (Cond.not (.eq (.static m_WE (m_WN.getD j "") m_WD) (.static m_WE (m_WN.getD i "") m_WD))).before args s = true := by
    intro i j hi hj hij
    obtain ⟨a, -, -, -, ha, -⟩ := Cond.exactly_spec (hn _ (n_ex i hi))
    obtain ⟨c, -, -, -, hc, -⟩ := Cond.exactly_spec (hn _ (n_ex j hj))
    refine Or.inl (l_ne ha hc (fun e => hij ?_))
    have o1 := va_eqt (hn _ (n_or i hi))
    have o2 := va_eqt (hn _ (n_or j hj))
    rw [va_fe ha] at o1
    rw [va_fe hc, ← e, o1] at o2
    exact n_or2 i hi j hj (Value.int.inj (Option.some.inj o2))
  obtain ⟨ad, hE, hev⟩ := va_Enof2 (E := m_WE) (d := m_WD) (nm := m_WN) (F := m_WF) (fun i hi => hts _ (n_lay i hi)) (hts _ k_thr.2.2.2) (fun i hi => hn _ (n_ex i hi)) (fun q hq i hi => hn _ (n_fl q hq i hi)) hd hA
  refine ⟨fun j => if j = m_X then b else ad (j - m_X - 1), if_pos rfl, fun q hq => ?_, ?_⟩
  · obtain ⟨i, hi, rfl⟩ := n_ao q hq
    show _ = some (Value.ref (if m_X + 1 + i = m_X then b else ad (m_X + 1 + i - m_X - 1)))
    rw [if_neg (by omega), show m_X + 1 + i - m_X - 1 = i by omega]
    exact hev i hi
  · have e : (fun i => if m_X + 1 + i = m_X then b else ad (m_X + 1 + i - m_X - 1)) = ad := by
      funext i
      rw [if_neg (by omega), show m_X + 1 + i - m_X - 1 = i by omega]
    rw [e]
    exact hE
