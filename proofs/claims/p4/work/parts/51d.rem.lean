/-! division and remainder of whole numbers that aren't negative -/
theorem i_div {a b : Int} (h1 : 0 ≤ a) (h2 : a ≤ 2147483647) (h3 : 0 < b) (h4 : b ≤ 2147483647) : Int32.ofInt a / Int32.ofInt b = Int32.ofInt (a / b) := by
  have h5 : 0 ≤ a / b := Int.ediv_nonneg h1 (by omega)
  have h6 : a / b ≤ a := Int.ediv_le_self b h1
  apply Int32.toInt_inj.mp
  rw [Int32.toInt_div_of_ne_right _ _ (by
    intro e
    have := congrArg Int32.toInt e
    rw [i_to (by omega) (by omega)] at this
    have e1 : (-1 : Int32).toInt = -1 := by decide
    rw [e1] at this
    omega), i_to (by omega) (by omega), i_to (by omega) (by omega), i_to (by omega) (by omega), Int.tdiv_eq_ediv_of_nonneg h1]
theorem w_irem2 {P : m_P} {d y : Nat} {is : List Instr} {ls : m_F} {st : List Value} {h : m_H} {Q : Option Value ⊕ Nat → m_H → Prop} {a b : Int} (h1 : 0 ≤ a) (h2 : a ≤ 2147483647) (h3 : 0 < b) (h4 : b ≤ 2147483647) : m_W P d y (.irem :: is) ls (.int (Int32.ofInt b) :: .int (Int32.ofInt a) :: st) h Q = m_W P d y is ls (.int (Int32.ofInt (a % b)) :: st) h Q := by
  rw [w_irem (by rw [i_eq0 (by omega) h4]; omega), i_div h1 h2 h3 h4, i_mul, i_sub, Int.emod_def, Int.mul_comm]
