/-! ints as 'Int32.ofInt' of whole numbers in range -/
theorem i_add (a b : Int) : Int32.ofInt a + Int32.ofInt b = Int32.ofInt (a + b) := (Int32.ofInt_add a b).symm
theorem i_sub (a b : Int) : Int32.ofInt a - Int32.ofInt b = Int32.ofInt (a - b) := (Int32.ofInt_sub a b).symm
theorem i_mul (a b : Int) : Int32.ofInt a * Int32.ofInt b = Int32.ofInt (a * b) := (Int32.ofInt_mul a b).symm
theorem i_to {a : Int} (h1 : -2147483648 ≤ a) (h2 : a ≤ 2147483647) : (Int32.ofInt a).toInt = a := Int32.toInt_ofInt_of_le (by omega) (by omega)
theorem i_lt {a b : Int} (h1 : -2147483648 ≤ a) (h2 : a ≤ 2147483647) (h3 : -2147483648 ≤ b) (h4 : b ≤ 2147483647) : (Int32.ofInt a < Int32.ofInt b) = (a < b) := by rw [Int32.lt_iff_toInt_lt, i_to h1 h2, i_to h3 h4]
theorem i_eq {a b : Int} (h1 : -2147483648 ≤ a) (h2 : a ≤ 2147483647) (h3 : -2147483648 ≤ b) (h4 : b ≤ 2147483647) : (Int32.ofInt a = Int32.ofInt b) = (a = b) := by rw [← Int32.toInt_inj, i_to h1 h2, i_to h3 h4]
theorem i_lt0 {a : Int} (h1 : -2147483648 ≤ a) (h2 : a ≤ 2147483647) : (Int32.ofInt a < 0) = (a < 0) := i_lt (b := 0) h1 h2 (by decide) (by decide)
theorem i_0lt {a : Int} (h1 : -2147483648 ≤ a) (h2 : a ≤ 2147483647) : (0 < Int32.ofInt a) = (0 < a) := i_lt (a := 0) (by decide) (by decide) h1 h2
theorem i_eq0 {a : Int} (h1 : -2147483648 ≤ a) (h2 : a ≤ 2147483647) : (Int32.ofInt a = 0) = (a = 0) := i_eq (b := 0) h1 h2 (by decide) (by decide)
theorem i_eq1 {a : Int} (h1 : -2147483648 ≤ a) (h2 : a ≤ 2147483647) : (Int32.ofInt a = 1) = (a = 1) := i_eq (b := 1) h1 h2 (by decide) (by decide)
theorem i_tn {a : Int} (h1 : -2147483648 ≤ a) (h2 : a ≤ 2147483647) : (Int32.ofInt a).toNatClampNeg = a.toNat := Int32.toNatClampNeg_ofInt_of_le (by omega) (by omega)
theorem i_nat (n : Nat) : Int32.ofNat n = Int32.ofInt (n : Int) := Int32.ofInt_eq_ofNat.symm
theorem i_nn {a : Int} (h1 : 0 ≤ a) (h2 : a ≤ 2147483647) : ¬ Int32.ofInt a < 0 := by rw [i_lt0 (by omega) h2]; omega
theorem i_any (x : Int32) : ∃ v : Int, x = Int32.ofInt v ∧ -2147483648 ≤ v ∧ v ≤ 2147483647 := ⟨x.toInt, (Int32.ofInt_toInt x).symm, by have := Int32.le_toInt x; omega, by have := Int32.toInt_lt x; omega⟩
theorem i_00 : (0 : Int32) = Int32.ofInt 0 := rfl
section OLD
variable {h : m_H} {kd len z x y : Nat}
theorem hk_old (hx : x ≠ m_n h) : m_k (m_mk h kd len z) x = m_k h x := by rw [h_k_mk, if_neg hx]
theorem hk_new (hx : x = m_n h) : m_k (m_mk h kd len z) x = kd := by rw [h_k_mk, if_pos hx]
theorem hl_old (hx : x ≠ m_n h) : m_l (m_mk h kd len z) x = m_l h x := by rw [h_l_mk, if_neg hx]
theorem hl_new (hx : x = m_n h) : m_l (m_mk h kd len z) x = len := by rw [h_l_mk, if_pos hx]
theorem hI_old (hx : x ≠ m_n h) : m_I (m_mk h kd len z) x y = m_I h x y := by rw [h_I_mk, if_neg hx]
theorem hI_new (hx : x = m_n h) : m_I (m_mk h kd len z) x y = 0 := by rw [h_I_mk, if_pos hx]
theorem hR_old (hx : x ≠ m_n h) : m_R (m_mk h kd len z) x y = m_R h x y := by rw [h_R_mk, if_neg hx]
theorem hR_new (hx : x = m_n h) : m_R (m_mk h kd len z) x y = none := by rw [h_R_mk, if_pos hx]
end OLD
