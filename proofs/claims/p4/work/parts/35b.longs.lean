/-! longs; the reference's in; cases of the law -/
theorem l_32 {a : Int} (h1 : -2147483648 ≤ a) (h2 : a ≤ 2147483647) : (Int32.ofInt a).toInt64 = Int64.ofInt a := Int32.toInt64_ofInt (show Int32.minValue.toInt ≤ a from h1) (show a ≤ Int32.maxValue.toInt from h2)
theorem l_nat (n : Nat) : Int64.ofNat n = Int64.ofInt (n : Int) := Int64.ofInt_eq_ofNat.symm
theorem l_to {a : Int} (h1 : -9223372036854775808 ≤ a) (h2 : a ≤ 9223372036854775807) : (Int64.ofInt a).toInt = a := Int64.toInt_ofInt_of_le (by omega) (by omega)
theorem l_lt {a b : Int} (h1 : -9223372036854775808 ≤ a) (h2 : a ≤ 9223372036854775807) (h3 : -9223372036854775808 ≤ b) (h4 : b ≤ 9223372036854775807) : (Int64.ofInt a < Int64.ofInt b) = (a < b) := by rw [Int64.lt_iff_toInt_lt, l_to h1 h2, l_to h3 h4]
theorem l_eq {a b : Int} (h1 : -9223372036854775808 ≤ a) (h2 : a ≤ 9223372036854775807) (h3 : -9223372036854775808 ≤ b) (h4 : b ≤ 9223372036854775807) : (Int64.ofInt a = Int64.ofInt b) = (a = b) := by rw [← Int64.toInt_inj, l_to h1 h2, l_to h3 h4]
theorem l_cgt {a b : Int} (h1 : -9223372036854775808 ≤ a) (h2 : a ≤ 9223372036854775807) (h3 : -9223372036854775808 ≤ b) (h4 : b ≤ 9223372036854775807) (h : b < a) : lg_cmp (Int64.ofInt a) (Int64.ofInt b) = Int32.ofInt 1 := by
  unfold lg_cmp
  rw [if_pos (show Int64.ofInt b < Int64.ofInt a by rw [l_lt h3 h4 h1 h2]; exact h)]
  rfl
theorem l_ceq {a b : Int} (h : a = b) : lg_cmp (Int64.ofInt a) (Int64.ofInt b) = Int32.ofInt 0 := by
  subst h
  unfold lg_cmp
  rw [if_neg (by exact Int64.lt_irrefl), if_pos rfl]
  rfl
theorem l_clt {a b : Int} (h1 : -9223372036854775808 ≤ a) (h2 : a ≤ 9223372036854775807) (h3 : -9223372036854775808 ≤ b) (h4 : b ≤ 9223372036854775807) (h : a < b) : lg_cmp (Int64.ofInt a) (Int64.ofInt b) = Int32.ofInt (-1) := by
  unfold lg_cmp
  rw [if_neg (show ¬ Int64.ofInt b < Int64.ofInt a by rw [l_lt h3 h4 h1 h2]; omega), if_neg (show ¬ Int64.ofInt a = Int64.ofInt b by rw [l_eq h1 h2 h3 h4]; omega)]
  rfl
theorem l_c_lt {a b : Int} (h1 : -9223372036854775808 ≤ a) (h2 : a ≤ 9223372036854775807) (h3 : -9223372036854775808 ≤ b) (h4 : b ≤ 9223372036854775807) : (lg_cmp (Int64.ofInt a) (Int64.ofInt b) < 0) = (a < b) := by
  rcases (show a < b ∨ a = b ∨ b < a by omega) with e | e | e
  · rw [l_clt h1 h2 h3 h4 e]; exact propext ⟨fun _ => e, fun _ => by decide⟩
  · rw [l_ceq e]; exact propext ⟨fun h => absurd h (by decide), fun h => by omega⟩
  · rw [l_cgt h1 h2 h3 h4 e]; exact propext ⟨fun h => absurd h (by decide), fun h => by omega⟩
theorem l_c_gt {a b : Int} (h1 : -9223372036854775808 ≤ a) (h2 : a ≤ 9223372036854775807) (h3 : -9223372036854775808 ≤ b) (h4 : b ≤ 9223372036854775807) : (0 < lg_cmp (Int64.ofInt a) (Int64.ofInt b)) = (b < a) := by
  rcases (show a < b ∨ a = b ∨ b < a by omega) with e | e | e
  · rw [l_clt h1 h2 h3 h4 e]; exact propext ⟨fun h => absurd h (by decide), fun h => by omega⟩
  · rw [l_ceq e]; exact propext ⟨fun h => absurd h (by decide), fun h => by omega⟩
  · rw [l_cgt h1 h2 h3 h4 e]; exact propext ⟨fun _ => e, fun _ => by decide⟩
theorem l_c_eq {a b : Int} (h1 : -9223372036854775808 ≤ a) (h2 : a ≤ 9223372036854775807) (h3 : -9223372036854775808 ≤ b) (h4 : b ≤ 9223372036854775807) : (lg_cmp (Int64.ofInt a) (Int64.ofInt b) = 0) = (a = b) := by
  rcases (show a < b ∨ a = b ∨ b < a by omega) with e | e | e
  · rw [l_clt h1 h2 h3 h4 e]; exact propext ⟨fun h => absurd h (by decide), fun h => by omega⟩
  · rw [l_ceq e]; exact propext ⟨fun _ => e, fun _ => by decide⟩
  · rw [l_cgt h1 h2 h3 h4 e]; exact propext ⟨fun h => absurd h (by decide), fun h => by omega⟩
theorem xs_P {L : Nat} {xs : Nat → Int32} (k : Nat) : m_xs (p_P L xs) k = xs k := of_eq_true (eq_self _)
theorem xl_P {L : Nat} {xs : Nat → Int32} : m_xl (p_P L xs) = L := of_eq_true (eq_self _)
def q_Q (o : Option Value ⊕ Nat) (h : m_H) : Prop := o = .inl (some (.int (Int32.ofInt 1))) ∧ m_c h ≤ 601024 ∧ m_s h ≤ 7293034
section MC
variable {L : Nat} {xs : Nat → Int32} {d : Nat} {is : List Instr} {ls l : m_F} {st : List Value} {h : m_H} {Q : Option Value ⊕ Nat → m_H → Prop} {a0 a1 a2 a3 a4 a5 a6 a7 a8 : Option Value}
theorem hn_0 {x : Nat} : m_hd (p_P L xs) 0 x = none := (show p_hd 0 x = none from p_hdN (z := 0) (by decide +kernel) x)
theorem mc_0 {x : Nat} : m_C (p_P L xs) d 0 false is ls st Q (.inr x) h = Q (.inr x) h := by
  rw [m_C_inr, hn_0]
  simp only [show m_hh (p_P L xs) 0 = false from (show p_hhb 0 = false by decide +kernel), true_and]
theorem hn_1 {x : Nat} : m_hd (p_P L xs) 1 x = none := (show p_hd 1 x = none from p_hdN (z := 1) (by decide +kernel) x)
theorem mc_1 {x : Nat} : m_C (p_P L xs) d 1 false is ls st Q (.inr x) h = Q (.inr x) h := by
  rw [m_C_inr, hn_1]
  simp only [show m_hh (p_P L xs) 1 = false from (show p_hhb 1 = false by decide +kernel), true_and]
theorem hn_2 {x : Nat} : m_hd (p_P L xs) 2 x = none := (show p_hd 2 x = none from p_hdN (z := 2) (by decide +kernel) x)
theorem mc_2 {x : Nat} : m_C (p_P L xs) d 2 false is ls st Q (.inr x) h = Q (.inr x) h := by
  rw [m_C_inr, hn_2]
  simp only [show m_hh (p_P L xs) 2 = false from (show p_hhb 2 = false by decide +kernel), true_and]
theorem hn_3 {x : Nat} : m_hd (p_P L xs) 3 x = none := (show p_hd 3 x = none from p_hdN (z := 3) (by decide +kernel) x)
theorem mc_3 {x : Nat} : m_C (p_P L xs) d 3 false is ls st Q (.inr x) h = Q (.inr x) h := by
  rw [m_C_inr, hn_3]
  simp only [show m_hh (p_P L xs) 3 = false from (show p_hhb 3 = false by decide +kernel), true_and]
theorem hn_4 {x : Nat} : m_hd (p_P L xs) 4 x = none := (show p_hd 4 x = none from p_hdN (z := 4) (by decide +kernel) x)
theorem mc_4 {x : Nat} : m_C (p_P L xs) d 4 false is ls st Q (.inr x) h = Q (.inr x) h := by
  rw [m_C_inr, hn_4]
  simp only [show m_hh (p_P L xs) 4 = false from (show p_hhb 4 = false by decide +kernel), true_and]
theorem hn_5 {x : Nat} : m_hd (p_P L xs) 5 x = none := (show p_hd 5 x = none from p_hdN (z := 5) (by decide +kernel) x)
theorem mc_5 {x : Nat} : m_C (p_P L xs) d 5 false is ls st Q (.inr x) h = Q (.inr x) h := by
  rw [m_C_inr, hn_5]
  simp only [show m_hh (p_P L xs) 5 = false from (show p_hhb 5 = false by decide +kernel), true_and]
theorem hn_6 {x : Nat} : m_hd (p_P L xs) 6 x = none := (show p_hd 6 x = none from p_hdN (z := 6) (by decide +kernel) x)
theorem mc_6 {x : Nat} : m_C (p_P L xs) d 6 false is ls st Q (.inr x) h = Q (.inr x) h := by
  rw [m_C_inr, hn_6]
  simp only [show m_hh (p_P L xs) 6 = false from (show p_hhb 6 = false by decide +kernel), true_and]
theorem hn_7 {x : Nat} : m_hd (p_P L xs) 7 x = none := (show p_hd 7 x = none from p_hdN (z := 7) (by decide +kernel) x)
theorem mc_7 {x : Nat} : m_C (p_P L xs) d 7 false is ls st Q (.inr x) h = Q (.inr x) h := by
  rw [m_C_inr, hn_7]
  simp only [show m_hh (p_P L xs) 7 = false from (show p_hhb 7 = false by decide +kernel), true_and]
theorem hn_8 {x : Nat} : m_hd (p_P L xs) 8 x = none := (show p_hd 8 x = none from p_hdN (z := 8) (by decide +kernel) x)
theorem mc_8 {x : Nat} : m_C (p_P L xs) d 8 false is ls st Q (.inr x) h = Q (.inr x) h := by
  rw [m_C_inr, hn_8]
  simp only [show m_hh (p_P L xs) 8 = false from (show p_hhb 8 = false by decide +kernel), true_and]
theorem hn_9 {x : Nat} : m_hd (p_P L xs) 9 x = none := (show p_hd 9 x = none from p_hdN (z := 9) (by decide +kernel) x)
theorem mc_9 {x : Nat} : m_C (p_P L xs) d 9 false is ls st Q (.inr x) h = Q (.inr x) h := by
  rw [m_C_inr, hn_9]
  simp only [show m_hh (p_P L xs) 9 = false from (show p_hhb 9 = false by decide +kernel), true_and]
theorem hn_10 {x : Nat} : m_hd (p_P L xs) 10 x = none := (show p_hd 10 x = none from p_hdN (z := 10) (by decide +kernel) x)
theorem mc_10 {x : Nat} : m_C (p_P L xs) d 10 false is ls st Q (.inr x) h = Q (.inr x) h := by
  rw [m_C_inr, hn_10]
  simp only [show m_hh (p_P L xs) 10 = false from (show p_hhb 10 = false by decide +kernel), true_and]
theorem hn_11 {x : Nat} : m_hd (p_P L xs) 11 x = none := (show p_hd 11 x = none from p_hdN (z := 11) (by decide +kernel) x)
theorem mc_11 {x : Nat} : m_C (p_P L xs) d 11 false is ls st Q (.inr x) h = Q (.inr x) h := by
  rw [m_C_inr, hn_11]
  simp only [show m_hh (p_P L xs) 11 = false from (show p_hhb 11 = false by decide +kernel), true_and]
theorem hn_12 {x : Nat} : m_hd (p_P L xs) 12 x = none := (show p_hd 12 x = none from p_hdN (z := 12) (by decide +kernel) x)
theorem mc_12 {x : Nat} : m_C (p_P L xs) d 12 false is ls st Q (.inr x) h = Q (.inr x) h := by
  rw [m_C_inr, hn_12]
  simp only [show m_hh (p_P L xs) 12 = false from (show p_hhb 12 = false by decide +kernel), true_and]
theorem hn_13 {x : Nat} : m_hd (p_P L xs) 13 x = none := (show p_hd 13 x = none from p_hdN (z := 13) (by decide +kernel) x)
theorem mc_13 {x : Nat} : m_C (p_P L xs) d 13 false is ls st Q (.inr x) h = Q (.inr x) h := by
  rw [m_C_inr, hn_13]
  simp only [show m_hh (p_P L xs) 13 = false from (show p_hhb 13 = false by decide +kernel), true_and]
theorem hn_14 {x : Nat} : m_hd (p_P L xs) 14 x = none := (show p_hd 14 x = none from p_hdN (z := 14) (by decide +kernel) x)
theorem mc_14 {x : Nat} : m_C (p_P L xs) d 14 false is ls st Q (.inr x) h = Q (.inr x) h := by
  rw [m_C_inr, hn_14]
  simp only [show m_hh (p_P L xs) 14 = false from (show p_hhb 14 = false by decide +kernel), true_and]
theorem hn_15 {x : Nat} : m_hd (p_P L xs) 15 x = none := (show p_hd 15 x = none from p_hdN (z := 15) (by decide +kernel) x)
theorem mc_15 {x : Nat} : m_C (p_P L xs) d 15 false is ls st Q (.inr x) h = Q (.inr x) h := by
  rw [m_C_inr, hn_15]
  simp only [show m_hh (p_P L xs) 15 = false from (show p_hhb 15 = false by decide +kernel), true_and]
theorem hn_16 {x : Nat} : m_hd (p_P L xs) 16 x = none := (show p_hd 16 x = none from p_hdN (z := 16) (by decide +kernel) x)
theorem mc_16 {x : Nat} : m_C (p_P L xs) d 16 false is ls st Q (.inr x) h = Q (.inr x) h := by
  rw [m_C_inr, hn_16]
  simp only [show m_hh (p_P L xs) 16 = false from (show p_hhb 16 = false by decide +kernel), true_and]
theorem hn_17 {x : Nat} : m_hd (p_P L xs) 17 x = none := (show p_hd 17 x = none from p_hdN (z := 17) (by decide +kernel) x)
theorem mc_17 {x : Nat} : m_C (p_P L xs) d 17 false is ls st Q (.inr x) h = Q (.inr x) h := by
  rw [m_C_inr, hn_17]
  simp only [show m_hh (p_P L xs) 17 = false from (show p_hhb 17 = false by decide +kernel), true_and]
theorem hn_18 {x : Nat} : m_hd (p_P L xs) 18 x = none := (show p_hd 18 x = none from p_hdN (z := 18) (by decide +kernel) x)
theorem mc_18 {x : Nat} : m_C (p_P L xs) d 18 false is ls st Q (.inr x) h = Q (.inr x) h := by
  rw [m_C_inr, hn_18]
  simp only [show m_hh (p_P L xs) 18 = false from (show p_hhb 18 = false by decide +kernel), true_and]
theorem hn_19 {x : Nat} : m_hd (p_P L xs) 19 x = none := (show p_hd 19 x = none from p_hdN (z := 19) (by decide +kernel) x)
theorem mc_19 {x : Nat} : m_C (p_P L xs) d 19 false is ls st Q (.inr x) h = Q (.inr x) h := by
  rw [m_C_inr, hn_19]
  simp only [show m_hh (p_P L xs) 19 = false from (show p_hhb 19 = false by decide +kernel), true_and]
theorem hn_20 {x : Nat} : m_hd (p_P L xs) 20 x = none := (show p_hd 20 x = none from p_hdN (z := 20) (by decide +kernel) x)
theorem mc_20 {x : Nat} : m_C (p_P L xs) d 20 false is ls st Q (.inr x) h = Q (.inr x) h := by
  rw [m_C_inr, hn_20]
  simp only [show m_hh (p_P L xs) 20 = false from (show p_hhb 20 = false by decide +kernel), true_and]
theorem hn_21 {x : Nat} : m_hd (p_P L xs) 21 x = none := (show p_hd 21 x = none from p_hdN (z := 21) (by decide +kernel) x)
theorem mc_21 {x : Nat} : m_C (p_P L xs) d 21 false is ls st Q (.inr x) h = Q (.inr x) h := by
  rw [m_C_inr, hn_21]
  simp only [show m_hh (p_P L xs) 21 = false from (show p_hhb 21 = false by decide +kernel), true_and]
theorem hn_22 {x : Nat} : m_hd (p_P L xs) 22 x = none := (show p_hd 22 x = none from p_hdN (z := 22) (by decide +kernel) x)
theorem mc_22 {x : Nat} : m_C (p_P L xs) d 22 false is ls st Q (.inr x) h = Q (.inr x) h := by
  rw [m_C_inr, hn_22]
  simp only [show m_hh (p_P L xs) 22 = false from (show p_hhb 22 = false by decide +kernel), true_and]
theorem hn_23 {x : Nat} : m_hd (p_P L xs) 23 x = none := (show p_hd 23 x = none from p_hdN (z := 23) (by decide +kernel) x)
theorem mc_23 {x : Nat} : m_C (p_P L xs) d 23 false is ls st Q (.inr x) h = Q (.inr x) h := by
  rw [m_C_inr, hn_23]
  simp only [show m_hh (p_P L xs) 23 = false from (show p_hhb 23 = false by decide +kernel), true_and]
theorem hn_24 {x : Nat} : m_hd (p_P L xs) 24 x = none := (show p_hd 24 x = none from p_hdN (z := 24) (by decide +kernel) x)
theorem mc_24 {x : Nat} : m_C (p_P L xs) d 24 false is ls st Q (.inr x) h = Q (.inr x) h := by
  rw [m_C_inr, hn_24]
  simp only [show m_hh (p_P L xs) 24 = false from (show p_hhb 24 = false by decide +kernel), true_and]
theorem hn_25 {x : Nat} : m_hd (p_P L xs) 25 x = none := (show p_hd 25 x = none from p_hdN (z := 25) (by decide +kernel) x)
theorem mc_25 {x : Nat} : m_C (p_P L xs) d 25 false is ls st Q (.inr x) h = Q (.inr x) h := by
  rw [m_C_inr, hn_25]
  simp only [show m_hh (p_P L xs) 25 = false from (show p_hhb 25 = false by decide +kernel), true_and]
theorem hn_26 {x : Nat} : m_hd (p_P L xs) 26 x = none := (show p_hd 26 x = none from p_hdN (z := 26) (by decide +kernel) x)
theorem mc_26 {x : Nat} : m_C (p_P L xs) d 26 false is ls st Q (.inr x) h = Q (.inr x) h := by
  rw [m_C_inr, hn_26]
  simp only [show m_hh (p_P L xs) 26 = false from (show p_hhb 26 = false by decide +kernel), true_and]
theorem hn_27 {x : Nat} : m_hd (p_P L xs) 27 x = none := (show p_hd 27 x = none from p_hdN (z := 27) (by decide +kernel) x)
theorem mc_27 {x : Nat} : m_C (p_P L xs) d 27 false is ls st Q (.inr x) h = Q (.inr x) h := by
  rw [m_C_inr, hn_27]
  simp only [show m_hh (p_P L xs) 27 = false from (show p_hhb 27 = false by decide +kernel), true_and]
theorem hn_28 {x : Nat} : m_hd (p_P L xs) 28 x = none := (show p_hd 28 x = none from p_hdN (z := 28) (by decide +kernel) x)
theorem mc_28 {x : Nat} : m_C (p_P L xs) d 28 false is ls st Q (.inr x) h = Q (.inr x) h := by
  rw [m_C_inr, hn_28]
  simp only [show m_hh (p_P L xs) 28 = false from (show p_hhb 28 = false by decide +kernel), true_and]
theorem hn_29 {x : Nat} : m_hd (p_P L xs) 29 x = none := (show p_hd 29 x = none from p_hdN (z := 29) (by decide +kernel) x)
theorem mc_29 {x : Nat} : m_C (p_P L xs) d 29 false is ls st Q (.inr x) h = Q (.inr x) h := by
  rw [m_C_inr, hn_29]
  simp only [show m_hh (p_P L xs) 29 = false from (show p_hhb 29 = false by decide +kernel), true_and]
theorem hn_30 {x : Nat} : m_hd (p_P L xs) 30 x = none := (show p_hd 30 x = none from p_hdN (z := 30) (by decide +kernel) x)
theorem mc_30 {x : Nat} : m_C (p_P L xs) d 30 false is ls st Q (.inr x) h = Q (.inr x) h := by
  rw [m_C_inr, hn_30]
  simp only [show m_hh (p_P L xs) 30 = false from (show p_hhb 30 = false by decide +kernel), true_and]
theorem hn_31 {x : Nat} : m_hd (p_P L xs) 31 x = none := (show p_hd 31 x = none from p_hdN (z := 31) (by decide +kernel) x)
theorem mc_31 {x : Nat} : m_C (p_P L xs) d 31 false is ls st Q (.inr x) h = Q (.inr x) h := by
  rw [m_C_inr, hn_31]
  simp only [show m_hh (p_P L xs) 31 = false from (show p_hhb 31 = false by decide +kernel), true_and]
theorem hn_32 {x : Nat} : m_hd (p_P L xs) 32 x = none := (show p_hd 32 x = none from p_hdN (z := 32) (by decide +kernel) x)
theorem mc_32 {x : Nat} : m_C (p_P L xs) d 32 false is ls st Q (.inr x) h = Q (.inr x) h := by
  rw [m_C_inr, hn_32]
  simp only [show m_hh (p_P L xs) 32 = false from (show p_hhb 32 = false by decide +kernel), true_and]
theorem hn_33 {x : Nat} : m_hd (p_P L xs) 33 x = none := (show p_hd 33 x = none from p_hdN (z := 33) (by decide +kernel) x)
theorem mc_33 {x : Nat} : m_C (p_P L xs) d 33 false is ls st Q (.inr x) h = Q (.inr x) h := by
  rw [m_C_inr, hn_33]
  simp only [show m_hh (p_P L xs) 33 = false from (show p_hhb 33 = false by decide +kernel), true_and]
theorem hn_34 {x : Nat} : m_hd (p_P L xs) 34 x = none := (show p_hd 34 x = none from p_hdN (z := 34) (by decide +kernel) x)
theorem mc_34 {x : Nat} : m_C (p_P L xs) d 34 false is ls st Q (.inr x) h = Q (.inr x) h := by
  rw [m_C_inr, hn_34]
  simp only [show m_hh (p_P L xs) 34 = false from (show p_hhb 34 = false by decide +kernel), true_and]
theorem hn_35 {x : Nat} : m_hd (p_P L xs) 35 x = none := (show p_hd 35 x = none from p_hdN (z := 35) (by decide +kernel) x)
theorem mc_35 {x : Nat} : m_C (p_P L xs) d 35 false is ls st Q (.inr x) h = Q (.inr x) h := by
  rw [m_C_inr, hn_35]
  simp only [show m_hh (p_P L xs) 35 = false from (show p_hhb 35 = false by decide +kernel), true_and]
theorem hn_36 {x : Nat} : m_hd (p_P L xs) 36 x = none := (show p_hd 36 x = none from p_hdN (z := 36) (by decide +kernel) x)
theorem mc_36 {x : Nat} : m_C (p_P L xs) d 36 false is ls st Q (.inr x) h = Q (.inr x) h := by
  rw [m_C_inr, hn_36]
  simp only [show m_hh (p_P L xs) 36 = false from (show p_hhb 36 = false by decide +kernel), true_and]
theorem hn_37 {x : Nat} : m_hd (p_P L xs) 37 x = none := (show p_hd 37 x = none from p_hdN (z := 37) (by decide +kernel) x)
theorem mc_37 {x : Nat} : m_C (p_P L xs) d 37 false is ls st Q (.inr x) h = Q (.inr x) h := by
  rw [m_C_inr, hn_37]
  simp only [show m_hh (p_P L xs) 37 = false from (show p_hhb 37 = false by decide +kernel), true_and]
theorem hn_38 {x : Nat} : m_hd (p_P L xs) 38 x = none := (show p_hd 38 x = none from p_hdN (z := 38) (by decide +kernel) x)
theorem mc_38 {x : Nat} : m_C (p_P L xs) d 38 false is ls st Q (.inr x) h = Q (.inr x) h := by
  rw [m_C_inr, hn_38]
  simp only [show m_hh (p_P L xs) 38 = false from (show p_hhb 38 = false by decide +kernel), true_and]
theorem hn_39 {x : Nat} : m_hd (p_P L xs) 39 x = none := (show p_hd 39 x = none from p_hdN (z := 39) (by decide +kernel) x)
theorem mc_39 {x : Nat} : m_C (p_P L xs) d 39 false is ls st Q (.inr x) h = Q (.inr x) h := by
  rw [m_C_inr, hn_39]
  simp only [show m_hh (p_P L xs) 39 = false from (show p_hhb 39 = false by decide +kernel), true_and]
theorem hn_40 {x : Nat} : m_hd (p_P L xs) 40 x = none := (show p_hd 40 x = none from p_hdN (z := 40) (by decide +kernel) x)
theorem mc_40 {x : Nat} : m_C (p_P L xs) d 40 false is ls st Q (.inr x) h = Q (.inr x) h := by
  rw [m_C_inr, hn_40]
  simp only [show m_hh (p_P L xs) 40 = false from (show p_hhb 40 = false by decide +kernel), true_and]
theorem hn_41 {x : Nat} : m_hd (p_P L xs) 41 x = none := (show p_hd 41 x = none from p_hdN (z := 41) (by decide +kernel) x)
theorem mc_41 {x : Nat} : m_C (p_P L xs) d 41 false is ls st Q (.inr x) h = Q (.inr x) h := by
  rw [m_C_inr, hn_41]
  simp only [show m_hh (p_P L xs) 41 = false from (show p_hhb 41 = false by decide +kernel), true_and]
theorem hn_42 {x : Nat} : m_hd (p_P L xs) 42 x = none := (show p_hd 42 x = none from p_hdN (z := 42) (by decide +kernel) x)
theorem mc_42 {x : Nat} : m_C (p_P L xs) d 42 false is ls st Q (.inr x) h = Q (.inr x) h := by
  rw [m_C_inr, hn_42]
  simp only [show m_hh (p_P L xs) 42 = false from (show p_hhb 42 = false by decide +kernel), true_and]
theorem hn_43 {x : Nat} : m_hd (p_P L xs) 43 x = none := (show p_hd 43 x = none from p_hdN (z := 43) (by decide +kernel) x)
theorem mc_43 {x : Nat} : m_C (p_P L xs) d 43 false is ls st Q (.inr x) h = Q (.inr x) h := by
  rw [m_C_inr, hn_43]
  simp only [show m_hh (p_P L xs) 43 = false from (show p_hhb 43 = false by decide +kernel), true_and]
theorem hn_44 {x : Nat} : m_hd (p_P L xs) 44 x = none := (show p_hd 44 x = none from p_hdN (z := 44) (by decide +kernel) x)
theorem mc_44 {x : Nat} : m_C (p_P L xs) d 44 false is ls st Q (.inr x) h = Q (.inr x) h := by
  rw [m_C_inr, hn_44]
  simp only [show m_hh (p_P L xs) 44 = false from (show p_hhb 44 = false by decide +kernel), true_and]
theorem hn_45 {x : Nat} : m_hd (p_P L xs) 45 x = none := (show p_hd 45 x = none from p_hdN (z := 45) (by decide +kernel) x)
theorem mc_45 {x : Nat} : m_C (p_P L xs) d 45 false is ls st Q (.inr x) h = Q (.inr x) h := by
  rw [m_C_inr, hn_45]
  simp only [show m_hh (p_P L xs) 45 = false from (show p_hhb 45 = false by decide +kernel), true_and]
theorem hn_46 {x : Nat} : m_hd (p_P L xs) 46 x = none := (show p_hd 46 x = none from p_hdN (z := 46) (by decide +kernel) x)
theorem mc_46 {x : Nat} : m_C (p_P L xs) d 46 false is ls st Q (.inr x) h = Q (.inr x) h := by
  rw [m_C_inr, hn_46]
  simp only [show m_hh (p_P L xs) 46 = false from (show p_hhb 46 = false by decide +kernel), true_and]
theorem hn_47 {x : Nat} : m_hd (p_P L xs) 47 x = none := (show p_hd 47 x = none from p_hdN (z := 47) (by decide +kernel) x)
theorem mc_47 {x : Nat} : m_C (p_P L xs) d 47 false is ls st Q (.inr x) h = Q (.inr x) h := by
  rw [m_C_inr, hn_47]
  simp only [show m_hh (p_P L xs) 47 = false from (show p_hhb 47 = false by decide +kernel), true_and]
theorem hn_48 {x : Nat} : m_hd (p_P L xs) 48 x = none := (show p_hd 48 x = none from p_hdN (z := 48) (by decide +kernel) x)
theorem mc_48 {x : Nat} : m_C (p_P L xs) d 48 false is ls st Q (.inr x) h = Q (.inr x) h := by
  rw [m_C_inr, hn_48]
  simp only [show m_hh (p_P L xs) 48 = false from (show p_hhb 48 = false by decide +kernel), true_and]
theorem hn_49 {x : Nat} : m_hd (p_P L xs) 49 x = none := (show p_hd 49 x = none from p_hdN (z := 49) (by decide +kernel) x)
theorem mc_49 {x : Nat} : m_C (p_P L xs) d 49 false is ls st Q (.inr x) h = Q (.inr x) h := by
  rw [m_C_inr, hn_49]
  simp only [show m_hh (p_P L xs) 49 = false from (show p_hhb 49 = false by decide +kernel), true_and]
theorem hn_50 {x : Nat} : m_hd (p_P L xs) 50 x = none := (show p_hd 50 x = none from p_hdN (z := 50) (by decide +kernel) x)
theorem mc_50 {x : Nat} : m_C (p_P L xs) d 50 false is ls st Q (.inr x) h = Q (.inr x) h := by
  rw [m_C_inr, hn_50]
  simp only [show m_hh (p_P L xs) 50 = false from (show p_hhb 50 = false by decide +kernel), true_and]
theorem hn_51 {x : Nat} : m_hd (p_P L xs) 51 x = none := (show p_hd 51 x = none from p_hdN (z := 51) (by decide +kernel) x)
theorem mc_51 {x : Nat} : m_C (p_P L xs) d 51 false is ls st Q (.inr x) h = Q (.inr x) h := by
  rw [m_C_inr, hn_51]
  simp only [show m_hh (p_P L xs) 51 = false from (show p_hhb 51 = false by decide +kernel), true_and]
theorem hn_52 {x : Nat} : m_hd (p_P L xs) 52 x = none := (show p_hd 52 x = none from p_hdN (z := 52) (by decide +kernel) x)
theorem mc_52 {x : Nat} : m_C (p_P L xs) d 52 false is ls st Q (.inr x) h = Q (.inr x) h := by
  rw [m_C_inr, hn_52]
  simp only [show m_hh (p_P L xs) 52 = false from (show p_hhb 52 = false by decide +kernel), true_and]
theorem hn_53 {x : Nat} : m_hd (p_P L xs) 53 x = none := (show p_hd 53 x = none from p_hdN (z := 53) (by decide +kernel) x)
theorem mc_53 {x : Nat} : m_C (p_P L xs) d 53 false is ls st Q (.inr x) h = Q (.inr x) h := by
  rw [m_C_inr, hn_53]
  simp only [show m_hh (p_P L xs) 53 = false from (show p_hhb 53 = false by decide +kernel), true_and]
theorem hn_54 {x : Nat} : m_hd (p_P L xs) 54 x = none := (show p_hd 54 x = none from p_hdN (z := 54) (by decide +kernel) x)
theorem mc_54 {x : Nat} : m_C (p_P L xs) d 54 false is ls st Q (.inr x) h = Q (.inr x) h := by
  rw [m_C_inr, hn_54]
  simp only [show m_hh (p_P L xs) 54 = false from (show p_hhb 54 = false by decide +kernel), true_and]
theorem hn_55 {x : Nat} : m_hd (p_P L xs) 55 x = none := (show p_hd 55 x = none from p_hdN (z := 55) (by decide +kernel) x)
theorem mc_55 {x : Nat} : m_C (p_P L xs) d 55 false is ls st Q (.inr x) h = Q (.inr x) h := by
  rw [m_C_inr, hn_55]
  simp only [show m_hh (p_P L xs) 55 = false from (show p_hhb 55 = false by decide +kernel), true_and]
theorem hn_56 {x : Nat} : m_hd (p_P L xs) 56 x = none := (show p_hd 56 x = none from p_hdN (z := 56) (by decide +kernel) x)
theorem mc_56 {x : Nat} : m_C (p_P L xs) d 56 false is ls st Q (.inr x) h = Q (.inr x) h := by
  rw [m_C_inr, hn_56]
  simp only [show m_hh (p_P L xs) 56 = false from (show p_hhb 56 = false by decide +kernel), true_and]
theorem hn_57 {x : Nat} : m_hd (p_P L xs) 57 x = none := (show p_hd 57 x = none from p_hdN (z := 57) (by decide +kernel) x)
theorem mc_57 {x : Nat} : m_C (p_P L xs) d 57 false is ls st Q (.inr x) h = Q (.inr x) h := by
  rw [m_C_inr, hn_57]
  simp only [show m_hh (p_P L xs) 57 = false from (show p_hhb 57 = false by decide +kernel), true_and]
theorem hn_58 {x : Nat} : m_hd (p_P L xs) 58 x = none := (show p_hd 58 x = none from p_hdN (z := 58) (by decide +kernel) x)
theorem mc_58 {x : Nat} : m_C (p_P L xs) d 58 false is ls st Q (.inr x) h = Q (.inr x) h := by
  rw [m_C_inr, hn_58]
  simp only [show m_hh (p_P L xs) 58 = false from (show p_hhb 58 = false by decide +kernel), true_and]
theorem hn_59 {x : Nat} : m_hd (p_P L xs) 59 x = none := (show p_hd 59 x = none from p_hdN (z := 59) (by decide +kernel) x)
theorem mc_59 {x : Nat} : m_C (p_P L xs) d 59 false is ls st Q (.inr x) h = Q (.inr x) h := by
  rw [m_C_inr, hn_59]
  simp only [show m_hh (p_P L xs) 59 = false from (show p_hhb 59 = false by decide +kernel), true_and]
theorem hn_60 {x : Nat} : m_hd (p_P L xs) 60 x = none := (show p_hd 60 x = none from p_hdN (z := 60) (by decide +kernel) x)
theorem mc_60 {x : Nat} : m_C (p_P L xs) d 60 false is ls st Q (.inr x) h = Q (.inr x) h := by
  rw [m_C_inr, hn_60]
  simp only [show m_hh (p_P L xs) 60 = false from (show p_hhb 60 = false by decide +kernel), true_and]
theorem hn_61 {x : Nat} : m_hd (p_P L xs) 61 x = none := (show p_hd 61 x = none from p_hdN (z := 61) (by decide +kernel) x)
theorem mc_61 {x : Nat} : m_C (p_P L xs) d 61 false is ls st Q (.inr x) h = Q (.inr x) h := by
  rw [m_C_inr, hn_61]
  simp only [show m_hh (p_P L xs) 61 = false from (show p_hhb 61 = false by decide +kernel), true_and]
theorem hn_62 {x : Nat} : m_hd (p_P L xs) 62 x = none := (show p_hd 62 x = none from p_hdN (z := 62) (by decide +kernel) x)
theorem mc_62 {x : Nat} : m_C (p_P L xs) d 62 false is ls st Q (.inr x) h = Q (.inr x) h := by
  rw [m_C_inr, hn_62]
  simp only [show m_hh (p_P L xs) 62 = false from (show p_hhb 62 = false by decide +kernel), true_and]
theorem hn_63 {x : Nat} : m_hd (p_P L xs) 63 x = none := (show p_hd 63 x = none from p_hdN (z := 63) (by decide +kernel) x)
theorem mc_63 {x : Nat} : m_C (p_P L xs) d 63 false is ls st Q (.inr x) h = Q (.inr x) h := by
  rw [m_C_inr, hn_63]
  simp only [show m_hh (p_P L xs) 63 = false from (show p_hhb 63 = false by decide +kernel), true_and]
theorem hn_64 {x : Nat} : m_hd (p_P L xs) 64 x = none := (show p_hd 64 x = none from p_hdN (z := 64) (by decide +kernel) x)
theorem mc_64 {x : Nat} : m_C (p_P L xs) d 64 false is ls st Q (.inr x) h = Q (.inr x) h := by
  rw [m_C_inr, hn_64]
  simp only [show m_hh (p_P L xs) 64 = false from (show p_hhb 64 = false by decide +kernel), true_and]
theorem hn_65 {x : Nat} : m_hd (p_P L xs) 65 x = none := (show p_hd 65 x = none from p_hdN (z := 65) (by decide +kernel) x)
theorem mc_65 {x : Nat} : m_C (p_P L xs) d 65 false is ls st Q (.inr x) h = Q (.inr x) h := by
  rw [m_C_inr, hn_65]
  simp only [show m_hh (p_P L xs) 65 = false from (show p_hhb 65 = false by decide +kernel), true_and]
theorem hn_66 {x : Nat} : m_hd (p_P L xs) 66 x = none := (show p_hd 66 x = none from p_hdN (z := 66) (by decide +kernel) x)
theorem mc_66 {x : Nat} : m_C (p_P L xs) d 66 false is ls st Q (.inr x) h = Q (.inr x) h := by
  rw [m_C_inr, hn_66]
  simp only [show m_hh (p_P L xs) 66 = false from (show p_hhb 66 = false by decide +kernel), true_and]
theorem hn_67 {x : Nat} : m_hd (p_P L xs) 67 x = none := (show p_hd 67 x = none from p_hdN (z := 67) (by decide +kernel) x)
theorem mc_67 {x : Nat} : m_C (p_P L xs) d 67 false is ls st Q (.inr x) h = Q (.inr x) h := by
  rw [m_C_inr, hn_67]
  simp only [show m_hh (p_P L xs) 67 = false from (show p_hhb 67 = false by decide +kernel), true_and]
theorem hn_68 {x : Nat} : m_hd (p_P L xs) 68 x = none := (show p_hd 68 x = none from p_hdN (z := 68) (by decide +kernel) x)
theorem mc_68 {x : Nat} : m_C (p_P L xs) d 68 false is ls st Q (.inr x) h = Q (.inr x) h := by
  rw [m_C_inr, hn_68]
  simp only [show m_hh (p_P L xs) 68 = false from (show p_hhb 68 = false by decide +kernel), true_and]
theorem hn_69 {x : Nat} : m_hd (p_P L xs) 69 x = none := (show p_hd 69 x = none from p_hdN (z := 69) (by decide +kernel) x)
theorem mc_69 {x : Nat} : m_C (p_P L xs) d 69 false is ls st Q (.inr x) h = Q (.inr x) h := by
  rw [m_C_inr, hn_69]
  simp only [show m_hh (p_P L xs) 69 = false from (show p_hhb 69 = false by decide +kernel), true_and]
theorem hn_70 {x : Nat} : m_hd (p_P L xs) 70 x = none := (show p_hd 70 x = none from p_hdN (z := 70) (by decide +kernel) x)
theorem mc_70 {x : Nat} : m_C (p_P L xs) d 70 false is ls st Q (.inr x) h = Q (.inr x) h := by
  rw [m_C_inr, hn_70]
  simp only [show m_hh (p_P L xs) 70 = false from (show p_hhb 70 = false by decide +kernel), true_and]
theorem hn_71 {x : Nat} : m_hd (p_P L xs) 71 x = none := (show p_hd 71 x = none from p_hdN (z := 71) (by decide +kernel) x)
theorem mc_71 {x : Nat} : m_C (p_P L xs) d 71 false is ls st Q (.inr x) h = Q (.inr x) h := by
  rw [m_C_inr, hn_71]
  simp only [show m_hh (p_P L xs) 71 = false from (show p_hhb 71 = false by decide +kernel), true_and]
theorem hn_72 {x : Nat} : m_hd (p_P L xs) 72 x = none := (show p_hd 72 x = none from p_hdN (z := 72) (by decide +kernel) x)
theorem mc_72 {x : Nat} : m_C (p_P L xs) d 72 false is ls st Q (.inr x) h = Q (.inr x) h := by
  rw [m_C_inr, hn_72]
  simp only [show m_hh (p_P L xs) 72 = false from (show p_hhb 72 = false by decide +kernel), true_and]
theorem hn_73 {x : Nat} : m_hd (p_P L xs) 73 x = none := (show p_hd 73 x = none from p_hdN (z := 73) (by decide +kernel) x)
theorem mc_73 {x : Nat} : m_C (p_P L xs) d 73 false is ls st Q (.inr x) h = Q (.inr x) h := by
  rw [m_C_inr, hn_73]
  simp only [show m_hh (p_P L xs) 73 = false from (show p_hhb 73 = false by decide +kernel), true_and]
theorem hn_74 {x : Nat} : m_hd (p_P L xs) 74 x = none := (show p_hd 74 x = none from p_hdN (z := 74) (by decide +kernel) x)
theorem mc_74 {x : Nat} : m_C (p_P L xs) d 74 false is ls st Q (.inr x) h = Q (.inr x) h := by
  rw [m_C_inr, hn_74]
  simp only [show m_hh (p_P L xs) 74 = false from (show p_hhb 74 = false by decide +kernel), true_and]
theorem hn_75 {x : Nat} : m_hd (p_P L xs) 75 x = none := (show p_hd 75 x = none from p_hdN (z := 75) (by decide +kernel) x)
theorem mc_75 {x : Nat} : m_C (p_P L xs) d 75 false is ls st Q (.inr x) h = Q (.inr x) h := by
  rw [m_C_inr, hn_75]
  simp only [show m_hh (p_P L xs) 75 = false from (show p_hhb 75 = false by decide +kernel), true_and]
theorem hn_76 {x : Nat} : m_hd (p_P L xs) 76 x = none := (show p_hd 76 x = none from p_hdN (z := 76) (by decide +kernel) x)
theorem mc_76 {x : Nat} : m_C (p_P L xs) d 76 false is ls st Q (.inr x) h = Q (.inr x) h := by
  rw [m_C_inr, hn_76]
  simp only [show m_hh (p_P L xs) 76 = false from (show p_hhb 76 = false by decide +kernel), true_and]
theorem hn_77 {x : Nat} : m_hd (p_P L xs) 77 x = none := (show p_hd 77 x = none from p_hdN (z := 77) (by decide +kernel) x)
theorem mc_77 {x : Nat} : m_C (p_P L xs) d 77 false is ls st Q (.inr x) h = Q (.inr x) h := by
  rw [m_C_inr, hn_77]
  simp only [show m_hh (p_P L xs) 77 = false from (show p_hhb 77 = false by decide +kernel), true_and]
theorem hn_78 {x : Nat} : m_hd (p_P L xs) 78 x = none := (show p_hd 78 x = none from p_hdN (z := 78) (by decide +kernel) x)
theorem mc_78 {x : Nat} : m_C (p_P L xs) d 78 false is ls st Q (.inr x) h = Q (.inr x) h := by
  rw [m_C_inr, hn_78]
  simp only [show m_hh (p_P L xs) 78 = false from (show p_hhb 78 = false by decide +kernel), true_and]
theorem hn_79 {x : Nat} : m_hd (p_P L xs) 79 x = none := (show p_hd 79 x = none from p_hdN (z := 79) (by decide +kernel) x)
theorem mc_79 {x : Nat} : m_C (p_P L xs) d 79 false is ls st Q (.inr x) h = Q (.inr x) h := by
  rw [m_C_inr, hn_79]
  simp only [show m_hh (p_P L xs) 79 = false from (show p_hhb 79 = false by decide +kernel), true_and]
theorem hn_80 {x : Nat} : m_hd (p_P L xs) 80 x = none := (show p_hd 80 x = none from p_hdN (z := 80) (by decide +kernel) x)
theorem mc_80 {x : Nat} : m_C (p_P L xs) d 80 false is ls st Q (.inr x) h = Q (.inr x) h := by
  rw [m_C_inr, hn_80]
  simp only [show m_hh (p_P L xs) 80 = false from (show p_hhb 80 = false by decide +kernel), true_and]
theorem hn_81 {x : Nat} : m_hd (p_P L xs) 81 x = none := (show p_hd 81 x = none from p_hdN (z := 81) (by decide +kernel) x)
theorem mc_81 {x : Nat} : m_C (p_P L xs) d 81 false is ls st Q (.inr x) h = Q (.inr x) h := by
  rw [m_C_inr, hn_81]
  simp only [show m_hh (p_P L xs) 81 = false from (show p_hhb 81 = false by decide +kernel), true_and]
theorem hn_82 {x : Nat} : m_hd (p_P L xs) 82 x = none := (show p_hd 82 x = none from p_hdN (z := 82) (by decide +kernel) x)
theorem mc_82 {x : Nat} : m_C (p_P L xs) d 82 false is ls st Q (.inr x) h = Q (.inr x) h := by
  rw [m_C_inr, hn_82]
  simp only [show m_hh (p_P L xs) 82 = false from (show p_hhb 82 = false by decide +kernel), true_and]
theorem hn_83 {x : Nat} : m_hd (p_P L xs) 83 x = none := (show p_hd 83 x = none from p_hdN (z := 83) (by decide +kernel) x)
theorem mc_83 {x : Nat} : m_C (p_P L xs) d 83 false is ls st Q (.inr x) h = Q (.inr x) h := by
  rw [m_C_inr, hn_83]
  simp only [show m_hh (p_P L xs) 83 = false from (show p_hhb 83 = false by decide +kernel), true_and]
theorem hn_84 {x : Nat} : m_hd (p_P L xs) 84 x = none := (show p_hd 84 x = none from p_hdN (z := 84) (by decide +kernel) x)
theorem mc_84 {x : Nat} : m_C (p_P L xs) d 84 false is ls st Q (.inr x) h = Q (.inr x) h := by
  rw [m_C_inr, hn_84]
  simp only [show m_hh (p_P L xs) 84 = false from (show p_hhb 84 = false by decide +kernel), true_and]
theorem hn_85 {x : Nat} : m_hd (p_P L xs) 85 x = none := (show p_hd 85 x = none from p_hdN (z := 85) (by decide +kernel) x)
theorem mc_85 {x : Nat} : m_C (p_P L xs) d 85 false is ls st Q (.inr x) h = Q (.inr x) h := by
  rw [m_C_inr, hn_85]
  simp only [show m_hh (p_P L xs) 85 = false from (show p_hhb 85 = false by decide +kernel), true_and]
theorem hn_86 {x : Nat} : m_hd (p_P L xs) 86 x = none := (show p_hd 86 x = none from p_hdN (z := 86) (by decide +kernel) x)
theorem mc_86 {x : Nat} : m_C (p_P L xs) d 86 false is ls st Q (.inr x) h = Q (.inr x) h := by
  rw [m_C_inr, hn_86]
  simp only [show m_hh (p_P L xs) 86 = false from (show p_hhb 86 = false by decide +kernel), true_and]
theorem hn_87 {x : Nat} : m_hd (p_P L xs) 87 x = none := (show p_hd 87 x = none from p_hdN (z := 87) (by decide +kernel) x)
theorem mc_87 {x : Nat} : m_C (p_P L xs) d 87 false is ls st Q (.inr x) h = Q (.inr x) h := by
  rw [m_C_inr, hn_87]
  simp only [show m_hh (p_P L xs) 87 = false from (show p_hhb 87 = false by decide +kernel), true_and]
theorem hn_88 {x : Nat} : m_hd (p_P L xs) 88 x = none := (show p_hd 88 x = none from p_hdN (z := 88) (by decide +kernel) x)
theorem mc_88 {x : Nat} : m_C (p_P L xs) d 88 false is ls st Q (.inr x) h = Q (.inr x) h := by
  rw [m_C_inr, hn_88]
  simp only [show m_hh (p_P L xs) 88 = false from (show p_hhb 88 = false by decide +kernel), true_and]
theorem hn_89 {x : Nat} : m_hd (p_P L xs) 89 x = none := (show p_hd 89 x = none from p_hdN (z := 89) (by decide +kernel) x)
theorem mc_89 {x : Nat} : m_C (p_P L xs) d 89 false is ls st Q (.inr x) h = Q (.inr x) h := by
  rw [m_C_inr, hn_89]
  simp only [show m_hh (p_P L xs) 89 = false from (show p_hhb 89 = false by decide +kernel), true_and]
theorem hn_90 {x : Nat} : m_hd (p_P L xs) 90 x = none := (show p_hd 90 x = none from p_hdN (z := 90) (by decide +kernel) x)
theorem mc_90 {x : Nat} : m_C (p_P L xs) d 90 false is ls st Q (.inr x) h = Q (.inr x) h := by
  rw [m_C_inr, hn_90]
  simp only [show m_hh (p_P L xs) 90 = false from (show p_hhb 90 = false by decide +kernel), true_and]
theorem hn_91 {x : Nat} : m_hd (p_P L xs) 91 x = none := (show p_hd 91 x = none from p_hdN (z := 91) (by decide +kernel) x)
theorem mc_91 {x : Nat} : m_C (p_P L xs) d 91 false is ls st Q (.inr x) h = Q (.inr x) h := by
  rw [m_C_inr, hn_91]
  simp only [show m_hh (p_P L xs) 91 = false from (show p_hhb 91 = false by decide +kernel), true_and]
theorem hn_92 {x : Nat} : m_hd (p_P L xs) 92 x = none := (show p_hd 92 x = none from p_hdN (z := 92) (by decide +kernel) x)
theorem mc_92 {x : Nat} : m_C (p_P L xs) d 92 false is ls st Q (.inr x) h = Q (.inr x) h := by
  rw [m_C_inr, hn_92]
  simp only [show m_hh (p_P L xs) 92 = false from (show p_hhb 92 = false by decide +kernel), true_and]
theorem hn_93 {x : Nat} : m_hd (p_P L xs) 93 x = none := (show p_hd 93 x = none from p_hdN (z := 93) (by decide +kernel) x)
theorem mc_93 {x : Nat} : m_C (p_P L xs) d 93 false is ls st Q (.inr x) h = Q (.inr x) h := by
  rw [m_C_inr, hn_93]
  simp only [show m_hh (p_P L xs) 93 = false from (show p_hhb 93 = false by decide +kernel), true_and]
theorem hn_94 {x : Nat} : m_hd (p_P L xs) 94 x = none := (show p_hd 94 x = none from p_hdN (z := 94) (by decide +kernel) x)
theorem mc_94 {x : Nat} : m_C (p_P L xs) d 94 false is ls st Q (.inr x) h = Q (.inr x) h := by
  rw [m_C_inr, hn_94]
  simp only [show m_hh (p_P L xs) 94 = false from (show p_hhb 94 = false by decide +kernel), true_and]
theorem hn_95 {x : Nat} : m_hd (p_P L xs) 95 x = none := (show p_hd 95 x = none from p_hdN (z := 95) (by decide +kernel) x)
theorem mc_95 {x : Nat} : m_C (p_P L xs) d 95 false is ls st Q (.inr x) h = Q (.inr x) h := by
  rw [m_C_inr, hn_95]
  simp only [show m_hh (p_P L xs) 95 = false from (show p_hhb 95 = false by decide +kernel), true_and]
theorem hn_96 {x : Nat} : m_hd (p_P L xs) 96 x = none := (show p_hd 96 x = none from p_hdN (z := 96) (by decide +kernel) x)
theorem mc_96 {x : Nat} : m_C (p_P L xs) d 96 false is ls st Q (.inr x) h = Q (.inr x) h := by
  rw [m_C_inr, hn_96]
  simp only [show m_hh (p_P L xs) 96 = false from (show p_hhb 96 = false by decide +kernel), true_and]
theorem hn_97 {x : Nat} : m_hd (p_P L xs) 97 x = none := (show p_hd 97 x = none from p_hdN (z := 97) (by decide +kernel) x)
theorem mc_97 {x : Nat} : m_C (p_P L xs) d 97 false is ls st Q (.inr x) h = Q (.inr x) h := by
  rw [m_C_inr, hn_97]
  simp only [show m_hh (p_P L xs) 97 = false from (show p_hhb 97 = false by decide +kernel), true_and]
theorem hn_98 {x : Nat} : m_hd (p_P L xs) 98 x = none := (show p_hd 98 x = none from p_hdN (z := 98) (by decide +kernel) x)
theorem mc_98 {x : Nat} : m_C (p_P L xs) d 98 false is ls st Q (.inr x) h = Q (.inr x) h := by
  rw [m_C_inr, hn_98]
  simp only [show m_hh (p_P L xs) 98 = false from (show p_hhb 98 = false by decide +kernel), true_and]
theorem hn_99 {x : Nat} : m_hd (p_P L xs) 99 x = none := (show p_hd 99 x = none from p_hdN (z := 99) (by decide +kernel) x)
theorem mc_99 {x : Nat} : m_C (p_P L xs) d 99 false is ls st Q (.inr x) h = Q (.inr x) h := by
  rw [m_C_inr, hn_99]
  simp only [show m_hh (p_P L xs) 99 = false from (show p_hhb 99 = false by decide +kernel), true_and]
theorem hn_100 {x : Nat} : m_hd (p_P L xs) 100 x = none := (show p_hd 100 x = none from p_hdN (z := 100) (by decide +kernel) x)
theorem mc_100 {x : Nat} : m_C (p_P L xs) d 100 false is ls st Q (.inr x) h = Q (.inr x) h := by
  rw [m_C_inr, hn_100]
  simp only [show m_hh (p_P L xs) 100 = false from (show p_hhb 100 = false by decide +kernel), true_and]
theorem hn_101 {x : Nat} : m_hd (p_P L xs) 101 x = none := (show p_hd 101 x = none from p_hdN (z := 101) (by decide +kernel) x)
theorem mc_101 {x : Nat} : m_C (p_P L xs) d 101 false is ls st Q (.inr x) h = Q (.inr x) h := by
  rw [m_C_inr, hn_101]
  simp only [show m_hh (p_P L xs) 101 = false from (show p_hhb 101 = false by decide +kernel), true_and]
theorem hn_102 {x : Nat} : m_hd (p_P L xs) 102 x = none := (show p_hd 102 x = none from p_hdN (z := 102) (by decide +kernel) x)
theorem mc_102 {x : Nat} : m_C (p_P L xs) d 102 false is ls st Q (.inr x) h = Q (.inr x) h := by
  rw [m_C_inr, hn_102]
  simp only [show m_hh (p_P L xs) 102 = false from (show p_hhb 102 = false by decide +kernel), true_and]
theorem hn_103 {x : Nat} : m_hd (p_P L xs) 103 x = none := (show p_hd 103 x = none from p_hdN (z := 103) (by decide +kernel) x)
theorem mc_103 {x : Nat} : m_C (p_P L xs) d 103 false is ls st Q (.inr x) h = Q (.inr x) h := by
  rw [m_C_inr, hn_103]
  simp only [show m_hh (p_P L xs) 103 = false from (show p_hhb 103 = false by decide +kernel), true_and]
theorem hn_104 {x : Nat} : m_hd (p_P L xs) 104 x = none := (show p_hd 104 x = none from p_hdN (z := 104) (by decide +kernel) x)
theorem mc_104 {x : Nat} : m_C (p_P L xs) d 104 false is ls st Q (.inr x) h = Q (.inr x) h := by
  rw [m_C_inr, hn_104]
  simp only [show m_hh (p_P L xs) 104 = false from (show p_hhb 104 = false by decide +kernel), true_and]
theorem hn_105 {x : Nat} : m_hd (p_P L xs) 105 x = none := (show p_hd 105 x = none from p_hdN (z := 105) (by decide +kernel) x)
theorem mc_105 {x : Nat} : m_C (p_P L xs) d 105 false is ls st Q (.inr x) h = Q (.inr x) h := by
  rw [m_C_inr, hn_105]
  simp only [show m_hh (p_P L xs) 105 = false from (show p_hhb 105 = false by decide +kernel), true_and]
theorem hn_106 {x : Nat} : m_hd (p_P L xs) 106 x = none := (show p_hd 106 x = none from p_hdN (z := 106) (by decide +kernel) x)
theorem mc_106 {x : Nat} : m_C (p_P L xs) d 106 false is ls st Q (.inr x) h = Q (.inr x) h := by
  rw [m_C_inr, hn_106]
  simp only [show m_hh (p_P L xs) 106 = false from (show p_hhb 106 = false by decide +kernel), true_and]
theorem hn_107 {x : Nat} : m_hd (p_P L xs) 107 x = none := (show p_hd 107 x = none from p_hdN (z := 107) (by decide +kernel) x)
theorem mc_107 {x : Nat} : m_C (p_P L xs) d 107 false is ls st Q (.inr x) h = Q (.inr x) h := by
  rw [m_C_inr, hn_107]
  simp only [show m_hh (p_P L xs) 107 = false from (show p_hhb 107 = false by decide +kernel), true_and]
theorem hn_108 {x : Nat} : m_hd (p_P L xs) 108 x = none := (show p_hd 108 x = none from p_hdN (z := 108) (by decide +kernel) x)
theorem mc_108 {x : Nat} : m_C (p_P L xs) d 108 false is ls st Q (.inr x) h = Q (.inr x) h := by
  rw [m_C_inr, hn_108]
  simp only [show m_hh (p_P L xs) 108 = false from (show p_hhb 108 = false by decide +kernel), true_and]
theorem hn_109 {x : Nat} : m_hd (p_P L xs) 109 x = none := (show p_hd 109 x = none from p_hdN (z := 109) (by decide +kernel) x)
theorem mc_109 {x : Nat} : m_C (p_P L xs) d 109 false is ls st Q (.inr x) h = Q (.inr x) h := by
  rw [m_C_inr, hn_109]
  simp only [show m_hh (p_P L xs) 109 = false from (show p_hhb 109 = false by decide +kernel), true_and]
theorem hn_110 {x : Nat} : m_hd (p_P L xs) 110 x = none := (show p_hd 110 x = none from p_hdN (z := 110) (by decide +kernel) x)
theorem mc_110 {x : Nat} : m_C (p_P L xs) d 110 false is ls st Q (.inr x) h = Q (.inr x) h := by
  rw [m_C_inr, hn_110]
  simp only [show m_hh (p_P L xs) 110 = false from (show p_hhb 110 = false by decide +kernel), true_and]
theorem hn_111 {x : Nat} : m_hd (p_P L xs) 111 x = none := (show p_hd 111 x = none from p_hdN (z := 111) (by decide +kernel) x)
theorem mc_111 {x : Nat} : m_C (p_P L xs) d 111 false is ls st Q (.inr x) h = Q (.inr x) h := by
  rw [m_C_inr, hn_111]
  simp only [show m_hh (p_P L xs) 111 = false from (show p_hhb 111 = false by decide +kernel), true_and]
theorem hn_112 {x : Nat} : m_hd (p_P L xs) 112 x = none := (show p_hd 112 x = none from p_hdN (z := 112) (by decide +kernel) x)
theorem mc_112 {x : Nat} : m_C (p_P L xs) d 112 false is ls st Q (.inr x) h = Q (.inr x) h := by
  rw [m_C_inr, hn_112]
  simp only [show m_hh (p_P L xs) 112 = false from (show p_hhb 112 = false by decide +kernel), true_and]
theorem hn_113 {x : Nat} : m_hd (p_P L xs) 113 x = none := (show p_hd 113 x = none from p_hdN (z := 113) (by decide +kernel) x)
theorem mc_113 {x : Nat} : m_C (p_P L xs) d 113 false is ls st Q (.inr x) h = Q (.inr x) h := by
  rw [m_C_inr, hn_113]
  simp only [show m_hh (p_P L xs) 113 = false from (show p_hhb 113 = false by decide +kernel), true_and]
theorem hn_114 {x : Nat} : m_hd (p_P L xs) 114 x = none := (show p_hd 114 x = none from p_hdN (z := 114) (by decide +kernel) x)
theorem mc_114 {x : Nat} : m_C (p_P L xs) d 114 false is ls st Q (.inr x) h = Q (.inr x) h := by
  rw [m_C_inr, hn_114]
  simp only [show m_hh (p_P L xs) 114 = false from (show p_hhb 114 = false by decide +kernel), true_and]
theorem hn_115 {x : Nat} : m_hd (p_P L xs) 115 x = none := (show p_hd 115 x = none from p_hdN (z := 115) (by decide +kernel) x)
theorem mc_115 {x : Nat} : m_C (p_P L xs) d 115 false is ls st Q (.inr x) h = Q (.inr x) h := by
  rw [m_C_inr, hn_115]
  simp only [show m_hh (p_P L xs) 115 = false from (show p_hhb 115 = false by decide +kernel), true_and]
theorem hn_116 {x : Nat} : m_hd (p_P L xs) 116 x = none := (show p_hd 116 x = none from p_hdN (z := 116) (by decide +kernel) x)
theorem mc_116 {x : Nat} : m_C (p_P L xs) d 116 false is ls st Q (.inr x) h = Q (.inr x) h := by
  rw [m_C_inr, hn_116]
  simp only [show m_hh (p_P L xs) 116 = false from (show p_hhb 116 = false by decide +kernel), true_and]
theorem hn_117 {x : Nat} : m_hd (p_P L xs) 117 x = none := (show p_hd 117 x = none from p_hdN (z := 117) (by decide +kernel) x)
theorem mc_117 {x : Nat} : m_C (p_P L xs) d 117 false is ls st Q (.inr x) h = Q (.inr x) h := by
  rw [m_C_inr, hn_117]
  simp only [show m_hh (p_P L xs) 117 = false from (show p_hhb 117 = false by decide +kernel), true_and]
theorem hn_118 {x : Nat} : m_hd (p_P L xs) 118 x = none := (show p_hd 118 x = none from p_hdN (z := 118) (by decide +kernel) x)
theorem mc_118 {x : Nat} : m_C (p_P L xs) d 118 false is ls st Q (.inr x) h = Q (.inr x) h := by
  rw [m_C_inr, hn_118]
  simp only [show m_hh (p_P L xs) 118 = false from (show p_hhb 118 = false by decide +kernel), true_and]
theorem hn_119 {x : Nat} : m_hd (p_P L xs) 119 x = none := (show p_hd 119 x = none from p_hdN (z := 119) (by decide +kernel) x)
theorem mc_119 {x : Nat} : m_C (p_P L xs) d 119 false is ls st Q (.inr x) h = Q (.inr x) h := by
  rw [m_C_inr, hn_119]
  simp only [show m_hh (p_P L xs) 119 = false from (show p_hhb 119 = false by decide +kernel), true_and]
theorem hn_120 {x : Nat} : m_hd (p_P L xs) 120 x = none := (show p_hd 120 x = none from p_hdN (z := 120) (by decide +kernel) x)
theorem mc_120 {x : Nat} : m_C (p_P L xs) d 120 false is ls st Q (.inr x) h = Q (.inr x) h := by
  rw [m_C_inr, hn_120]
  simp only [show m_hh (p_P L xs) 120 = false from (show p_hhb 120 = false by decide +kernel), true_and]
theorem hn_121 {x : Nat} : m_hd (p_P L xs) 121 x = none := (show p_hd 121 x = none from p_hdN (z := 121) (by decide +kernel) x)
theorem mc_121 {x : Nat} : m_C (p_P L xs) d 121 false is ls st Q (.inr x) h = Q (.inr x) h := by
  rw [m_C_inr, hn_121]
  simp only [show m_hh (p_P L xs) 121 = false from (show p_hhb 121 = false by decide +kernel), true_and]
theorem hn_122 {x : Nat} : m_hd (p_P L xs) 122 x = none := (show p_hd 122 x = none from p_hdN (z := 122) (by decide +kernel) x)
theorem mc_122 {x : Nat} : m_C (p_P L xs) d 122 false is ls st Q (.inr x) h = Q (.inr x) h := by
  rw [m_C_inr, hn_122]
  simp only [show m_hh (p_P L xs) 122 = false from (show p_hhb 122 = false by decide +kernel), true_and]
theorem hn_123 {x : Nat} : m_hd (p_P L xs) 123 x = none := (show p_hd 123 x = none from p_hdN (z := 123) (by decide +kernel) x)
theorem mc_123 {x : Nat} : m_C (p_P L xs) d 123 false is ls st Q (.inr x) h = Q (.inr x) h := by
  rw [m_C_inr, hn_123]
  simp only [show m_hh (p_P L xs) 123 = false from (show p_hhb 123 = false by decide +kernel), true_and]
theorem hn_124 {x : Nat} : m_hd (p_P L xs) 124 x = none := (show p_hd 124 x = none from p_hdN (z := 124) (by decide +kernel) x)
theorem mc_124 {x : Nat} : m_C (p_P L xs) d 124 false is ls st Q (.inr x) h = Q (.inr x) h := by
  rw [m_C_inr, hn_124]
  simp only [show m_hh (p_P L xs) 124 = false from (show p_hhb 124 = false by decide +kernel), true_and]
theorem hn_125 {x : Nat} : m_hd (p_P L xs) 125 x = none := (show p_hd 125 x = none from p_hdN (z := 125) (by decide +kernel) x)
theorem mc_125 {x : Nat} : m_C (p_P L xs) d 125 false is ls st Q (.inr x) h = Q (.inr x) h := by
  rw [m_C_inr, hn_125]
  simp only [show m_hh (p_P L xs) 125 = false from (show p_hhb 125 = false by decide +kernel), true_and]
theorem hn_126 {x : Nat} : m_hd (p_P L xs) 126 x = none := (show p_hd 126 x = none from p_hdN (z := 126) (by decide +kernel) x)
theorem mc_126 {x : Nat} : m_C (p_P L xs) d 126 false is ls st Q (.inr x) h = Q (.inr x) h := by
  rw [m_C_inr, hn_126]
  simp only [show m_hh (p_P L xs) 126 = false from (show p_hhb 126 = false by decide +kernel), true_and]
theorem hn_127 {x : Nat} : m_hd (p_P L xs) 127 x = none := (show p_hd 127 x = none from p_hdN (z := 127) (by decide +kernel) x)
theorem mc_127 {x : Nat} : m_C (p_P L xs) d 127 false is ls st Q (.inr x) h = Q (.inr x) h := by
  rw [m_C_inr, hn_127]
  simp only [show m_hh (p_P L xs) 127 = false from (show p_hhb 127 = false by decide +kernel), true_and]
theorem hn_128 {x : Nat} : m_hd (p_P L xs) 128 x = none := (show p_hd 128 x = none from p_hdN (z := 128) (by decide +kernel) x)
theorem mc_128 {x : Nat} : m_C (p_P L xs) d 128 false is ls st Q (.inr x) h = Q (.inr x) h := by
  rw [m_C_inr, hn_128]
  simp only [show m_hh (p_P L xs) 128 = false from (show p_hhb 128 = false by decide +kernel), true_and]
theorem hn_129 {x : Nat} : m_hd (p_P L xs) 129 x = none := (show p_hd 129 x = none from p_hdN (z := 129) (by decide +kernel) x)
theorem mc_129 {x : Nat} : m_C (p_P L xs) d 129 false is ls st Q (.inr x) h = Q (.inr x) h := by
  rw [m_C_inr, hn_129]
  simp only [show m_hh (p_P L xs) 129 = false from (show p_hhb 129 = false by decide +kernel), true_and]
theorem hn_130 {x : Nat} : m_hd (p_P L xs) 130 x = none := (show p_hd 130 x = none from p_hdN (z := 130) (by decide +kernel) x)
theorem mc_130 {x : Nat} : m_C (p_P L xs) d 130 false is ls st Q (.inr x) h = Q (.inr x) h := by
  rw [m_C_inr, hn_130]
  simp only [show m_hh (p_P L xs) 130 = false from (show p_hhb 130 = false by decide +kernel), true_and]
theorem hn_131 {x : Nat} : m_hd (p_P L xs) 131 x = none := (show p_hd 131 x = none from p_hdN (z := 131) (by decide +kernel) x)
theorem mc_131 {x : Nat} : m_C (p_P L xs) d 131 false is ls st Q (.inr x) h = Q (.inr x) h := by
  rw [m_C_inr, hn_131]
  simp only [show m_hh (p_P L xs) 131 = false from (show p_hhb 131 = false by decide +kernel), true_and]
theorem hn_132 {x : Nat} : m_hd (p_P L xs) 132 x = none := (show p_hd 132 x = none from p_hdN (z := 132) (by decide +kernel) x)
theorem mc_132 {x : Nat} : m_C (p_P L xs) d 132 false is ls st Q (.inr x) h = Q (.inr x) h := by
  rw [m_C_inr, hn_132]
  simp only [show m_hh (p_P L xs) 132 = false from (show p_hhb 132 = false by decide +kernel), true_and]
theorem hn_133 {x : Nat} : m_hd (p_P L xs) 133 x = none := (show p_hd 133 x = none from p_hdN (z := 133) (by decide +kernel) x)
theorem mc_133 {x : Nat} : m_C (p_P L xs) d 133 false is ls st Q (.inr x) h = Q (.inr x) h := by
  rw [m_C_inr, hn_133]
  simp only [show m_hh (p_P L xs) 133 = false from (show p_hhb 133 = false by decide +kernel), true_and]
theorem hn_134 {x : Nat} : m_hd (p_P L xs) 134 x = none := (show p_hd 134 x = none from p_hdN (z := 134) (by decide +kernel) x)
theorem mc_134 {x : Nat} : m_C (p_P L xs) d 134 false is ls st Q (.inr x) h = Q (.inr x) h := by
  rw [m_C_inr, hn_134]
  simp only [show m_hh (p_P L xs) 134 = false from (show p_hhb 134 = false by decide +kernel), true_and]
theorem hn_135 {x : Nat} : m_hd (p_P L xs) 135 x = none := (show p_hd 135 x = none from p_hdN (z := 135) (by decide +kernel) x)
theorem mc_135 {x : Nat} : m_C (p_P L xs) d 135 false is ls st Q (.inr x) h = Q (.inr x) h := by
  rw [m_C_inr, hn_135]
  simp only [show m_hh (p_P L xs) 135 = false from (show p_hhb 135 = false by decide +kernel), true_and]
theorem hn_136 {x : Nat} : m_hd (p_P L xs) 136 x = none := (show p_hd 136 x = none from p_hdN (z := 136) (by decide +kernel) x)
theorem mc_136 {x : Nat} : m_C (p_P L xs) d 136 false is ls st Q (.inr x) h = Q (.inr x) h := by
  rw [m_C_inr, hn_136]
  simp only [show m_hh (p_P L xs) 136 = false from (show p_hhb 136 = false by decide +kernel), true_and]
theorem hn_137 {x : Nat} : m_hd (p_P L xs) 137 x = none := (show p_hd 137 x = none from p_hdN (z := 137) (by decide +kernel) x)
theorem mc_137 {x : Nat} : m_C (p_P L xs) d 137 false is ls st Q (.inr x) h = Q (.inr x) h := by
  rw [m_C_inr, hn_137]
  simp only [show m_hh (p_P L xs) 137 = false from (show p_hhb 137 = false by decide +kernel), true_and]
theorem hn_138 {x : Nat} : m_hd (p_P L xs) 138 x = none := (show p_hd 138 x = none from p_hdN (z := 138) (by decide +kernel) x)
theorem mc_138 {x : Nat} : m_C (p_P L xs) d 138 false is ls st Q (.inr x) h = Q (.inr x) h := by
  rw [m_C_inr, hn_138]
  simp only [show m_hh (p_P L xs) 138 = false from (show p_hhb 138 = false by decide +kernel), true_and]
theorem hn_139 {x : Nat} : m_hd (p_P L xs) 139 x = none := (show p_hd 139 x = none from p_hdN (z := 139) (by decide +kernel) x)
theorem mc_139 {x : Nat} : m_C (p_P L xs) d 139 false is ls st Q (.inr x) h = Q (.inr x) h := by
  rw [m_C_inr, hn_139]
  simp only [show m_hh (p_P L xs) 139 = false from (show p_hhb 139 = false by decide +kernel), true_and]
theorem hn_140 {x : Nat} : m_hd (p_P L xs) 140 x = none := (show p_hd 140 x = none from p_hdN (z := 140) (by decide +kernel) x)
theorem mc_140 {x : Nat} : m_C (p_P L xs) d 140 false is ls st Q (.inr x) h = Q (.inr x) h := by
  rw [m_C_inr, hn_140]
  simp only [show m_hh (p_P L xs) 140 = false from (show p_hhb 140 = false by decide +kernel), true_and]
theorem hn_141 {x : Nat} : m_hd (p_P L xs) 141 x = none := (show p_hd 141 x = none from p_hdN (z := 141) (by decide +kernel) x)
theorem mc_141 {x : Nat} : m_C (p_P L xs) d 141 false is ls st Q (.inr x) h = Q (.inr x) h := by
  rw [m_C_inr, hn_141]
  simp only [show m_hh (p_P L xs) 141 = false from (show p_hhb 141 = false by decide +kernel), true_and]
theorem hn_142 {x : Nat} : m_hd (p_P L xs) 142 x = none := (show p_hd 142 x = none from p_hdN (z := 142) (by decide +kernel) x)
theorem mc_142 {x : Nat} : m_C (p_P L xs) d 142 false is ls st Q (.inr x) h = Q (.inr x) h := by
  rw [m_C_inr, hn_142]
  simp only [show m_hh (p_P L xs) 142 = false from (show p_hhb 142 = false by decide +kernel), true_and]
theorem hn_143 {x : Nat} : m_hd (p_P L xs) 143 x = none := (show p_hd 143 x = none from p_hdN (z := 143) (by decide +kernel) x)
theorem mc_143 {x : Nat} : m_C (p_P L xs) d 143 false is ls st Q (.inr x) h = Q (.inr x) h := by
  rw [m_C_inr, hn_143]
  simp only [show m_hh (p_P L xs) 143 = false from (show p_hhb 143 = false by decide +kernel), true_and]
theorem hn_144 {x : Nat} : m_hd (p_P L xs) 144 x = none := (show p_hd 144 x = none from p_hdN (z := 144) (by decide +kernel) x)
theorem mc_144 {x : Nat} : m_C (p_P L xs) d 144 false is ls st Q (.inr x) h = Q (.inr x) h := by
  rw [m_C_inr, hn_144]
  simp only [show m_hh (p_P L xs) 144 = false from (show p_hhb 144 = false by decide +kernel), true_and]
theorem hn_145 {x : Nat} : m_hd (p_P L xs) 145 x = none := (show p_hd 145 x = none from p_hdN (z := 145) (by decide +kernel) x)
theorem mc_145 {x : Nat} : m_C (p_P L xs) d 145 false is ls st Q (.inr x) h = Q (.inr x) h := by
  rw [m_C_inr, hn_145]
  simp only [show m_hh (p_P L xs) 145 = false from (show p_hhb 145 = false by decide +kernel), true_and]
theorem hn_146 {x : Nat} : m_hd (p_P L xs) 146 x = none := (show p_hd 146 x = none from p_hdN (z := 146) (by decide +kernel) x)
theorem mc_146 {x : Nat} : m_C (p_P L xs) d 146 false is ls st Q (.inr x) h = Q (.inr x) h := by
  rw [m_C_inr, hn_146]
  simp only [show m_hh (p_P L xs) 146 = false from (show p_hhb 146 = false by decide +kernel), true_and]
theorem hn_147 {x : Nat} : m_hd (p_P L xs) 147 x = none := (show p_hd 147 x = none from p_hdN (z := 147) (by decide +kernel) x)
theorem mc_147 {x : Nat} : m_C (p_P L xs) d 147 false is ls st Q (.inr x) h = Q (.inr x) h := by
  rw [m_C_inr, hn_147]
  simp only [show m_hh (p_P L xs) 147 = false from (show p_hhb 147 = false by decide +kernel), true_and]
theorem hn_148 {x : Nat} : m_hd (p_P L xs) 148 x = none := (show p_hd 148 x = none from p_hdN (z := 148) (by decide +kernel) x)
theorem mc_148 {x : Nat} : m_C (p_P L xs) d 148 false is ls st Q (.inr x) h = Q (.inr x) h := by
  rw [m_C_inr, hn_148]
  simp only [show m_hh (p_P L xs) 148 = false from (show p_hhb 148 = false by decide +kernel), true_and]
theorem hn_149 {x : Nat} : m_hd (p_P L xs) 149 x = none := (show p_hd 149 x = none from p_hdN (z := 149) (by decide +kernel) x)
theorem mc_149 {x : Nat} : m_C (p_P L xs) d 149 false is ls st Q (.inr x) h = Q (.inr x) h := by
  rw [m_C_inr, hn_149]
  simp only [show m_hh (p_P L xs) 149 = false from (show p_hhb 149 = false by decide +kernel), true_and]
theorem hn_150 {x : Nat} : m_hd (p_P L xs) 150 x = none := (show p_hd 150 x = none from p_hdN (z := 150) (by decide +kernel) x)
theorem mc_150 {x : Nat} : m_C (p_P L xs) d 150 false is ls st Q (.inr x) h = Q (.inr x) h := by
  rw [m_C_inr, hn_150]
  simp only [show m_hh (p_P L xs) 150 = false from (show p_hhb 150 = false by decide +kernel), true_and]
theorem hn_151 {x : Nat} : m_hd (p_P L xs) 151 x = none := (show p_hd 151 x = none from p_hdN (z := 151) (by decide +kernel) x)
theorem mc_151 {x : Nat} : m_C (p_P L xs) d 151 false is ls st Q (.inr x) h = Q (.inr x) h := by
  rw [m_C_inr, hn_151]
  simp only [show m_hh (p_P L xs) 151 = false from (show p_hhb 151 = false by decide +kernel), true_and]
theorem hn_152 {x : Nat} : m_hd (p_P L xs) 152 x = none := (show p_hd 152 x = none from p_hdN (z := 152) (by decide +kernel) x)
theorem mc_152 {x : Nat} : m_C (p_P L xs) d 152 false is ls st Q (.inr x) h = Q (.inr x) h := by
  rw [m_C_inr, hn_152]
  simp only [show m_hh (p_P L xs) 152 = false from (show p_hhb 152 = false by decide +kernel), true_and]
theorem hn_153 {x : Nat} : m_hd (p_P L xs) 153 x = none := (show p_hd 153 x = none from p_hdN (z := 153) (by decide +kernel) x)
theorem mc_153 {x : Nat} : m_C (p_P L xs) d 153 false is ls st Q (.inr x) h = Q (.inr x) h := by
  rw [m_C_inr, hn_153]
  simp only [show m_hh (p_P L xs) 153 = false from (show p_hhb 153 = false by decide +kernel), true_and]
theorem hn_154 {x : Nat} : m_hd (p_P L xs) 154 x = none := (show p_hd 154 x = none from p_hdN (z := 154) (by decide +kernel) x)
theorem mc_154 {x : Nat} : m_C (p_P L xs) d 154 false is ls st Q (.inr x) h = Q (.inr x) h := by
  rw [m_C_inr, hn_154]
  simp only [show m_hh (p_P L xs) 154 = false from (show p_hhb 154 = false by decide +kernel), true_and]
theorem hn_155 {x : Nat} : m_hd (p_P L xs) 155 x = none := (show p_hd 155 x = none from p_hdN (z := 155) (by decide +kernel) x)
theorem mc_155 {x : Nat} : m_C (p_P L xs) d 155 false is ls st Q (.inr x) h = Q (.inr x) h := by
  rw [m_C_inr, hn_155]
  simp only [show m_hh (p_P L xs) 155 = false from (show p_hhb 155 = false by decide +kernel), true_and]
theorem hn_156 {x : Nat} : m_hd (p_P L xs) 156 x = none := (show p_hd 156 x = none from p_hdN (z := 156) (by decide +kernel) x)
theorem mc_156 {x : Nat} : m_C (p_P L xs) d 156 false is ls st Q (.inr x) h = Q (.inr x) h := by
  rw [m_C_inr, hn_156]
  simp only [show m_hh (p_P L xs) 156 = false from (show p_hhb 156 = false by decide +kernel), true_and]
theorem hn_157 {x : Nat} : m_hd (p_P L xs) 157 x = none := (show p_hd 157 x = none from p_hdN (z := 157) (by decide +kernel) x)
theorem mc_157 {x : Nat} : m_C (p_P L xs) d 157 false is ls st Q (.inr x) h = Q (.inr x) h := by
  rw [m_C_inr, hn_157]
  simp only [show m_hh (p_P L xs) 157 = false from (show p_hhb 157 = false by decide +kernel), true_and]
theorem hn_158 {x : Nat} : m_hd (p_P L xs) 158 x = none := (show p_hd 158 x = none from p_hdN (z := 158) (by decide +kernel) x)
theorem mc_158 {x : Nat} : m_C (p_P L xs) d 158 false is ls st Q (.inr x) h = Q (.inr x) h := by
  rw [m_C_inr, hn_158]
  simp only [show m_hh (p_P L xs) 158 = false from (show p_hhb 158 = false by decide +kernel), true_and]
theorem hn_159 {x : Nat} : m_hd (p_P L xs) 159 x = none := (show p_hd 159 x = none from p_hdN (z := 159) (by decide +kernel) x)
theorem mc_159 {x : Nat} : m_C (p_P L xs) d 159 false is ls st Q (.inr x) h = Q (.inr x) h := by
  rw [m_C_inr, hn_159]
  simp only [show m_hh (p_P L xs) 159 = false from (show p_hhb 159 = false by decide +kernel), true_and]
theorem hn_160 {x : Nat} : m_hd (p_P L xs) 160 x = none := (show p_hd 160 x = none from p_hdN (z := 160) (by decide +kernel) x)
theorem mc_160 {x : Nat} : m_C (p_P L xs) d 160 false is ls st Q (.inr x) h = Q (.inr x) h := by
  rw [m_C_inr, hn_160]
  simp only [show m_hh (p_P L xs) 160 = false from (show p_hhb 160 = false by decide +kernel), true_and]
theorem hn_161 {x : Nat} : m_hd (p_P L xs) 161 x = none := (show p_hd 161 x = none from p_hdN (z := 161) (by decide +kernel) x)
theorem mc_161 {x : Nat} : m_C (p_P L xs) d 161 false is ls st Q (.inr x) h = Q (.inr x) h := by
  rw [m_C_inr, hn_161]
  simp only [show m_hh (p_P L xs) 161 = false from (show p_hhb 161 = false by decide +kernel), true_and]
theorem hn_162 {x : Nat} : m_hd (p_P L xs) 162 x = none := (show p_hd 162 x = none from p_hdN (z := 162) (by decide +kernel) x)
theorem mc_162 {x : Nat} : m_C (p_P L xs) d 162 false is ls st Q (.inr x) h = Q (.inr x) h := by
  rw [m_C_inr, hn_162]
  simp only [show m_hh (p_P L xs) 162 = false from (show p_hhb 162 = false by decide +kernel), true_and]
theorem hn_163 {x : Nat} : m_hd (p_P L xs) 163 x = none := (show p_hd 163 x = none from p_hdN (z := 163) (by decide +kernel) x)
theorem mc_163 {x : Nat} : m_C (p_P L xs) d 163 false is ls st Q (.inr x) h = Q (.inr x) h := by
  rw [m_C_inr, hn_163]
  simp only [show m_hh (p_P L xs) 163 = false from (show p_hhb 163 = false by decide +kernel), true_and]
theorem hn_164 {x : Nat} : m_hd (p_P L xs) 164 x = none := (show p_hd 164 x = none from p_hdN (z := 164) (by decide +kernel) x)
theorem mc_164 {x : Nat} : m_C (p_P L xs) d 164 false is ls st Q (.inr x) h = Q (.inr x) h := by
  rw [m_C_inr, hn_164]
  simp only [show m_hh (p_P L xs) 164 = false from (show p_hhb 164 = false by decide +kernel), true_and]
theorem hn_165 {x : Nat} : m_hd (p_P L xs) 165 x = none := (show p_hd 165 x = none from p_hdN (z := 165) (by decide +kernel) x)
theorem mc_165 {x : Nat} : m_C (p_P L xs) d 165 false is ls st Q (.inr x) h = Q (.inr x) h := by
  rw [m_C_inr, hn_165]
  simp only [show m_hh (p_P L xs) 165 = false from (show p_hhb 165 = false by decide +kernel), true_and]
theorem hn_166 {x : Nat} : m_hd (p_P L xs) 166 x = none := (show p_hd 166 x = none from p_hdN (z := 166) (by decide +kernel) x)
theorem mc_166 {x : Nat} : m_C (p_P L xs) d 166 false is ls st Q (.inr x) h = Q (.inr x) h := by
  rw [m_C_inr, hn_166]
  simp only [show m_hh (p_P L xs) 166 = false from (show p_hhb 166 = false by decide +kernel), true_and]
theorem hn_167 {x : Nat} : m_hd (p_P L xs) 167 x = none := (show p_hd 167 x = none from p_hdN (z := 167) (by decide +kernel) x)
theorem mc_167 {x : Nat} : m_C (p_P L xs) d 167 false is ls st Q (.inr x) h = Q (.inr x) h := by
  rw [m_C_inr, hn_167]
  simp only [show m_hh (p_P L xs) 167 = false from (show p_hhb 167 = false by decide +kernel), true_and]
theorem hn_168 {x : Nat} : m_hd (p_P L xs) 168 x = none := (show p_hd 168 x = none from p_hdN (z := 168) (by decide +kernel) x)
theorem mc_168 {x : Nat} : m_C (p_P L xs) d 168 false is ls st Q (.inr x) h = Q (.inr x) h := by
  rw [m_C_inr, hn_168]
  simp only [show m_hh (p_P L xs) 168 = false from (show p_hhb 168 = false by decide +kernel), true_and]
theorem hn_169 {x : Nat} : m_hd (p_P L xs) 169 x = none := (show p_hd 169 x = none from p_hdN (z := 169) (by decide +kernel) x)
theorem mc_169 {x : Nat} : m_C (p_P L xs) d 169 false is ls st Q (.inr x) h = Q (.inr x) h := by
  rw [m_C_inr, hn_169]
  simp only [show m_hh (p_P L xs) 169 = false from (show p_hhb 169 = false by decide +kernel), true_and]
theorem hn_170 {x : Nat} : m_hd (p_P L xs) 170 x = none := (show p_hd 170 x = none from p_hdN (z := 170) (by decide +kernel) x)
theorem mc_170 {x : Nat} : m_C (p_P L xs) d 170 false is ls st Q (.inr x) h = Q (.inr x) h := by
  rw [m_C_inr, hn_170]
  simp only [show m_hh (p_P L xs) 170 = false from (show p_hhb 170 = false by decide +kernel), true_and]
theorem hn_171 {x : Nat} : m_hd (p_P L xs) 171 x = none := (show p_hd 171 x = none from p_hdN (z := 171) (by decide +kernel) x)
theorem mc_171 {x : Nat} : m_C (p_P L xs) d 171 false is ls st Q (.inr x) h = Q (.inr x) h := by
  rw [m_C_inr, hn_171]
  simp only [show m_hh (p_P L xs) 171 = false from (show p_hhb 171 = false by decide +kernel), true_and]
theorem hn_172 {x : Nat} : m_hd (p_P L xs) 172 x = none := (show p_hd 172 x = none from p_hdN (z := 172) (by decide +kernel) x)
theorem mc_172 {x : Nat} : m_C (p_P L xs) d 172 false is ls st Q (.inr x) h = Q (.inr x) h := by
  rw [m_C_inr, hn_172]
  simp only [show m_hh (p_P L xs) 172 = false from (show p_hhb 172 = false by decide +kernel), true_and]
theorem hn_173 {x : Nat} : m_hd (p_P L xs) 173 x = none := (show p_hd 173 x = none from p_hdN (z := 173) (by decide +kernel) x)
theorem mc_173 {x : Nat} : m_C (p_P L xs) d 173 false is ls st Q (.inr x) h = Q (.inr x) h := by
  rw [m_C_inr, hn_173]
  simp only [show m_hh (p_P L xs) 173 = false from (show p_hhb 173 = false by decide +kernel), true_and]
theorem hn_174 {x : Nat} : m_hd (p_P L xs) 174 x = none := (show p_hd 174 x = none from p_hdN (z := 174) (by decide +kernel) x)
theorem mc_174 {x : Nat} : m_C (p_P L xs) d 174 false is ls st Q (.inr x) h = Q (.inr x) h := by
  rw [m_C_inr, hn_174]
  simp only [show m_hh (p_P L xs) 174 = false from (show p_hhb 174 = false by decide +kernel), true_and]
theorem hn_175 {x : Nat} : m_hd (p_P L xs) 175 x = none := (show p_hd 175 x = none from p_hdN (z := 175) (by decide +kernel) x)
theorem mc_175 {x : Nat} : m_C (p_P L xs) d 175 false is ls st Q (.inr x) h = Q (.inr x) h := by
  rw [m_C_inr, hn_175]
  simp only [show m_hh (p_P L xs) 175 = false from (show p_hhb 175 = false by decide +kernel), true_and]
theorem hn_176 {x : Nat} : m_hd (p_P L xs) 176 x = none := (show p_hd 176 x = none from p_hdN (z := 176) (by decide +kernel) x)
theorem mc_176 {x : Nat} : m_C (p_P L xs) d 176 false is ls st Q (.inr x) h = Q (.inr x) h := by
  rw [m_C_inr, hn_176]
  simp only [show m_hh (p_P L xs) 176 = false from (show p_hhb 176 = false by decide +kernel), true_and]
theorem hn_177 {x : Nat} : m_hd (p_P L xs) 177 x = none := (show p_hd 177 x = none from p_hdN (z := 177) (by decide +kernel) x)
theorem mc_177 {x : Nat} : m_C (p_P L xs) d 177 false is ls st Q (.inr x) h = Q (.inr x) h := by
  rw [m_C_inr, hn_177]
  simp only [show m_hh (p_P L xs) 177 = false from (show p_hhb 177 = false by decide +kernel), true_and]
theorem hn_178 {x : Nat} : m_hd (p_P L xs) 178 x = none := (show p_hd 178 x = none from p_hdN (z := 178) (by decide +kernel) x)
theorem mc_178 {x : Nat} : m_C (p_P L xs) d 178 false is ls st Q (.inr x) h = Q (.inr x) h := by
  rw [m_C_inr, hn_178]
  simp only [show m_hh (p_P L xs) 178 = false from (show p_hhb 178 = false by decide +kernel), true_and]
theorem hn_179 {x : Nat} : m_hd (p_P L xs) 179 x = none := (show p_hd 179 x = none from p_hdN (z := 179) (by decide +kernel) x)
theorem mc_179 {x : Nat} : m_C (p_P L xs) d 179 false is ls st Q (.inr x) h = Q (.inr x) h := by
  rw [m_C_inr, hn_179]
  simp only [show m_hh (p_P L xs) 179 = false from (show p_hhb 179 = false by decide +kernel), true_and]
theorem hn_180 {x : Nat} : m_hd (p_P L xs) 180 x = none := (show p_hd 180 x = none from p_hdN (z := 180) (by decide +kernel) x)
theorem mc_180 {x : Nat} : m_C (p_P L xs) d 180 false is ls st Q (.inr x) h = Q (.inr x) h := by
  rw [m_C_inr, hn_180]
  simp only [show m_hh (p_P L xs) 180 = false from (show p_hhb 180 = false by decide +kernel), true_and]
theorem hn_181 {x : Nat} : m_hd (p_P L xs) 181 x = none := (show p_hd 181 x = none from p_hdN (z := 181) (by decide +kernel) x)
theorem mc_181 {x : Nat} : m_C (p_P L xs) d 181 false is ls st Q (.inr x) h = Q (.inr x) h := by
  rw [m_C_inr, hn_181]
  simp only [show m_hh (p_P L xs) 181 = false from (show p_hhb 181 = false by decide +kernel), true_and]
theorem hn_182 {x : Nat} : m_hd (p_P L xs) 182 x = none := (show p_hd 182 x = none from p_hdN (z := 182) (by decide +kernel) x)
theorem mc_182 {x : Nat} : m_C (p_P L xs) d 182 false is ls st Q (.inr x) h = Q (.inr x) h := by
  rw [m_C_inr, hn_182]
  simp only [show m_hh (p_P L xs) 182 = false from (show p_hhb 182 = false by decide +kernel), true_and]
theorem hn_183 {x : Nat} : m_hd (p_P L xs) 183 x = none := (show p_hd 183 x = none from p_hdN (z := 183) (by decide +kernel) x)
theorem mc_183 {x : Nat} : m_C (p_P L xs) d 183 false is ls st Q (.inr x) h = Q (.inr x) h := by
  rw [m_C_inr, hn_183]
  simp only [show m_hh (p_P L xs) 183 = false from (show p_hhb 183 = false by decide +kernel), true_and]
theorem hn_184 {x : Nat} : m_hd (p_P L xs) 184 x = none := (show p_hd 184 x = none from p_hdN (z := 184) (by decide +kernel) x)
theorem mc_184 {x : Nat} : m_C (p_P L xs) d 184 false is ls st Q (.inr x) h = Q (.inr x) h := by
  rw [m_C_inr, hn_184]
  simp only [show m_hh (p_P L xs) 184 = false from (show p_hhb 184 = false by decide +kernel), true_and]
theorem hn_185 {x : Nat} : m_hd (p_P L xs) 185 x = none := (show p_hd 185 x = none from p_hdN (z := 185) (by decide +kernel) x)
theorem mc_185 {x : Nat} : m_C (p_P L xs) d 185 false is ls st Q (.inr x) h = Q (.inr x) h := by
  rw [m_C_inr, hn_185]
  simp only [show m_hh (p_P L xs) 185 = false from (show p_hhb 185 = false by decide +kernel), true_and]
theorem hn_186 {x : Nat} : m_hd (p_P L xs) 186 x = none := (show p_hd 186 x = none from p_hdN (z := 186) (by decide +kernel) x)
theorem mc_186 {x : Nat} : m_C (p_P L xs) d 186 false is ls st Q (.inr x) h = Q (.inr x) h := by
  rw [m_C_inr, hn_186]
  simp only [show m_hh (p_P L xs) 186 = false from (show p_hhb 186 = false by decide +kernel), true_and]
theorem hn_187 {x : Nat} : m_hd (p_P L xs) 187 x = none := (show p_hd 187 x = none from p_hdN (z := 187) (by decide +kernel) x)
theorem mc_187 {x : Nat} : m_C (p_P L xs) d 187 false is ls st Q (.inr x) h = Q (.inr x) h := by
  rw [m_C_inr, hn_187]
  simp only [show m_hh (p_P L xs) 187 = false from (show p_hhb 187 = false by decide +kernel), true_and]
theorem hn_188 {x : Nat} : m_hd (p_P L xs) 188 x = none := (show p_hd 188 x = none from p_hdN (z := 188) (by decide +kernel) x)
theorem mc_188 {x : Nat} : m_C (p_P L xs) d 188 false is ls st Q (.inr x) h = Q (.inr x) h := by
  rw [m_C_inr, hn_188]
  simp only [show m_hh (p_P L xs) 188 = false from (show p_hhb 188 = false by decide +kernel), true_and]
theorem hn_189 {x : Nat} : m_hd (p_P L xs) 189 x = none := (show p_hd 189 x = none from p_hdN (z := 189) (by decide +kernel) x)
theorem mc_189 {x : Nat} : m_C (p_P L xs) d 189 false is ls st Q (.inr x) h = Q (.inr x) h := by
  rw [m_C_inr, hn_189]
  simp only [show m_hh (p_P L xs) 189 = false from (show p_hhb 189 = false by decide +kernel), true_and]
theorem hn_190 {x : Nat} : m_hd (p_P L xs) 190 x = none := (show p_hd 190 x = none from p_hdN (z := 190) (by decide +kernel) x)
theorem mc_190 {x : Nat} : m_C (p_P L xs) d 190 false is ls st Q (.inr x) h = Q (.inr x) h := by
  rw [m_C_inr, hn_190]
  simp only [show m_hh (p_P L xs) 190 = false from (show p_hhb 190 = false by decide +kernel), true_and]
theorem hn_191 {x : Nat} : m_hd (p_P L xs) 191 x = none := (show p_hd 191 x = none from p_hdN (z := 191) (by decide +kernel) x)
theorem mc_191 {x : Nat} : m_C (p_P L xs) d 191 false is ls st Q (.inr x) h = Q (.inr x) h := by
  rw [m_C_inr, hn_191]
  simp only [show m_hh (p_P L xs) 191 = false from (show p_hhb 191 = false by decide +kernel), true_and]
theorem hn_192 {x : Nat} : m_hd (p_P L xs) 192 x = none := (show p_hd 192 x = none from p_hdN (z := 192) (by decide +kernel) x)
theorem mc_192 {x : Nat} : m_C (p_P L xs) d 192 false is ls st Q (.inr x) h = Q (.inr x) h := by
  rw [m_C_inr, hn_192]
  simp only [show m_hh (p_P L xs) 192 = false from (show p_hhb 192 = false by decide +kernel), true_and]
theorem hn_193 {x : Nat} : m_hd (p_P L xs) 193 x = none := (show p_hd 193 x = none from p_hdN (z := 193) (by decide +kernel) x)
theorem mc_193 {x : Nat} : m_C (p_P L xs) d 193 false is ls st Q (.inr x) h = Q (.inr x) h := by
  rw [m_C_inr, hn_193]
  simp only [show m_hh (p_P L xs) 193 = false from (show p_hhb 193 = false by decide +kernel), true_and]
theorem hn_194 {x : Nat} : m_hd (p_P L xs) 194 x = none := (show p_hd 194 x = none from p_hdN (z := 194) (by decide +kernel) x)
theorem mc_194 {x : Nat} : m_C (p_P L xs) d 194 false is ls st Q (.inr x) h = Q (.inr x) h := by
  rw [m_C_inr, hn_194]
  simp only [show m_hh (p_P L xs) 194 = false from (show p_hhb 194 = false by decide +kernel), true_and]
theorem hn_195 {x : Nat} : m_hd (p_P L xs) 195 x = none := (show p_hd 195 x = none from p_hdN (z := 195) (by decide +kernel) x)
theorem mc_195 {x : Nat} : m_C (p_P L xs) d 195 false is ls st Q (.inr x) h = Q (.inr x) h := by
  rw [m_C_inr, hn_195]
  simp only [show m_hh (p_P L xs) 195 = false from (show p_hhb 195 = false by decide +kernel), true_and]
theorem hn_196 {x : Nat} : m_hd (p_P L xs) 196 x = none := (show p_hd 196 x = none from p_hdN (z := 196) (by decide +kernel) x)
theorem mc_196 {x : Nat} : m_C (p_P L xs) d 196 false is ls st Q (.inr x) h = Q (.inr x) h := by
  rw [m_C_inr, hn_196]
  simp only [show m_hh (p_P L xs) 196 = false from (show p_hhb 196 = false by decide +kernel), true_and]
theorem hn_197 {x : Nat} : m_hd (p_P L xs) 197 x = none := (show p_hd 197 x = none from p_hdN (z := 197) (by decide +kernel) x)
theorem mc_197 {x : Nat} : m_C (p_P L xs) d 197 false is ls st Q (.inr x) h = Q (.inr x) h := by
  rw [m_C_inr, hn_197]
  simp only [show m_hh (p_P L xs) 197 = false from (show p_hhb 197 = false by decide +kernel), true_and]
theorem hn_198 {x : Nat} : m_hd (p_P L xs) 198 x = none := (show p_hd 198 x = none from p_hdN (z := 198) (by decide +kernel) x)
theorem mc_198 {x : Nat} : m_C (p_P L xs) d 198 false is ls st Q (.inr x) h = Q (.inr x) h := by
  rw [m_C_inr, hn_198]
  simp only [show m_hh (p_P L xs) 198 = false from (show p_hhb 198 = false by decide +kernel), true_and]
theorem hn_199 {x : Nat} : m_hd (p_P L xs) 199 x = none := (show p_hd 199 x = none from p_hdN (z := 199) (by decide +kernel) x)
theorem mc_199 {x : Nat} : m_C (p_P L xs) d 199 false is ls st Q (.inr x) h = Q (.inr x) h := by
  rw [m_C_inr, hn_199]
  simp only [show m_hh (p_P L xs) 199 = false from (show p_hhb 199 = false by decide +kernel), true_and]
theorem hn_200 {x : Nat} : m_hd (p_P L xs) 200 x = none := (show p_hd 200 x = none from p_hdN (z := 200) (by decide +kernel) x)
theorem mc_200 {x : Nat} : m_C (p_P L xs) d 200 false is ls st Q (.inr x) h = Q (.inr x) h := by
  rw [m_C_inr, hn_200]
  simp only [show m_hh (p_P L xs) 200 = false from (show p_hhb 200 = false by decide +kernel), true_and]
theorem hn_201 {x : Nat} : m_hd (p_P L xs) 201 x = none := (show p_hd 201 x = none from p_hdN (z := 201) (by decide +kernel) x)
theorem mc_201 {x : Nat} : m_C (p_P L xs) d 201 false is ls st Q (.inr x) h = Q (.inr x) h := by
  rw [m_C_inr, hn_201]
  simp only [show m_hh (p_P L xs) 201 = false from (show p_hhb 201 = false by decide +kernel), true_and]
theorem hn_202 {x : Nat} : m_hd (p_P L xs) 202 x = none := (show p_hd 202 x = none from p_hdN (z := 202) (by decide +kernel) x)
theorem mc_202 {x : Nat} : m_C (p_P L xs) d 202 false is ls st Q (.inr x) h = Q (.inr x) h := by
  rw [m_C_inr, hn_202]
  simp only [show m_hh (p_P L xs) 202 = false from (show p_hhb 202 = false by decide +kernel), true_and]
theorem hn_203 {x : Nat} : m_hd (p_P L xs) 203 x = none := (show p_hd 203 x = none from p_hdN (z := 203) (by decide +kernel) x)
theorem mc_203 {x : Nat} : m_C (p_P L xs) d 203 false is ls st Q (.inr x) h = Q (.inr x) h := by
  rw [m_C_inr, hn_203]
  simp only [show m_hh (p_P L xs) 203 = false from (show p_hhb 203 = false by decide +kernel), true_and]
theorem hn_204 {x : Nat} : m_hd (p_P L xs) 204 x = none := (show p_hd 204 x = none from p_hdN (z := 204) (by decide +kernel) x)
theorem mc_204 {x : Nat} : m_C (p_P L xs) d 204 false is ls st Q (.inr x) h = Q (.inr x) h := by
  rw [m_C_inr, hn_204]
  simp only [show m_hh (p_P L xs) 204 = false from (show p_hhb 204 = false by decide +kernel), true_and]
theorem hn_205 {x : Nat} : m_hd (p_P L xs) 205 x = none := (show p_hd 205 x = none from p_hdN (z := 205) (by decide +kernel) x)
theorem mc_205 {x : Nat} : m_C (p_P L xs) d 205 false is ls st Q (.inr x) h = Q (.inr x) h := by
  rw [m_C_inr, hn_205]
  simp only [show m_hh (p_P L xs) 205 = false from (show p_hhb 205 = false by decide +kernel), true_and]
theorem hn_206 {x : Nat} : m_hd (p_P L xs) 206 x = none := (show p_hd 206 x = none from p_hdN (z := 206) (by decide +kernel) x)
theorem mc_206 {x : Nat} : m_C (p_P L xs) d 206 false is ls st Q (.inr x) h = Q (.inr x) h := by
  rw [m_C_inr, hn_206]
  simp only [show m_hh (p_P L xs) 206 = false from (show p_hhb 206 = false by decide +kernel), true_and]
theorem hn_207 {x : Nat} : m_hd (p_P L xs) 207 x = none := (show p_hd 207 x = none from p_hdN (z := 207) (by decide +kernel) x)
theorem mc_207 {x : Nat} : m_C (p_P L xs) d 207 false is ls st Q (.inr x) h = Q (.inr x) h := by
  rw [m_C_inr, hn_207]
  simp only [show m_hh (p_P L xs) 207 = false from (show p_hhb 207 = false by decide +kernel), true_and]
theorem hn_208 {x : Nat} : m_hd (p_P L xs) 208 x = none := (show p_hd 208 x = none from p_hdN (z := 208) (by decide +kernel) x)
theorem mc_208 {x : Nat} : m_C (p_P L xs) d 208 false is ls st Q (.inr x) h = Q (.inr x) h := by
  rw [m_C_inr, hn_208]
  simp only [show m_hh (p_P L xs) 208 = false from (show p_hhb 208 = false by decide +kernel), true_and]
theorem hn_209 {x : Nat} : m_hd (p_P L xs) 209 x = none := (show p_hd 209 x = none from p_hdN (z := 209) (by decide +kernel) x)
theorem mc_209 {x : Nat} : m_C (p_P L xs) d 209 false is ls st Q (.inr x) h = Q (.inr x) h := by
  rw [m_C_inr, hn_209]
  simp only [show m_hh (p_P L xs) 209 = false from (show p_hhb 209 = false by decide +kernel), true_and]
theorem hn_210 {x : Nat} : m_hd (p_P L xs) 210 x = none := (show p_hd 210 x = none from p_hdN (z := 210) (by decide +kernel) x)
theorem mc_210 {x : Nat} : m_C (p_P L xs) d 210 false is ls st Q (.inr x) h = Q (.inr x) h := by
  rw [m_C_inr, hn_210]
  simp only [show m_hh (p_P L xs) 210 = false from (show p_hhb 210 = false by decide +kernel), true_and]
theorem hn_211 {x : Nat} : m_hd (p_P L xs) 211 x = none := (show p_hd 211 x = none from p_hdN (z := 211) (by decide +kernel) x)
theorem mc_211 {x : Nat} : m_C (p_P L xs) d 211 false is ls st Q (.inr x) h = Q (.inr x) h := by
  rw [m_C_inr, hn_211]
  simp only [show m_hh (p_P L xs) 211 = false from (show p_hhb 211 = false by decide +kernel), true_and]
theorem hn_212 {x : Nat} : m_hd (p_P L xs) 212 x = none := (show p_hd 212 x = none from p_hdN (z := 212) (by decide +kernel) x)
theorem mc_212 {x : Nat} : m_C (p_P L xs) d 212 false is ls st Q (.inr x) h = Q (.inr x) h := by
  rw [m_C_inr, hn_212]
  simp only [show m_hh (p_P L xs) 212 = false from (show p_hhb 212 = false by decide +kernel), true_and]
theorem hn_213 {x : Nat} : m_hd (p_P L xs) 213 x = none := (show p_hd 213 x = none from p_hdN (z := 213) (by decide +kernel) x)
theorem mc_213 {x : Nat} : m_C (p_P L xs) d 213 false is ls st Q (.inr x) h = Q (.inr x) h := by
  rw [m_C_inr, hn_213]
  simp only [show m_hh (p_P L xs) 213 = false from (show p_hhb 213 = false by decide +kernel), true_and]
theorem hn_214 {x : Nat} : m_hd (p_P L xs) 214 x = none := (show p_hd 214 x = none from p_hdN (z := 214) (by decide +kernel) x)
theorem mc_214 {x : Nat} : m_C (p_P L xs) d 214 false is ls st Q (.inr x) h = Q (.inr x) h := by
  rw [m_C_inr, hn_214]
  simp only [show m_hh (p_P L xs) 214 = false from (show p_hhb 214 = false by decide +kernel), true_and]
theorem hn_215 {x : Nat} : m_hd (p_P L xs) 215 x = none := (show p_hd 215 x = none from p_hdN (z := 215) (by decide +kernel) x)
theorem mc_215 {x : Nat} : m_C (p_P L xs) d 215 false is ls st Q (.inr x) h = Q (.inr x) h := by
  rw [m_C_inr, hn_215]
  simp only [show m_hh (p_P L xs) 215 = false from (show p_hhb 215 = false by decide +kernel), true_and]
theorem hn_216 {x : Nat} : m_hd (p_P L xs) 216 x = none := (show p_hd 216 x = none from p_hdN (z := 216) (by decide +kernel) x)
theorem mc_216 {x : Nat} : m_C (p_P L xs) d 216 false is ls st Q (.inr x) h = Q (.inr x) h := by
  rw [m_C_inr, hn_216]
  simp only [show m_hh (p_P L xs) 216 = false from (show p_hhb 216 = false by decide +kernel), true_and]
theorem hn_217 {x : Nat} : m_hd (p_P L xs) 217 x = none := (show p_hd 217 x = none from p_hdN (z := 217) (by decide +kernel) x)
theorem mc_217 {x : Nat} : m_C (p_P L xs) d 217 false is ls st Q (.inr x) h = Q (.inr x) h := by
  rw [m_C_inr, hn_217]
  simp only [show m_hh (p_P L xs) 217 = false from (show p_hhb 217 = false by decide +kernel), true_and]
theorem hn_218 {x : Nat} : m_hd (p_P L xs) 218 x = none := (show p_hd 218 x = none from p_hdN (z := 218) (by decide +kernel) x)
theorem mc_218 {x : Nat} : m_C (p_P L xs) d 218 false is ls st Q (.inr x) h = Q (.inr x) h := by
  rw [m_C_inr, hn_218]
  simp only [show m_hh (p_P L xs) 218 = false from (show p_hhb 218 = false by decide +kernel), true_and]
theorem hn_219 {x : Nat} : m_hd (p_P L xs) 219 x = none := (show p_hd 219 x = none from p_hdN (z := 219) (by decide +kernel) x)
theorem mc_219 {x : Nat} : m_C (p_P L xs) d 219 false is ls st Q (.inr x) h = Q (.inr x) h := by
  rw [m_C_inr, hn_219]
  simp only [show m_hh (p_P L xs) 219 = false from (show p_hhb 219 = false by decide +kernel), true_and]
theorem hn_220 {x : Nat} : m_hd (p_P L xs) 220 x = none := (show p_hd 220 x = none from p_hdN (z := 220) (by decide +kernel) x)
theorem mc_220 {x : Nat} : m_C (p_P L xs) d 220 false is ls st Q (.inr x) h = Q (.inr x) h := by
  rw [m_C_inr, hn_220]
  simp only [show m_hh (p_P L xs) 220 = false from (show p_hhb 220 = false by decide +kernel), true_and]
theorem hn_221 {x : Nat} : m_hd (p_P L xs) 221 x = none := (show p_hd 221 x = none from p_hdN (z := 221) (by decide +kernel) x)
theorem mc_221 {x : Nat} : m_C (p_P L xs) d 221 false is ls st Q (.inr x) h = Q (.inr x) h := by
  rw [m_C_inr, hn_221]
  simp only [show m_hh (p_P L xs) 221 = false from (show p_hhb 221 = false by decide +kernel), true_and]
theorem hn_222 {x : Nat} : m_hd (p_P L xs) 222 x = none := (show p_hd 222 x = none from p_hdN (z := 222) (by decide +kernel) x)
theorem mc_222 {x : Nat} : m_C (p_P L xs) d 222 false is ls st Q (.inr x) h = Q (.inr x) h := by
  rw [m_C_inr, hn_222]
  simp only [show m_hh (p_P L xs) 222 = false from (show p_hhb 222 = false by decide +kernel), true_and]
theorem hn_223 {x : Nat} : m_hd (p_P L xs) 223 x = none := (show p_hd 223 x = none from p_hdN (z := 223) (by decide +kernel) x)
theorem mc_223 {x : Nat} : m_C (p_P L xs) d 223 false is ls st Q (.inr x) h = Q (.inr x) h := by
  rw [m_C_inr, hn_223]
  simp only [show m_hh (p_P L xs) 223 = false from (show p_hhb 223 = false by decide +kernel), true_and]
theorem hn_224 {x : Nat} : m_hd (p_P L xs) 224 x = none := (show p_hd 224 x = none from p_hdN (z := 224) (by decide +kernel) x)
theorem mc_224 {x : Nat} : m_C (p_P L xs) d 224 false is ls st Q (.inr x) h = Q (.inr x) h := by
  rw [m_C_inr, hn_224]
  simp only [show m_hh (p_P L xs) 224 = false from (show p_hhb 224 = false by decide +kernel), true_and]
theorem hn_225 {x : Nat} : m_hd (p_P L xs) 225 x = none := (show p_hd 225 x = none from p_hdN (z := 225) (by decide +kernel) x)
theorem mc_225 {x : Nat} : m_C (p_P L xs) d 225 false is ls st Q (.inr x) h = Q (.inr x) h := by
  rw [m_C_inr, hn_225]
  simp only [show m_hh (p_P L xs) 225 = false from (show p_hhb 225 = false by decide +kernel), true_and]
theorem hn_226 {x : Nat} : m_hd (p_P L xs) 226 x = none := (show p_hd 226 x = none from p_hdN (z := 226) (by decide +kernel) x)
theorem mc_226 {x : Nat} : m_C (p_P L xs) d 226 false is ls st Q (.inr x) h = Q (.inr x) h := by
  rw [m_C_inr, hn_226]
  simp only [show m_hh (p_P L xs) 226 = false from (show p_hhb 226 = false by decide +kernel), true_and]
theorem hn_227 {x : Nat} : m_hd (p_P L xs) 227 x = none := (show p_hd 227 x = none from p_hdN (z := 227) (by decide +kernel) x)
theorem mc_227 {x : Nat} : m_C (p_P L xs) d 227 false is ls st Q (.inr x) h = Q (.inr x) h := by
  rw [m_C_inr, hn_227]
  simp only [show m_hh (p_P L xs) 227 = false from (show p_hhb 227 = false by decide +kernel), true_and]
theorem hn_228 {x : Nat} : m_hd (p_P L xs) 228 x = none := (show p_hd 228 x = none from p_hdN (z := 228) (by decide +kernel) x)
theorem mc_228 {x : Nat} : m_C (p_P L xs) d 228 false is ls st Q (.inr x) h = Q (.inr x) h := by
  rw [m_C_inr, hn_228]
  simp only [show m_hh (p_P L xs) 228 = false from (show p_hhb 228 = false by decide +kernel), true_and]
theorem hn_229 {x : Nat} : m_hd (p_P L xs) 229 x = none := (show p_hd 229 x = none from p_hdN (z := 229) (by decide +kernel) x)
theorem mc_229 {x : Nat} : m_C (p_P L xs) d 229 false is ls st Q (.inr x) h = Q (.inr x) h := by
  rw [m_C_inr, hn_229]
  simp only [show m_hh (p_P L xs) 229 = false from (show p_hhb 229 = false by decide +kernel), true_and]
theorem hn_230 {x : Nat} : m_hd (p_P L xs) 230 x = none := (show p_hd 230 x = none from p_hdN (z := 230) (by decide +kernel) x)
theorem mc_230 {x : Nat} : m_C (p_P L xs) d 230 false is ls st Q (.inr x) h = Q (.inr x) h := by
  rw [m_C_inr, hn_230]
  simp only [show m_hh (p_P L xs) 230 = false from (show p_hhb 230 = false by decide +kernel), true_and]
theorem hn_231 {x : Nat} : m_hd (p_P L xs) 231 x = none := (show p_hd 231 x = none from p_hdN (z := 231) (by decide +kernel) x)
theorem mc_231 {x : Nat} : m_C (p_P L xs) d 231 false is ls st Q (.inr x) h = Q (.inr x) h := by
  rw [m_C_inr, hn_231]
  simp only [show m_hh (p_P L xs) 231 = false from (show p_hhb 231 = false by decide +kernel), true_and]
theorem hn_232 {x : Nat} : m_hd (p_P L xs) 232 x = none := (show p_hd 232 x = none from p_hdN (z := 232) (by decide +kernel) x)
theorem mc_232 {x : Nat} : m_C (p_P L xs) d 232 false is ls st Q (.inr x) h = Q (.inr x) h := by
  rw [m_C_inr, hn_232]
  simp only [show m_hh (p_P L xs) 232 = false from (show p_hhb 232 = false by decide +kernel), true_and]
theorem hn_233 {x : Nat} : m_hd (p_P L xs) 233 x = none := (show p_hd 233 x = none from p_hdN (z := 233) (by decide +kernel) x)
theorem mc_233 {x : Nat} : m_C (p_P L xs) d 233 false is ls st Q (.inr x) h = Q (.inr x) h := by
  rw [m_C_inr, hn_233]
  simp only [show m_hh (p_P L xs) 233 = false from (show p_hhb 233 = false by decide +kernel), true_and]
theorem hn_234 {x : Nat} : m_hd (p_P L xs) 234 x = none := (show p_hd 234 x = none from p_hdN (z := 234) (by decide +kernel) x)
theorem mc_234 {x : Nat} : m_C (p_P L xs) d 234 false is ls st Q (.inr x) h = Q (.inr x) h := by
  rw [m_C_inr, hn_234]
  simp only [show m_hh (p_P L xs) 234 = false from (show p_hhb 234 = false by decide +kernel), true_and]
theorem hn_235 {x : Nat} : m_hd (p_P L xs) 235 x = none := (show p_hd 235 x = none from p_hdN (z := 235) (by decide +kernel) x)
theorem mc_235 {x : Nat} : m_C (p_P L xs) d 235 false is ls st Q (.inr x) h = Q (.inr x) h := by
  rw [m_C_inr, hn_235]
  simp only [show m_hh (p_P L xs) 235 = false from (show p_hhb 235 = false by decide +kernel), true_and]
theorem hn_236 {x : Nat} : m_hd (p_P L xs) 236 x = none := (show p_hd 236 x = none from p_hdN (z := 236) (by decide +kernel) x)
theorem mc_236 {x : Nat} : m_C (p_P L xs) d 236 false is ls st Q (.inr x) h = Q (.inr x) h := by
  rw [m_C_inr, hn_236]
  simp only [show m_hh (p_P L xs) 236 = false from (show p_hhb 236 = false by decide +kernel), true_and]
theorem hn_237 {x : Nat} : m_hd (p_P L xs) 237 x = none := (show p_hd 237 x = none from p_hdN (z := 237) (by decide +kernel) x)
theorem mc_237 {x : Nat} : m_C (p_P L xs) d 237 false is ls st Q (.inr x) h = Q (.inr x) h := by
  rw [m_C_inr, hn_237]
  simp only [show m_hh (p_P L xs) 237 = false from (show p_hhb 237 = false by decide +kernel), true_and]
theorem hn_238 {x : Nat} : m_hd (p_P L xs) 238 x = none := (show p_hd 238 x = none from p_hdN (z := 238) (by decide +kernel) x)
theorem mc_238 {x : Nat} : m_C (p_P L xs) d 238 false is ls st Q (.inr x) h = Q (.inr x) h := by
  rw [m_C_inr, hn_238]
  simp only [show m_hh (p_P L xs) 238 = false from (show p_hhb 238 = false by decide +kernel), true_and]
theorem hn_239 {x : Nat} : m_hd (p_P L xs) 239 x = none := (show p_hd 239 x = none from p_hdN (z := 239) (by decide +kernel) x)
theorem mc_239 {x : Nat} : m_C (p_P L xs) d 239 false is ls st Q (.inr x) h = Q (.inr x) h := by
  rw [m_C_inr, hn_239]
  simp only [show m_hh (p_P L xs) 239 = false from (show p_hhb 239 = false by decide +kernel), true_and]
theorem hn_240 {x : Nat} : m_hd (p_P L xs) 240 x = none := (show p_hd 240 x = none from p_hdN (z := 240) (by decide +kernel) x)
theorem mc_240 {x : Nat} : m_C (p_P L xs) d 240 false is ls st Q (.inr x) h = Q (.inr x) h := by
  rw [m_C_inr, hn_240]
  simp only [show m_hh (p_P L xs) 240 = false from (show p_hhb 240 = false by decide +kernel), true_and]
theorem hn_241 {x : Nat} : m_hd (p_P L xs) 241 x = none := (show p_hd 241 x = none from p_hdN (z := 241) (by decide +kernel) x)
theorem mc_241 {x : Nat} : m_C (p_P L xs) d 241 false is ls st Q (.inr x) h = Q (.inr x) h := by
  rw [m_C_inr, hn_241]
  simp only [show m_hh (p_P L xs) 241 = false from (show p_hhb 241 = false by decide +kernel), true_and]
theorem hn_242 {x : Nat} : m_hd (p_P L xs) 242 x = none := (show p_hd 242 x = none from p_hdN (z := 242) (by decide +kernel) x)
theorem mc_242 {x : Nat} : m_C (p_P L xs) d 242 false is ls st Q (.inr x) h = Q (.inr x) h := by
  rw [m_C_inr, hn_242]
  simp only [show m_hh (p_P L xs) 242 = false from (show p_hhb 242 = false by decide +kernel), true_and]
theorem hn_243 {x : Nat} : m_hd (p_P L xs) 243 x = none := (show p_hd 243 x = none from p_hdN (z := 243) (by decide +kernel) x)
theorem mc_243 {x : Nat} : m_C (p_P L xs) d 243 false is ls st Q (.inr x) h = Q (.inr x) h := by
  rw [m_C_inr, hn_243]
  simp only [show m_hh (p_P L xs) 243 = false from (show p_hhb 243 = false by decide +kernel), true_and]
theorem hn_244 {x : Nat} : m_hd (p_P L xs) 244 x = none := (show p_hd 244 x = none from p_hdN (z := 244) (by decide +kernel) x)
theorem mc_244 {x : Nat} : m_C (p_P L xs) d 244 false is ls st Q (.inr x) h = Q (.inr x) h := by
  rw [m_C_inr, hn_244]
  simp only [show m_hh (p_P L xs) 244 = false from (show p_hhb 244 = false by decide +kernel), true_and]
theorem hn_245 {x : Nat} : m_hd (p_P L xs) 245 x = none := (show p_hd 245 x = none from p_hdN (z := 245) (by decide +kernel) x)
theorem mc_245 {x : Nat} : m_C (p_P L xs) d 245 false is ls st Q (.inr x) h = Q (.inr x) h := by
  rw [m_C_inr, hn_245]
  simp only [show m_hh (p_P L xs) 245 = false from (show p_hhb 245 = false by decide +kernel), true_and]
theorem hn_246 {x : Nat} : m_hd (p_P L xs) 246 x = none := (show p_hd 246 x = none from p_hdN (z := 246) (by decide +kernel) x)
theorem mc_246 {x : Nat} : m_C (p_P L xs) d 246 false is ls st Q (.inr x) h = Q (.inr x) h := by
  rw [m_C_inr, hn_246]
  simp only [show m_hh (p_P L xs) 246 = false from (show p_hhb 246 = false by decide +kernel), true_and]
theorem hn_247 {x : Nat} : m_hd (p_P L xs) 247 x = none := (show p_hd 247 x = none from p_hdN (z := 247) (by decide +kernel) x)
theorem mc_247 {x : Nat} : m_C (p_P L xs) d 247 false is ls st Q (.inr x) h = Q (.inr x) h := by
  rw [m_C_inr, hn_247]
  simp only [show m_hh (p_P L xs) 247 = false from (show p_hhb 247 = false by decide +kernel), true_and]
theorem hn_248 {x : Nat} : m_hd (p_P L xs) 248 x = none := (show p_hd 248 x = none from p_hdN (z := 248) (by decide +kernel) x)
theorem mc_248 {x : Nat} : m_C (p_P L xs) d 248 false is ls st Q (.inr x) h = Q (.inr x) h := by
  rw [m_C_inr, hn_248]
  simp only [show m_hh (p_P L xs) 248 = false from (show p_hhb 248 = false by decide +kernel), true_and]
theorem hn_249 {x : Nat} : m_hd (p_P L xs) 249 x = none := (show p_hd 249 x = none from p_hdN (z := 249) (by decide +kernel) x)
theorem mc_249 {x : Nat} : m_C (p_P L xs) d 249 false is ls st Q (.inr x) h = Q (.inr x) h := by
  rw [m_C_inr, hn_249]
  simp only [show m_hh (p_P L xs) 249 = false from (show p_hhb 249 = false by decide +kernel), true_and]
theorem hn_250 {x : Nat} : m_hd (p_P L xs) 250 x = none := (show p_hd 250 x = none from p_hdN (z := 250) (by decide +kernel) x)
theorem mc_250 {x : Nat} : m_C (p_P L xs) d 250 false is ls st Q (.inr x) h = Q (.inr x) h := by
  rw [m_C_inr, hn_250]
  simp only [show m_hh (p_P L xs) 250 = false from (show p_hhb 250 = false by decide +kernel), true_and]
theorem hn_251 {x : Nat} : m_hd (p_P L xs) 251 x = none := (show p_hd 251 x = none from p_hdN (z := 251) (by decide +kernel) x)
theorem mc_251 {x : Nat} : m_C (p_P L xs) d 251 false is ls st Q (.inr x) h = Q (.inr x) h := by
  rw [m_C_inr, hn_251]
  simp only [show m_hh (p_P L xs) 251 = false from (show p_hhb 251 = false by decide +kernel), true_and]
theorem hn_252 {x : Nat} : m_hd (p_P L xs) 252 x = none := (show p_hd 252 x = none from p_hdN (z := 252) (by decide +kernel) x)
theorem mc_252 {x : Nat} : m_C (p_P L xs) d 252 false is ls st Q (.inr x) h = Q (.inr x) h := by
  rw [m_C_inr, hn_252]
  simp only [show m_hh (p_P L xs) 252 = false from (show p_hhb 252 = false by decide +kernel), true_and]
theorem hn_253 {x : Nat} : m_hd (p_P L xs) 253 x = none := (show p_hd 253 x = none from p_hdN (z := 253) (by decide +kernel) x)
theorem mc_253 {x : Nat} : m_C (p_P L xs) d 253 false is ls st Q (.inr x) h = Q (.inr x) h := by
  rw [m_C_inr, hn_253]
  simp only [show m_hh (p_P L xs) 253 = false from (show p_hhb 253 = false by decide +kernel), true_and]
theorem hn_254 {x : Nat} : m_hd (p_P L xs) 254 x = none := (show p_hd 254 x = none from p_hdN (z := 254) (by decide +kernel) x)
theorem mc_254 {x : Nat} : m_C (p_P L xs) d 254 false is ls st Q (.inr x) h = Q (.inr x) h := by
  rw [m_C_inr, hn_254]
  simp only [show m_hh (p_P L xs) 254 = false from (show p_hhb 254 = false by decide +kernel), true_and]
theorem hn_255 {x : Nat} : m_hd (p_P L xs) 255 x = none := (show p_hd 255 x = none from p_hdN (z := 255) (by decide +kernel) x)
theorem mc_255 {x : Nat} : m_C (p_P L xs) d 255 false is ls st Q (.inr x) h = Q (.inr x) h := by
  rw [m_C_inr, hn_255]
  simp only [show m_hh (p_P L xs) 255 = false from (show p_hhb 255 = false by decide +kernel), true_and]
theorem hn_256 {x : Nat} : m_hd (p_P L xs) 256 x = none := (show p_hd 256 x = none from p_hdN (z := 256) (by decide +kernel) x)
theorem mc_256 {x : Nat} : m_C (p_P L xs) d 256 false is ls st Q (.inr x) h = Q (.inr x) h := by
  rw [m_C_inr, hn_256]
  simp only [show m_hh (p_P L xs) 256 = false from (show p_hhb 256 = false by decide +kernel), true_and]
theorem hn_257 {x : Nat} : m_hd (p_P L xs) 257 x = none := (show p_hd 257 x = none from p_hdN (z := 257) (by decide +kernel) x)
theorem mc_257 {x : Nat} : m_C (p_P L xs) d 257 false is ls st Q (.inr x) h = Q (.inr x) h := by
  rw [m_C_inr, hn_257]
  simp only [show m_hh (p_P L xs) 257 = false from (show p_hhb 257 = false by decide +kernel), true_and]
theorem hn_258 {x : Nat} : m_hd (p_P L xs) 258 x = none := (show p_hd 258 x = none from p_hdN (z := 258) (by decide +kernel) x)
theorem mc_258 {x : Nat} : m_C (p_P L xs) d 258 false is ls st Q (.inr x) h = Q (.inr x) h := by
  rw [m_C_inr, hn_258]
  simp only [show m_hh (p_P L xs) 258 = false from (show p_hhb 258 = false by decide +kernel), true_and]
theorem hn_259 {x : Nat} : m_hd (p_P L xs) 259 x = none := (show p_hd 259 x = none from p_hdN (z := 259) (by decide +kernel) x)
theorem mc_259 {x : Nat} : m_C (p_P L xs) d 259 false is ls st Q (.inr x) h = Q (.inr x) h := by
  rw [m_C_inr, hn_259]
  simp only [show m_hh (p_P L xs) 259 = false from (show p_hhb 259 = false by decide +kernel), true_and]
theorem hn_260 {x : Nat} : m_hd (p_P L xs) 260 x = none := (show p_hd 260 x = none from p_hdN (z := 260) (by decide +kernel) x)
theorem mc_260 {x : Nat} : m_C (p_P L xs) d 260 false is ls st Q (.inr x) h = Q (.inr x) h := by
  rw [m_C_inr, hn_260]
  simp only [show m_hh (p_P L xs) 260 = false from (show p_hhb 260 = false by decide +kernel), true_and]
theorem hn_261 {x : Nat} : m_hd (p_P L xs) 261 x = none := (show p_hd 261 x = none from p_hdN (z := 261) (by decide +kernel) x)
theorem mc_261 {x : Nat} : m_C (p_P L xs) d 261 false is ls st Q (.inr x) h = Q (.inr x) h := by
  rw [m_C_inr, hn_261]
  simp only [show m_hh (p_P L xs) 261 = false from (show p_hhb 261 = false by decide +kernel), true_and]
theorem hn_262 {x : Nat} : m_hd (p_P L xs) 262 x = none := (show p_hd 262 x = none from p_hdN (z := 262) (by decide +kernel) x)
theorem mc_262 {x : Nat} : m_C (p_P L xs) d 262 false is ls st Q (.inr x) h = Q (.inr x) h := by
  rw [m_C_inr, hn_262]
  simp only [show m_hh (p_P L xs) 262 = false from (show p_hhb 262 = false by decide +kernel), true_and]
theorem hn_263 {x : Nat} : m_hd (p_P L xs) 263 x = none := (show p_hd 263 x = none from p_hdN (z := 263) (by decide +kernel) x)
theorem mc_263 {x : Nat} : m_C (p_P L xs) d 263 false is ls st Q (.inr x) h = Q (.inr x) h := by
  rw [m_C_inr, hn_263]
  simp only [show m_hh (p_P L xs) 263 = false from (show p_hhb 263 = false by decide +kernel), true_and]
theorem hn_264 {x : Nat} : m_hd (p_P L xs) 264 x = none := (show p_hd 264 x = none from p_hdN (z := 264) (by decide +kernel) x)
theorem mc_264 {x : Nat} : m_C (p_P L xs) d 264 false is ls st Q (.inr x) h = Q (.inr x) h := by
  rw [m_C_inr, hn_264]
  simp only [show m_hh (p_P L xs) 264 = false from (show p_hhb 264 = false by decide +kernel), true_and]
theorem hn_265 {x : Nat} : m_hd (p_P L xs) 265 x = none := (show p_hd 265 x = none from p_hdN (z := 265) (by decide +kernel) x)
theorem mc_265 {x : Nat} : m_C (p_P L xs) d 265 false is ls st Q (.inr x) h = Q (.inr x) h := by
  rw [m_C_inr, hn_265]
  simp only [show m_hh (p_P L xs) 265 = false from (show p_hhb 265 = false by decide +kernel), true_and]
theorem hn_266 {x : Nat} : m_hd (p_P L xs) 266 x = none := (show p_hd 266 x = none from p_hdN (z := 266) (by decide +kernel) x)
theorem mc_266 {x : Nat} : m_C (p_P L xs) d 266 false is ls st Q (.inr x) h = Q (.inr x) h := by
  rw [m_C_inr, hn_266]
  simp only [show m_hh (p_P L xs) 266 = false from (show p_hhb 266 = false by decide +kernel), true_and]
theorem hn_267 {x : Nat} : m_hd (p_P L xs) 267 x = none := (show p_hd 267 x = none from p_hdN (z := 267) (by decide +kernel) x)
theorem mc_267 {x : Nat} : m_C (p_P L xs) d 267 false is ls st Q (.inr x) h = Q (.inr x) h := by
  rw [m_C_inr, hn_267]
  simp only [show m_hh (p_P L xs) 267 = false from (show p_hhb 267 = false by decide +kernel), true_and]
theorem hn_268 {x : Nat} : m_hd (p_P L xs) 268 x = none := (show p_hd 268 x = none from p_hdN (z := 268) (by decide +kernel) x)
theorem mc_268 {x : Nat} : m_C (p_P L xs) d 268 false is ls st Q (.inr x) h = Q (.inr x) h := by
  rw [m_C_inr, hn_268]
  simp only [show m_hh (p_P L xs) 268 = false from (show p_hhb 268 = false by decide +kernel), true_and]
theorem hn_269 {x : Nat} : m_hd (p_P L xs) 269 x = none := (show p_hd 269 x = none from p_hdN (z := 269) (by decide +kernel) x)
theorem mc_269 {x : Nat} : m_C (p_P L xs) d 269 false is ls st Q (.inr x) h = Q (.inr x) h := by
  rw [m_C_inr, hn_269]
  simp only [show m_hh (p_P L xs) 269 = false from (show p_hhb 269 = false by decide +kernel), true_and]
theorem hn_270 {x : Nat} : m_hd (p_P L xs) 270 x = none := (show p_hd 270 x = none from p_hdN (z := 270) (by decide +kernel) x)
theorem mc_270 {x : Nat} : m_C (p_P L xs) d 270 false is ls st Q (.inr x) h = Q (.inr x) h := by
  rw [m_C_inr, hn_270]
  simp only [show m_hh (p_P L xs) 270 = false from (show p_hhb 270 = false by decide +kernel), true_and]
theorem hn_271 {x : Nat} : m_hd (p_P L xs) 271 x = none := (show p_hd 271 x = none from p_hdN (z := 271) (by decide +kernel) x)
theorem mc_271 {x : Nat} : m_C (p_P L xs) d 271 false is ls st Q (.inr x) h = Q (.inr x) h := by
  rw [m_C_inr, hn_271]
  simp only [show m_hh (p_P L xs) 271 = false from (show p_hhb 271 = false by decide +kernel), true_and]
theorem hn_272 {x : Nat} : m_hd (p_P L xs) 272 x = none := (show p_hd 272 x = none from p_hdN (z := 272) (by decide +kernel) x)
theorem mc_272 {x : Nat} : m_C (p_P L xs) d 272 false is ls st Q (.inr x) h = Q (.inr x) h := by
  rw [m_C_inr, hn_272]
  simp only [show m_hh (p_P L xs) 272 = false from (show p_hhb 272 = false by decide +kernel), true_and]
theorem hn_273 {x : Nat} : m_hd (p_P L xs) 273 x = none := (show p_hd 273 x = none from p_hdN (z := 273) (by decide +kernel) x)
theorem mc_273 {x : Nat} : m_C (p_P L xs) d 273 false is ls st Q (.inr x) h = Q (.inr x) h := by
  rw [m_C_inr, hn_273]
  simp only [show m_hh (p_P L xs) 273 = false from (show p_hhb 273 = false by decide +kernel), true_and]
theorem hn_274 {x : Nat} : m_hd (p_P L xs) 274 x = none := (show p_hd 274 x = none from p_hdN (z := 274) (by decide +kernel) x)
theorem mc_274 {x : Nat} : m_C (p_P L xs) d 274 false is ls st Q (.inr x) h = Q (.inr x) h := by
  rw [m_C_inr, hn_274]
  simp only [show m_hh (p_P L xs) 274 = false from (show p_hhb 274 = false by decide +kernel), true_and]
theorem hn_275 {x : Nat} : m_hd (p_P L xs) 275 x = none := (show p_hd 275 x = none from p_hdN (z := 275) (by decide +kernel) x)
theorem mc_275 {x : Nat} : m_C (p_P L xs) d 275 false is ls st Q (.inr x) h = Q (.inr x) h := by
  rw [m_C_inr, hn_275]
  simp only [show m_hh (p_P L xs) 275 = false from (show p_hhb 275 = false by decide +kernel), true_and]
theorem hn_276 {x : Nat} : m_hd (p_P L xs) 276 x = none := (show p_hd 276 x = none from p_hdN (z := 276) (by decide +kernel) x)
theorem mc_276 {x : Nat} : m_C (p_P L xs) d 276 false is ls st Q (.inr x) h = Q (.inr x) h := by
  rw [m_C_inr, hn_276]
  simp only [show m_hh (p_P L xs) 276 = false from (show p_hhb 276 = false by decide +kernel), true_and]
theorem hn_277 {x : Nat} : m_hd (p_P L xs) 277 x = none := (show p_hd 277 x = none from p_hdN (z := 277) (by decide +kernel) x)
theorem mc_277 {x : Nat} : m_C (p_P L xs) d 277 false is ls st Q (.inr x) h = Q (.inr x) h := by
  rw [m_C_inr, hn_277]
  simp only [show m_hh (p_P L xs) 277 = false from (show p_hhb 277 = false by decide +kernel), true_and]
theorem hn_278 {x : Nat} : m_hd (p_P L xs) 278 x = none := (show p_hd 278 x = none from p_hdN (z := 278) (by decide +kernel) x)
theorem mc_278 {x : Nat} : m_C (p_P L xs) d 278 false is ls st Q (.inr x) h = Q (.inr x) h := by
  rw [m_C_inr, hn_278]
  simp only [show m_hh (p_P L xs) 278 = false from (show p_hhb 278 = false by decide +kernel), true_and]
theorem mc_279_1 (ho : m_o a2 = true) : m_C (p_P L xs) d 279 false is (a0 :: a1 :: a2 :: a3 :: l) st Q (.inr 1) h = m_W (p_P L xs) d 279 k_279_13 (a0 :: a1 :: a2 :: none :: l) [] h Q := by
  rw [m_C_inr, show m_hd (p_P L xs) 279 1 = some (3, 13) from (show p_hd 279 1 = _ by decide +kernel)]
  simp only [m_ok1_3 ho, tn_279_13, true_and]
  rfl
theorem mc_280_0 (ho : m_o a2 = true) : m_C (p_P L xs) d 280 false is (a0 :: a1 :: a2 :: a3 :: l) st Q (.inr 0) h = m_W (p_P L xs) d 280 k_280_13 (a0 :: a1 :: a2 :: none :: l) [] h Q := by
  rw [m_C_inr, show m_hd (p_P L xs) 280 0 = some (3, 13) from (show p_hd 280 0 = _ by decide +kernel)]
  simp only [m_ok1_3 ho, tn_280_13, true_and]
  rfl
theorem mc_281_0 (ho : m_o a2 = true) : m_C (p_P L xs) d 281 false is (a0 :: a1 :: a2 :: a3 :: l) st Q (.inr 0) h = m_W (p_P L xs) d 281 k_281_13 (a0 :: a1 :: a2 :: none :: l) [] h Q := by
  rw [m_C_inr, show m_hd (p_P L xs) 281 0 = some (3, 13) from (show p_hd 281 0 = _ by decide +kernel)]
  simp only [m_ok1_3 ho, tn_281_13, true_and]
  rfl
theorem mc_282_0 (ho : m_o a6 = true) : m_C (p_P L xs) d 282 false is (a0 :: a1 :: a2 :: a3 :: a4 :: a5 :: a6 :: a7 :: l) st Q (.inr 0) h = m_W (p_P L xs) d 282 k_282_21 (a0 :: a1 :: a2 :: a3 :: a4 :: a5 :: a6 :: none :: l) [] h Q := by
  rw [m_C_inr, show m_hd (p_P L xs) 282 0 = some (7, 21) from (show p_hd 282 0 = _ by decide +kernel)]
  simp only [m_ok1_7 ho, tn_282_21, true_and]
  rfl
theorem mc_282_1 (ho : m_o a6 = true) : m_C (p_P L xs) d 282 false is (a0 :: a1 :: a2 :: a3 :: a4 :: a5 :: a6 :: a7 :: l) st Q (.inr 1) h = m_W (p_P L xs) d 282 k_282_25 (a0 :: a1 :: a2 :: a3 :: a4 :: a5 :: a6 :: none :: l) [] h Q := by
  rw [m_C_inr, show m_hd (p_P L xs) 282 1 = some (7, 25) from (show p_hd 282 1 = _ by decide +kernel)]
  simp only [m_ok1_7 ho, tn_282_25, true_and]
  rfl
theorem mc_283_0 (ho : m_o a2 = true) : m_C (p_P L xs) d 283 false is (a0 :: a1 :: a2 :: a3 :: l) st Q (.inr 0) h = m_W (p_P L xs) d 283 k_283_13 (a0 :: a1 :: a2 :: none :: l) [] h Q := by
  rw [m_C_inr, show m_hd (p_P L xs) 283 0 = some (3, 13) from (show p_hd 283 0 = _ by decide +kernel)]
  simp only [m_ok1_3 ho, tn_283_13, true_and]
  rfl
theorem mc_284_0 (ho : m_o a4 = true) : m_C (p_P L xs) d 284 false is (a0 :: a1 :: a2 :: a3 :: a4 :: a5 :: l) st Q (.inr 0) h = m_W (p_P L xs) d 284 k_284_17 (a0 :: a1 :: a2 :: a3 :: a4 :: none :: l) [] h Q := by
  rw [m_C_inr, show m_hd (p_P L xs) 284 0 = some (5, 17) from (show p_hd 284 0 = _ by decide +kernel)]
  simp only [m_ok1_5 ho, tn_284_17, true_and]
  rfl
theorem mc_284_1 (ho : m_o a4 = true) : m_C (p_P L xs) d 284 false is (a0 :: a1 :: a2 :: a3 :: a4 :: a5 :: l) st Q (.inr 1) h = m_W (p_P L xs) d 284 k_284_21 (a0 :: a1 :: a2 :: a3 :: a4 :: none :: l) [] h Q := by
  rw [m_C_inr, show m_hd (p_P L xs) 284 1 = some (5, 21) from (show p_hd 284 1 = _ by decide +kernel)]
  simp only [m_ok1_5 ho, tn_284_21, true_and]
  rfl
theorem mc_285_0 (ho : m_o a2 = true) : m_C (p_P L xs) d 285 false is (a0 :: a1 :: a2 :: a3 :: l) st Q (.inr 0) h = m_W (p_P L xs) d 285 k_285_13 (a0 :: a1 :: a2 :: none :: l) [] h Q := by
  rw [m_C_inr, show m_hd (p_P L xs) 285 0 = some (3, 13) from (show p_hd 285 0 = _ by decide +kernel)]
  simp only [m_ok1_3 ho, tn_285_13, true_and]
  rfl
theorem mc_286_0 (ho : m_o a2 = true) : m_C (p_P L xs) d 286 false is (a0 :: a1 :: a2 :: a3 :: l) st Q (.inr 0) h = m_W (p_P L xs) d 286 k_286_13 (a0 :: a1 :: a2 :: none :: l) [] h Q := by
  rw [m_C_inr, show m_hd (p_P L xs) 286 0 = some (3, 13) from (show p_hd 286 0 = _ by decide +kernel)]
  simp only [m_ok1_3 ho, tn_286_13, true_and]
  rfl
theorem mc_287_0 (ho : m_o a2 = true) : m_C (p_P L xs) d 287 false is (a0 :: a1 :: a2 :: a3 :: l) st Q (.inr 0) h = m_W (p_P L xs) d 287 k_287_13 (a0 :: a1 :: a2 :: none :: l) [] h Q := by
  rw [m_C_inr, show m_hd (p_P L xs) 287 0 = some (3, 13) from (show p_hd 287 0 = _ by decide +kernel)]
  simp only [m_ok1_3 ho, tn_287_13, true_and]
  rfl
theorem mc_288_0 (ho : m_o a4 = true) : m_C (p_P L xs) d 288 false is (a0 :: a1 :: a2 :: a3 :: a4 :: a5 :: l) st Q (.inr 0) h = m_W (p_P L xs) d 288 k_288_17 (a0 :: a1 :: a2 :: a3 :: a4 :: none :: l) [] h Q := by
  rw [m_C_inr, show m_hd (p_P L xs) 288 0 = some (5, 17) from (show p_hd 288 0 = _ by decide +kernel)]
  simp only [m_ok1_5 ho, tn_288_17, true_and]
  rfl
theorem mc_288_1 (ho : m_o a4 = true) : m_C (p_P L xs) d 288 false is (a0 :: a1 :: a2 :: a3 :: a4 :: a5 :: l) st Q (.inr 1) h = m_W (p_P L xs) d 288 k_288_21 (a0 :: a1 :: a2 :: a3 :: a4 :: none :: l) [] h Q := by
  rw [m_C_inr, show m_hd (p_P L xs) 288 1 = some (5, 21) from (show p_hd 288 1 = _ by decide +kernel)]
  simp only [m_ok1_5 ho, tn_288_21, true_and]
  rfl
theorem mc_289_1 (ho : m_o a2 = true) : m_C (p_P L xs) d 289 false is (a0 :: a1 :: a2 :: a3 :: l) st Q (.inr 1) h = m_W (p_P L xs) d 289 k_289_13 (a0 :: a1 :: a2 :: none :: l) [] h Q := by
  rw [m_C_inr, show m_hd (p_P L xs) 289 1 = some (3, 13) from (show p_hd 289 1 = _ by decide +kernel)]
  simp only [m_ok1_3 ho, tn_289_13, true_and]
  rfl
theorem mc_290_0 (ho : m_o a2 = true) : m_C (p_P L xs) d 290 false is (a0 :: a1 :: a2 :: a3 :: l) st Q (.inr 0) h = m_W (p_P L xs) d 290 k_290_13 (a0 :: a1 :: a2 :: none :: l) [] h Q := by
  rw [m_C_inr, show m_hd (p_P L xs) 290 0 = some (3, 13) from (show p_hd 290 0 = _ by decide +kernel)]
  simp only [m_ok1_3 ho, tn_290_13, true_and]
  rfl
theorem mc_291_0 (ho : m_o a2 = true) : m_C (p_P L xs) d 291 false is (a0 :: a1 :: a2 :: a3 :: l) st Q (.inr 0) h = m_W (p_P L xs) d 291 k_291_13 (a0 :: a1 :: a2 :: none :: l) [] h Q := by
  rw [m_C_inr, show m_hd (p_P L xs) 291 0 = some (3, 13) from (show p_hd 291 0 = _ by decide +kernel)]
  simp only [m_ok1_3 ho, tn_291_13, true_and]
  rfl
theorem mc_292_0 (ho : m_o a2 = true) : m_C (p_P L xs) d 292 false is (a0 :: a1 :: a2 :: a3 :: l) st Q (.inr 0) h = m_W (p_P L xs) d 292 k_292_13 (a0 :: a1 :: a2 :: none :: l) [] h Q := by
  rw [m_C_inr, show m_hd (p_P L xs) 292 0 = some (3, 13) from (show p_hd 292 0 = _ by decide +kernel)]
  simp only [m_ok1_3 ho, tn_292_13, true_and]
  rfl
theorem mc_293_0 (ho : m_o a3 = true) : m_C (p_P L xs) d 293 false is (a0 :: a1 :: a2 :: a3 :: a4 :: l) st Q (.inr 0) h = m_W (p_P L xs) d 293 k_293_15 (a0 :: a1 :: a2 :: a3 :: none :: l) [] h Q := by
  rw [m_C_inr, show m_hd (p_P L xs) 293 0 = some (4, 15) from (show p_hd 293 0 = _ by decide +kernel)]
  simp only [m_ok1_4 ho, tn_293_15, true_and]
  rfl
theorem mc_294_0 (ho : m_o a3 = true) : m_C (p_P L xs) d 294 false is (a0 :: a1 :: a2 :: a3 :: a4 :: l) st Q (.inr 0) h = m_W (p_P L xs) d 294 k_294_15 (a0 :: a1 :: a2 :: a3 :: none :: l) [] h Q := by
  rw [m_C_inr, show m_hd (p_P L xs) 294 0 = some (4, 15) from (show p_hd 294 0 = _ by decide +kernel)]
  simp only [m_ok1_4 ho, tn_294_15, true_and]
  rfl
theorem mc_295_0 (ho : m_o a3 = true) : m_C (p_P L xs) d 295 false is (a0 :: a1 :: a2 :: a3 :: a4 :: l) st Q (.inr 0) h = m_W (p_P L xs) d 295 k_295_15 (a0 :: a1 :: a2 :: a3 :: none :: l) [] h Q := by
  rw [m_C_inr, show m_hd (p_P L xs) 295 0 = some (4, 15) from (show p_hd 295 0 = _ by decide +kernel)]
  simp only [m_ok1_4 ho, tn_295_15, true_and]
  rfl
theorem mc_296_0 (ho : m_o a2 = true) : m_C (p_P L xs) d 296 false is (a0 :: a1 :: a2 :: a3 :: l) st Q (.inr 0) h = m_W (p_P L xs) d 296 k_296_13 (a0 :: a1 :: a2 :: none :: l) [] h Q := by
  rw [m_C_inr, show m_hd (p_P L xs) 296 0 = some (3, 13) from (show p_hd 296 0 = _ by decide +kernel)]
  simp only [m_ok1_3 ho, tn_296_13, true_and]
  rfl
theorem mc_297_0 (ho : m_o a3 = true) : m_C (p_P L xs) d 297 false is (a0 :: a1 :: a2 :: a3 :: a4 :: l) st Q (.inr 0) h = m_W (p_P L xs) d 297 k_297_15 (a0 :: a1 :: a2 :: a3 :: none :: l) [] h Q := by
  rw [m_C_inr, show m_hd (p_P L xs) 297 0 = some (4, 15) from (show p_hd 297 0 = _ by decide +kernel)]
  simp only [m_ok1_4 ho, tn_297_15, true_and]
  rfl
theorem mc_298_0 (ho : m_o a2 = true) : m_C (p_P L xs) d 298 false is (a0 :: a1 :: a2 :: a3 :: l) st Q (.inr 0) h = m_W (p_P L xs) d 298 k_298_13 (a0 :: a1 :: a2 :: none :: l) [] h Q := by
  rw [m_C_inr, show m_hd (p_P L xs) 298 0 = some (3, 13) from (show p_hd 298 0 = _ by decide +kernel)]
  simp only [m_ok1_3 ho, tn_298_13, true_and]
  rfl
theorem mc_299_0 (ho : m_o a2 = true) : m_C (p_P L xs) d 299 false is (a0 :: a1 :: a2 :: a3 :: l) st Q (.inr 0) h = m_W (p_P L xs) d 299 k_299_13 (a0 :: a1 :: a2 :: none :: l) [] h Q := by
  rw [m_C_inr, show m_hd (p_P L xs) 299 0 = some (3, 13) from (show p_hd 299 0 = _ by decide +kernel)]
  simp only [m_ok1_3 ho, tn_299_13, true_and]
  rfl
theorem mc_300_0 (ho : m_o a2 = true) : m_C (p_P L xs) d 300 false is (a0 :: a1 :: a2 :: a3 :: l) st Q (.inr 0) h = m_W (p_P L xs) d 300 k_300_13 (a0 :: a1 :: a2 :: none :: l) [] h Q := by
  rw [m_C_inr, show m_hd (p_P L xs) 300 0 = some (3, 13) from (show p_hd 300 0 = _ by decide +kernel)]
  simp only [m_ok1_3 ho, tn_300_13, true_and]
  rfl
theorem mc_301_0 (ho : m_o a3 = true) : m_C (p_P L xs) d 301 false is (a0 :: a1 :: a2 :: a3 :: a4 :: l) st Q (.inr 0) h = m_W (p_P L xs) d 301 k_301_15 (a0 :: a1 :: a2 :: a3 :: none :: l) [] h Q := by
  rw [m_C_inr, show m_hd (p_P L xs) 301 0 = some (4, 15) from (show p_hd 301 0 = _ by decide +kernel)]
  simp only [m_ok1_4 ho, tn_301_15, true_and]
  rfl
theorem mc_302_0 (ho : m_o a3 = true) : m_C (p_P L xs) d 302 false is (a0 :: a1 :: a2 :: a3 :: a4 :: l) st Q (.inr 0) h = m_W (p_P L xs) d 302 k_302_15 (a0 :: a1 :: a2 :: a3 :: none :: l) [] h Q := by
  rw [m_C_inr, show m_hd (p_P L xs) 302 0 = some (4, 15) from (show p_hd 302 0 = _ by decide +kernel)]
  simp only [m_ok1_4 ho, tn_302_15, true_and]
  rfl
theorem mc_303_0 (ho : m_o a2 = true) : m_C (p_P L xs) d 303 false is (a0 :: a1 :: a2 :: a3 :: l) st Q (.inr 0) h = m_W (p_P L xs) d 303 k_303_12 (a0 :: a1 :: a2 :: none :: l) [] h Q := by
  rw [m_C_inr, show m_hd (p_P L xs) 303 0 = some (3, 12) from (show p_hd 303 0 = _ by decide +kernel)]
  simp only [m_ok1_3 ho, tn_303_12, true_and]
  rfl
theorem mc_304_0 (ho : m_o a2 = true) : m_C (p_P L xs) d 304 false is (a0 :: a1 :: a2 :: a3 :: l) st Q (.inr 0) h = m_W (p_P L xs) d 304 k_304_13 (a0 :: a1 :: a2 :: none :: l) [] h Q := by
  rw [m_C_inr, show m_hd (p_P L xs) 304 0 = some (3, 13) from (show p_hd 304 0 = _ by decide +kernel)]
  simp only [m_ok1_3 ho, tn_304_13, true_and]
  rfl
theorem mc_305_0 (ho : m_o a2 = true) : m_C (p_P L xs) d 305 false is (a0 :: a1 :: a2 :: a3 :: l) st Q (.inr 0) h = m_W (p_P L xs) d 305 k_305_13 (a0 :: a1 :: a2 :: none :: l) [] h Q := by
  rw [m_C_inr, show m_hd (p_P L xs) 305 0 = some (3, 13) from (show p_hd 305 0 = _ by decide +kernel)]
  simp only [m_ok1_3 ho, tn_305_13, true_and]
  rfl
theorem mc_306_1 (ho : m_o a2 = true) : m_C (p_P L xs) d 306 false is (a0 :: a1 :: a2 :: a3 :: l) st Q (.inr 1) h = m_W (p_P L xs) d 306 k_306_13 (a0 :: a1 :: a2 :: none :: l) [] h Q := by
  rw [m_C_inr, show m_hd (p_P L xs) 306 1 = some (3, 13) from (show p_hd 306 1 = _ by decide +kernel)]
  simp only [m_ok1_3 ho, tn_306_13, true_and]
  rfl
theorem mc_307_0 (ho : m_o a2 = true) : m_C (p_P L xs) d 307 false is (a0 :: a1 :: a2 :: a3 :: l) st Q (.inr 0) h = m_W (p_P L xs) d 307 k_307_13 (a0 :: a1 :: a2 :: none :: l) [] h Q := by
  rw [m_C_inr, show m_hd (p_P L xs) 307 0 = some (3, 13) from (show p_hd 307 0 = _ by decide +kernel)]
  simp only [m_ok1_3 ho, tn_307_13, true_and]
  rfl
theorem mc_308_1 (ho : m_o a2 = true) : m_C (p_P L xs) d 308 false is (a0 :: a1 :: a2 :: a3 :: l) st Q (.inr 1) h = m_W (p_P L xs) d 308 k_308_13 (a0 :: a1 :: a2 :: none :: l) [] h Q := by
  rw [m_C_inr, show m_hd (p_P L xs) 308 1 = some (3, 13) from (show p_hd 308 1 = _ by decide +kernel)]
  simp only [m_ok1_3 ho, tn_308_13, true_and]
  rfl
theorem wt_8 {k : Nat} (h2 : m_cat st ≤ 8) : m_W (p_P L xs) d 8 (.invokedynamic k :: is) ls st h Q = Q (.inr k) (m_bump h) := w_throw hn_8 h2
theorem wt_9 {k : Nat} (h2 : m_cat st ≤ 8) : m_W (p_P L xs) d 9 (.invokedynamic k :: is) ls st h Q = Q (.inr k) (m_bump h) := w_throw hn_9 h2
theorem wt_10 {k : Nat} (h2 : m_cat st ≤ 8) : m_W (p_P L xs) d 10 (.invokedynamic k :: is) ls st h Q = Q (.inr k) (m_bump h) := w_throw hn_10 h2
theorem wt_26 {k : Nat} (h2 : m_cat st ≤ 8) : m_W (p_P L xs) d 26 (.invokedynamic k :: is) ls st h Q = Q (.inr k) (m_bump h) := w_throw hn_26 h2
theorem wt_29 {k : Nat} (h2 : m_cat st ≤ 8) : m_W (p_P L xs) d 29 (.invokedynamic k :: is) ls st h Q = Q (.inr k) (m_bump h) := w_throw hn_29 h2
theorem wt_58 {k : Nat} (h2 : m_cat st ≤ 8) : m_W (p_P L xs) d 58 (.invokedynamic k :: is) ls st h Q = Q (.inr k) (m_bump h) := w_throw hn_58 h2
theorem wt_79 {k : Nat} (h2 : m_cat st ≤ 8) : m_W (p_P L xs) d 79 (.invokedynamic k :: is) ls st h Q = Q (.inr k) (m_bump h) := w_throw hn_79 h2
theorem wt_80 {k : Nat} (h2 : m_cat st ≤ 8) : m_W (p_P L xs) d 80 (.invokedynamic k :: is) ls st h Q = Q (.inr k) (m_bump h) := w_throw hn_80 h2
theorem wt_107 {k : Nat} (h2 : m_cat st ≤ 8) : m_W (p_P L xs) d 107 (.invokedynamic k :: is) ls st h Q = Q (.inr k) (m_bump h) := w_throw hn_107 h2
theorem wt_115 {k : Nat} (h2 : m_cat st ≤ 8) : m_W (p_P L xs) d 115 (.invokedynamic k :: is) ls st h Q = Q (.inr k) (m_bump h) := w_throw hn_115 h2
theorem wt_117 {k : Nat} (h2 : m_cat st ≤ 8) : m_W (p_P L xs) d 117 (.invokedynamic k :: is) ls st h Q = Q (.inr k) (m_bump h) := w_throw hn_117 h2
theorem wt_121 {k : Nat} (h2 : m_cat st ≤ 8) : m_W (p_P L xs) d 121 (.invokedynamic k :: is) ls st h Q = Q (.inr k) (m_bump h) := w_throw hn_121 h2
theorem wt_122 {k : Nat} (h2 : m_cat st ≤ 8) : m_W (p_P L xs) d 122 (.invokedynamic k :: is) ls st h Q = Q (.inr k) (m_bump h) := w_throw hn_122 h2
theorem wt_130 {k : Nat} (h2 : m_cat st ≤ 8) : m_W (p_P L xs) d 130 (.invokedynamic k :: is) ls st h Q = Q (.inr k) (m_bump h) := w_throw hn_130 h2
theorem wt_141 {k : Nat} (h2 : m_cat st ≤ 8) : m_W (p_P L xs) d 141 (.invokedynamic k :: is) ls st h Q = Q (.inr k) (m_bump h) := w_throw hn_141 h2
theorem wt_148 {k : Nat} (h2 : m_cat st ≤ 8) : m_W (p_P L xs) d 148 (.invokedynamic k :: is) ls st h Q = Q (.inr k) (m_bump h) := w_throw hn_148 h2
end MC
