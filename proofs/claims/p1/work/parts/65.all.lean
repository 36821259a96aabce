/-! all calls; every script of at most 6 ints -/
theorem case_0 {xs : Nat → Int32} {d : Nat} {h : m_H} (I : I_0 h) : m_W (p_P 6 xs) (d + 12) 310 k_310_228 [some (.ref m_X), some (.ref 0), some (.ref 135), some (.ref 155), some (.ref 156), some (.int (Int32.ofInt 0)), none, none, none] [] h q_Q := by
  obtain ⟨v1, e1, a1, b1⟩ := i_any (xs 1)
  obtain ⟨v2, e2, a2, b2⟩ := i_any (xs 2)
  obtain ⟨v3, e3, a3, b3⟩ := i_any (xs 3)
  obtain ⟨v4, e4, a4, b4⟩ := i_any (xs 4)
  obtain ⟨v5, e5, a5, b5⟩ := i_any (xs 5)
  exact cs_0_a I a1 b1 a2 b2 a3 b3 a4 b4 a5 b5 e1 e2 e3 e4 e5
theorem case_1 {xs : Nat → Int32} {d : Nat} {h : m_H} (I : I_0 h) : m_W (p_P 6 xs) (d + 12) 310 k_310_301 [some (.ref m_X), some (.ref 0), some (.ref 135), some (.ref 155), some (.ref 156), some (.int (Int32.ofInt 0)), none, none, none] [] h q_Q := by
  obtain ⟨v1, e1, a1, b1⟩ := i_any (xs 1)
  obtain ⟨v2, e2, a2, b2⟩ := i_any (xs 2)
  obtain ⟨v3, e3, a3, b3⟩ := i_any (xs 3)
  obtain ⟨v4, e4, a4, b4⟩ := i_any (xs 4)
  obtain ⟨v5, e5, a5, b5⟩ := i_any (xs 5)
  rcases (show (v1 < 0) ∨ (v1 = 0) ∨ (0 < v1) by omega) with c | c | c
  · exact cs_1_n I a1 b1 a2 b2 a3 b3 a4 b4 a5 b5 e1 e2 e3 e4 e5 (by omega)
  · subst c
    exact cs_1_z I a2 b2 a3 b3 a4 b4 a5 b5 e1 e2 e3 e4 e5
  · exact cs_1_p I a1 b1 a2 b2 a3 b3 a4 b4 a5 b5 e1 e2 e3 e4 e5 (by omega)
theorem case_2 {xs : Nat → Int32} {d : Nat} {h : m_H} (I : I_0 h) : m_W (p_P 6 xs) (d + 12) 310 k_310_357 [some (.ref m_X), some (.ref 0), some (.ref 135), some (.ref 155), some (.ref 156), some (.int (Int32.ofInt 0)), none, none, none] [] h q_Q := by
  obtain ⟨v1, e1, a1, b1⟩ := i_any (xs 1)
  obtain ⟨v2, e2, a2, b2⟩ := i_any (xs 2)
  obtain ⟨v3, e3, a3, b3⟩ := i_any (xs 3)
  obtain ⟨v4, e4, a4, b4⟩ := i_any (xs 4)
  obtain ⟨v5, e5, a5, b5⟩ := i_any (xs 5)
  exact cs_2_a I a1 b1 a2 b2 a3 b3 a4 b4 a5 b5 e1 e2 e3 e4 e5
theorem case_3 {xs : Nat → Int32} {d : Nat} {h : m_H} (I : I_0 h) : m_W (p_P 6 xs) (d + 12) 310 k_310_370 [some (.ref m_X), some (.ref 0), some (.ref 135), some (.ref 155), some (.ref 156), some (.int (Int32.ofInt 0)), none, none, none] [] h q_Q := by
  obtain ⟨v1, e1, a1, b1⟩ := i_any (xs 1)
  obtain ⟨v2, e2, a2, b2⟩ := i_any (xs 2)
  obtain ⟨v3, e3, a3, b3⟩ := i_any (xs 3)
  obtain ⟨v4, e4, a4, b4⟩ := i_any (xs 4)
  obtain ⟨v5, e5, a5, b5⟩ := i_any (xs 5)
  exact cs_3_a I a1 b1 a2 b2 a3 b3 a4 b4 a5 b5 e1 e2 e3 e4 e5
theorem case_4 {xs : Nat → Int32} {d : Nat} {h : m_H} (I : I_0 h) : m_W (p_P 6 xs) (d + 12) 310 k_310_383 [some (.ref m_X), some (.ref 0), some (.ref 135), some (.ref 155), some (.ref 156), some (.int (Int32.ofInt 0)), none, none, none] [] h q_Q := by
  obtain ⟨v1, e1, a1, b1⟩ := i_any (xs 1)
  obtain ⟨v2, e2, a2, b2⟩ := i_any (xs 2)
  obtain ⟨v3, e3, a3, b3⟩ := i_any (xs 3)
  obtain ⟨v4, e4, a4, b4⟩ := i_any (xs 4)
  obtain ⟨v5, e5, a5, b5⟩ := i_any (xs 5)
  exact cs_4_a I a1 b1 a2 b2 a3 b3 a4 b4 a5 b5 e1 e2 e3 e4 e5
theorem case_5 {xs : Nat → Int32} {d : Nat} {h : m_H} (I : I_0 h) : m_W (p_P 6 xs) (d + 12) 310 k_310_396 [some (.ref m_X), some (.ref 0), some (.ref 135), some (.ref 155), some (.ref 156), some (.int (Int32.ofInt 0)), none, none, none] [] h q_Q := by
  obtain ⟨v1, e1, a1, b1⟩ := i_any (xs 1)
  obtain ⟨v2, e2, a2, b2⟩ := i_any (xs 2)
  obtain ⟨v3, e3, a3, b3⟩ := i_any (xs 3)
  obtain ⟨v4, e4, a4, b4⟩ := i_any (xs 4)
  obtain ⟨v5, e5, a5, b5⟩ := i_any (xs 5)
  exact cs_5_a I a1 b1 a2 b2 a3 b3 a4 b4 a5 b5 e1 e2 e3 e4 e5
theorem case_6 {xs : Nat → Int32} {d : Nat} {h : m_H} (I : I_0 h) : m_W (p_P 6 xs) (d + 12) 310 k_310_409 [some (.ref m_X), some (.ref 0), some (.ref 135), some (.ref 155), some (.ref 156), some (.int (Int32.ofInt 0)), none, none, none] [] h q_Q := by
  obtain ⟨v1, e1, a1, b1⟩ := i_any (xs 1)
  obtain ⟨v2, e2, a2, b2⟩ := i_any (xs 2)
  obtain ⟨v3, e3, a3, b3⟩ := i_any (xs 3)
  obtain ⟨v4, e4, a4, b4⟩ := i_any (xs 4)
  obtain ⟨v5, e5, a5, b5⟩ := i_any (xs 5)
  exact cs_6_a I a1 b1 a2 b2 a3 b3 a4 b4 a5 b5 e1 e2 e3 e4 e5
theorem case_7 {xs : Nat → Int32} {d : Nat} {h : m_H} (I : I_0 h) : m_W (p_P 6 xs) (d + 12) 310 k_310_422 [some (.ref m_X), some (.ref 0), some (.ref 135), some (.ref 155), some (.ref 156), some (.int (Int32.ofInt 0)), none, none, none] [] h q_Q := by
  obtain ⟨v1, e1, a1, b1⟩ := i_any (xs 1)
  obtain ⟨v2, e2, a2, b2⟩ := i_any (xs 2)
  obtain ⟨v3, e3, a3, b3⟩ := i_any (xs 3)
  obtain ⟨v4, e4, a4, b4⟩ := i_any (xs 4)
  obtain ⟨v5, e5, a5, b5⟩ := i_any (xs 5)
  rcases (show (v1 < 0) ∨ (0 ≤ v1) by omega) with c | c
  · exact cs_7_n I a1 b1 a2 b2 a3 b3 a4 b4 a5 b5 e1 e2 e3 e4 e5 (by omega)
  · exact cs_7_g I a1 b1 a2 b2 a3 b3 a4 b4 a5 b5 e1 e2 e3 e4 e5 (by omega)
theorem case_8 {xs : Nat → Int32} {d : Nat} {h : m_H} (I : I_0 h) : m_W (p_P 6 xs) (d + 12) 310 k_310_478 [some (.ref m_X), some (.ref 0), some (.ref 135), some (.ref 155), some (.ref 156), some (.int (Int32.ofInt 0)), none, none, none] [] h q_Q := by
  obtain ⟨v1, e1, a1, b1⟩ := i_any (xs 1)
  obtain ⟨v2, e2, a2, b2⟩ := i_any (xs 2)
  obtain ⟨v3, e3, a3, b3⟩ := i_any (xs 3)
  obtain ⟨v4, e4, a4, b4⟩ := i_any (xs 4)
  obtain ⟨v5, e5, a5, b5⟩ := i_any (xs 5)
  rcases (show (v1 < 0) ∨ (0 ≤ v1) by omega) with c | c
  · exact cs_8_n I a1 b1 a2 b2 a3 b3 a4 b4 a5 b5 e1 e2 e3 e4 e5 (by omega)
  · exact cs_8_g I a1 b1 a2 b2 a3 b3 a4 b4 a5 b5 e1 e2 e3 e4 e5 (by omega)
theorem case_9 {xs : Nat → Int32} {d : Nat} {h : m_H} (I : I_0 h) : m_W (p_P 6 xs) (d + 12) 310 k_310_534 [some (.ref m_X), some (.ref 0), some (.ref 135), some (.ref 155), some (.ref 156), some (.int (Int32.ofInt 0)), none, none, none] [] h q_Q := by
  obtain ⟨v1, e1, a1, b1⟩ := i_any (xs 1)
  obtain ⟨v2, e2, a2, b2⟩ := i_any (xs 2)
  obtain ⟨v3, e3, a3, b3⟩ := i_any (xs 3)
  obtain ⟨v4, e4, a4, b4⟩ := i_any (xs 4)
  obtain ⟨v5, e5, a5, b5⟩ := i_any (xs 5)
  rcases (show (v1 < 0) ∨ (0 < v1) ∨ (v1 = 0 ∧ v2 < 0) ∨ (v1 = 0 ∧ 0 ≤ v2) by omega) with c | c | c | c
  · exact cs_9_n I a1 b1 a2 b2 a3 b3 a4 b4 a5 b5 e1 e2 e3 e4 e5 (by omega)
  · exact cs_9_p I a1 b1 a2 b2 a3 b3 a4 b4 a5 b5 e1 e2 e3 e4 e5 (by omega)
  · obtain ⟨rfl, c⟩ := c
    exact cs_9_zn I a2 b2 a3 b3 a4 b4 a5 b5 e1 e2 e3 e4 e5 (by omega)
  · obtain ⟨rfl, c⟩ := c
    exact cs_9_zg I a2 b2 a3 b3 a4 b4 a5 b5 e1 e2 e3 e4 e5 (by omega)
theorem case_10 {xs : Nat → Int32} {d : Nat} {h : m_H} (I : I_0 h) : m_W (p_P 6 xs) (d + 12) 310 k_310_638 [some (.ref m_X), some (.ref 0), some (.ref 135), some (.ref 155), some (.ref 156), some (.int (Int32.ofInt 0)), none, none, none] [] h q_Q := by
  obtain ⟨v1, e1, a1, b1⟩ := i_any (xs 1)
  obtain ⟨v2, e2, a2, b2⟩ := i_any (xs 2)
  obtain ⟨v3, e3, a3, b3⟩ := i_any (xs 3)
  obtain ⟨v4, e4, a4, b4⟩ := i_any (xs 4)
  obtain ⟨v5, e5, a5, b5⟩ := i_any (xs 5)
  rcases (show (v1 < 0) ∨ (0 ≤ v1) by omega) with c | c
  · exact cs_10_n I a1 b1 a2 b2 a3 b3 a4 b4 a5 b5 e1 e2 e3 e4 e5 (by omega)
  · exact cs_10_g I a1 b1 a2 b2 a3 b3 a4 b4 a5 b5 e1 e2 e3 e4 e5 (by omega)
theorem case_11 {xs : Nat → Int32} {d : Nat} {h : m_H} (I : I_0 h) : m_W (p_P 6 xs) (d + 12) 310 k_310_694 [some (.ref m_X), some (.ref 0), some (.ref 135), some (.ref 155), some (.ref 156), some (.int (Int32.ofInt 0)), none, none, none] [] h q_Q := by
  obtain ⟨v1, e1, a1, b1⟩ := i_any (xs 1)
  obtain ⟨v2, e2, a2, b2⟩ := i_any (xs 2)
  obtain ⟨v3, e3, a3, b3⟩ := i_any (xs 3)
  obtain ⟨v4, e4, a4, b4⟩ := i_any (xs 4)
  obtain ⟨v5, e5, a5, b5⟩ := i_any (xs 5)
  rcases (show (v1 < 0) ∨ (0 ≤ v1) by omega) with c | c
  · exact cs_11_n I a1 b1 a2 b2 a3 b3 a4 b4 a5 b5 e1 e2 e3 e4 e5 (by omega)
  · exact cs_11_g I a1 b1 a2 b2 a3 b3 a4 b4 a5 b5 e1 e2 e3 e4 e5 (by omega)
theorem case_12 {xs : Nat → Int32} {d : Nat} {h : m_H} (I : I_0 h) : m_W (p_P 6 xs) (d + 12) 310 k_310_774 [some (.ref m_X), some (.ref 0), some (.ref 135), some (.ref 155), some (.ref 156), some (.int (Int32.ofInt 0)), none, none, none] [] h q_Q := by
  obtain ⟨v1, e1, a1, b1⟩ := i_any (xs 1)
  obtain ⟨v2, e2, a2, b2⟩ := i_any (xs 2)
  obtain ⟨v3, e3, a3, b3⟩ := i_any (xs 3)
  obtain ⟨v4, e4, a4, b4⟩ := i_any (xs 4)
  obtain ⟨v5, e5, a5, b5⟩ := i_any (xs 5)
  rcases (show (v1 < 0) ∨ (v1 = 0) ∨ (0 < v1) by omega) with c | c | c
  · exact cs_12_n I a1 b1 a2 b2 a3 b3 a4 b4 a5 b5 e1 e2 e3 e4 e5 (by omega)
  · subst c
    exact cs_12_z I a2 b2 a3 b3 a4 b4 a5 b5 e1 e2 e3 e4 e5
  · exact cs_12_p I a1 b1 a2 b2 a3 b3 a4 b4 a5 b5 e1 e2 e3 e4 e5 (by omega)
theorem case_13 {xs : Nat → Int32} {d : Nat} {h : m_H} (I : I_0 h) : m_W (p_P 6 xs) (d + 12) 310 k_310_830 [some (.ref m_X), some (.ref 0), some (.ref 135), some (.ref 155), some (.ref 156), some (.int (Int32.ofInt 0)), none, none, none] [] h q_Q := by
  obtain ⟨v1, e1, a1, b1⟩ := i_any (xs 1)
  obtain ⟨v2, e2, a2, b2⟩ := i_any (xs 2)
  obtain ⟨v3, e3, a3, b3⟩ := i_any (xs 3)
  obtain ⟨v4, e4, a4, b4⟩ := i_any (xs 4)
  obtain ⟨v5, e5, a5, b5⟩ := i_any (xs 5)
  rcases (show (v1 < 0) ∨ (v1 = 0) ∨ (0 < v1) by omega) with c | c | c
  · exact cs_13_n I a1 b1 a2 b2 a3 b3 a4 b4 a5 b5 e1 e2 e3 e4 e5 (by omega)
  · subst c
    exact cs_13_z I a2 b2 a3 b3 a4 b4 a5 b5 e1 e2 e3 e4 e5
  · exact cs_13_p I a1 b1 a2 b2 a3 b3 a4 b4 a5 b5 e1 e2 e3 e4 e5 (by omega)
theorem case_14 {xs : Nat → Int32} {d : Nat} {h : m_H} (I : I_0 h) : m_W (p_P 6 xs) (d + 12) 310 k_310_886 [some (.ref m_X), some (.ref 0), some (.ref 135), some (.ref 155), some (.ref 156), some (.int (Int32.ofInt 0)), none, none, none] [] h q_Q := by
  obtain ⟨v1, e1, a1, b1⟩ := i_any (xs 1)
  obtain ⟨v2, e2, a2, b2⟩ := i_any (xs 2)
  obtain ⟨v3, e3, a3, b3⟩ := i_any (xs 3)
  obtain ⟨v4, e4, a4, b4⟩ := i_any (xs 4)
  obtain ⟨v5, e5, a5, b5⟩ := i_any (xs 5)
  rcases (show (v1 < 0) ∨ (v1 = 0) ∨ (0 < v1) by omega) with c | c | c
  · exact cs_14_n I a1 b1 a2 b2 a3 b3 a4 b4 a5 b5 e1 e2 e3 e4 e5 (by omega)
  · subst c
    exact cs_14_z I a2 b2 a3 b3 a4 b4 a5 b5 e1 e2 e3 e4 e5
  · exact cs_14_p I a1 b1 a2 b2 a3 b3 a4 b4 a5 b5 e1 e2 e3 e4 e5 (by omega)
theorem case_15 {xs : Nat → Int32} {d : Nat} {h : m_H} (I : I_0 h) : m_W (p_P 6 xs) (d + 12) 310 k_310_942 [some (.ref m_X), some (.ref 0), some (.ref 135), some (.ref 155), some (.ref 156), some (.int (Int32.ofInt 0)), none, none, none] [] h q_Q := by
  obtain ⟨v1, e1, a1, b1⟩ := i_any (xs 1)
  obtain ⟨v2, e2, a2, b2⟩ := i_any (xs 2)
  obtain ⟨v3, e3, a3, b3⟩ := i_any (xs 3)
  obtain ⟨v4, e4, a4, b4⟩ := i_any (xs 4)
  obtain ⟨v5, e5, a5, b5⟩ := i_any (xs 5)
  rcases (show (v1 < 0) ∨ (0 < v1) ∨ (v1 = 0 ∧ v2 < 0) ∨ (v1 = 0 ∧ 7 < v2) ∨ (v1 = 0 ∧ 0 ≤ v2 ∧ v2 ≤ 7 ∧ v3 < 0) ∨ (v1 = 0 ∧ 0 ≤ v2 ∧ v2 ≤ 7 ∧ 65535 < v3) ∨ (v1 = 0 ∧ 0 ≤ v2 ∧ v2 ≤ 7 ∧ 0 ≤ v3 ∧ v3 ≤ 65535) by omega) with c | c | c | c | c | c | c
  · exact cs_15_n I a1 b1 a2 b2 a3 b3 a4 b4 a5 b5 e1 e2 e3 e4 e5 (by omega)
  · exact cs_15_p I a1 b1 a2 b2 a3 b3 a4 b4 a5 b5 e1 e2 e3 e4 e5 (by omega)
  · obtain ⟨rfl, c⟩ := c
    exact cs_15_zn I a2 b2 a3 b3 a4 b4 a5 b5 e1 e2 e3 e4 e5 (by omega)
  · obtain ⟨rfl, c⟩ := c
    exact cs_15_zp I a2 b2 a3 b3 a4 b4 a5 b5 e1 e2 e3 e4 e5 (by omega)
  · obtain ⟨rfl, c⟩ := c
    exact cs_15_zzn I a2 b2 a3 b3 a4 b4 a5 b5 e1 e2 e3 e4 e5 (by omega) (by omega) (by omega)
  · obtain ⟨rfl, c⟩ := c
    exact cs_15_zzp I a2 b2 a3 b3 a4 b4 a5 b5 e1 e2 e3 e4 e5 (by omega) (by omega) (by omega)
  · obtain ⟨rfl, c⟩ := c
    exact cs_15_zzz I a2 b2 a3 b3 a4 b4 a5 b5 e1 e2 e3 e4 e5 (by omega) (by omega) (by omega) (by omega)
theorem case_16 {xs : Nat → Int32} {d : Nat} {h : m_H} (I : I_0 h) : m_W (p_P 6 xs) (d + 12) 310 k_310_1022 [some (.ref m_X), some (.ref 0), some (.ref 135), some (.ref 155), some (.ref 156), some (.int (Int32.ofInt 0)), none, none, none] [] h q_Q := by
  obtain ⟨v1, e1, a1, b1⟩ := i_any (xs 1)
  obtain ⟨v2, e2, a2, b2⟩ := i_any (xs 2)
  obtain ⟨v3, e3, a3, b3⟩ := i_any (xs 3)
  obtain ⟨v4, e4, a4, b4⟩ := i_any (xs 4)
  obtain ⟨v5, e5, a5, b5⟩ := i_any (xs 5)
  rcases (show (v1 < 0) ∨ (1000 < v1) ∨ (0 ≤ v1 ∧ v1 ≤ 1000) by omega) with c | c | c
  · exact cs_16_n I a1 b1 a2 b2 a3 b3 a4 b4 a5 b5 e1 e2 e3 e4 e5 (by omega)
  · exact cs_16_p I a1 b1 a2 b2 a3 b3 a4 b4 a5 b5 e1 e2 e3 e4 e5 (by omega)
  · exact cs_16_z I a1 b1 a2 b2 a3 b3 a4 b4 a5 b5 e1 e2 e3 e4 e5 (by omega) (by omega)
theorem case_17 {xs : Nat → Int32} {d : Nat} {h : m_H} (I : I_0 h) : m_W (p_P 6 xs) (d + 12) 310 k_310_1078 [some (.ref m_X), some (.ref 0), some (.ref 135), some (.ref 155), some (.ref 156), some (.int (Int32.ofInt 0)), none, none, none] [] h q_Q := by
  obtain ⟨v1, e1, a1, b1⟩ := i_any (xs 1)
  obtain ⟨v2, e2, a2, b2⟩ := i_any (xs 2)
  obtain ⟨v3, e3, a3, b3⟩ := i_any (xs 3)
  obtain ⟨v4, e4, a4, b4⟩ := i_any (xs 4)
  obtain ⟨v5, e5, a5, b5⟩ := i_any (xs 5)
  rcases (show (v1 < 0) ∨ (v1 = 0) ∨ (0 < v1) by omega) with c | c | c
  · exact cs_17_n I a1 b1 a2 b2 a3 b3 a4 b4 a5 b5 e1 e2 e3 e4 e5 (by omega)
  · subst c
    exact cs_17_z I a2 b2 a3 b3 a4 b4 a5 b5 e1 e2 e3 e4 e5
  · exact cs_17_p I a1 b1 a2 b2 a3 b3 a4 b4 a5 b5 e1 e2 e3 e4 e5 (by omega)
theorem case_18 {xs : Nat → Int32} {d : Nat} {h : m_H} (I : I_0 h) : m_W (p_P 6 xs) (d + 12) 310 k_310_1134 [some (.ref m_X), some (.ref 0), some (.ref 135), some (.ref 155), some (.ref 156), some (.int (Int32.ofInt 0)), none, none, none] [] h q_Q := by
  obtain ⟨v1, e1, a1, b1⟩ := i_any (xs 1)
  obtain ⟨v2, e2, a2, b2⟩ := i_any (xs 2)
  obtain ⟨v3, e3, a3, b3⟩ := i_any (xs 3)
  obtain ⟨v4, e4, a4, b4⟩ := i_any (xs 4)
  obtain ⟨v5, e5, a5, b5⟩ := i_any (xs 5)
  rcases (show (v1 < 0) ∨ (v1 = 0) ∨ (0 < v1) by omega) with c | c | c
  · exact cs_18_n I a1 b1 a2 b2 a3 b3 a4 b4 a5 b5 e1 e2 e3 e4 e5 (by omega)
  · subst c
    exact cs_18_z I a2 b2 a3 b3 a4 b4 a5 b5 e1 e2 e3 e4 e5
  · exact cs_18_p I a1 b1 a2 b2 a3 b3 a4 b4 a5 b5 e1 e2 e3 e4 e5 (by omega)
theorem case_19 {xs : Nat → Int32} {d : Nat} {h : m_H} (I : I_0 h) : m_W (p_P 6 xs) (d + 12) 310 k_310_1190 [some (.ref m_X), some (.ref 0), some (.ref 135), some (.ref 155), some (.ref 156), some (.int (Int32.ofInt 0)), none, none, none] [] h q_Q := by
  obtain ⟨v1, e1, a1, b1⟩ := i_any (xs 1)
  obtain ⟨v2, e2, a2, b2⟩ := i_any (xs 2)
  obtain ⟨v3, e3, a3, b3⟩ := i_any (xs 3)
  obtain ⟨v4, e4, a4, b4⟩ := i_any (xs 4)
  obtain ⟨v5, e5, a5, b5⟩ := i_any (xs 5)
  rcases (show (v1 < 0) ∨ (v1 = 0) ∨ (0 < v1) by omega) with c | c | c
  · exact cs_19_n I a1 b1 a2 b2 a3 b3 a4 b4 a5 b5 e1 e2 e3 e4 e5 (by omega)
  · subst c
    exact cs_19_z I a2 b2 a3 b3 a4 b4 a5 b5 e1 e2 e3 e4 e5
  · exact cs_19_p I a1 b1 a2 b2 a3 b3 a4 b4 a5 b5 e1 e2 e3 e4 e5 (by omega)
theorem case_20 {xs : Nat → Int32} {d : Nat} {h : m_H} (I : I_0 h) : m_W (p_P 6 xs) (d + 12) 310 k_310_1246 [some (.ref m_X), some (.ref 0), some (.ref 135), some (.ref 155), some (.ref 156), some (.int (Int32.ofInt 0)), none, none, none] [] h q_Q := by
  obtain ⟨v1, e1, a1, b1⟩ := i_any (xs 1)
  obtain ⟨v2, e2, a2, b2⟩ := i_any (xs 2)
  obtain ⟨v3, e3, a3, b3⟩ := i_any (xs 3)
  obtain ⟨v4, e4, a4, b4⟩ := i_any (xs 4)
  obtain ⟨v5, e5, a5, b5⟩ := i_any (xs 5)
  rcases (show (v1 < 0) ∨ (0 < v1) ∨ (v1 = 0 ∧ v2 < 0) ∨ (v1 = 0 ∧ 7 < v2) ∨ (v1 = 0 ∧ 0 ≤ v2 ∧ v2 ≤ 7) by omega) with c | c | c | c | c
  · exact cs_20_n I a1 b1 a2 b2 a3 b3 a4 b4 a5 b5 e1 e2 e3 e4 e5 (by omega)
  · exact cs_20_p I a1 b1 a2 b2 a3 b3 a4 b4 a5 b5 e1 e2 e3 e4 e5 (by omega)
  · obtain ⟨rfl, c⟩ := c
    exact cs_20_zn I a2 b2 a3 b3 a4 b4 a5 b5 e1 e2 e3 e4 e5 (by omega)
  · obtain ⟨rfl, c⟩ := c
    exact cs_20_zp I a2 b2 a3 b3 a4 b4 a5 b5 e1 e2 e3 e4 e5 (by omega)
  · obtain ⟨rfl, c⟩ := c
    exact cs_20_zz I a2 b2 a3 b3 a4 b4 a5 b5 e1 e2 e3 e4 e5 (by omega) (by omega)
theorem case_21 {xs : Nat → Int32} {d : Nat} {h : m_H} (I : I_0 h) : m_W (p_P 6 xs) (d + 12) 310 k_310_1314 [some (.ref m_X), some (.ref 0), some (.ref 135), some (.ref 155), some (.ref 156), some (.int (Int32.ofInt 0)), none, none, none] [] h q_Q := by
  obtain ⟨v1, e1, a1, b1⟩ := i_any (xs 1)
  obtain ⟨v2, e2, a2, b2⟩ := i_any (xs 2)
  obtain ⟨v3, e3, a3, b3⟩ := i_any (xs 3)
  obtain ⟨v4, e4, a4, b4⟩ := i_any (xs 4)
  obtain ⟨v5, e5, a5, b5⟩ := i_any (xs 5)
  rcases (show (v1 < 0) ∨ (0 < v1) ∨ (v1 = 0 ∧ v2 < 0) ∨ (v1 = 0 ∧ 3 < v2) ∨ (v1 = 0 ∧ 0 ≤ v2 ∧ v2 ≤ 3) by omega) with c | c | c | c | c
  · exact cs_21_n I a1 b1 a2 b2 a3 b3 a4 b4 a5 b5 e1 e2 e3 e4 e5 (by omega)
  · exact cs_21_p I a1 b1 a2 b2 a3 b3 a4 b4 a5 b5 e1 e2 e3 e4 e5 (by omega)
  · obtain ⟨rfl, c⟩ := c
    exact cs_21_zn I a2 b2 a3 b3 a4 b4 a5 b5 e1 e2 e3 e4 e5 (by omega)
  · obtain ⟨rfl, c⟩ := c
    exact cs_21_zp I a2 b2 a3 b3 a4 b4 a5 b5 e1 e2 e3 e4 e5 (by omega)
  · obtain ⟨rfl, c⟩ := c
    exact cs_21_zz I a2 b2 a3 b3 a4 b4 a5 b5 e1 e2 e3 e4 e5 (by omega) (by omega)
theorem case_22 {xs : Nat → Int32} {d : Nat} {h : m_H} (I : I_0 h) : m_W (p_P 6 xs) (d + 12) 310 k_310_1382 [some (.ref m_X), some (.ref 0), some (.ref 135), some (.ref 155), some (.ref 156), some (.int (Int32.ofInt 0)), none, none, none] [] h q_Q := by
  obtain ⟨v1, e1, a1, b1⟩ := i_any (xs 1)
  obtain ⟨v2, e2, a2, b2⟩ := i_any (xs 2)
  obtain ⟨v3, e3, a3, b3⟩ := i_any (xs 3)
  obtain ⟨v4, e4, a4, b4⟩ := i_any (xs 4)
  obtain ⟨v5, e5, a5, b5⟩ := i_any (xs 5)
  rcases (show (v1 < 0) ∨ (0 < v1) ∨ (v1 = 0 ∧ v2 < 0) ∨ (v1 = 0 ∧ 3 < v2) ∨ (v1 = 0 ∧ 0 ≤ v2 ∧ v2 ≤ 3) by omega) with c | c | c | c | c
  · exact cs_22_n I a1 b1 a2 b2 a3 b3 a4 b4 a5 b5 e1 e2 e3 e4 e5 (by omega)
  · exact cs_22_p I a1 b1 a2 b2 a3 b3 a4 b4 a5 b5 e1 e2 e3 e4 e5 (by omega)
  · obtain ⟨rfl, c⟩ := c
    exact cs_22_zn I a2 b2 a3 b3 a4 b4 a5 b5 e1 e2 e3 e4 e5 (by omega)
  · obtain ⟨rfl, c⟩ := c
    exact cs_22_zp I a2 b2 a3 b3 a4 b4 a5 b5 e1 e2 e3 e4 e5 (by omega)
  · obtain ⟨rfl, c⟩ := c
    exact cs_22_zz I a2 b2 a3 b3 a4 b4 a5 b5 e1 e2 e3 e4 e5 (by omega) (by omega)
theorem case_23 {xs : Nat → Int32} {d : Nat} {h : m_H} (I : I_0 h) : m_W (p_P 6 xs) (d + 12) 310 k_310_1450 [some (.ref m_X), some (.ref 0), some (.ref 135), some (.ref 155), some (.ref 156), some (.int (Int32.ofInt 0)), none, none, none] [] h q_Q := by
  obtain ⟨v1, e1, a1, b1⟩ := i_any (xs 1)
  obtain ⟨v2, e2, a2, b2⟩ := i_any (xs 2)
  obtain ⟨v3, e3, a3, b3⟩ := i_any (xs 3)
  obtain ⟨v4, e4, a4, b4⟩ := i_any (xs 4)
  obtain ⟨v5, e5, a5, b5⟩ := i_any (xs 5)
  rcases (show (v1 < 0) ∨ (v1 = 0) ∨ (0 < v1) by omega) with c | c | c
  · exact cs_23_n I a1 b1 a2 b2 a3 b3 a4 b4 a5 b5 e1 e2 e3 e4 e5 (by omega)
  · subst c
    exact cs_23_z I a2 b2 a3 b3 a4 b4 a5 b5 e1 e2 e3 e4 e5
  · exact cs_23_p I a1 b1 a2 b2 a3 b3 a4 b4 a5 b5 e1 e2 e3 e4 e5 (by omega)
theorem case_24 {xs : Nat → Int32} {d : Nat} {h : m_H} (I : I_0 h) : m_W (p_P 6 xs) (d + 12) 310 k_310_1506 [some (.ref m_X), some (.ref 0), some (.ref 135), some (.ref 155), some (.ref 156), some (.int (Int32.ofInt 0)), none, none, none] [] h q_Q := by
  obtain ⟨v1, e1, a1, b1⟩ := i_any (xs 1)
  obtain ⟨v2, e2, a2, b2⟩ := i_any (xs 2)
  obtain ⟨v3, e3, a3, b3⟩ := i_any (xs 3)
  obtain ⟨v4, e4, a4, b4⟩ := i_any (xs 4)
  obtain ⟨v5, e5, a5, b5⟩ := i_any (xs 5)
  rcases (show (v1 < 0) ∨ (0 < v1) ∨ (v1 = 0 ∧ v2 < 0) ∨ (v1 = 0 ∧ 0 ≤ v2) by omega) with c | c | c | c
  · exact cs_24_n I a1 b1 a2 b2 a3 b3 a4 b4 a5 b5 e1 e2 e3 e4 e5 (by omega)
  · exact cs_24_p I a1 b1 a2 b2 a3 b3 a4 b4 a5 b5 e1 e2 e3 e4 e5 (by omega)
  · obtain ⟨rfl, c⟩ := c
    exact cs_24_zn I a2 b2 a3 b3 a4 b4 a5 b5 e1 e2 e3 e4 e5 (by omega)
  · obtain ⟨rfl, c⟩ := c
    exact cs_24_zg I a2 b2 a3 b3 a4 b4 a5 b5 e1 e2 e3 e4 e5 (by omega)
theorem case_25 {xs : Nat → Int32} {d : Nat} {h : m_H} (I : I_0 h) : m_W (p_P 6 xs) (d + 12) 310 k_310_1574 [some (.ref m_X), some (.ref 0), some (.ref 135), some (.ref 155), some (.ref 156), some (.int (Int32.ofInt 0)), none, none, none] [] h q_Q := by
  obtain ⟨v1, e1, a1, b1⟩ := i_any (xs 1)
  obtain ⟨v2, e2, a2, b2⟩ := i_any (xs 2)
  obtain ⟨v3, e3, a3, b3⟩ := i_any (xs 3)
  obtain ⟨v4, e4, a4, b4⟩ := i_any (xs 4)
  obtain ⟨v5, e5, a5, b5⟩ := i_any (xs 5)
  rcases (show (v1 < 0) ∨ (v1 = 0) ∨ (0 < v1) by omega) with c | c | c
  · exact cs_25_n I a1 b1 a2 b2 a3 b3 a4 b4 a5 b5 e1 e2 e3 e4 e5 (by omega)
  · subst c
    exact cs_25_z I a2 b2 a3 b3 a4 b4 a5 b5 e1 e2 e3 e4 e5
  · exact cs_25_p I a1 b1 a2 b2 a3 b3 a4 b4 a5 b5 e1 e2 e3 e4 e5 (by omega)
theorem case_26 {xs : Nat → Int32} {d : Nat} {h : m_H} (I : I_0 h) : m_W (p_P 6 xs) (d + 12) 310 k_310_1630 [some (.ref m_X), some (.ref 0), some (.ref 135), some (.ref 155), some (.ref 156), some (.int (Int32.ofInt 0)), none, none, none] [] h q_Q := by
  obtain ⟨v1, e1, a1, b1⟩ := i_any (xs 1)
  obtain ⟨v2, e2, a2, b2⟩ := i_any (xs 2)
  obtain ⟨v3, e3, a3, b3⟩ := i_any (xs 3)
  obtain ⟨v4, e4, a4, b4⟩ := i_any (xs 4)
  obtain ⟨v5, e5, a5, b5⟩ := i_any (xs 5)
  rcases (show (v1 < 0) ∨ (v1 = 0) ∨ (0 < v1) by omega) with c | c | c
  · exact cs_26_n I a1 b1 a2 b2 a3 b3 a4 b4 a5 b5 e1 e2 e3 e4 e5 (by omega)
  · subst c
    exact cs_26_z I a2 b2 a3 b3 a4 b4 a5 b5 e1 e2 e3 e4 e5
  · exact cs_26_p I a1 b1 a2 b2 a3 b3 a4 b4 a5 b5 e1 e2 e3 e4 e5 (by omega)
theorem case_27 {xs : Nat → Int32} {d : Nat} {h : m_H} (I : I_0 h) : m_W (p_P 6 xs) (d + 12) 310 k_310_1686 [some (.ref m_X), some (.ref 0), some (.ref 135), some (.ref 155), some (.ref 156), some (.int (Int32.ofInt 0)), none, none, none] [] h q_Q := by
  obtain ⟨v1, e1, a1, b1⟩ := i_any (xs 1)
  obtain ⟨v2, e2, a2, b2⟩ := i_any (xs 2)
  obtain ⟨v3, e3, a3, b3⟩ := i_any (xs 3)
  obtain ⟨v4, e4, a4, b4⟩ := i_any (xs 4)
  obtain ⟨v5, e5, a5, b5⟩ := i_any (xs 5)
  rcases (show (v1 < 0) ∨ (v1 = 0) ∨ (0 < v1) by omega) with c | c | c
  · exact cs_27_n I a1 b1 a2 b2 a3 b3 a4 b4 a5 b5 e1 e2 e3 e4 e5 (by omega)
  · subst c
    exact cs_27_z I a2 b2 a3 b3 a4 b4 a5 b5 e1 e2 e3 e4 e5
  · exact cs_27_p I a1 b1 a2 b2 a3 b3 a4 b4 a5 b5 e1 e2 e3 e4 e5 (by omega)
theorem case_28 {xs : Nat → Int32} {d : Nat} {h : m_H} (I : I_0 h) : m_W (p_P 6 xs) (d + 12) 310 k_310_1742 [some (.ref m_X), some (.ref 0), some (.ref 135), some (.ref 155), some (.ref 156), some (.int (Int32.ofInt 0)), none, none, none] [] h q_Q := by
  obtain ⟨v1, e1, a1, b1⟩ := i_any (xs 1)
  obtain ⟨v2, e2, a2, b2⟩ := i_any (xs 2)
  obtain ⟨v3, e3, a3, b3⟩ := i_any (xs 3)
  obtain ⟨v4, e4, a4, b4⟩ := i_any (xs 4)
  obtain ⟨v5, e5, a5, b5⟩ := i_any (xs 5)
  rcases (show (v1 < 0) ∨ (0 ≤ v1) by omega) with c | c
  · exact cs_28_n I a1 b1 a2 b2 a3 b3 a4 b4 a5 b5 e1 e2 e3 e4 e5 (by omega)
  · exact cs_28_g I a1 b1 a2 b2 a3 b3 a4 b4 a5 b5 e1 e2 e3 e4 e5 (by omega)
theorem case_29 {xs : Nat → Int32} {d : Nat} {h : m_H} (I : I_0 h) : m_W (p_P 6 xs) (d + 12) 310 k_310_1810 [some (.ref m_X), some (.ref 0), some (.ref 135), some (.ref 155), some (.ref 156), some (.int (Int32.ofInt 0)), none, none, none] [] h q_Q := by
  obtain ⟨v1, e1, a1, b1⟩ := i_any (xs 1)
  obtain ⟨v2, e2, a2, b2⟩ := i_any (xs 2)
  obtain ⟨v3, e3, a3, b3⟩ := i_any (xs 3)
  obtain ⟨v4, e4, a4, b4⟩ := i_any (xs 4)
  obtain ⟨v5, e5, a5, b5⟩ := i_any (xs 5)
  exact cs_29_a I a1 b1 a2 b2 a3 b3 a4 b4 a5 b5 e1 e2 e3 e4 e5
theorem case_30 {xs : Nat → Int32} {d : Nat} {h : m_H} (I : I_0 h) : m_W (p_P 6 xs) (d + 12) 310 k_310_1823 [some (.ref m_X), some (.ref 0), some (.ref 135), some (.ref 155), some (.ref 156), some (.int (Int32.ofInt 0)), none, none, none] [] h q_Q := by
  obtain ⟨v1, e1, a1, b1⟩ := i_any (xs 1)
  obtain ⟨v2, e2, a2, b2⟩ := i_any (xs 2)
  obtain ⟨v3, e3, a3, b3⟩ := i_any (xs 3)
  obtain ⟨v4, e4, a4, b4⟩ := i_any (xs 4)
  obtain ⟨v5, e5, a5, b5⟩ := i_any (xs 5)
  rcases (show (v1 < 0) ∨ (0 ≤ v1) by omega) with c | c
  · exact cs_30_n I a1 b1 a2 b2 a3 b3 a4 b4 a5 b5 e1 e2 e3 e4 e5 (by omega)
  · exact cs_30_g I a1 b1 a2 b2 a3 b3 a4 b4 a5 b5 e1 e2 e3 e4 e5 (by omega)
theorem case_31 {xs : Nat → Int32} {d : Nat} {h : m_H} (I : I_0 h) : m_W (p_P 6 xs) (d + 12) 310 k_310_1891 [some (.ref m_X), some (.ref 0), some (.ref 135), some (.ref 155), some (.ref 156), some (.int (Int32.ofInt 0)), none, none, none] [] h q_Q := by
  obtain ⟨v1, e1, a1, b1⟩ := i_any (xs 1)
  obtain ⟨v2, e2, a2, b2⟩ := i_any (xs 2)
  obtain ⟨v3, e3, a3, b3⟩ := i_any (xs 3)
  obtain ⟨v4, e4, a4, b4⟩ := i_any (xs 4)
  obtain ⟨v5, e5, a5, b5⟩ := i_any (xs 5)
  rcases (show (v1 < 0) ∨ (8 < v1) ∨ (0 ≤ v1 ∧ v1 ≤ 8) by omega) with c | c | c
  · exact cs_31_n I a1 b1 a2 b2 a3 b3 a4 b4 a5 b5 e1 e2 e3 e4 e5 (by omega)
  · exact cs_31_p I a1 b1 a2 b2 a3 b3 a4 b4 a5 b5 e1 e2 e3 e4 e5 (by omega)
  · exact cs_31_z I a1 b1 a2 b2 a3 b3 a4 b4 a5 b5 e1 e2 e3 e4 e5 (by omega) (by omega)
theorem case_32 {xs : Nat → Int32} {d : Nat} {h : m_H} (I : I_0 h) : m_W (p_P 6 xs) (d + 12) 310 k_310_1916 [some (.ref m_X), some (.ref 0), some (.ref 135), some (.ref 155), some (.ref 156), some (.int (Int32.ofInt 0)), none, none, none] [] h q_Q := by
  obtain ⟨v1, e1, a1, b1⟩ := i_any (xs 1)
  obtain ⟨v2, e2, a2, b2⟩ := i_any (xs 2)
  obtain ⟨v3, e3, a3, b3⟩ := i_any (xs 3)
  obtain ⟨v4, e4, a4, b4⟩ := i_any (xs 4)
  obtain ⟨v5, e5, a5, b5⟩ := i_any (xs 5)
  rcases (show (v1 < 0) ∨ (v1 = 0) ∨ (0 < v1) by omega) with c | c | c
  · exact cs_32_n I a1 b1 a2 b2 a3 b3 a4 b4 a5 b5 e1 e2 e3 e4 e5 (by omega)
  · subst c
    exact cs_32_z I a2 b2 a3 b3 a4 b4 a5 b5 e1 e2 e3 e4 e5
  · exact cs_32_p I a1 b1 a2 b2 a3 b3 a4 b4 a5 b5 e1 e2 e3 e4 e5 (by omega)
theorem case_33 {xs : Nat → Int32} {d : Nat} {h : m_H} (I : I_0 h) : m_W (p_P 6 xs) (d + 12) 310 k_310_1993 [some (.ref m_X), some (.ref 0), some (.ref 135), some (.ref 155), some (.ref 156), some (.int (Int32.ofInt 0)), none, none, none] [] h q_Q := by
  obtain ⟨v1, e1, a1, b1⟩ := i_any (xs 1)
  obtain ⟨v2, e2, a2, b2⟩ := i_any (xs 2)
  obtain ⟨v3, e3, a3, b3⟩ := i_any (xs 3)
  obtain ⟨v4, e4, a4, b4⟩ := i_any (xs 4)
  obtain ⟨v5, e5, a5, b5⟩ := i_any (xs 5)
  rcases (show (v1 < 0) ∨ (v1 = 0) ∨ (0 < v1) by omega) with c | c | c
  · exact cs_33_n I a1 b1 a2 b2 a3 b3 a4 b4 a5 b5 e1 e2 e3 e4 e5 (by omega)
  · subst c
    exact cs_33_z I a2 b2 a3 b3 a4 b4 a5 b5 e1 e2 e3 e4 e5
  · exact cs_33_p I a1 b1 a2 b2 a3 b3 a4 b4 a5 b5 e1 e2 e3 e4 e5 (by omega)
theorem case_34 {xs : Nat → Int32} {d : Nat} {h : m_H} (I : I_0 h) : m_W (p_P 6 xs) (d + 12) 310 k_310_2071 [some (.ref m_X), some (.ref 0), some (.ref 135), some (.ref 155), some (.ref 156), some (.int (Int32.ofInt 0)), none, none, none] [] h q_Q := by
  obtain ⟨v1, e1, a1, b1⟩ := i_any (xs 1)
  obtain ⟨v2, e2, a2, b2⟩ := i_any (xs 2)
  obtain ⟨v3, e3, a3, b3⟩ := i_any (xs 3)
  obtain ⟨v4, e4, a4, b4⟩ := i_any (xs 4)
  obtain ⟨v5, e5, a5, b5⟩ := i_any (xs 5)
  rcases (show (v1 < 0) ∨ (0 ≤ v1) by omega) with c | c
  · exact cs_34_n I a1 b1 a2 b2 a3 b3 a4 b4 a5 b5 e1 e2 e3 e4 e5 (by omega)
  · exact cs_34_g I a1 b1 a2 b2 a3 b3 a4 b4 a5 b5 e1 e2 e3 e4 e5 (by omega)
theorem case_35 {xs : Nat → Int32} {d : Nat} {h : m_H} (I : I_0 h) : m_W (p_P 6 xs) (d + 12) 310 k_310_2127 [some (.ref m_X), some (.ref 0), some (.ref 135), some (.ref 155), some (.ref 156), some (.int (Int32.ofInt 0)), none, none, none] [] h q_Q := by
  obtain ⟨v1, e1, a1, b1⟩ := i_any (xs 1)
  obtain ⟨v2, e2, a2, b2⟩ := i_any (xs 2)
  obtain ⟨v3, e3, a3, b3⟩ := i_any (xs 3)
  obtain ⟨v4, e4, a4, b4⟩ := i_any (xs 4)
  obtain ⟨v5, e5, a5, b5⟩ := i_any (xs 5)
  rcases (show (v1 < 0) ∨ (200 < v1) ∨ (0 ≤ v1 ∧ v1 ≤ 200) by omega) with c | c | c
  · exact cs_35_n I a1 b1 a2 b2 a3 b3 a4 b4 a5 b5 e1 e2 e3 e4 e5 (by omega)
  · exact cs_35_p I a1 b1 a2 b2 a3 b3 a4 b4 a5 b5 e1 e2 e3 e4 e5 (by omega)
  · exact cs_35_z I a1 b1 a2 b2 a3 b3 a4 b4 a5 b5 e1 e2 e3 e4 e5 (by omega) (by omega)
theorem case_36 {xs : Nat → Int32} {d : Nat} {h : m_H} (I : I_0 h) : m_W (p_P 6 xs) (d + 12) 310 k_310_2183 [some (.ref m_X), some (.ref 0), some (.ref 135), some (.ref 155), some (.ref 156), some (.int (Int32.ofInt 0)), none, none, none] [] h q_Q := by
  obtain ⟨v1, e1, a1, b1⟩ := i_any (xs 1)
  obtain ⟨v2, e2, a2, b2⟩ := i_any (xs 2)
  obtain ⟨v3, e3, a3, b3⟩ := i_any (xs 3)
  obtain ⟨v4, e4, a4, b4⟩ := i_any (xs 4)
  obtain ⟨v5, e5, a5, b5⟩ := i_any (xs 5)
  rcases (show (v1 < 0) ∨ (0 ≤ v1) by omega) with c | c
  · exact cs_36_n I a1 b1 a2 b2 a3 b3 a4 b4 a5 b5 e1 e2 e3 e4 e5 (by omega)
  · exact cs_36_g I a1 b1 a2 b2 a3 b3 a4 b4 a5 b5 e1 e2 e3 e4 e5 (by omega)
theorem case_37 {xs : Nat → Int32} {d : Nat} {h : m_H} (I : I_0 h) : m_W (p_P 6 xs) (d + 12) 310 k_310_2239 [some (.ref m_X), some (.ref 0), some (.ref 135), some (.ref 155), some (.ref 156), some (.int (Int32.ofInt 0)), none, none, none] [] h q_Q := by
  obtain ⟨v1, e1, a1, b1⟩ := i_any (xs 1)
  obtain ⟨v2, e2, a2, b2⟩ := i_any (xs 2)
  obtain ⟨v3, e3, a3, b3⟩ := i_any (xs 3)
  obtain ⟨v4, e4, a4, b4⟩ := i_any (xs 4)
  obtain ⟨v5, e5, a5, b5⟩ := i_any (xs 5)
  exact cs_37_a I a1 b1 a2 b2 a3 b3 a4 b4 a5 b5 e1 e2 e3 e4 e5
theorem case_38 {xs : Nat → Int32} {d : Nat} {h : m_H} (I : I_0 h) : m_W (p_P 6 xs) (d + 12) 310 k_310_2252 [some (.ref m_X), some (.ref 0), some (.ref 135), some (.ref 155), some (.ref 156), some (.int (Int32.ofInt 0)), none, none, none] [] h q_Q := by
  obtain ⟨v1, e1, a1, b1⟩ := i_any (xs 1)
  obtain ⟨v2, e2, a2, b2⟩ := i_any (xs 2)
  obtain ⟨v3, e3, a3, b3⟩ := i_any (xs 3)
  obtain ⟨v4, e4, a4, b4⟩ := i_any (xs 4)
  obtain ⟨v5, e5, a5, b5⟩ := i_any (xs 5)
  exact cs_38_a I a1 b1 a2 b2 a3 b3 a4 b4 a5 b5 e1 e2 e3 e4 e5
theorem case_39 {xs : Nat → Int32} {d : Nat} {h : m_H} (I : I_0 h) : m_W (p_P 6 xs) (d + 12) 310 k_310_2265 [some (.ref m_X), some (.ref 0), some (.ref 135), some (.ref 155), some (.ref 156), some (.int (Int32.ofInt 0)), none, none, none] [] h q_Q := by
  obtain ⟨v1, e1, a1, b1⟩ := i_any (xs 1)
  obtain ⟨v2, e2, a2, b2⟩ := i_any (xs 2)
  obtain ⟨v3, e3, a3, b3⟩ := i_any (xs 3)
  obtain ⟨v4, e4, a4, b4⟩ := i_any (xs 4)
  obtain ⟨v5, e5, a5, b5⟩ := i_any (xs 5)
  exact cs_39_a I a1 b1 a2 b2 a3 b3 a4 b4 a5 b5 e1 e2 e3 e4 e5
theorem case_40 {xs : Nat → Int32} {d : Nat} {h : m_H} (I : I_0 h) : m_W (p_P 6 xs) (d + 12) 310 k_310_2276 [some (.ref m_X), some (.ref 0), some (.ref 135), some (.ref 155), some (.ref 156), some (.int (Int32.ofInt 0)), none, none, none] [] h q_Q := by
  obtain ⟨v1, e1, a1, b1⟩ := i_any (xs 1)
  obtain ⟨v2, e2, a2, b2⟩ := i_any (xs 2)
  obtain ⟨v3, e3, a3, b3⟩ := i_any (xs 3)
  obtain ⟨v4, e4, a4, b4⟩ := i_any (xs 4)
  obtain ⟨v5, e5, a5, b5⟩ := i_any (xs 5)
  exact cs_40_a I a1 b1 a2 b2 a3 b3 a4 b4 a5 b5 e1 e2 e3 e4 e5
theorem case_41 {xs : Nat → Int32} {d : Nat} {h : m_H} (I : I_0 h) : m_W (p_P 6 xs) (d + 12) 310 k_310_2289 [some (.ref m_X), some (.ref 0), some (.ref 135), some (.ref 155), some (.ref 156), some (.int (Int32.ofInt 0)), none, none, none] [] h q_Q := by
  obtain ⟨v1, e1, a1, b1⟩ := i_any (xs 1)
  obtain ⟨v2, e2, a2, b2⟩ := i_any (xs 2)
  obtain ⟨v3, e3, a3, b3⟩ := i_any (xs 3)
  obtain ⟨v4, e4, a4, b4⟩ := i_any (xs 4)
  obtain ⟨v5, e5, a5, b5⟩ := i_any (xs 5)
  rcases (show (v1 < 0) ∨ (v1 = 0) ∨ (0 < v1) by omega) with c | c | c
  · exact cs_41_n I a1 b1 a2 b2 a3 b3 a4 b4 a5 b5 e1 e2 e3 e4 e5 (by omega)
  · subst c
    exact cs_41_z I a2 b2 a3 b3 a4 b4 a5 b5 e1 e2 e3 e4 e5
  · exact cs_41_p I a1 b1 a2 b2 a3 b3 a4 b4 a5 b5 e1 e2 e3 e4 e5 (by omega)
