/-! the loop of the law -/
def q_Qp (o : Option Value ⊕ Nat) (h : m_H) : Prop := o = .inl (some (.int (Int32.ofInt 1))) ∧ m_c h ≤ 601024 ∧ m_s h ≤ 7293034
set_option maxRecDepth 20000 in
set_option maxHeartbeats 4000000 in
theorem lp_law {L : Nat} {xs : Nat → Int32} {d s0 : Nat} (hL : L ≤ 3072) (hs0 : s0 ≤ 2000000) : ∀ (n k : Nat) (i : Int) (ow : Nat → Nat) (h : m_H) (F : m_M) (w : Int64) (u p : Nat) (A : q_A) (B : Int) (l6 l7 l8 : Option Value), m_o l6 = true → q_LS ow h F u p A B → B ≤ 200000 + 1900000 * k → i = 6 * (k : Int) → 6 * k ≤ L + 6 → m_n h ≤ 157 + 151 * k → m_c h ≤ 157 + 151 * k → m_s h ≤ s0 + 9306 * k → (L : Int) - 6 < i + 6 * n → m_W (p_P L xs) (d + 60) 309 k_309_28 [some (.ref m_X), some (.ref 0), some (.ref 135), some (.ref 155), some (.ref 156), some (.int (Int32.ofInt i)), l6, l7, l8] [] (m_hS h (w, F)) q_Qp := by
  have hX : m_X = 1000000000 := rfl
  have fin : ∀ (k : Nat) (i : Int) (h : m_H) (F : m_M) (w : Int64) (l6 l7 l8 : Option Value), 0 ≤ i → i ≤ 4000 → (L : Int) - 6 < i → 6 * k ≤ L + 6 → m_c h ≤ 157 + 151 * k → m_s h ≤ s0 + 9306 * k → m_W (p_P L xs) (d + 60) 309 k_309_28 [some (.ref m_X), some (.ref 0), some (.ref 135), some (.ref 155), some (.ref 156), some (.int (Int32.ofInt i)), l6, l7, l8] [] (m_hS h (w, F)) q_Qp := by
    intro k i h F w l6 l7 l8 i0 i9 hi hk hc hs
    rw [k_309_28]
    simp (disch := first | omega | (simp (disch := omega) only [i_lt0, i_tn, i_nn, m_cat_n, m_cat_i, m_cat_r, m_cat_z, m_cat_rv, m_cat_l, m_o_n, m_o_i, m_o_r, m_o_z, m_o_rv, m_o_f, hs_n, hs_k, hs_l, Nat.reduceLeDiff, not_false_eq_true, or_true, true_or, or_false, false_or, xl_P]; first | done | omega) | exact Or.inl rfl | exact Or.inr rfl) only [w_iload_5, w_aload_0, w_slen, w_iconst, w_isub, w_icmp_gt, xl_P, i_nat, i_sub, i_lt, Int.reduceToNat, hi, if_true, ↓reduceIte, tg_309_1470, k_309_1470, w_zret]
    refine ⟨rfl, ?_, ?_⟩
    · rw [hs_c]; omega
    · rw [hs_s]; omega
  intro n
  induction n with
  | zero =>
    intro k i ow h F w u p A B l6 l7 l8 h6 S hB hi hk hn hc hs hl
    exact fin k i h F w l6 l7 l8 (by omega) (by omega) (by omega) hk hc hs
  | succ n ih =>
    intro k i ow h F w u p A B l6 l7 l8 h6 S hB hi hk hn hc hs hl
    by_cases e : (L : Int) - 6 < i
    · exact fin k i h F w l6 l7 l8 (by omega) (by omega) e hk hc hs
    · have kN : ∀ (ow' : Nat → Nat) (h' : m_H) (F' : m_M) (w' : Int64) (u' p' : Nat) (A' : q_A) (m6 m7 m8 : Option Value), m_o m6 = true → q_LS ow' h' F' u' p' A' (nB B) → m_n h' ≤ m_n h + 151 → m_c h' ≤ m_c h + 151 → m_s h' ≤ m_s h + 9306 → m_W (p_P L xs) (d + 60) 309 k_309_1464 [some (.ref m_X), some (.ref 0), some (.ref 135), some (.ref 155), some (.ref 156), some (.int (Int32.ofInt i)), m6, m7, m8] [] (m_hS h' (w', F')) q_Qp := by
        intro ow' h' F' w' u' p' A' m6 m7 m8 g6 S' b1 b2 b3
        rw [k_309_1464]
        simp (disch := first | omega | (simp (disch := omega) only [i_lt0, i_tn, i_nn, m_cat_n, m_cat_i, m_cat_r, m_cat_z, m_cat_rv, m_cat_l, m_o_n, m_o_i, m_o_r, m_o_z, m_o_rv, m_o_f, hs_n, hs_k, hs_l, Nat.reduceLeDiff, not_false_eq_true, or_true, true_or, or_false, false_or, xl_P]; first | done | omega) | exact Or.inl rfl | exact Or.inr rfl) only [w_iinc_5, m_o_i, m_o_r, i_add, w_goto, tg_309_28, Int.reduceToNat]
        exact ih (k + 1) (i + 6) ow' h' F' w' u' p' A' (nB B) m6 m7 m8 g6 S' (by show B + 1900000 ≤ _; omega) (by omega) (by omega) (by omega) (by omega) (by omega) (by omega)
      rw [k_309_28]
      simp (disch := first | omega | (simp (disch := omega) only [i_lt0, i_tn, i_nn, m_cat_n, m_cat_i, m_cat_r, m_cat_z, m_cat_rv, m_cat_l, m_o_n, m_o_i, m_o_r, m_o_z, m_o_rv, m_o_f, hs_n, hs_k, hs_l, Nat.reduceLeDiff, not_false_eq_true, or_true, true_or, or_false, false_or, xl_P]; first | done | omega) | exact Or.inl rfl | exact Or.inr rfl) only [w_iload_5, w_aload_0, w_slen, w_iconst, w_isub, w_icmp_gt, xl_P, i_nat, i_sub, i_lt, Int.reduceToNat, e, if_false, ↓reduceIte, w_script, i_tn, xs_P, w_iand]
      show m_W _ _ _ (.tableswitch 1464 0 41 #[228, 301, 329, 342, 355, 368, 381, 394, 422, 450, 526, 554, 606, 634, 662, 690, 742, 770, 798, 826, 854, 894, 934, 974, 1002, 1042, 1070, 1098, 1126, 1166, 1179, 1219, 1244, 1273, 1302, 1330, 1358, 1386, 1399, 1412, 1423, 1436] :: _) _ [.int (xs i.toNat &&& Int32.ofInt 63)] _ _
      by_cases hb : (xs i.toNat &&& Int32.ofInt 63).toInt < 0 ∨ 41 < (xs i.toNat &&& Int32.ofInt 63).toInt
      · rw [w_switchD hb, show Int.toNat 1464 = 1464 from rfl, tg_309_1464]
        exact kN ow h F w u p A l6 l7 l8 h6 ⟨ok_n S.1, S.2.1, S.2.2.1, S.2.2.2.1, S.2.2.2.2⟩ (by omega) (by omega) (by omega)
      generalize hy : (xs i.toNat &&& Int32.ofInt 63).toInt = y at hb
      rcases (show y = 0 ∨ y = 1 ∨ y = 2 ∨ y = 3 ∨ y = 4 ∨ y = 5 ∨ y = 6 ∨ y = 7 ∨ y = 8 ∨ y = 9 ∨ y = 10 ∨ y = 11 ∨ y = 12 ∨ y = 13 ∨ y = 14 ∨ y = 15 ∨ y = 16 ∨ y = 17 ∨ y = 18 ∨ y = 19 ∨ y = 20 ∨ y = 21 ∨ y = 22 ∨ y = 23 ∨ y = 24 ∨ y = 25 ∨ y = 26 ∨ y = 27 ∨ y = 28 ∨ y = 29 ∨ y = 30 ∨ y = 31 ∨ y = 32 ∨ y = 33 ∨ y = 34 ∨ y = 35 ∨ y = 36 ∨ y = 37 ∨ y = 38 ∨ y = 39 ∨ y = 40 ∨ y = 41 by omega) with c | c | c | c | c | c | c | c | c | c | c | c | c | c | c | c | c | c | c | c | c | c | c | c | c | c | c | c | c | c | c | c | c | c | c | c | c | c | c | c | c | c
      · have e : (xs i.toNat &&& Int32.ofInt 63).toInt = 0 := hy.trans c
        rw [w_switch (t := 228) (by rw [e]; decide) (by rw [e]; rfl), show Int.toNat 228 = 228 from rfl, tg_309_228]
        exact cs_0 S (by omega) (by omega) (by omega) (by omega) hL h6 kN
      · have e : (xs i.toNat &&& Int32.ofInt 63).toInt = 1 := hy.trans c
        rw [w_switch (t := 301) (by rw [e]; decide) (by rw [e]; rfl), show Int.toNat 301 = 301 from rfl, tg_309_301]
        exact cs_1 S (by omega) (by omega) (by omega) (by omega) hL h6 kN
      · have e : (xs i.toNat &&& Int32.ofInt 63).toInt = 2 := hy.trans c
        rw [w_switch (t := 329) (by rw [e]; decide) (by rw [e]; rfl), show Int.toNat 329 = 329 from rfl, tg_309_329]
        exact cs_2 S (by omega) (by omega) (by omega) (by omega) hL h6 kN
      · have e : (xs i.toNat &&& Int32.ofInt 63).toInt = 3 := hy.trans c
        rw [w_switch (t := 342) (by rw [e]; decide) (by rw [e]; rfl), show Int.toNat 342 = 342 from rfl, tg_309_342]
        exact cs_3 S (by omega) (by omega) (by omega) (by omega) hL h6 kN
      · have e : (xs i.toNat &&& Int32.ofInt 63).toInt = 4 := hy.trans c
        rw [w_switch (t := 355) (by rw [e]; decide) (by rw [e]; rfl), show Int.toNat 355 = 355 from rfl, tg_309_355]
        exact cs_4 S (by omega) (by omega) (by omega) (by omega) hL h6 kN
      · have e : (xs i.toNat &&& Int32.ofInt 63).toInt = 5 := hy.trans c
        rw [w_switch (t := 368) (by rw [e]; decide) (by rw [e]; rfl), show Int.toNat 368 = 368 from rfl, tg_309_368]
        exact cs_5 S (by omega) (by omega) (by omega) (by omega) hL h6 kN
      · have e : (xs i.toNat &&& Int32.ofInt 63).toInt = 6 := hy.trans c
        rw [w_switch (t := 381) (by rw [e]; decide) (by rw [e]; rfl), show Int.toNat 381 = 381 from rfl, tg_309_381]
        exact cs_6 S (by omega) (by omega) (by omega) (by omega) hL h6 kN
      · have e : (xs i.toNat &&& Int32.ofInt 63).toInt = 7 := hy.trans c
        rw [w_switch (t := 394) (by rw [e]; decide) (by rw [e]; rfl), show Int.toNat 394 = 394 from rfl, tg_309_394]
        exact cs_7 S (by omega) (by omega) (by omega) (by omega) hL h6 kN
      · have e : (xs i.toNat &&& Int32.ofInt 63).toInt = 8 := hy.trans c
        rw [w_switch (t := 422) (by rw [e]; decide) (by rw [e]; rfl), show Int.toNat 422 = 422 from rfl, tg_309_422]
        exact cs_8 S (by omega) (by omega) (by omega) (by omega) hL h6 kN
      · have e : (xs i.toNat &&& Int32.ofInt 63).toInt = 9 := hy.trans c
        rw [w_switch (t := 450) (by rw [e]; decide) (by rw [e]; rfl), show Int.toNat 450 = 450 from rfl, tg_309_450]
        exact cs_9 S (by omega) (by omega) (by omega) (by omega) hL h6 kN
      · have e : (xs i.toNat &&& Int32.ofInt 63).toInt = 10 := hy.trans c
        rw [w_switch (t := 526) (by rw [e]; decide) (by rw [e]; rfl), show Int.toNat 526 = 526 from rfl, tg_309_526]
        exact cs_10 S (by omega) (by omega) (by omega) (by omega) hL h6 kN
      · have e : (xs i.toNat &&& Int32.ofInt 63).toInt = 11 := hy.trans c
        rw [w_switch (t := 554) (by rw [e]; decide) (by rw [e]; rfl), show Int.toNat 554 = 554 from rfl, tg_309_554]
        exact cs_11 S (by omega) (by omega) (by omega) (by omega) hL h6 kN
      · have e : (xs i.toNat &&& Int32.ofInt 63).toInt = 12 := hy.trans c
        rw [w_switch (t := 606) (by rw [e]; decide) (by rw [e]; rfl), show Int.toNat 606 = 606 from rfl, tg_309_606]
        exact cs_12 S (by omega) (by omega) (by omega) (by omega) hL h6 kN
      · have e : (xs i.toNat &&& Int32.ofInt 63).toInt = 13 := hy.trans c
        rw [w_switch (t := 634) (by rw [e]; decide) (by rw [e]; rfl), show Int.toNat 634 = 634 from rfl, tg_309_634]
        exact cs_13 S (by omega) (by omega) (by omega) (by omega) hL h6 kN
      · have e : (xs i.toNat &&& Int32.ofInt 63).toInt = 14 := hy.trans c
        rw [w_switch (t := 662) (by rw [e]; decide) (by rw [e]; rfl), show Int.toNat 662 = 662 from rfl, tg_309_662]
        exact cs_14 S (by omega) (by omega) (by omega) (by omega) hL h6 kN
      · have e : (xs i.toNat &&& Int32.ofInt 63).toInt = 15 := hy.trans c
        rw [w_switch (t := 690) (by rw [e]; decide) (by rw [e]; rfl), show Int.toNat 690 = 690 from rfl, tg_309_690]
        exact cs_15 S (by omega) (by omega) (by omega) (by omega) hL h6 kN
      · have e : (xs i.toNat &&& Int32.ofInt 63).toInt = 16 := hy.trans c
        rw [w_switch (t := 742) (by rw [e]; decide) (by rw [e]; rfl), show Int.toNat 742 = 742 from rfl, tg_309_742]
        exact cs_16 S (by omega) (by omega) (by omega) (by omega) hL h6 kN
      · have e : (xs i.toNat &&& Int32.ofInt 63).toInt = 17 := hy.trans c
        rw [w_switch (t := 770) (by rw [e]; decide) (by rw [e]; rfl), show Int.toNat 770 = 770 from rfl, tg_309_770]
        exact cs_17 S (by omega) (by omega) (by omega) (by omega) hL h6 kN
      · have e : (xs i.toNat &&& Int32.ofInt 63).toInt = 18 := hy.trans c
        rw [w_switch (t := 798) (by rw [e]; decide) (by rw [e]; rfl), show Int.toNat 798 = 798 from rfl, tg_309_798]
        exact cs_18 S (by omega) (by omega) (by omega) (by omega) hL h6 kN
      · have e : (xs i.toNat &&& Int32.ofInt 63).toInt = 19 := hy.trans c
        rw [w_switch (t := 826) (by rw [e]; decide) (by rw [e]; rfl), show Int.toNat 826 = 826 from rfl, tg_309_826]
        exact cs_19 S (by omega) (by omega) (by omega) (by omega) hL h6 kN
      · have e : (xs i.toNat &&& Int32.ofInt 63).toInt = 20 := hy.trans c
        rw [w_switch (t := 854) (by rw [e]; decide) (by rw [e]; rfl), show Int.toNat 854 = 854 from rfl, tg_309_854]
        exact cs_20 S (by omega) (by omega) (by omega) (by omega) hL h6 kN
      · have e : (xs i.toNat &&& Int32.ofInt 63).toInt = 21 := hy.trans c
        rw [w_switch (t := 894) (by rw [e]; decide) (by rw [e]; rfl), show Int.toNat 894 = 894 from rfl, tg_309_894]
        exact cs_21 S (by omega) (by omega) (by omega) (by omega) hL h6 kN
      · have e : (xs i.toNat &&& Int32.ofInt 63).toInt = 22 := hy.trans c
        rw [w_switch (t := 934) (by rw [e]; decide) (by rw [e]; rfl), show Int.toNat 934 = 934 from rfl, tg_309_934]
        exact cs_22 S (by omega) (by omega) (by omega) (by omega) hL h6 kN
      · have e : (xs i.toNat &&& Int32.ofInt 63).toInt = 23 := hy.trans c
        rw [w_switch (t := 974) (by rw [e]; decide) (by rw [e]; rfl), show Int.toNat 974 = 974 from rfl, tg_309_974]
        exact cs_23 S (by omega) (by omega) (by omega) (by omega) hL h6 kN
      · have e : (xs i.toNat &&& Int32.ofInt 63).toInt = 24 := hy.trans c
        rw [w_switch (t := 1002) (by rw [e]; decide) (by rw [e]; rfl), show Int.toNat 1002 = 1002 from rfl, tg_309_1002]
        exact cs_24 S (by omega) (by omega) (by omega) (by omega) hL h6 kN
      · have e : (xs i.toNat &&& Int32.ofInt 63).toInt = 25 := hy.trans c
        rw [w_switch (t := 1042) (by rw [e]; decide) (by rw [e]; rfl), show Int.toNat 1042 = 1042 from rfl, tg_309_1042]
        exact cs_25 S (by omega) (by omega) (by omega) (by omega) hL h6 kN
      · have e : (xs i.toNat &&& Int32.ofInt 63).toInt = 26 := hy.trans c
        rw [w_switch (t := 1070) (by rw [e]; decide) (by rw [e]; rfl), show Int.toNat 1070 = 1070 from rfl, tg_309_1070]
        exact cs_26 S (by omega) (by omega) (by omega) (by omega) hL h6 kN
      · have e : (xs i.toNat &&& Int32.ofInt 63).toInt = 27 := hy.trans c
        rw [w_switch (t := 1098) (by rw [e]; decide) (by rw [e]; rfl), show Int.toNat 1098 = 1098 from rfl, tg_309_1098]
        exact cs_27 S (by omega) (by omega) (by omega) (by omega) hL h6 kN
      · have e : (xs i.toNat &&& Int32.ofInt 63).toInt = 28 := hy.trans c
        rw [w_switch (t := 1126) (by rw [e]; decide) (by rw [e]; rfl), show Int.toNat 1126 = 1126 from rfl, tg_309_1126]
        exact cs_28 S (by omega) (by omega) (by omega) (by omega) hL h6 kN
      · have e : (xs i.toNat &&& Int32.ofInt 63).toInt = 29 := hy.trans c
        rw [w_switch (t := 1166) (by rw [e]; decide) (by rw [e]; rfl), show Int.toNat 1166 = 1166 from rfl, tg_309_1166]
        exact cs_29 S (by omega) (by omega) (by omega) (by omega) hL h6 kN
      · have e : (xs i.toNat &&& Int32.ofInt 63).toInt = 30 := hy.trans c
        rw [w_switch (t := 1179) (by rw [e]; decide) (by rw [e]; rfl), show Int.toNat 1179 = 1179 from rfl, tg_309_1179]
        exact cs_30 S (by omega) (by omega) (by omega) (by omega) hL h6 kN
      · have e : (xs i.toNat &&& Int32.ofInt 63).toInt = 31 := hy.trans c
        rw [w_switch (t := 1219) (by rw [e]; decide) (by rw [e]; rfl), show Int.toNat 1219 = 1219 from rfl, tg_309_1219]
        exact cs_31 S (by omega) (by omega) (by omega) (by omega) hL h6 kN
      · have e : (xs i.toNat &&& Int32.ofInt 63).toInt = 32 := hy.trans c
        rw [w_switch (t := 1244) (by rw [e]; decide) (by rw [e]; rfl), show Int.toNat 1244 = 1244 from rfl, tg_309_1244]
        exact cs_32 S (by omega) (by omega) (by omega) (by omega) hL h6 kN
      · have e : (xs i.toNat &&& Int32.ofInt 63).toInt = 33 := hy.trans c
        rw [w_switch (t := 1273) (by rw [e]; decide) (by rw [e]; rfl), show Int.toNat 1273 = 1273 from rfl, tg_309_1273]
        exact cs_33 S (by omega) (by omega) (by omega) (by omega) hL h6 kN
      · have e : (xs i.toNat &&& Int32.ofInt 63).toInt = 34 := hy.trans c
        rw [w_switch (t := 1302) (by rw [e]; decide) (by rw [e]; rfl), show Int.toNat 1302 = 1302 from rfl, tg_309_1302]
        exact cs_34 S (by omega) (by omega) (by omega) (by omega) hL h6 kN
      · have e : (xs i.toNat &&& Int32.ofInt 63).toInt = 35 := hy.trans c
        rw [w_switch (t := 1330) (by rw [e]; decide) (by rw [e]; rfl), show Int.toNat 1330 = 1330 from rfl, tg_309_1330]
        exact cs_35 S (by omega) (by omega) (by omega) (by omega) hL h6 kN
      · have e : (xs i.toNat &&& Int32.ofInt 63).toInt = 36 := hy.trans c
        rw [w_switch (t := 1358) (by rw [e]; decide) (by rw [e]; rfl), show Int.toNat 1358 = 1358 from rfl, tg_309_1358]
        exact cs_36 S (by omega) (by omega) (by omega) (by omega) hL h6 kN
      · have e : (xs i.toNat &&& Int32.ofInt 63).toInt = 37 := hy.trans c
        rw [w_switch (t := 1386) (by rw [e]; decide) (by rw [e]; rfl), show Int.toNat 1386 = 1386 from rfl, tg_309_1386]
        exact cs_37 S (by omega) (by omega) (by omega) (by omega) hL h6 kN
      · have e : (xs i.toNat &&& Int32.ofInt 63).toInt = 38 := hy.trans c
        rw [w_switch (t := 1399) (by rw [e]; decide) (by rw [e]; rfl), show Int.toNat 1399 = 1399 from rfl, tg_309_1399]
        exact cs_38 S (by omega) (by omega) (by omega) (by omega) hL h6 kN
      · have e : (xs i.toNat &&& Int32.ofInt 63).toInt = 39 := hy.trans c
        rw [w_switch (t := 1412) (by rw [e]; decide) (by rw [e]; rfl), show Int.toNat 1412 = 1412 from rfl, tg_309_1412]
        exact cs_39 S (by omega) (by omega) (by omega) (by omega) hL h6 kN
      · have e : (xs i.toNat &&& Int32.ofInt 63).toInt = 40 := hy.trans c
        rw [w_switch (t := 1423) (by rw [e]; decide) (by rw [e]; rfl), show Int.toNat 1423 = 1423 from rfl, tg_309_1423]
        exact cs_40 S (by omega) (by omega) (by omega) (by omega) hL h6 kN
      · have e : (xs i.toNat &&& Int32.ofInt 63).toInt = 41 := hy.trans c
        rw [w_switch (t := 1436) (by rw [e]; decide) (by rw [e]; rfl), show Int.toNat 1436 = 1436 from rfl, tg_309_1436]
        exact cs_41 S (by omega) (by omega) (by omega) (by omega) hL h6 kN
