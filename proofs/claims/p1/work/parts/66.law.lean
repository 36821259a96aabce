/-! every script of at most 6 ints: the law answers 1 -/
theorem end_1 {L : Nat} {xs : Nat → Int32} {d : Nat} {h : m_H} {i : Int} {a1 a2 a3 a4 a6 a7 a8 : Option Value} (hL : L ≤ 6) (h0 : 0 ≤ i) (h1 : i ≤ 6) (hi : (L : Int) - 6 < i) (hq : m_c h ≤ 600002 ∧ m_s h ≤ 7302232) : m_W (p_P L xs) d 310 k_310_28 [some (.ref m_X), a1, a2, a3, a4, some (.int (Int32.ofInt i)), a6, a7, a8] [] h q_Q := by
  rw [k_310_28]
  simp (disch := first | omega | (simp (disch := first | omega | (simp only [h_n_setI, h_n_setL, h_n_setD, h_n_setR, h_n_cpy, h_n_fill, h_n_mk, h_n_bump, h_n_Req, h_n_Drv, h_n_Rq, h_n_Dr, h_n_Jrn, h_n_Wp, h_n_Wd, h_n_h0]; first | done | omega)) only [i_lt0, i_tn, i_nn, m_cat_n, m_cat_i, m_cat_r, m_cat_z, m_cat_rv, m_cat_l, m_o_n, m_o_i, m_o_r, m_o_z, m_o_rv, m_o_f, h_n_setI, h_n_setL, h_n_setD, h_n_setR, h_n_cpy, h_n_fill, h_n_mk, h_n_bump, h_n_Req, h_n_Drv, h_n_Rq, h_n_Dr, h_n_Jrn, h_n_Wp, h_n_Wd, h_n_h0, h_k_setI, h_k_setL, h_k_setD, h_k_setR, h_k_cpy, h_k_fill, h_k_bump, h_l_setI, h_l_setL, h_l_setD, h_l_setR, h_l_cpy, h_l_fill, h_l_bump, hk_old, hk_new, hl_old, hl_new, h_k_Req, h_l_Req, xl_P]; first | done | omega) | exact Or.inl rfl | exact Or.inr rfl) only [w_iload_5, w_aload_0, w_slen, w_iconst, w_isub, w_icmp_gt, xl_P, i_nat, i_sub, i_lt, tg_310_2351, k_310_2351, w_zret, Int.reduceToNat, hi, ↓reduceIte]
  exact ⟨rfl, hq⟩
theorem dflt_1 {xs : Nat → Int32} {d : Nat} {h : m_H} (I : I_0 h) : m_W (p_P 6 xs) (d + 12) 310 k_310_2345 [some (.ref m_X), some (.ref 0), some (.ref 135), some (.ref 155), some (.ref 156), some (.int (Int32.ofInt 0)), none, none, none] [] h q_Q := by
  obtain ⟨⟨hn, hc, hs⟩, -⟩ := I
  simp (disch := first | omega | (simp (disch := first | omega | (simp only [h_n_setI, h_n_setL, h_n_setD, h_n_setR, h_n_cpy, h_n_fill, h_n_mk, h_n_bump, h_n_Req, h_n_Drv, h_n_Rq, h_n_Dr, h_n_Jrn, h_n_Wp, h_n_Wd, h_n_h0]; first | done | omega)) only [i_lt0, i_tn, i_nn, m_cat_n, m_cat_i, m_cat_r, m_cat_z, m_cat_rv, m_cat_l, m_o_n, m_o_i, m_o_r, m_o_z, m_o_rv, m_o_f, h_n_setI, h_n_setL, h_n_setD, h_n_setR, h_n_cpy, h_n_fill, h_n_mk, h_n_bump, h_n_Req, h_n_Drv, h_n_Rq, h_n_Dr, h_n_Jrn, h_n_Wp, h_n_Wd, h_n_h0, h_k_setI, h_k_setL, h_k_setD, h_k_setR, h_k_cpy, h_k_fill, h_k_bump, h_l_setI, h_l_setL, h_l_setD, h_l_setR, h_l_cpy, h_l_fill, h_l_bump, hk_old, hk_new, hl_old, hl_new, h_k_Req, h_l_Req]; first | done | omega) | exact Or.inl rfl | exact Or.inr rfl) only [k_310_2345, w_iinc_5, i_add, Int.reduceAdd, w_goto, tg_310_28, Int.reduceToNat]
  exact end_1 (by decide) (by decide) (by decide) (by decide) ⟨by omega, by omega⟩
theorem loop_1 {xs : Nat → Int32} {d : Nat} {h : m_H} (I : I_0 h) : m_W (p_P 6 xs) (d + 12) 310 k_310_28 [some (.ref m_X), some (.ref 0), some (.ref 135), some (.ref 155), some (.ref 156), some (.int (Int32.ofInt 0)), none, none, none] [] h q_Q := by
  have hX : m_X = 1000000000 := rfl
  rw [k_310_28]
  have e6 : ¬ ((6 : Nat) : Int) - 6 < 0 := by decide
  simp (disch := first | omega | (simp (disch := first | omega | (simp only [h_n_setI, h_n_setL, h_n_setD, h_n_setR, h_n_cpy, h_n_fill, h_n_mk, h_n_bump, h_n_Req, h_n_Drv, h_n_Rq, h_n_Dr, h_n_Jrn, h_n_Wp, h_n_Wd, h_n_h0]; first | done | omega)) only [i_lt0, i_tn, i_nn, m_cat_n, m_cat_i, m_cat_r, m_cat_z, m_cat_rv, m_cat_l, m_o_n, m_o_i, m_o_r, m_o_z, m_o_rv, m_o_f, h_n_setI, h_n_setL, h_n_setD, h_n_setR, h_n_cpy, h_n_fill, h_n_mk, h_n_bump, h_n_Req, h_n_Drv, h_n_Rq, h_n_Dr, h_n_Jrn, h_n_Wp, h_n_Wd, h_n_h0, h_k_setI, h_k_setL, h_k_setD, h_k_setR, h_k_cpy, h_k_fill, h_k_bump, h_l_setI, h_l_setL, h_l_setD, h_l_setR, h_l_cpy, h_l_fill, h_l_bump, hk_old, hk_new, hl_old, hl_new, h_k_Req, h_l_Req, xl_P]; first | done | omega) | exact Or.inl rfl | exact Or.inr rfl) only [w_iload_5, w_aload_0, w_slen, w_iconst, w_isub, w_icmp_gt, xl_P, i_nat, i_sub, i_lt, Int.reduceToNat, e6, ↓reduceIte, w_script, i_tn, xs_P, w_iand]
  show m_W _ _ _ (.tableswitch 2345 0 41 #[228, 301, 357, 370, 383, 396, 409, 422, 478, 534, 638, 694, 774, 830, 886, 942, 1022, 1078, 1134, 1190, 1246, 1314, 1382, 1450, 1506, 1574, 1630, 1686, 1742, 1810, 1823, 1891, 1916, 1993, 2071, 2127, 2183, 2239, 2252, 2265, 2276, 2289] :: _) _ [.int (xs 0 &&& Int32.ofInt 63)] _ _
  by_cases hb : (xs 0 &&& Int32.ofInt 63).toInt < 0 ∨ 41 < (xs 0 &&& Int32.ofInt 63).toInt
  · rw [w_switchD hb, show Int.toNat 2345 = 2345 from rfl, tg_310_2345]
    exact dflt_1 I
  · generalize hy : (xs 0 &&& Int32.ofInt 63).toInt = y at hb
    rcases (show y = 0 ∨ y = 1 ∨ y = 2 ∨ y = 3 ∨ y = 4 ∨ y = 5 ∨ y = 6 ∨ y = 7 ∨ y = 8 ∨ y = 9 ∨ y = 10 ∨ y = 11 ∨ y = 12 ∨ y = 13 ∨ y = 14 ∨ y = 15 ∨ y = 16 ∨ y = 17 ∨ y = 18 ∨ y = 19 ∨ y = 20 ∨ y = 21 ∨ y = 22 ∨ y = 23 ∨ y = 24 ∨ y = 25 ∨ y = 26 ∨ y = 27 ∨ y = 28 ∨ y = 29 ∨ y = 30 ∨ y = 31 ∨ y = 32 ∨ y = 33 ∨ y = 34 ∨ y = 35 ∨ y = 36 ∨ y = 37 ∨ y = 38 ∨ y = 39 ∨ y = 40 ∨ y = 41 by omega) with c | c | c | c | c | c | c | c | c | c | c | c | c | c | c | c | c | c | c | c | c | c | c | c | c | c | c | c | c | c | c | c | c | c | c | c | c | c | c | c | c | c
    · have e : (xs 0 &&& Int32.ofInt 63).toInt = 0 := hy.trans c
      rw [w_switch (t := 228) (by rw [e]; decide) (by rw [e]; rfl), show Int.toNat 228 = 228 from rfl, tg_310_228]
      exact case_0 I
    · have e : (xs 0 &&& Int32.ofInt 63).toInt = 1 := hy.trans c
      rw [w_switch (t := 301) (by rw [e]; decide) (by rw [e]; rfl), show Int.toNat 301 = 301 from rfl, tg_310_301]
      exact case_1 I
    · have e : (xs 0 &&& Int32.ofInt 63).toInt = 2 := hy.trans c
      rw [w_switch (t := 357) (by rw [e]; decide) (by rw [e]; rfl), show Int.toNat 357 = 357 from rfl, tg_310_357]
      exact case_2 I
    · have e : (xs 0 &&& Int32.ofInt 63).toInt = 3 := hy.trans c
      rw [w_switch (t := 370) (by rw [e]; decide) (by rw [e]; rfl), show Int.toNat 370 = 370 from rfl, tg_310_370]
      exact case_3 I
    · have e : (xs 0 &&& Int32.ofInt 63).toInt = 4 := hy.trans c
      rw [w_switch (t := 383) (by rw [e]; decide) (by rw [e]; rfl), show Int.toNat 383 = 383 from rfl, tg_310_383]
      exact case_4 I
    · have e : (xs 0 &&& Int32.ofInt 63).toInt = 5 := hy.trans c
      rw [w_switch (t := 396) (by rw [e]; decide) (by rw [e]; rfl), show Int.toNat 396 = 396 from rfl, tg_310_396]
      exact case_5 I
    · have e : (xs 0 &&& Int32.ofInt 63).toInt = 6 := hy.trans c
      rw [w_switch (t := 409) (by rw [e]; decide) (by rw [e]; rfl), show Int.toNat 409 = 409 from rfl, tg_310_409]
      exact case_6 I
    · have e : (xs 0 &&& Int32.ofInt 63).toInt = 7 := hy.trans c
      rw [w_switch (t := 422) (by rw [e]; decide) (by rw [e]; rfl), show Int.toNat 422 = 422 from rfl, tg_310_422]
      exact case_7 I
    · have e : (xs 0 &&& Int32.ofInt 63).toInt = 8 := hy.trans c
      rw [w_switch (t := 478) (by rw [e]; decide) (by rw [e]; rfl), show Int.toNat 478 = 478 from rfl, tg_310_478]
      exact case_8 I
    · have e : (xs 0 &&& Int32.ofInt 63).toInt = 9 := hy.trans c
      rw [w_switch (t := 534) (by rw [e]; decide) (by rw [e]; rfl), show Int.toNat 534 = 534 from rfl, tg_310_534]
      exact case_9 I
    · have e : (xs 0 &&& Int32.ofInt 63).toInt = 10 := hy.trans c
      rw [w_switch (t := 638) (by rw [e]; decide) (by rw [e]; rfl), show Int.toNat 638 = 638 from rfl, tg_310_638]
      exact case_10 I
    · have e : (xs 0 &&& Int32.ofInt 63).toInt = 11 := hy.trans c
      rw [w_switch (t := 694) (by rw [e]; decide) (by rw [e]; rfl), show Int.toNat 694 = 694 from rfl, tg_310_694]
      exact case_11 I
    · have e : (xs 0 &&& Int32.ofInt 63).toInt = 12 := hy.trans c
      rw [w_switch (t := 774) (by rw [e]; decide) (by rw [e]; rfl), show Int.toNat 774 = 774 from rfl, tg_310_774]
      exact case_12 I
    · have e : (xs 0 &&& Int32.ofInt 63).toInt = 13 := hy.trans c
      rw [w_switch (t := 830) (by rw [e]; decide) (by rw [e]; rfl), show Int.toNat 830 = 830 from rfl, tg_310_830]
      exact case_13 I
    · have e : (xs 0 &&& Int32.ofInt 63).toInt = 14 := hy.trans c
      rw [w_switch (t := 886) (by rw [e]; decide) (by rw [e]; rfl), show Int.toNat 886 = 886 from rfl, tg_310_886]
      exact case_14 I
    · have e : (xs 0 &&& Int32.ofInt 63).toInt = 15 := hy.trans c
      rw [w_switch (t := 942) (by rw [e]; decide) (by rw [e]; rfl), show Int.toNat 942 = 942 from rfl, tg_310_942]
      exact case_15 I
    · have e : (xs 0 &&& Int32.ofInt 63).toInt = 16 := hy.trans c
      rw [w_switch (t := 1022) (by rw [e]; decide) (by rw [e]; rfl), show Int.toNat 1022 = 1022 from rfl, tg_310_1022]
      exact case_16 I
    · have e : (xs 0 &&& Int32.ofInt 63).toInt = 17 := hy.trans c
      rw [w_switch (t := 1078) (by rw [e]; decide) (by rw [e]; rfl), show Int.toNat 1078 = 1078 from rfl, tg_310_1078]
      exact case_17 I
    · have e : (xs 0 &&& Int32.ofInt 63).toInt = 18 := hy.trans c
      rw [w_switch (t := 1134) (by rw [e]; decide) (by rw [e]; rfl), show Int.toNat 1134 = 1134 from rfl, tg_310_1134]
      exact case_18 I
    · have e : (xs 0 &&& Int32.ofInt 63).toInt = 19 := hy.trans c
      rw [w_switch (t := 1190) (by rw [e]; decide) (by rw [e]; rfl), show Int.toNat 1190 = 1190 from rfl, tg_310_1190]
      exact case_19 I
    · have e : (xs 0 &&& Int32.ofInt 63).toInt = 20 := hy.trans c
      rw [w_switch (t := 1246) (by rw [e]; decide) (by rw [e]; rfl), show Int.toNat 1246 = 1246 from rfl, tg_310_1246]
      exact case_20 I
    · have e : (xs 0 &&& Int32.ofInt 63).toInt = 21 := hy.trans c
      rw [w_switch (t := 1314) (by rw [e]; decide) (by rw [e]; rfl), show Int.toNat 1314 = 1314 from rfl, tg_310_1314]
      exact case_21 I
    · have e : (xs 0 &&& Int32.ofInt 63).toInt = 22 := hy.trans c
      rw [w_switch (t := 1382) (by rw [e]; decide) (by rw [e]; rfl), show Int.toNat 1382 = 1382 from rfl, tg_310_1382]
      exact case_22 I
    · have e : (xs 0 &&& Int32.ofInt 63).toInt = 23 := hy.trans c
      rw [w_switch (t := 1450) (by rw [e]; decide) (by rw [e]; rfl), show Int.toNat 1450 = 1450 from rfl, tg_310_1450]
      exact case_23 I
    · have e : (xs 0 &&& Int32.ofInt 63).toInt = 24 := hy.trans c
      rw [w_switch (t := 1506) (by rw [e]; decide) (by rw [e]; rfl), show Int.toNat 1506 = 1506 from rfl, tg_310_1506]
      exact case_24 I
    · have e : (xs 0 &&& Int32.ofInt 63).toInt = 25 := hy.trans c
      rw [w_switch (t := 1574) (by rw [e]; decide) (by rw [e]; rfl), show Int.toNat 1574 = 1574 from rfl, tg_310_1574]
      exact case_25 I
    · have e : (xs 0 &&& Int32.ofInt 63).toInt = 26 := hy.trans c
      rw [w_switch (t := 1630) (by rw [e]; decide) (by rw [e]; rfl), show Int.toNat 1630 = 1630 from rfl, tg_310_1630]
      exact case_26 I
    · have e : (xs 0 &&& Int32.ofInt 63).toInt = 27 := hy.trans c
      rw [w_switch (t := 1686) (by rw [e]; decide) (by rw [e]; rfl), show Int.toNat 1686 = 1686 from rfl, tg_310_1686]
      exact case_27 I
    · have e : (xs 0 &&& Int32.ofInt 63).toInt = 28 := hy.trans c
      rw [w_switch (t := 1742) (by rw [e]; decide) (by rw [e]; rfl), show Int.toNat 1742 = 1742 from rfl, tg_310_1742]
      exact case_28 I
    · have e : (xs 0 &&& Int32.ofInt 63).toInt = 29 := hy.trans c
      rw [w_switch (t := 1810) (by rw [e]; decide) (by rw [e]; rfl), show Int.toNat 1810 = 1810 from rfl, tg_310_1810]
      exact case_29 I
    · have e : (xs 0 &&& Int32.ofInt 63).toInt = 30 := hy.trans c
      rw [w_switch (t := 1823) (by rw [e]; decide) (by rw [e]; rfl), show Int.toNat 1823 = 1823 from rfl, tg_310_1823]
      exact case_30 I
    · have e : (xs 0 &&& Int32.ofInt 63).toInt = 31 := hy.trans c
      rw [w_switch (t := 1891) (by rw [e]; decide) (by rw [e]; rfl), show Int.toNat 1891 = 1891 from rfl, tg_310_1891]
      exact case_31 I
    · have e : (xs 0 &&& Int32.ofInt 63).toInt = 32 := hy.trans c
      rw [w_switch (t := 1916) (by rw [e]; decide) (by rw [e]; rfl), show Int.toNat 1916 = 1916 from rfl, tg_310_1916]
      exact case_32 I
    · have e : (xs 0 &&& Int32.ofInt 63).toInt = 33 := hy.trans c
      rw [w_switch (t := 1993) (by rw [e]; decide) (by rw [e]; rfl), show Int.toNat 1993 = 1993 from rfl, tg_310_1993]
      exact case_33 I
    · have e : (xs 0 &&& Int32.ofInt 63).toInt = 34 := hy.trans c
      rw [w_switch (t := 2071) (by rw [e]; decide) (by rw [e]; rfl), show Int.toNat 2071 = 2071 from rfl, tg_310_2071]
      exact case_34 I
    · have e : (xs 0 &&& Int32.ofInt 63).toInt = 35 := hy.trans c
      rw [w_switch (t := 2127) (by rw [e]; decide) (by rw [e]; rfl), show Int.toNat 2127 = 2127 from rfl, tg_310_2127]
      exact case_35 I
    · have e : (xs 0 &&& Int32.ofInt 63).toInt = 36 := hy.trans c
      rw [w_switch (t := 2183) (by rw [e]; decide) (by rw [e]; rfl), show Int.toNat 2183 = 2183 from rfl, tg_310_2183]
      exact case_36 I
    · have e : (xs 0 &&& Int32.ofInt 63).toInt = 37 := hy.trans c
      rw [w_switch (t := 2239) (by rw [e]; decide) (by rw [e]; rfl), show Int.toNat 2239 = 2239 from rfl, tg_310_2239]
      exact case_37 I
    · have e : (xs 0 &&& Int32.ofInt 63).toInt = 38 := hy.trans c
      rw [w_switch (t := 2252) (by rw [e]; decide) (by rw [e]; rfl), show Int.toNat 2252 = 2252 from rfl, tg_310_2252]
      exact case_38 I
    · have e : (xs 0 &&& Int32.ofInt 63).toInt = 39 := hy.trans c
      rw [w_switch (t := 2265) (by rw [e]; decide) (by rw [e]; rfl), show Int.toNat 2265 = 2265 from rfl, tg_310_2265]
      exact case_39 I
    · have e : (xs 0 &&& Int32.ofInt 63).toInt = 40 := hy.trans c
      rw [w_switch (t := 2276) (by rw [e]; decide) (by rw [e]; rfl), show Int.toNat 2276 = 2276 from rfl, tg_310_2276]
      exact case_40 I
    · have e : (xs 0 &&& Int32.ofInt 63).toInt = 41 := hy.trans c
      rw [w_switch (t := 2289) (by rw [e]; decide) (by rw [e]; rfl), show Int.toNat 2289 = 2289 from rfl, tg_310_2289]
      exact case_41 I
theorem law_all {L : Nat} {xs : Nat → Int32} (hL : L ≤ 6) : m_W (p_P L xs) 12 310 k_310_0 [some (.ref m_X), none, none, none, none, none, none, none, none] [] q_h0 q_Q := by
  refine law_0 (d := 7) (fun h I => ?_)
  rcases (show L < 6 ∨ L = 6 by omega) with c | c
  · obtain ⟨⟨hn, hc, hs⟩, -⟩ := I
    exact end_1 hL (by decide) (by decide) (by omega) ⟨by omega, by omega⟩
  · subst c
    exact loop_1 (d := 0) I
