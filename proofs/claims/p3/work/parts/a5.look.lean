/-! calls that only look -/
set_option maxHeartbeats 2000000 in
theorem t_108 {L : Nat} {xs : Nat → Int32} {d : Nat} {h : m_H} {w : Int64} {F : m_M} {Q : Option Value ⊕ Nat → m_H → Prop} {ow : Nat → Nat} {u p : Nat} (I : q_CI ow h F u p) (hQ : ∀ v : Int32, Q (.inl (some (.int v))) (m_hS h (w, F))) : m_W (p_P L xs) (d + 2) 108 k_108_0 [some (.ref 0)] [] (m_hS h (w, F)) Q := by
  obtain ⟨⟨⟨s1, s2⟩, k0, r00, k1, l1, r04, k133, r133, k134, l134⟩, ⟨⟨f1, f2⟩, f6, ⟨n1, n2⟩, ⟨c1, c2⟩⟩, i3, r03, KU, i6⟩ := I
  have hX : m_X = 1000000000 := rfl
  have ku := CW_uk KU.2.2.1.1
  have up : m_R h u 0 = some p := KU.2.2.1.2.2.1
  have kp := PW_pk KU.2.2.1.2.1
  have un := KP_n KU
  have u1 := KU.1.1
  have p1 := KU.2.1.1
  have hb := bo_or u
  have X0 : CX h u (bo u) p F := KU.2.2.1
  have hV : q_x u (bo u) p F F := v_rf KU.2.2.2
  generalize ebo : bo u = b at X0 hV hb un
  have X1 := X0
  obtain ⟨W, P, up, ⟨dj1, dj2⟩, C, ⟨⟨nn1, nn2⟩, ⟨nn3, nn4⟩⟩, ⟨zz1, zz2, zz3⟩⟩ := X1
  have wb1 := CW_un W
  have wb2 := CW_bn W
  have wb3 := CW_X W
  have wb4 := CW_ub W
  have pb1 := PW_pn P
  have pb2 := PW_pX P
  have hr1 := hV.2.1.1
  have hj5 := hV.2.1.2.1
  obtain ⟨dr0, drk, dr5, dr6, dr7, dk1, dl1, dk2, dl2, dk3, dl3⟩ := CW_D W 0 (by omega)
  obtain ⟨qr, qk⟩ := CW_Q W 0 (by omega)
  have kk := CW_jk W
  rw [k_108_0]
  (repeat' (first | (simp (disch := first | omega | (simp (disch := omega) only [i_lt0, i_tn, i_nn, m_cat_n, m_cat_i, m_cat_r, m_cat_z, m_cat_rv, m_cat_l, m_o_n, m_o_i, m_o_r, m_o_z, m_o_rv, m_o_f, hs_n, hs_k, hs_l, Nat.reduceLeDiff, not_false_eq_true, or_true, true_or, or_false, false_or, kk, k0, r00, k1, l1, r04, k133, r133, k134, l134, r03, ku, up, kp, CW_uk W, CW_u4 W, CW_u5 W, CW_u6 W, CW_dk W, CW_dl W, CW_qk W, CW_ql W, CW_jk W, CW_j0 W, CW_jk0 W, CW_jl0 W, CW_j1 W, CW_jk1 W, CW_jl1 W, CW_j2 W, CW_jk2 W, CW_jl2 W, CW_j3 W, CW_jk3 W, CW_jl3 W, CW_j4 W, CW_jk4 W, CW_jl4 W, PW_pk P, PW_p2 P, PW_p10 P, PW_ck P, PW_cl P, PW_ok P, PW_o0 P, PW_o1 P, PW_o3 P, PW_sk P, PW_sl P, PW_ak P, PW_bk P, PW_al P, dr0, drk, dr5, dr6, dr7, dk1, dl1, dk2, dl2, dk3, dl3, qr, qk]; first | done | omega) | exact Or.inl rfl | exact Or.inr rfl) only [w_aload_0, w_aloadz_0, w_aloadv_0, gf_706, m_rv_s, m_rv_n, w_iret, m_C_inl, Option.toList_some, Option.toList_none, List.cons_append, List.nil_append, w_icmp_eq, w_if_eq, hs_n, hs_k, hs_l, hs_R, hs_I, hs_L, hs_setI, hs_setL, hs_cpy, kk, k0, r00, k1, l1, r04, k133, r133, k134, l134, r03, ku, up, kp, CW_uk W, CW_u4 W, CW_u5 W, CW_u6 W, CW_dk W, CW_dl W, CW_qk W, CW_ql W, CW_jk W, CW_j0 W, CW_jk0 W, CW_jl0 W, CW_j1 W, CW_jk1 W, CW_jl1 W, CW_j2 W, CW_jk2 W, CW_jl2 W, CW_j3 W, CW_jk3 W, CW_jl3 W, CW_j4 W, CW_jk4 W, CW_jl4 W, PW_pk P, PW_p2 P, PW_p10 P, PW_ck P, PW_cl P, PW_ok P, PW_o0 P, PW_o1 P, PW_o3 P, PW_sk P, PW_sl P, PW_ak P, PW_bk P, PW_al P, dr0, drk, dr5, dr6, dr7, dk1, dl1, dk2, dl2, dk3, dl3, qr, qk, up_up, up_sw, up_sa, up_eq, up_na, up_nk, cp_na, i_add, i_sub, i_mul, i_tn, i_nat, Int.reduceToNat, Int.reduceAdd, Int.reduceSub, Int.reduceMul, Int.reduceNeg, l_32, l_nat, l_c_lt, l_c_gt, l_c_eq, i_lt, i_eq, i_lt0, i_0lt, i_eq0, i_eq1, Int.reduceLT, Int.reduceEq, Int.reduceLE, Int.reduceNe, not_true_eq_false, not_false_eq_true, Nat.lt_irrefl, Int.lt_irrefl, eq_self, eq_self, Nat.reduceAdd, Nat.reduceMul, Nat.reduceSub, Nat.reduceDiv, Nat.reduceMod, Nat.reduceEqDiff, Nat.reduceLeDiff, Nat.reduceLT, Nat.zero_add, Nat.add_zero, Nat.zero_le, and_false, and_true, and_self, false_and, true_and, or_false, or_true, if_true, if_false, ite_true, ite_false, ↓reduceIte, Int.reduceToNat, Int.reduceAdd, Int.reduceSub, Int.reduceMul, Int.reduceNeg, hs_bump]) | split))
  all_goals first
    | (exfalso; omega)
    | exact hQ _
set_option maxHeartbeats 2000000 in
theorem t_109 {L : Nat} {xs : Nat → Int32} {d : Nat} {h : m_H} {w : Int64} {F : m_M} {Q : Option Value ⊕ Nat → m_H → Prop} {ow : Nat → Nat} {u p : Nat} (I : q_CI ow h F u p) (hQ : ∀ v : Int32, Q (.inl (some (.int v))) (m_hS h (w, F))) : m_W (p_P L xs) (d + 2) 109 k_109_0 [some (.ref 0)] [] (m_hS h (w, F)) Q := by
  obtain ⟨⟨⟨s1, s2⟩, k0, r00, k1, l1, r04, k133, r133, k134, l134⟩, ⟨⟨f1, f2⟩, f6, ⟨n1, n2⟩, ⟨c1, c2⟩⟩, i3, r03, KU, i6⟩ := I
  have hX : m_X = 1000000000 := rfl
  have ku := CW_uk KU.2.2.1.1
  have up : m_R h u 0 = some p := KU.2.2.1.2.2.1
  have kp := PW_pk KU.2.2.1.2.1
  have un := KP_n KU
  have u1 := KU.1.1
  have p1 := KU.2.1.1
  have hb := bo_or u
  have X0 : CX h u (bo u) p F := KU.2.2.1
  have hV : q_x u (bo u) p F F := v_rf KU.2.2.2
  generalize ebo : bo u = b at X0 hV hb un
  have X1 := X0
  obtain ⟨W, P, up, ⟨dj1, dj2⟩, C, ⟨⟨nn1, nn2⟩, ⟨nn3, nn4⟩⟩, ⟨zz1, zz2, zz3⟩⟩ := X1
  have wb1 := CW_un W
  have wb2 := CW_bn W
  have wb3 := CW_X W
  have wb4 := CW_ub W
  have pb1 := PW_pn P
  have pb2 := PW_pX P
  have hr1 := hV.2.1.1
  have hj5 := hV.2.1.2.1
  obtain ⟨dr0, drk, dr5, dr6, dr7, dk1, dl1, dk2, dl2, dk3, dl3⟩ := CW_D W 0 (by omega)
  obtain ⟨qr, qk⟩ := CW_Q W 0 (by omega)
  have kk := CW_jk W
  rw [k_109_0]
  (repeat' (first | (simp (disch := first | omega | (simp (disch := omega) only [i_lt0, i_tn, i_nn, m_cat_n, m_cat_i, m_cat_r, m_cat_z, m_cat_rv, m_cat_l, m_o_n, m_o_i, m_o_r, m_o_z, m_o_rv, m_o_f, hs_n, hs_k, hs_l, Nat.reduceLeDiff, not_false_eq_true, or_true, true_or, or_false, false_or, kk, k0, r00, k1, l1, r04, k133, r133, k134, l134, r03, ku, up, kp, CW_uk W, CW_u4 W, CW_u5 W, CW_u6 W, CW_dk W, CW_dl W, CW_qk W, CW_ql W, CW_jk W, CW_j0 W, CW_jk0 W, CW_jl0 W, CW_j1 W, CW_jk1 W, CW_jl1 W, CW_j2 W, CW_jk2 W, CW_jl2 W, CW_j3 W, CW_jk3 W, CW_jl3 W, CW_j4 W, CW_jk4 W, CW_jl4 W, PW_pk P, PW_p2 P, PW_p10 P, PW_ck P, PW_cl P, PW_ok P, PW_o0 P, PW_o1 P, PW_o3 P, PW_sk P, PW_sl P, PW_ak P, PW_bk P, PW_al P, dr0, drk, dr5, dr6, dr7, dk1, dl1, dk2, dl2, dk3, dl3, qr, qk]; first | done | omega) | exact Or.inl rfl | exact Or.inr rfl) only [w_aload_0, w_aloadz_0, w_aloadv_0, gf_707, m_rv_s, m_rv_n, gf_640, gf_320, w_iret, m_C_inl, Option.toList_some, Option.toList_none, List.cons_append, List.nil_append, w_icmp_eq, w_if_eq, hs_n, hs_k, hs_l, hs_R, hs_I, hs_L, hs_setI, hs_setL, hs_cpy, kk, k0, r00, k1, l1, r04, k133, r133, k134, l134, r03, ku, up, kp, CW_uk W, CW_u4 W, CW_u5 W, CW_u6 W, CW_dk W, CW_dl W, CW_qk W, CW_ql W, CW_jk W, CW_j0 W, CW_jk0 W, CW_jl0 W, CW_j1 W, CW_jk1 W, CW_jl1 W, CW_j2 W, CW_jk2 W, CW_jl2 W, CW_j3 W, CW_jk3 W, CW_jl3 W, CW_j4 W, CW_jk4 W, CW_jl4 W, PW_pk P, PW_p2 P, PW_p10 P, PW_ck P, PW_cl P, PW_ok P, PW_o0 P, PW_o1 P, PW_o3 P, PW_sk P, PW_sl P, PW_ak P, PW_bk P, PW_al P, dr0, drk, dr5, dr6, dr7, dk1, dl1, dk2, dl2, dk3, dl3, qr, qk, up_up, up_sw, up_sa, up_eq, up_na, up_nk, cp_na, i_add, i_sub, i_mul, i_tn, i_nat, Int.reduceToNat, Int.reduceAdd, Int.reduceSub, Int.reduceMul, Int.reduceNeg, l_32, l_nat, l_c_lt, l_c_gt, l_c_eq, i_lt, i_eq, i_lt0, i_0lt, i_eq0, i_eq1, Int.reduceLT, Int.reduceEq, Int.reduceLE, Int.reduceNe, not_true_eq_false, not_false_eq_true, Nat.lt_irrefl, Int.lt_irrefl, eq_self, eq_self, Nat.reduceAdd, Nat.reduceMul, Nat.reduceSub, Nat.reduceDiv, Nat.reduceMod, Nat.reduceEqDiff, Nat.reduceLeDiff, Nat.reduceLT, Nat.zero_add, Nat.add_zero, Nat.zero_le, and_false, and_true, and_self, false_and, true_and, or_false, or_true, if_true, if_false, ite_true, ite_false, ↓reduceIte, Int.reduceToNat, Int.reduceAdd, Int.reduceSub, Int.reduceMul, Int.reduceNeg, hs_bump]) | split))
  all_goals first
    | (exfalso; omega)
    | exact hQ _
set_option maxHeartbeats 2000000 in
theorem t_110 {L : Nat} {xs : Nat → Int32} {d : Nat} {h : m_H} {w : Int64} {F : m_M} {Q : Option Value ⊕ Nat → m_H → Prop} {ow : Nat → Nat} {u p : Nat} (I : q_CI ow h F u p) (hQ : ∀ v : Int32, Q (.inl (some (.int v))) (m_hS h (w, F))) : m_W (p_P L xs) (d + 2) 110 k_110_0 [some (.ref 0)] [] (m_hS h (w, F)) Q := by
  obtain ⟨⟨⟨s1, s2⟩, k0, r00, k1, l1, r04, k133, r133, k134, l134⟩, ⟨⟨f1, f2⟩, f6, ⟨n1, n2⟩, ⟨c1, c2⟩⟩, i3, r03, KU, i6⟩ := I
  have hX : m_X = 1000000000 := rfl
  have ku := CW_uk KU.2.2.1.1
  have up : m_R h u 0 = some p := KU.2.2.1.2.2.1
  have kp := PW_pk KU.2.2.1.2.1
  have un := KP_n KU
  have u1 := KU.1.1
  have p1 := KU.2.1.1
  have hb := bo_or u
  have X0 : CX h u (bo u) p F := KU.2.2.1
  have hV : q_x u (bo u) p F F := v_rf KU.2.2.2
  generalize ebo : bo u = b at X0 hV hb un
  have X1 := X0
  obtain ⟨W, P, up, ⟨dj1, dj2⟩, C, ⟨⟨nn1, nn2⟩, ⟨nn3, nn4⟩⟩, ⟨zz1, zz2, zz3⟩⟩ := X1
  have wb1 := CW_un W
  have wb2 := CW_bn W
  have wb3 := CW_X W
  have wb4 := CW_ub W
  have pb1 := PW_pn P
  have pb2 := PW_pX P
  have hr1 := hV.2.1.1
  have hj5 := hV.2.1.2.1
  obtain ⟨dr0, drk, dr5, dr6, dr7, dk1, dl1, dk2, dl2, dk3, dl3⟩ := CW_D W 0 (by omega)
  obtain ⟨qr, qk⟩ := CW_Q W 0 (by omega)
  have kk := CW_jk W
  rw [k_110_0]
  (repeat' (first | (simp (disch := first | omega | (simp (disch := omega) only [i_lt0, i_tn, i_nn, m_cat_n, m_cat_i, m_cat_r, m_cat_z, m_cat_rv, m_cat_l, m_o_n, m_o_i, m_o_r, m_o_z, m_o_rv, m_o_f, hs_n, hs_k, hs_l, Nat.reduceLeDiff, not_false_eq_true, or_true, true_or, or_false, false_or, kk, k0, r00, k1, l1, r04, k133, r133, k134, l134, r03, ku, up, kp, CW_uk W, CW_u4 W, CW_u5 W, CW_u6 W, CW_dk W, CW_dl W, CW_qk W, CW_ql W, CW_jk W, CW_j0 W, CW_jk0 W, CW_jl0 W, CW_j1 W, CW_jk1 W, CW_jl1 W, CW_j2 W, CW_jk2 W, CW_jl2 W, CW_j3 W, CW_jk3 W, CW_jl3 W, CW_j4 W, CW_jk4 W, CW_jl4 W, PW_pk P, PW_p2 P, PW_p10 P, PW_ck P, PW_cl P, PW_ok P, PW_o0 P, PW_o1 P, PW_o3 P, PW_sk P, PW_sl P, PW_ak P, PW_bk P, PW_al P, dr0, drk, dr5, dr6, dr7, dk1, dl1, dk2, dl2, dk3, dl3, qr, qk]; first | done | omega) | exact Or.inl rfl | exact Or.inr rfl) only [w_aload_0, w_aloadz_0, w_aloadv_0, gf_707, m_rv_s, m_rv_n, gf_640, gf_321, w_iret, m_C_inl, Option.toList_some, Option.toList_none, List.cons_append, List.nil_append, w_icmp_eq, w_if_eq, hs_n, hs_k, hs_l, hs_R, hs_I, hs_L, hs_setI, hs_setL, hs_cpy, kk, k0, r00, k1, l1, r04, k133, r133, k134, l134, r03, ku, up, kp, CW_uk W, CW_u4 W, CW_u5 W, CW_u6 W, CW_dk W, CW_dl W, CW_qk W, CW_ql W, CW_jk W, CW_j0 W, CW_jk0 W, CW_jl0 W, CW_j1 W, CW_jk1 W, CW_jl1 W, CW_j2 W, CW_jk2 W, CW_jl2 W, CW_j3 W, CW_jk3 W, CW_jl3 W, CW_j4 W, CW_jk4 W, CW_jl4 W, PW_pk P, PW_p2 P, PW_p10 P, PW_ck P, PW_cl P, PW_ok P, PW_o0 P, PW_o1 P, PW_o3 P, PW_sk P, PW_sl P, PW_ak P, PW_bk P, PW_al P, dr0, drk, dr5, dr6, dr7, dk1, dl1, dk2, dl2, dk3, dl3, qr, qk, up_up, up_sw, up_sa, up_eq, up_na, up_nk, cp_na, i_add, i_sub, i_mul, i_tn, i_nat, Int.reduceToNat, Int.reduceAdd, Int.reduceSub, Int.reduceMul, Int.reduceNeg, l_32, l_nat, l_c_lt, l_c_gt, l_c_eq, i_lt, i_eq, i_lt0, i_0lt, i_eq0, i_eq1, Int.reduceLT, Int.reduceEq, Int.reduceLE, Int.reduceNe, not_true_eq_false, not_false_eq_true, Nat.lt_irrefl, Int.lt_irrefl, eq_self, eq_self, Nat.reduceAdd, Nat.reduceMul, Nat.reduceSub, Nat.reduceDiv, Nat.reduceMod, Nat.reduceEqDiff, Nat.reduceLeDiff, Nat.reduceLT, Nat.zero_add, Nat.add_zero, Nat.zero_le, and_false, and_true, and_self, false_and, true_and, or_false, or_true, if_true, if_false, ite_true, ite_false, ↓reduceIte, Int.reduceToNat, Int.reduceAdd, Int.reduceSub, Int.reduceMul, Int.reduceNeg, hs_bump]) | split))
  all_goals first
    | (exfalso; omega)
    | exact hQ _
set_option maxHeartbeats 2000000 in
theorem t_111 {L : Nat} {xs : Nat → Int32} {d : Nat} {h : m_H} {w : Int64} {F : m_M} {Q : Option Value ⊕ Nat → m_H → Prop} {ow : Nat → Nat} {u p : Nat} (I : q_CI ow h F u p) (hQ : ∀ v : Int32, Q (.inl (some (.int v))) (m_hS h (w, F))) : m_W (p_P L xs) (d + 2) 111 k_111_0 [some (.ref 0)] [] (m_hS h (w, F)) Q := by
  obtain ⟨⟨⟨s1, s2⟩, k0, r00, k1, l1, r04, k133, r133, k134, l134⟩, ⟨⟨f1, f2⟩, f6, ⟨n1, n2⟩, ⟨c1, c2⟩⟩, i3, r03, KU, i6⟩ := I
  have hX : m_X = 1000000000 := rfl
  have ku := CW_uk KU.2.2.1.1
  have up : m_R h u 0 = some p := KU.2.2.1.2.2.1
  have kp := PW_pk KU.2.2.1.2.1
  have un := KP_n KU
  have u1 := KU.1.1
  have p1 := KU.2.1.1
  have hb := bo_or u
  have X0 : CX h u (bo u) p F := KU.2.2.1
  have hV : q_x u (bo u) p F F := v_rf KU.2.2.2
  generalize ebo : bo u = b at X0 hV hb un
  have X1 := X0
  obtain ⟨W, P, up, ⟨dj1, dj2⟩, C, ⟨⟨nn1, nn2⟩, ⟨nn3, nn4⟩⟩, ⟨zz1, zz2, zz3⟩⟩ := X1
  have wb1 := CW_un W
  have wb2 := CW_bn W
  have wb3 := CW_X W
  have wb4 := CW_ub W
  have pb1 := PW_pn P
  have pb2 := PW_pX P
  have hr1 := hV.2.1.1
  have hj5 := hV.2.1.2.1
  obtain ⟨dr0, drk, dr5, dr6, dr7, dk1, dl1, dk2, dl2, dk3, dl3⟩ := CW_D W 0 (by omega)
  obtain ⟨qr, qk⟩ := CW_Q W 0 (by omega)
  have kk := CW_jk W
  rw [k_111_0]
  (repeat' (first | (simp (disch := first | omega | (simp (disch := omega) only [i_lt0, i_tn, i_nn, m_cat_n, m_cat_i, m_cat_r, m_cat_z, m_cat_rv, m_cat_l, m_o_n, m_o_i, m_o_r, m_o_z, m_o_rv, m_o_f, hs_n, hs_k, hs_l, Nat.reduceLeDiff, not_false_eq_true, or_true, true_or, or_false, false_or, kk, k0, r00, k1, l1, r04, k133, r133, k134, l134, r03, ku, up, kp, CW_uk W, CW_u4 W, CW_u5 W, CW_u6 W, CW_dk W, CW_dl W, CW_qk W, CW_ql W, CW_jk W, CW_j0 W, CW_jk0 W, CW_jl0 W, CW_j1 W, CW_jk1 W, CW_jl1 W, CW_j2 W, CW_jk2 W, CW_jl2 W, CW_j3 W, CW_jk3 W, CW_jl3 W, CW_j4 W, CW_jk4 W, CW_jl4 W, PW_pk P, PW_p2 P, PW_p10 P, PW_ck P, PW_cl P, PW_ok P, PW_o0 P, PW_o1 P, PW_o3 P, PW_sk P, PW_sl P, PW_ak P, PW_bk P, PW_al P, dr0, drk, dr5, dr6, dr7, dk1, dl1, dk2, dl2, dk3, dl3, qr, qk]; first | done | omega) | exact Or.inl rfl | exact Or.inr rfl) only [w_aload_0, w_aloadz_0, w_aloadv_0, gf_707, m_rv_s, m_rv_n, gf_642, w_iret, m_C_inl, Option.toList_some, Option.toList_none, List.cons_append, List.nil_append, w_icmp_eq, w_if_eq, hs_n, hs_k, hs_l, hs_R, hs_I, hs_L, hs_setI, hs_setL, hs_cpy, kk, k0, r00, k1, l1, r04, k133, r133, k134, l134, r03, ku, up, kp, CW_uk W, CW_u4 W, CW_u5 W, CW_u6 W, CW_dk W, CW_dl W, CW_qk W, CW_ql W, CW_jk W, CW_j0 W, CW_jk0 W, CW_jl0 W, CW_j1 W, CW_jk1 W, CW_jl1 W, CW_j2 W, CW_jk2 W, CW_jl2 W, CW_j3 W, CW_jk3 W, CW_jl3 W, CW_j4 W, CW_jk4 W, CW_jl4 W, PW_pk P, PW_p2 P, PW_p10 P, PW_ck P, PW_cl P, PW_ok P, PW_o0 P, PW_o1 P, PW_o3 P, PW_sk P, PW_sl P, PW_ak P, PW_bk P, PW_al P, dr0, drk, dr5, dr6, dr7, dk1, dl1, dk2, dl2, dk3, dl3, qr, qk, up_up, up_sw, up_sa, up_eq, up_na, up_nk, cp_na, i_add, i_sub, i_mul, i_tn, i_nat, Int.reduceToNat, Int.reduceAdd, Int.reduceSub, Int.reduceMul, Int.reduceNeg, l_32, l_nat, l_c_lt, l_c_gt, l_c_eq, i_lt, i_eq, i_lt0, i_0lt, i_eq0, i_eq1, Int.reduceLT, Int.reduceEq, Int.reduceLE, Int.reduceNe, not_true_eq_false, not_false_eq_true, Nat.lt_irrefl, Int.lt_irrefl, eq_self, eq_self, Nat.reduceAdd, Nat.reduceMul, Nat.reduceSub, Nat.reduceDiv, Nat.reduceMod, Nat.reduceEqDiff, Nat.reduceLeDiff, Nat.reduceLT, Nat.zero_add, Nat.add_zero, Nat.zero_le, and_false, and_true, and_self, false_and, true_and, or_false, or_true, if_true, if_false, ite_true, ite_false, ↓reduceIte, Int.reduceToNat, Int.reduceAdd, Int.reduceSub, Int.reduceMul, Int.reduceNeg, hs_bump]) | split))
  all_goals first
    | (exfalso; omega)
    | exact hQ _
set_option maxHeartbeats 2000000 in
theorem t_112 {L : Nat} {xs : Nat → Int32} {d : Nat} {h : m_H} {w : Int64} {F : m_M} {Q : Option Value ⊕ Nat → m_H → Prop} {ow : Nat → Nat} {u p : Nat} (I : q_CI ow h F u p) (hQ : ∀ v : Int32, Q (.inl (some (.int v))) (m_hS h (w, F))) : m_W (p_P L xs) (d + 2) 112 k_112_0 [some (.ref 0)] [] (m_hS h (w, F)) Q := by
  obtain ⟨⟨⟨s1, s2⟩, k0, r00, k1, l1, r04, k133, r133, k134, l134⟩, ⟨⟨f1, f2⟩, f6, ⟨n1, n2⟩, ⟨c1, c2⟩⟩, i3, r03, KU, i6⟩ := I
  have hX : m_X = 1000000000 := rfl
  have ku := CW_uk KU.2.2.1.1
  have up : m_R h u 0 = some p := KU.2.2.1.2.2.1
  have kp := PW_pk KU.2.2.1.2.1
  have un := KP_n KU
  have u1 := KU.1.1
  have p1 := KU.2.1.1
  have hb := bo_or u
  have X0 : CX h u (bo u) p F := KU.2.2.1
  have hV : q_x u (bo u) p F F := v_rf KU.2.2.2
  generalize ebo : bo u = b at X0 hV hb un
  have X1 := X0
  obtain ⟨W, P, up, ⟨dj1, dj2⟩, C, ⟨⟨nn1, nn2⟩, ⟨nn3, nn4⟩⟩, ⟨zz1, zz2, zz3⟩⟩ := X1
  have wb1 := CW_un W
  have wb2 := CW_bn W
  have wb3 := CW_X W
  have wb4 := CW_ub W
  have pb1 := PW_pn P
  have pb2 := PW_pX P
  have hr1 := hV.2.1.1
  have hj5 := hV.2.1.2.1
  obtain ⟨dr0, drk, dr5, dr6, dr7, dk1, dl1, dk2, dl2, dk3, dl3⟩ := CW_D W 0 (by omega)
  obtain ⟨qr, qk⟩ := CW_Q W 0 (by omega)
  have kk := CW_jk W
  rw [k_112_0]
  (repeat' (first | (simp (disch := first | omega | (simp (disch := omega) only [i_lt0, i_tn, i_nn, m_cat_n, m_cat_i, m_cat_r, m_cat_z, m_cat_rv, m_cat_l, m_o_n, m_o_i, m_o_r, m_o_z, m_o_rv, m_o_f, hs_n, hs_k, hs_l, Nat.reduceLeDiff, not_false_eq_true, or_true, true_or, or_false, false_or, kk, k0, r00, k1, l1, r04, k133, r133, k134, l134, r03, ku, up, kp, CW_uk W, CW_u4 W, CW_u5 W, CW_u6 W, CW_dk W, CW_dl W, CW_qk W, CW_ql W, CW_jk W, CW_j0 W, CW_jk0 W, CW_jl0 W, CW_j1 W, CW_jk1 W, CW_jl1 W, CW_j2 W, CW_jk2 W, CW_jl2 W, CW_j3 W, CW_jk3 W, CW_jl3 W, CW_j4 W, CW_jk4 W, CW_jl4 W, PW_pk P, PW_p2 P, PW_p10 P, PW_ck P, PW_cl P, PW_ok P, PW_o0 P, PW_o1 P, PW_o3 P, PW_sk P, PW_sl P, PW_ak P, PW_bk P, PW_al P, dr0, drk, dr5, dr6, dr7, dk1, dl1, dk2, dl2, dk3, dl3, qr, qk]; first | done | omega) | exact Or.inl rfl | exact Or.inr rfl) only [w_aload_0, w_aloadz_0, w_aloadv_0, gf_707, m_rv_s, m_rv_n, gf_641, w_iret, m_C_inl, Option.toList_some, Option.toList_none, List.cons_append, List.nil_append, w_icmp_eq, w_if_eq, hs_n, hs_k, hs_l, hs_R, hs_I, hs_L, hs_setI, hs_setL, hs_cpy, kk, k0, r00, k1, l1, r04, k133, r133, k134, l134, r03, ku, up, kp, CW_uk W, CW_u4 W, CW_u5 W, CW_u6 W, CW_dk W, CW_dl W, CW_qk W, CW_ql W, CW_jk W, CW_j0 W, CW_jk0 W, CW_jl0 W, CW_j1 W, CW_jk1 W, CW_jl1 W, CW_j2 W, CW_jk2 W, CW_jl2 W, CW_j3 W, CW_jk3 W, CW_jl3 W, CW_j4 W, CW_jk4 W, CW_jl4 W, PW_pk P, PW_p2 P, PW_p10 P, PW_ck P, PW_cl P, PW_ok P, PW_o0 P, PW_o1 P, PW_o3 P, PW_sk P, PW_sl P, PW_ak P, PW_bk P, PW_al P, dr0, drk, dr5, dr6, dr7, dk1, dl1, dk2, dl2, dk3, dl3, qr, qk, up_up, up_sw, up_sa, up_eq, up_na, up_nk, cp_na, i_add, i_sub, i_mul, i_tn, i_nat, Int.reduceToNat, Int.reduceAdd, Int.reduceSub, Int.reduceMul, Int.reduceNeg, l_32, l_nat, l_c_lt, l_c_gt, l_c_eq, i_lt, i_eq, i_lt0, i_0lt, i_eq0, i_eq1, Int.reduceLT, Int.reduceEq, Int.reduceLE, Int.reduceNe, not_true_eq_false, not_false_eq_true, Nat.lt_irrefl, Int.lt_irrefl, eq_self, eq_self, Nat.reduceAdd, Nat.reduceMul, Nat.reduceSub, Nat.reduceDiv, Nat.reduceMod, Nat.reduceEqDiff, Nat.reduceLeDiff, Nat.reduceLT, Nat.zero_add, Nat.add_zero, Nat.zero_le, and_false, and_true, and_self, false_and, true_and, or_false, or_true, if_true, if_false, ite_true, ite_false, ↓reduceIte, Int.reduceToNat, Int.reduceAdd, Int.reduceSub, Int.reduceMul, Int.reduceNeg, hs_bump]) | split))
  all_goals first
    | (exfalso; omega)
    | exact hQ _
set_option maxHeartbeats 2000000 in
theorem t_135 {L : Nat} {xs : Nat → Int32} {d : Nat} {h : m_H} {w : Int64} {F : m_M} {Q : Option Value ⊕ Nat → m_H → Prop} {ow : Nat → Nat} {u p : Nat} (I : q_CI ow h F u p) (hQ : ∀ v : Int32, Q (.inl (some (.int v))) (m_hS h (w, F))) : m_W (p_P L xs) (d + 2) 135 k_135_0 [some (.ref 0)] [] (m_hS h (w, F)) Q := by
  obtain ⟨⟨⟨s1, s2⟩, k0, r00, k1, l1, r04, k133, r133, k134, l134⟩, ⟨⟨f1, f2⟩, f6, ⟨n1, n2⟩, ⟨c1, c2⟩⟩, i3, r03, KU, i6⟩ := I
  have hX : m_X = 1000000000 := rfl
  have ku := CW_uk KU.2.2.1.1
  have up : m_R h u 0 = some p := KU.2.2.1.2.2.1
  have kp := PW_pk KU.2.2.1.2.1
  have un := KP_n KU
  have u1 := KU.1.1
  have p1 := KU.2.1.1
  have hb := bo_or u
  have X0 : CX h u (bo u) p F := KU.2.2.1
  have hV : q_x u (bo u) p F F := v_rf KU.2.2.2
  generalize ebo : bo u = b at X0 hV hb un
  have X1 := X0
  obtain ⟨W, P, up, ⟨dj1, dj2⟩, C, ⟨⟨nn1, nn2⟩, ⟨nn3, nn4⟩⟩, ⟨zz1, zz2, zz3⟩⟩ := X1
  have wb1 := CW_un W
  have wb2 := CW_bn W
  have wb3 := CW_X W
  have wb4 := CW_ub W
  have pb1 := PW_pn P
  have pb2 := PW_pX P
  have hr1 := hV.2.1.1
  have hj5 := hV.2.1.2.1
  obtain ⟨dr0, drk, dr5, dr6, dr7, dk1, dl1, dk2, dl2, dk3, dl3⟩ := CW_D W 0 (by omega)
  obtain ⟨qr, qk⟩ := CW_Q W 0 (by omega)
  have kk := CW_jk W
  rw [k_135_0]
  (repeat' (first | (simp (disch := first | omega | (simp (disch := omega) only [i_lt0, i_tn, i_nn, m_cat_n, m_cat_i, m_cat_r, m_cat_z, m_cat_rv, m_cat_l, m_o_n, m_o_i, m_o_r, m_o_z, m_o_rv, m_o_f, hs_n, hs_k, hs_l, Nat.reduceLeDiff, not_false_eq_true, or_true, true_or, or_false, false_or, kk, k0, r00, k1, l1, r04, k133, r133, k134, l134, r03, ku, up, kp, CW_uk W, CW_u4 W, CW_u5 W, CW_u6 W, CW_dk W, CW_dl W, CW_qk W, CW_ql W, CW_jk W, CW_j0 W, CW_jk0 W, CW_jl0 W, CW_j1 W, CW_jk1 W, CW_jl1 W, CW_j2 W, CW_jk2 W, CW_jl2 W, CW_j3 W, CW_jk3 W, CW_jl3 W, CW_j4 W, CW_jk4 W, CW_jl4 W, PW_pk P, PW_p2 P, PW_p10 P, PW_ck P, PW_cl P, PW_ok P, PW_o0 P, PW_o1 P, PW_o3 P, PW_sk P, PW_sl P, PW_ak P, PW_bk P, PW_al P, dr0, drk, dr5, dr6, dr7, dk1, dl1, dk2, dl2, dk3, dl3, qr, qk]; first | done | omega) | exact Or.inl rfl | exact Or.inr rfl) only [w_aload_0, w_aloadz_0, w_aloadv_0, gf_707, m_rv_s, m_rv_n, gf_646, gf_262, w_iret, m_C_inl, Option.toList_some, Option.toList_none, List.cons_append, List.nil_append, w_icmp_eq, w_if_eq, hs_n, hs_k, hs_l, hs_R, hs_I, hs_L, hs_setI, hs_setL, hs_cpy, kk, k0, r00, k1, l1, r04, k133, r133, k134, l134, r03, ku, up, kp, CW_uk W, CW_u4 W, CW_u5 W, CW_u6 W, CW_dk W, CW_dl W, CW_qk W, CW_ql W, CW_jk W, CW_j0 W, CW_jk0 W, CW_jl0 W, CW_j1 W, CW_jk1 W, CW_jl1 W, CW_j2 W, CW_jk2 W, CW_jl2 W, CW_j3 W, CW_jk3 W, CW_jl3 W, CW_j4 W, CW_jk4 W, CW_jl4 W, PW_pk P, PW_p2 P, PW_p10 P, PW_ck P, PW_cl P, PW_ok P, PW_o0 P, PW_o1 P, PW_o3 P, PW_sk P, PW_sl P, PW_ak P, PW_bk P, PW_al P, dr0, drk, dr5, dr6, dr7, dk1, dl1, dk2, dl2, dk3, dl3, qr, qk, up_up, up_sw, up_sa, up_eq, up_na, up_nk, cp_na, i_add, i_sub, i_mul, i_tn, i_nat, Int.reduceToNat, Int.reduceAdd, Int.reduceSub, Int.reduceMul, Int.reduceNeg, l_32, l_nat, l_c_lt, l_c_gt, l_c_eq, i_lt, i_eq, i_lt0, i_0lt, i_eq0, i_eq1, Int.reduceLT, Int.reduceEq, Int.reduceLE, Int.reduceNe, not_true_eq_false, not_false_eq_true, Nat.lt_irrefl, Int.lt_irrefl, eq_self, eq_self, Nat.reduceAdd, Nat.reduceMul, Nat.reduceSub, Nat.reduceDiv, Nat.reduceMod, Nat.reduceEqDiff, Nat.reduceLeDiff, Nat.reduceLT, Nat.zero_add, Nat.add_zero, Nat.zero_le, and_false, and_true, and_self, false_and, true_and, or_false, or_true, if_true, if_false, ite_true, ite_false, ↓reduceIte, Int.reduceToNat, Int.reduceAdd, Int.reduceSub, Int.reduceMul, Int.reduceNeg, hs_bump]) | split))
  all_goals first
    | (exfalso; omega)
    | exact hQ _
set_option maxHeartbeats 2000000 in
theorem t_144 {L : Nat} {xs : Nat → Int32} {d : Nat} {h : m_H} {w : Int64} {F : m_M} {Q : Option Value ⊕ Nat → m_H → Prop} {ow : Nat → Nat} {u p : Nat} (I : q_CI ow h F u p) (hQ : ∀ v : Int32, Q (.inl (some (.int v))) (m_hS h (w, F))) : m_W (p_P L xs) (d + 2) 144 k_144_0 [some (.ref 0)] [] (m_hS h (w, F)) Q := by
  obtain ⟨⟨⟨s1, s2⟩, k0, r00, k1, l1, r04, k133, r133, k134, l134⟩, ⟨⟨f1, f2⟩, f6, ⟨n1, n2⟩, ⟨c1, c2⟩⟩, i3, r03, KU, i6⟩ := I
  have hX : m_X = 1000000000 := rfl
  have ku := CW_uk KU.2.2.1.1
  have up : m_R h u 0 = some p := KU.2.2.1.2.2.1
  have kp := PW_pk KU.2.2.1.2.1
  have un := KP_n KU
  have u1 := KU.1.1
  have p1 := KU.2.1.1
  have hb := bo_or u
  have X0 : CX h u (bo u) p F := KU.2.2.1
  have hV : q_x u (bo u) p F F := v_rf KU.2.2.2
  generalize ebo : bo u = b at X0 hV hb un
  have X1 := X0
  obtain ⟨W, P, up, ⟨dj1, dj2⟩, C, ⟨⟨nn1, nn2⟩, ⟨nn3, nn4⟩⟩, ⟨zz1, zz2, zz3⟩⟩ := X1
  have wb1 := CW_un W
  have wb2 := CW_bn W
  have wb3 := CW_X W
  have wb4 := CW_ub W
  have pb1 := PW_pn P
  have pb2 := PW_pX P
  have hr1 := hV.2.1.1
  have hj5 := hV.2.1.2.1
  obtain ⟨dr0, drk, dr5, dr6, dr7, dk1, dl1, dk2, dl2, dk3, dl3⟩ := CW_D W 0 (by omega)
  obtain ⟨qr, qk⟩ := CW_Q W 0 (by omega)
  have kk := CW_jk W
  rw [k_144_0]
  (repeat' (first | (simp (disch := first | omega | (simp (disch := omega) only [i_lt0, i_tn, i_nn, m_cat_n, m_cat_i, m_cat_r, m_cat_z, m_cat_rv, m_cat_l, m_o_n, m_o_i, m_o_r, m_o_z, m_o_rv, m_o_f, hs_n, hs_k, hs_l, Nat.reduceLeDiff, not_false_eq_true, or_true, true_or, or_false, false_or, kk, k0, r00, k1, l1, r04, k133, r133, k134, l134, r03, ku, up, kp, CW_uk W, CW_u4 W, CW_u5 W, CW_u6 W, CW_dk W, CW_dl W, CW_qk W, CW_ql W, CW_jk W, CW_j0 W, CW_jk0 W, CW_jl0 W, CW_j1 W, CW_jk1 W, CW_jl1 W, CW_j2 W, CW_jk2 W, CW_jl2 W, CW_j3 W, CW_jk3 W, CW_jl3 W, CW_j4 W, CW_jk4 W, CW_jl4 W, PW_pk P, PW_p2 P, PW_p10 P, PW_ck P, PW_cl P, PW_ok P, PW_o0 P, PW_o1 P, PW_o3 P, PW_sk P, PW_sl P, PW_ak P, PW_bk P, PW_al P, dr0, drk, dr5, dr6, dr7, dk1, dl1, dk2, dl2, dk3, dl3, qr, qk]; first | done | omega) | exact Or.inl rfl | exact Or.inr rfl) only [w_aload_0, w_aloadz_0, w_aloadv_0, gf_708, m_rv_s, m_rv_n, gf_194, w_iret, m_C_inl, Option.toList_some, Option.toList_none, List.cons_append, List.nil_append, w_icmp_eq, w_if_eq, hs_n, hs_k, hs_l, hs_R, hs_I, hs_L, hs_setI, hs_setL, hs_cpy, kk, k0, r00, k1, l1, r04, k133, r133, k134, l134, r03, ku, up, kp, CW_uk W, CW_u4 W, CW_u5 W, CW_u6 W, CW_dk W, CW_dl W, CW_qk W, CW_ql W, CW_jk W, CW_j0 W, CW_jk0 W, CW_jl0 W, CW_j1 W, CW_jk1 W, CW_jl1 W, CW_j2 W, CW_jk2 W, CW_jl2 W, CW_j3 W, CW_jk3 W, CW_jl3 W, CW_j4 W, CW_jk4 W, CW_jl4 W, PW_pk P, PW_p2 P, PW_p10 P, PW_ck P, PW_cl P, PW_ok P, PW_o0 P, PW_o1 P, PW_o3 P, PW_sk P, PW_sl P, PW_ak P, PW_bk P, PW_al P, dr0, drk, dr5, dr6, dr7, dk1, dl1, dk2, dl2, dk3, dl3, qr, qk, up_up, up_sw, up_sa, up_eq, up_na, up_nk, cp_na, i_add, i_sub, i_mul, i_tn, i_nat, Int.reduceToNat, Int.reduceAdd, Int.reduceSub, Int.reduceMul, Int.reduceNeg, l_32, l_nat, l_c_lt, l_c_gt, l_c_eq, i_lt, i_eq, i_lt0, i_0lt, i_eq0, i_eq1, Int.reduceLT, Int.reduceEq, Int.reduceLE, Int.reduceNe, not_true_eq_false, not_false_eq_true, Nat.lt_irrefl, Int.lt_irrefl, eq_self, eq_self, Nat.reduceAdd, Nat.reduceMul, Nat.reduceSub, Nat.reduceDiv, Nat.reduceMod, Nat.reduceEqDiff, Nat.reduceLeDiff, Nat.reduceLT, Nat.zero_add, Nat.add_zero, Nat.zero_le, and_false, and_true, and_self, false_and, true_and, or_false, or_true, if_true, if_false, ite_true, ite_false, ↓reduceIte, Int.reduceToNat, Int.reduceAdd, Int.reduceSub, Int.reduceMul, Int.reduceNeg, hs_bump]) | split))
  all_goals first
    | (exfalso; omega)
    | exact hQ _
set_option maxHeartbeats 2000000 in
theorem t_137 {L : Nat} {xs : Nat → Int32} {d : Nat} {h : m_H} {w : Int64} {F : m_M} {Q : Option Value ⊕ Nat → m_H → Prop} {ow : Nat → Nat} {u p : Nat} (I : q_CI ow h F u p) {x : Int} (hQ : ∀ v : Int32, Q (.inl (some (.int v))) (m_hS h (w, F))) : m_W (p_P L xs) (d + 2) 137 k_137_0 [some (.ref 0), some (.int (Int32.ofInt x))] [] (m_hS h (w, F)) Q := by
  obtain ⟨⟨⟨s1, s2⟩, k0, r00, k1, l1, r04, k133, r133, k134, l134⟩, ⟨⟨f1, f2⟩, f6, ⟨n1, n2⟩, ⟨c1, c2⟩⟩, i3, r03, KU, i6⟩ := I
  have hX : m_X = 1000000000 := rfl
  have ku := CW_uk KU.2.2.1.1
  have up : m_R h u 0 = some p := KU.2.2.1.2.2.1
  have kp := PW_pk KU.2.2.1.2.1
  have un := KP_n KU
  have u1 := KU.1.1
  have p1 := KU.2.1.1
  have hb := bo_or u
  have X0 : CX h u (bo u) p F := KU.2.2.1
  have hV : q_x u (bo u) p F F := v_rf KU.2.2.2
  generalize ebo : bo u = b at X0 hV hb un
  have X1 := X0
  obtain ⟨W, P, up, ⟨dj1, dj2⟩, C, ⟨⟨nn1, nn2⟩, ⟨nn3, nn4⟩⟩, ⟨zz1, zz2, zz3⟩⟩ := X1
  have wb1 := CW_un W
  have wb2 := CW_bn W
  have wb3 := CW_X W
  have wb4 := CW_ub W
  have pb1 := PW_pn P
  have pb2 := PW_pX P
  have hr1 := hV.2.1.1
  have hj5 := hV.2.1.2.1
  obtain ⟨dr0, drk, dr5, dr6, dr7, dk1, dl1, dk2, dl2, dk3, dl3⟩ := CW_D W 0 (by omega)
  obtain ⟨qr, qk⟩ := CW_Q W 0 (by omega)
  have kk := CW_jk W
  obtain ⟨x, hx9, x0, x9⟩ : ∃ y9 : Int, Int32.ofInt x = Int32.ofInt y9 ∧ -2147483648 ≤ y9 ∧ y9 ≤ 2147483647 := i_any _
  rw [hx9]
  rw [k_137_0]
  (repeat' (first | (simp (disch := first | omega | (simp (disch := omega) only [i_lt0, i_tn, i_nn, m_cat_n, m_cat_i, m_cat_r, m_cat_z, m_cat_rv, m_cat_l, m_o_n, m_o_i, m_o_r, m_o_z, m_o_rv, m_o_f, hs_n, hs_k, hs_l, Nat.reduceLeDiff, not_false_eq_true, or_true, true_or, or_false, false_or, kk, k0, r00, k1, l1, r04, k133, r133, k134, l134, r03, ku, up, kp, CW_uk W, CW_u4 W, CW_u5 W, CW_u6 W, CW_dk W, CW_dl W, CW_qk W, CW_ql W, CW_jk W, CW_j0 W, CW_jk0 W, CW_jl0 W, CW_j1 W, CW_jk1 W, CW_jl1 W, CW_j2 W, CW_jk2 W, CW_jl2 W, CW_j3 W, CW_jk3 W, CW_jl3 W, CW_j4 W, CW_jk4 W, CW_jl4 W, PW_pk P, PW_p2 P, PW_p10 P, PW_ck P, PW_cl P, PW_ok P, PW_o0 P, PW_o1 P, PW_o3 P, PW_sk P, PW_sl P, PW_ak P, PW_bk P, PW_al P, dr0, drk, dr5, dr6, dr7, dk1, dl1, dk2, dl2, dk3, dl3, qr, qk]; first | done | omega) | exact Or.inl rfl | exact Or.inr rfl) only [w_aload_0, w_aloadz_0, w_aloadv_0, gf_707, m_rv_s, m_rv_n, gf_646, w_iload_1, m_cat_n, m_cat_i, m_cat_r, m_cat_z, m_cat_rv, m_cat_l, Nat.zero_le, Nat.reduceLeDiff, Nat.reduceAdd, cl_27, m_o_i, m_o_r, m_o_z, m_o_rv, m_C_inl, Option.toList_some, Option.toList_none, List.cons_append, List.nil_append, w_iret, k_27_0, k_27_22, tg_27_22, k_27_23, tg_27_23, w_if_lt, gf_260, w_len, w_slen, w_icmp_ge, w_iaload, w_script, w_goto, w_iconst, w_icmp_eq, w_if_eq, hs_n, hs_k, hs_l, hs_R, hs_I, hs_L, hs_setI, hs_setL, hs_cpy, kk, k0, r00, k1, l1, r04, k133, r133, k134, l134, r03, ku, up, kp, CW_uk W, CW_u4 W, CW_u5 W, CW_u6 W, CW_dk W, CW_dl W, CW_qk W, CW_ql W, CW_jk W, CW_j0 W, CW_jk0 W, CW_jl0 W, CW_j1 W, CW_jk1 W, CW_jl1 W, CW_j2 W, CW_jk2 W, CW_jl2 W, CW_j3 W, CW_jk3 W, CW_jl3 W, CW_j4 W, CW_jk4 W, CW_jl4 W, PW_pk P, PW_p2 P, PW_p10 P, PW_ck P, PW_cl P, PW_ok P, PW_o0 P, PW_o1 P, PW_o3 P, PW_sk P, PW_sl P, PW_ak P, PW_bk P, PW_al P, dr0, drk, dr5, dr6, dr7, dk1, dl1, dk2, dl2, dk3, dl3, qr, qk, up_up, up_sw, up_sa, up_eq, up_na, up_nk, cp_na, i_add, i_sub, i_mul, i_tn, i_nat, Int.reduceToNat, Int.reduceAdd, Int.reduceSub, Int.reduceMul, Int.reduceNeg, l_32, l_nat, l_c_lt, l_c_gt, l_c_eq, i_lt, i_eq, i_lt0, i_0lt, i_eq0, i_eq1, Int.reduceLT, Int.reduceEq, Int.reduceLE, Int.reduceNe, not_true_eq_false, not_false_eq_true, Nat.lt_irrefl, Int.lt_irrefl, eq_self, eq_self, Nat.reduceAdd, Nat.reduceMul, Nat.reduceSub, Nat.reduceDiv, Nat.reduceMod, Nat.reduceEqDiff, Nat.reduceLeDiff, Nat.reduceLT, Nat.zero_add, Nat.add_zero, Nat.zero_le, and_false, and_true, and_self, false_and, true_and, or_false, or_true, if_true, if_false, ite_true, ite_false, ↓reduceIte, Int.reduceToNat, Int.reduceAdd, Int.reduceSub, Int.reduceMul, Int.reduceNeg, hs_bump]) | split))
  all_goals first
    | (exfalso; omega)
    | exact hQ _
set_option maxHeartbeats 2000000 in
theorem t_113 {L : Nat} {xs : Nat → Int32} {d : Nat} {h : m_H} {w : Int64} {F : m_M} {Q : Option Value ⊕ Nat → m_H → Prop} {ow : Nat → Nat} {u p : Nat} (I : q_CI ow h F u p) {x : Int} (hQ : ∀ v : Int32, Q (.inl (some (.int v))) (m_hS h (w, F))) (hE : Q (.inr 0) (m_hS (m_bump h) (w, F))) : m_W (p_P L xs) (d + 2) 113 k_113_0 [some (.ref 0), some (.int (Int32.ofInt x))] [] (m_hS h (w, F)) Q := by
  obtain ⟨⟨⟨s1, s2⟩, k0, r00, k1, l1, r04, k133, r133, k134, l134⟩, ⟨⟨f1, f2⟩, f6, ⟨n1, n2⟩, ⟨c1, c2⟩⟩, i3, r03, KU, i6⟩ := I
  have hX : m_X = 1000000000 := rfl
  have ku := CW_uk KU.2.2.1.1
  have up : m_R h u 0 = some p := KU.2.2.1.2.2.1
  have kp := PW_pk KU.2.2.1.2.1
  have un := KP_n KU
  have u1 := KU.1.1
  have p1 := KU.2.1.1
  have hb := bo_or u
  have X0 : CX h u (bo u) p F := KU.2.2.1
  have hV : q_x u (bo u) p F F := v_rf KU.2.2.2
  generalize ebo : bo u = b at X0 hV hb un
  have X1 := X0
  obtain ⟨W, P, up, ⟨dj1, dj2⟩, C, ⟨⟨nn1, nn2⟩, ⟨nn3, nn4⟩⟩, ⟨zz1, zz2, zz3⟩⟩ := X1
  have wb1 := CW_un W
  have wb2 := CW_bn W
  have wb3 := CW_X W
  have wb4 := CW_ub W
  have pb1 := PW_pn P
  have pb2 := PW_pX P
  have hr1 := hV.2.1.1
  have hj5 := hV.2.1.2.1
  obtain ⟨dr0, drk, dr5, dr6, dr7, dk1, dl1, dk2, dl2, dk3, dl3⟩ := CW_D W 0 (by omega)
  obtain ⟨qr, qk⟩ := CW_Q W 0 (by omega)
  have kk := CW_jk W
  rw [k_113_0]
  (repeat' (first | (simp (disch := first | omega | (simp (disch := omega) only [i_lt0, i_tn, i_nn, m_cat_n, m_cat_i, m_cat_r, m_cat_z, m_cat_rv, m_cat_l, m_o_n, m_o_i, m_o_r, m_o_z, m_o_rv, m_o_f, hs_n, hs_k, hs_l, Nat.reduceLeDiff, not_false_eq_true, or_true, true_or, or_false, false_or, kk, k0, r00, k1, l1, r04, k133, r133, k134, l134, r03, ku, up, kp, CW_uk W, CW_u4 W, CW_u5 W, CW_u6 W, CW_dk W, CW_dl W, CW_qk W, CW_ql W, CW_jk W, CW_j0 W, CW_jk0 W, CW_jl0 W, CW_j1 W, CW_jk1 W, CW_jl1 W, CW_j2 W, CW_jk2 W, CW_jl2 W, CW_j3 W, CW_jk3 W, CW_jl3 W, CW_j4 W, CW_jk4 W, CW_jl4 W, PW_pk P, PW_p2 P, PW_p10 P, PW_ck P, PW_cl P, PW_ok P, PW_o0 P, PW_o1 P, PW_o3 P, PW_sk P, PW_sl P, PW_ak P, PW_bk P, PW_al P, dr0, drk, dr5, dr6, dr7, dk1, dl1, dk2, dl2, dk3, dl3, qr, qk]; first | done | omega) | exact Or.inl rfl | exact Or.inr rfl) only [w_aload_0, w_aloadz_0, w_aloadv_0, gf_707, m_rv_s, m_rv_n, gf_640, w_iload_1, m_cat_n, m_cat_i, m_cat_r, m_cat_z, m_cat_rv, m_cat_l, Nat.zero_le, Nat.reduceLeDiff, Nat.reduceAdd, m_o_i, m_o_r, m_o_z, m_o_rv, m_C_inl, Option.toList_some, Option.toList_none, List.cons_append, List.nil_append, gf_65, w_iret, w_icmp_eq, w_if_eq, hs_n, hs_k, hs_l, hs_R, hs_I, hs_L, hs_setI, hs_setL, hs_cpy, kk, k0, r00, k1, l1, r04, k133, r133, k134, l134, r03, ku, up, kp, CW_uk W, CW_u4 W, CW_u5 W, CW_u6 W, CW_dk W, CW_dl W, CW_qk W, CW_ql W, CW_jk W, CW_j0 W, CW_jk0 W, CW_jl0 W, CW_j1 W, CW_jk1 W, CW_jl1 W, CW_j2 W, CW_jk2 W, CW_jl2 W, CW_j3 W, CW_jk3 W, CW_jl3 W, CW_j4 W, CW_jk4 W, CW_jl4 W, PW_pk P, PW_p2 P, PW_p10 P, PW_ck P, PW_cl P, PW_ok P, PW_o0 P, PW_o1 P, PW_o3 P, PW_sk P, PW_sl P, PW_ak P, PW_bk P, PW_al P, dr0, drk, dr5, dr6, dr7, dk1, dl1, dk2, dl2, dk3, dl3, qr, qk, up_up, up_sw, up_sa, up_eq, up_na, up_nk, cp_na, i_add, i_sub, i_mul, i_tn, i_nat, Int.reduceToNat, Int.reduceAdd, Int.reduceSub, Int.reduceMul, Int.reduceNeg, l_32, l_nat, l_c_lt, l_c_gt, l_c_eq, i_lt, i_eq, i_lt0, i_0lt, i_eq0, i_eq1, Int.reduceLT, Int.reduceEq, Int.reduceLE, Int.reduceNe, not_true_eq_false, not_false_eq_true, Nat.lt_irrefl, Int.lt_irrefl, eq_self, eq_self, Nat.reduceAdd, Nat.reduceMul, Nat.reduceSub, Nat.reduceDiv, Nat.reduceMod, Nat.reduceEqDiff, Nat.reduceLeDiff, Nat.reduceLT, Nat.zero_add, Nat.add_zero, Nat.zero_le, and_false, and_true, and_self, false_and, true_and, or_false, or_true, if_true, if_false, ite_true, ite_false, ↓reduceIte, Int.reduceToNat, Int.reduceAdd, Int.reduceSub, Int.reduceMul, Int.reduceNeg, hs_bump]) | split | (simp (disch := first | omega | (simp (disch := omega) only [i_lt0, i_tn, i_nn, m_cat_n, m_cat_i, m_cat_r, m_cat_z, m_cat_rv, m_cat_l, m_o_n, m_o_i, m_o_r, m_o_z, m_o_rv, m_o_f, hs_n, hs_k, hs_l, Nat.reduceLeDiff, not_false_eq_true, or_true, true_or, or_false, false_or, kk, k0, r00, k1, l1, r04, k133, r133, k134, l134, r03, ku, up, kp, CW_uk W, CW_u4 W, CW_u5 W, CW_u6 W, CW_dk W, CW_dl W, CW_qk W, CW_ql W, CW_jk W, CW_j0 W, CW_jk0 W, CW_jl0 W, CW_j1 W, CW_jk1 W, CW_jl1 W, CW_j2 W, CW_jk2 W, CW_jl2 W, CW_j3 W, CW_jk3 W, CW_jl3 W, CW_j4 W, CW_jk4 W, CW_jl4 W, PW_pk P, PW_p2 P, PW_p10 P, PW_ck P, PW_cl P, PW_ok P, PW_o0 P, PW_o1 P, PW_o3 P, PW_sk P, PW_sl P, PW_ak P, PW_bk P, PW_al P, dr0, drk, dr5, dr6, dr7, dk1, dl1, dk2, dl2, dk3, dl3, qr, qk]; first | done | omega) | exact Or.inl rfl | exact Or.inr rfl) only [cl_29, m_cat_n, m_cat_i, m_cat_r, m_cat_z, m_cat_rv, m_cat_l, Nat.zero_le, Nat.reduceLeDiff, Nat.reduceAdd, m_o_i, m_o_r, m_o_z, m_o_rv, hs_n, hs_k, kk, k0, r00, k1, l1, r04, k133, r133, k134, l134, r03, ku, up, kp, CW_uk W, CW_u4 W, CW_u5 W, CW_u6 W, CW_dk W, CW_dl W, CW_qk W, CW_ql W, CW_jk W, CW_j0 W, CW_jk0 W, CW_jl0 W, CW_j1 W, CW_jk1 W, CW_jl1 W, CW_j2 W, CW_jk2 W, CW_jl2 W, CW_j3 W, CW_jk3 W, CW_jl3 W, CW_j4 W, CW_jk4 W, CW_jl4 W, PW_pk P, PW_p2 P, PW_p10 P, PW_ck P, PW_cl P, PW_ok P, PW_o0 P, PW_o1 P, PW_o3 P, PW_sk P, PW_sl P, PW_ak P, PW_bk P, PW_al P, dr0, drk, dr5, dr6, dr7, dk1, dl1, dk2, dl2, dk3, dl3, qr, qk]; refine T_29 X0 hV ?_ ?_) | (intro k kk kn kx) | (simp only [mc_113]; exact hE)))
  all_goals first
    | (exfalso; omega)
    | exact hQ _
    | exact hE
set_option maxHeartbeats 2000000 in
theorem t_114 {L : Nat} {xs : Nat → Int32} {d : Nat} {h : m_H} {w : Int64} {F : m_M} {Q : Option Value ⊕ Nat → m_H → Prop} {ow : Nat → Nat} {u p : Nat} (I : q_CI ow h F u p) {x : Int} (hQ : ∀ v : Int32, Q (.inl (some (.int v))) (m_hS h (w, F))) (hE : Q (.inr 0) (m_hS (m_bump h) (w, F))) : m_W (p_P L xs) (d + 2) 114 k_114_0 [some (.ref 0), some (.int (Int32.ofInt x))] [] (m_hS h (w, F)) Q := by
  obtain ⟨⟨⟨s1, s2⟩, k0, r00, k1, l1, r04, k133, r133, k134, l134⟩, ⟨⟨f1, f2⟩, f6, ⟨n1, n2⟩, ⟨c1, c2⟩⟩, i3, r03, KU, i6⟩ := I
  have hX : m_X = 1000000000 := rfl
  have ku := CW_uk KU.2.2.1.1
  have up : m_R h u 0 = some p := KU.2.2.1.2.2.1
  have kp := PW_pk KU.2.2.1.2.1
  have un := KP_n KU
  have u1 := KU.1.1
  have p1 := KU.2.1.1
  have hb := bo_or u
  have X0 : CX h u (bo u) p F := KU.2.2.1
  have hV : q_x u (bo u) p F F := v_rf KU.2.2.2
  generalize ebo : bo u = b at X0 hV hb un
  have X1 := X0
  obtain ⟨W, P, up, ⟨dj1, dj2⟩, C, ⟨⟨nn1, nn2⟩, ⟨nn3, nn4⟩⟩, ⟨zz1, zz2, zz3⟩⟩ := X1
  have wb1 := CW_un W
  have wb2 := CW_bn W
  have wb3 := CW_X W
  have wb4 := CW_ub W
  have pb1 := PW_pn P
  have pb2 := PW_pX P
  have hr1 := hV.2.1.1
  have hj5 := hV.2.1.2.1
  obtain ⟨dr0, drk, dr5, dr6, dr7, dk1, dl1, dk2, dl2, dk3, dl3⟩ := CW_D W 0 (by omega)
  obtain ⟨qr, qk⟩ := CW_Q W 0 (by omega)
  have kk := CW_jk W
  rw [k_114_0]
  (repeat' (first | (simp (disch := first | omega | (simp (disch := omega) only [i_lt0, i_tn, i_nn, m_cat_n, m_cat_i, m_cat_r, m_cat_z, m_cat_rv, m_cat_l, m_o_n, m_o_i, m_o_r, m_o_z, m_o_rv, m_o_f, hs_n, hs_k, hs_l, Nat.reduceLeDiff, not_false_eq_true, or_true, true_or, or_false, false_or, kk, k0, r00, k1, l1, r04, k133, r133, k134, l134, r03, ku, up, kp, CW_uk W, CW_u4 W, CW_u5 W, CW_u6 W, CW_dk W, CW_dl W, CW_qk W, CW_ql W, CW_jk W, CW_j0 W, CW_jk0 W, CW_jl0 W, CW_j1 W, CW_jk1 W, CW_jl1 W, CW_j2 W, CW_jk2 W, CW_jl2 W, CW_j3 W, CW_jk3 W, CW_jl3 W, CW_j4 W, CW_jk4 W, CW_jl4 W, PW_pk P, PW_p2 P, PW_p10 P, PW_ck P, PW_cl P, PW_ok P, PW_o0 P, PW_o1 P, PW_o3 P, PW_sk P, PW_sl P, PW_ak P, PW_bk P, PW_al P, dr0, drk, dr5, dr6, dr7, dk1, dl1, dk2, dl2, dk3, dl3, qr, qk]; first | done | omega) | exact Or.inl rfl | exact Or.inr rfl) only [w_aload_0, w_aloadz_0, w_aloadv_0, gf_707, m_rv_s, m_rv_n, gf_640, w_iload_1, m_cat_n, m_cat_i, m_cat_r, m_cat_z, m_cat_rv, m_cat_l, Nat.zero_le, Nat.reduceLeDiff, Nat.reduceAdd, m_o_i, m_o_r, m_o_z, m_o_rv, m_C_inl, Option.toList_some, Option.toList_none, List.cons_append, List.nil_append, gf_66, w_iret, w_icmp_eq, w_if_eq, hs_n, hs_k, hs_l, hs_R, hs_I, hs_L, hs_setI, hs_setL, hs_cpy, kk, k0, r00, k1, l1, r04, k133, r133, k134, l134, r03, ku, up, kp, CW_uk W, CW_u4 W, CW_u5 W, CW_u6 W, CW_dk W, CW_dl W, CW_qk W, CW_ql W, CW_jk W, CW_j0 W, CW_jk0 W, CW_jl0 W, CW_j1 W, CW_jk1 W, CW_jl1 W, CW_j2 W, CW_jk2 W, CW_jl2 W, CW_j3 W, CW_jk3 W, CW_jl3 W, CW_j4 W, CW_jk4 W, CW_jl4 W, PW_pk P, PW_p2 P, PW_p10 P, PW_ck P, PW_cl P, PW_ok P, PW_o0 P, PW_o1 P, PW_o3 P, PW_sk P, PW_sl P, PW_ak P, PW_bk P, PW_al P, dr0, drk, dr5, dr6, dr7, dk1, dl1, dk2, dl2, dk3, dl3, qr, qk, up_up, up_sw, up_sa, up_eq, up_na, up_nk, cp_na, i_add, i_sub, i_mul, i_tn, i_nat, Int.reduceToNat, Int.reduceAdd, Int.reduceSub, Int.reduceMul, Int.reduceNeg, l_32, l_nat, l_c_lt, l_c_gt, l_c_eq, i_lt, i_eq, i_lt0, i_0lt, i_eq0, i_eq1, Int.reduceLT, Int.reduceEq, Int.reduceLE, Int.reduceNe, not_true_eq_false, not_false_eq_true, Nat.lt_irrefl, Int.lt_irrefl, eq_self, eq_self, Nat.reduceAdd, Nat.reduceMul, Nat.reduceSub, Nat.reduceDiv, Nat.reduceMod, Nat.reduceEqDiff, Nat.reduceLeDiff, Nat.reduceLT, Nat.zero_add, Nat.add_zero, Nat.zero_le, and_false, and_true, and_self, false_and, true_and, or_false, or_true, if_true, if_false, ite_true, ite_false, ↓reduceIte, Int.reduceToNat, Int.reduceAdd, Int.reduceSub, Int.reduceMul, Int.reduceNeg, hs_bump]) | split | (simp (disch := first | omega | (simp (disch := omega) only [i_lt0, i_tn, i_nn, m_cat_n, m_cat_i, m_cat_r, m_cat_z, m_cat_rv, m_cat_l, m_o_n, m_o_i, m_o_r, m_o_z, m_o_rv, m_o_f, hs_n, hs_k, hs_l, Nat.reduceLeDiff, not_false_eq_true, or_true, true_or, or_false, false_or, kk, k0, r00, k1, l1, r04, k133, r133, k134, l134, r03, ku, up, kp, CW_uk W, CW_u4 W, CW_u5 W, CW_u6 W, CW_dk W, CW_dl W, CW_qk W, CW_ql W, CW_jk W, CW_j0 W, CW_jk0 W, CW_jl0 W, CW_j1 W, CW_jk1 W, CW_jl1 W, CW_j2 W, CW_jk2 W, CW_jl2 W, CW_j3 W, CW_jk3 W, CW_jl3 W, CW_j4 W, CW_jk4 W, CW_jl4 W, PW_pk P, PW_p2 P, PW_p10 P, PW_ck P, PW_cl P, PW_ok P, PW_o0 P, PW_o1 P, PW_o3 P, PW_sk P, PW_sl P, PW_ak P, PW_bk P, PW_al P, dr0, drk, dr5, dr6, dr7, dk1, dl1, dk2, dl2, dk3, dl3, qr, qk]; first | done | omega) | exact Or.inl rfl | exact Or.inr rfl) only [cl_29, m_cat_n, m_cat_i, m_cat_r, m_cat_z, m_cat_rv, m_cat_l, Nat.zero_le, Nat.reduceLeDiff, Nat.reduceAdd, m_o_i, m_o_r, m_o_z, m_o_rv, hs_n, hs_k, kk, k0, r00, k1, l1, r04, k133, r133, k134, l134, r03, ku, up, kp, CW_uk W, CW_u4 W, CW_u5 W, CW_u6 W, CW_dk W, CW_dl W, CW_qk W, CW_ql W, CW_jk W, CW_j0 W, CW_jk0 W, CW_jl0 W, CW_j1 W, CW_jk1 W, CW_jl1 W, CW_j2 W, CW_jk2 W, CW_jl2 W, CW_j3 W, CW_jk3 W, CW_jl3 W, CW_j4 W, CW_jk4 W, CW_jl4 W, PW_pk P, PW_p2 P, PW_p10 P, PW_ck P, PW_cl P, PW_ok P, PW_o0 P, PW_o1 P, PW_o3 P, PW_sk P, PW_sl P, PW_ak P, PW_bk P, PW_al P, dr0, drk, dr5, dr6, dr7, dk1, dl1, dk2, dl2, dk3, dl3, qr, qk]; refine T_29 X0 hV ?_ ?_) | (intro k kk kn kx) | (simp only [mc_114]; exact hE)))
  all_goals first
    | (exfalso; omega)
    | exact hQ _
    | exact hE
set_option maxHeartbeats 2000000 in
theorem t_123 {L : Nat} {xs : Nat → Int32} {d : Nat} {h : m_H} {w : Int64} {F : m_M} {Q : Option Value ⊕ Nat → m_H → Prop} {ow : Nat → Nat} {u p : Nat} (I : q_CI ow h F u p) {x : Int} (hQ : ∀ v : Int32, Q (.inl (some (.int v))) (m_hS h (w, F))) (hE : Q (.inr 0) (m_hS (m_bump h) (w, F))) : m_W (p_P L xs) (d + 2) 123 k_123_0 [some (.ref 0), some (.int (Int32.ofInt x))] [] (m_hS h (w, F)) Q := by
  obtain ⟨⟨⟨s1, s2⟩, k0, r00, k1, l1, r04, k133, r133, k134, l134⟩, ⟨⟨f1, f2⟩, f6, ⟨n1, n2⟩, ⟨c1, c2⟩⟩, i3, r03, KU, i6⟩ := I
  have hX : m_X = 1000000000 := rfl
  have ku := CW_uk KU.2.2.1.1
  have up : m_R h u 0 = some p := KU.2.2.1.2.2.1
  have kp := PW_pk KU.2.2.1.2.1
  have un := KP_n KU
  have u1 := KU.1.1
  have p1 := KU.2.1.1
  have hb := bo_or u
  have X0 : CX h u (bo u) p F := KU.2.2.1
  have hV : q_x u (bo u) p F F := v_rf KU.2.2.2
  generalize ebo : bo u = b at X0 hV hb un
  have X1 := X0
  obtain ⟨W, P, up, ⟨dj1, dj2⟩, C, ⟨⟨nn1, nn2⟩, ⟨nn3, nn4⟩⟩, ⟨zz1, zz2, zz3⟩⟩ := X1
  have wb1 := CW_un W
  have wb2 := CW_bn W
  have wb3 := CW_X W
  have wb4 := CW_ub W
  have pb1 := PW_pn P
  have pb2 := PW_pX P
  have hr1 := hV.2.1.1
  have hj5 := hV.2.1.2.1
  obtain ⟨dr0, drk, dr5, dr6, dr7, dk1, dl1, dk2, dl2, dk3, dl3⟩ := CW_D W 0 (by omega)
  obtain ⟨qr, qk⟩ := CW_Q W 0 (by omega)
  have kk := CW_jk W
  rw [k_123_0]
  (repeat' (first | (simp (disch := first | omega | (simp (disch := omega) only [i_lt0, i_tn, i_nn, m_cat_n, m_cat_i, m_cat_r, m_cat_z, m_cat_rv, m_cat_l, m_o_n, m_o_i, m_o_r, m_o_z, m_o_rv, m_o_f, hs_n, hs_k, hs_l, Nat.reduceLeDiff, not_false_eq_true, or_true, true_or, or_false, false_or, kk, k0, r00, k1, l1, r04, k133, r133, k134, l134, r03, ku, up, kp, CW_uk W, CW_u4 W, CW_u5 W, CW_u6 W, CW_dk W, CW_dl W, CW_qk W, CW_ql W, CW_jk W, CW_j0 W, CW_jk0 W, CW_jl0 W, CW_j1 W, CW_jk1 W, CW_jl1 W, CW_j2 W, CW_jk2 W, CW_jl2 W, CW_j3 W, CW_jk3 W, CW_jl3 W, CW_j4 W, CW_jk4 W, CW_jl4 W, PW_pk P, PW_p2 P, PW_p10 P, PW_ck P, PW_cl P, PW_ok P, PW_o0 P, PW_o1 P, PW_o3 P, PW_sk P, PW_sl P, PW_ak P, PW_bk P, PW_al P, dr0, drk, dr5, dr6, dr7, dk1, dl1, dk2, dl2, dk3, dl3, qr, qk]; first | done | omega) | exact Or.inl rfl | exact Or.inr rfl) only [w_aload_0, w_aloadz_0, w_aloadv_0, gf_707, m_rv_s, m_rv_n, w_iload_1, m_cat_n, m_cat_i, m_cat_r, m_cat_z, m_cat_rv, m_cat_l, Nat.zero_le, Nat.reduceLeDiff, Nat.reduceAdd, m_o_i, m_o_r, m_o_z, m_o_rv, m_C_inl, Option.toList_some, Option.toList_none, List.cons_append, List.nil_append, gf_129, w_iret, w_icmp_eq, w_if_eq, hs_n, hs_k, hs_l, hs_R, hs_I, hs_L, hs_setI, hs_setL, hs_cpy, kk, k0, r00, k1, l1, r04, k133, r133, k134, l134, r03, ku, up, kp, CW_uk W, CW_u4 W, CW_u5 W, CW_u6 W, CW_dk W, CW_dl W, CW_qk W, CW_ql W, CW_jk W, CW_j0 W, CW_jk0 W, CW_jl0 W, CW_j1 W, CW_jk1 W, CW_jl1 W, CW_j2 W, CW_jk2 W, CW_jl2 W, CW_j3 W, CW_jk3 W, CW_jl3 W, CW_j4 W, CW_jk4 W, CW_jl4 W, PW_pk P, PW_p2 P, PW_p10 P, PW_ck P, PW_cl P, PW_ok P, PW_o0 P, PW_o1 P, PW_o3 P, PW_sk P, PW_sl P, PW_ak P, PW_bk P, PW_al P, dr0, drk, dr5, dr6, dr7, dk1, dl1, dk2, dl2, dk3, dl3, qr, qk, up_up, up_sw, up_sa, up_eq, up_na, up_nk, cp_na, i_add, i_sub, i_mul, i_tn, i_nat, Int.reduceToNat, Int.reduceAdd, Int.reduceSub, Int.reduceMul, Int.reduceNeg, l_32, l_nat, l_c_lt, l_c_gt, l_c_eq, i_lt, i_eq, i_lt0, i_0lt, i_eq0, i_eq1, Int.reduceLT, Int.reduceEq, Int.reduceLE, Int.reduceNe, not_true_eq_false, not_false_eq_true, Nat.lt_irrefl, Int.lt_irrefl, eq_self, eq_self, Nat.reduceAdd, Nat.reduceMul, Nat.reduceSub, Nat.reduceDiv, Nat.reduceMod, Nat.reduceEqDiff, Nat.reduceLeDiff, Nat.reduceLT, Nat.zero_add, Nat.add_zero, Nat.zero_le, and_false, and_true, and_self, false_and, true_and, or_false, or_true, if_true, if_false, ite_true, ite_false, ↓reduceIte, Int.reduceToNat, Int.reduceAdd, Int.reduceSub, Int.reduceMul, Int.reduceNeg, hs_bump]) | split | (simp (disch := first | omega | (simp (disch := omega) only [i_lt0, i_tn, i_nn, m_cat_n, m_cat_i, m_cat_r, m_cat_z, m_cat_rv, m_cat_l, m_o_n, m_o_i, m_o_r, m_o_z, m_o_rv, m_o_f, hs_n, hs_k, hs_l, Nat.reduceLeDiff, not_false_eq_true, or_true, true_or, or_false, false_or, kk, k0, r00, k1, l1, r04, k133, r133, k134, l134, r03, ku, up, kp, CW_uk W, CW_u4 W, CW_u5 W, CW_u6 W, CW_dk W, CW_dl W, CW_qk W, CW_ql W, CW_jk W, CW_j0 W, CW_jk0 W, CW_jl0 W, CW_j1 W, CW_jk1 W, CW_jl1 W, CW_j2 W, CW_jk2 W, CW_jl2 W, CW_j3 W, CW_jk3 W, CW_jl3 W, CW_j4 W, CW_jk4 W, CW_jl4 W, PW_pk P, PW_p2 P, PW_p10 P, PW_ck P, PW_cl P, PW_ok P, PW_o0 P, PW_o1 P, PW_o3 P, PW_sk P, PW_sl P, PW_ak P, PW_bk P, PW_al P, dr0, drk, dr5, dr6, dr7, dk1, dl1, dk2, dl2, dk3, dl3, qr, qk]; first | done | omega) | exact Or.inl rfl | exact Or.inr rfl) only [cl_79, m_cat_n, m_cat_i, m_cat_r, m_cat_z, m_cat_rv, m_cat_l, Nat.zero_le, Nat.reduceLeDiff, Nat.reduceAdd, m_o_i, m_o_r, m_o_z, m_o_rv, hs_n, hs_k, kk, k0, r00, k1, l1, r04, k133, r133, k134, l134, r03, ku, up, kp, CW_uk W, CW_u4 W, CW_u5 W, CW_u6 W, CW_dk W, CW_dl W, CW_qk W, CW_ql W, CW_jk W, CW_j0 W, CW_jk0 W, CW_jl0 W, CW_j1 W, CW_jk1 W, CW_jl1 W, CW_j2 W, CW_jk2 W, CW_jl2 W, CW_j3 W, CW_jk3 W, CW_jl3 W, CW_j4 W, CW_jk4 W, CW_jl4 W, PW_pk P, PW_p2 P, PW_p10 P, PW_ck P, PW_cl P, PW_ok P, PW_o0 P, PW_o1 P, PW_o3 P, PW_sk P, PW_sl P, PW_ak P, PW_bk P, PW_al P, dr0, drk, dr5, dr6, dr7, dk1, dl1, dk2, dl2, dk3, dl3, qr, qk]; refine T_79 X0 hV ?_ ?_) | (intro j hj hjn; obtain ⟨dr0, drk, dr5, dr6, dr7, dk1, dl1, dk2, dl2, dk3, dl3⟩ := CW_D W j hj; have hdd := x_dr hV hj) | (simp only [mc_123]; exact hE)))
  all_goals first
    | (exfalso; omega)
    | exact hQ _
    | exact hE
set_option maxHeartbeats 2000000 in
theorem t_124 {L : Nat} {xs : Nat → Int32} {d : Nat} {h : m_H} {w : Int64} {F : m_M} {Q : Option Value ⊕ Nat → m_H → Prop} {ow : Nat → Nat} {u p : Nat} (I : q_CI ow h F u p) {x : Int} (hQ : ∀ v : Int32, Q (.inl (some (.int v))) (m_hS h (w, F))) (hE : Q (.inr 0) (m_hS (m_bump h) (w, F))) : m_W (p_P L xs) (d + 2) 124 k_124_0 [some (.ref 0), some (.int (Int32.ofInt x)), none] [] (m_hS h (w, F)) Q := by
  obtain ⟨⟨⟨s1, s2⟩, k0, r00, k1, l1, r04, k133, r133, k134, l134⟩, ⟨⟨f1, f2⟩, f6, ⟨n1, n2⟩, ⟨c1, c2⟩⟩, i3, r03, KU, i6⟩ := I
  have hX : m_X = 1000000000 := rfl
  have ku := CW_uk KU.2.2.1.1
  have up : m_R h u 0 = some p := KU.2.2.1.2.2.1
  have kp := PW_pk KU.2.2.1.2.1
  have un := KP_n KU
  have u1 := KU.1.1
  have p1 := KU.2.1.1
  have hb := bo_or u
  have X0 : CX h u (bo u) p F := KU.2.2.1
  have hV : q_x u (bo u) p F F := v_rf KU.2.2.2
  generalize ebo : bo u = b at X0 hV hb un
  have X1 := X0
  obtain ⟨W, P, up, ⟨dj1, dj2⟩, C, ⟨⟨nn1, nn2⟩, ⟨nn3, nn4⟩⟩, ⟨zz1, zz2, zz3⟩⟩ := X1
  have wb1 := CW_un W
  have wb2 := CW_bn W
  have wb3 := CW_X W
  have wb4 := CW_ub W
  have pb1 := PW_pn P
  have pb2 := PW_pX P
  have hr1 := hV.2.1.1
  have hj5 := hV.2.1.2.1
  obtain ⟨dr0, drk, dr5, dr6, dr7, dk1, dl1, dk2, dl2, dk3, dl3⟩ := CW_D W 0 (by omega)
  obtain ⟨qr, qk⟩ := CW_Q W 0 (by omega)
  have kk := CW_jk W
  rw [k_124_0]
  (repeat' (first | (simp (disch := first | omega | (simp (disch := omega) only [i_lt0, i_tn, i_nn, m_cat_n, m_cat_i, m_cat_r, m_cat_z, m_cat_rv, m_cat_l, m_o_n, m_o_i, m_o_r, m_o_z, m_o_rv, m_o_f, hs_n, hs_k, hs_l, Nat.reduceLeDiff, not_false_eq_true, or_true, true_or, or_false, false_or, kk, k0, r00, k1, l1, r04, k133, r133, k134, l134, r03, ku, up, kp, CW_uk W, CW_u4 W, CW_u5 W, CW_u6 W, CW_dk W, CW_dl W, CW_qk W, CW_ql W, CW_jk W, CW_j0 W, CW_jk0 W, CW_jl0 W, CW_j1 W, CW_jk1 W, CW_jl1 W, CW_j2 W, CW_jk2 W, CW_jl2 W, CW_j3 W, CW_jk3 W, CW_jl3 W, CW_j4 W, CW_jk4 W, CW_jl4 W, PW_pk P, PW_p2 P, PW_p10 P, PW_ck P, PW_cl P, PW_ok P, PW_o0 P, PW_o1 P, PW_o3 P, PW_sk P, PW_sl P, PW_ak P, PW_bk P, PW_al P, dr0, drk, dr5, dr6, dr7, dk1, dl1, dk2, dl2, dk3, dl3, qr, qk]; first | done | omega) | exact Or.inl rfl | exact Or.inr rfl) only [w_aload_0, w_aloadz_0, w_aloadv_0, gf_707, m_rv_s, m_rv_n, w_iload_1, m_cat_n, m_cat_i, m_cat_r, m_cat_z, m_cat_rv, m_cat_l, Nat.zero_le, Nat.reduceLeDiff, Nat.reduceAdd, m_o_i, m_o_r, m_o_z, m_o_rv, m_C_inl, Option.toList_some, Option.toList_none, List.cons_append, List.nil_append, w_astore_2, w_astorez_2, w_astorev_2, m_o_n, m_o_f, w_aload_2, w_aloadz_2, w_aloadv_2, gf_129, w_iconst, w_icmp_ne, gf_130, w_goto, tg_124_24, tg_124_25, w_icmp_eq, w_if_eq, hs_n, hs_k, hs_l, hs_R, hs_I, hs_L, hs_setI, hs_setL, hs_cpy, kk, k0, r00, k1, l1, r04, k133, r133, k134, l134, r03, ku, up, kp, CW_uk W, CW_u4 W, CW_u5 W, CW_u6 W, CW_dk W, CW_dl W, CW_qk W, CW_ql W, CW_jk W, CW_j0 W, CW_jk0 W, CW_jl0 W, CW_j1 W, CW_jk1 W, CW_jl1 W, CW_j2 W, CW_jk2 W, CW_jl2 W, CW_j3 W, CW_jk3 W, CW_jl3 W, CW_j4 W, CW_jk4 W, CW_jl4 W, PW_pk P, PW_p2 P, PW_p10 P, PW_ck P, PW_cl P, PW_ok P, PW_o0 P, PW_o1 P, PW_o3 P, PW_sk P, PW_sl P, PW_ak P, PW_bk P, PW_al P, dr0, drk, dr5, dr6, dr7, dk1, dl1, dk2, dl2, dk3, dl3, qr, qk, up_up, up_sw, up_sa, up_eq, up_na, up_nk, cp_na, i_add, i_sub, i_mul, i_tn, i_nat, Int.reduceToNat, Int.reduceAdd, Int.reduceSub, Int.reduceMul, Int.reduceNeg, l_32, l_nat, l_c_lt, l_c_gt, l_c_eq, i_lt, i_eq, i_lt0, i_0lt, i_eq0, i_eq1, Int.reduceLT, Int.reduceEq, Int.reduceLE, Int.reduceNe, not_true_eq_false, not_false_eq_true, Nat.lt_irrefl, Int.lt_irrefl, eq_self, eq_self, Nat.reduceAdd, Nat.reduceMul, Nat.reduceSub, Nat.reduceDiv, Nat.reduceMod, Nat.reduceEqDiff, Nat.reduceLeDiff, Nat.reduceLT, Nat.zero_add, Nat.add_zero, Nat.zero_le, and_false, and_true, and_self, false_and, true_and, or_false, or_true, if_true, if_false, ite_true, ite_false, ↓reduceIte, Int.reduceToNat, Int.reduceAdd, Int.reduceSub, Int.reduceMul, Int.reduceNeg, hs_bump]) | split | (simp (disch := first | omega | (simp (disch := omega) only [i_lt0, i_tn, i_nn, m_cat_n, m_cat_i, m_cat_r, m_cat_z, m_cat_rv, m_cat_l, m_o_n, m_o_i, m_o_r, m_o_z, m_o_rv, m_o_f, hs_n, hs_k, hs_l, Nat.reduceLeDiff, not_false_eq_true, or_true, true_or, or_false, false_or, kk, k0, r00, k1, l1, r04, k133, r133, k134, l134, r03, ku, up, kp, CW_uk W, CW_u4 W, CW_u5 W, CW_u6 W, CW_dk W, CW_dl W, CW_qk W, CW_ql W, CW_jk W, CW_j0 W, CW_jk0 W, CW_jl0 W, CW_j1 W, CW_jk1 W, CW_jl1 W, CW_j2 W, CW_jk2 W, CW_jl2 W, CW_j3 W, CW_jk3 W, CW_jl3 W, CW_j4 W, CW_jk4 W, CW_jl4 W, PW_pk P, PW_p2 P, PW_p10 P, PW_ck P, PW_cl P, PW_ok P, PW_o0 P, PW_o1 P, PW_o3 P, PW_sk P, PW_sl P, PW_ak P, PW_bk P, PW_al P, dr0, drk, dr5, dr6, dr7, dk1, dl1, dk2, dl2, dk3, dl3, qr, qk]; first | done | omega) | exact Or.inl rfl | exact Or.inr rfl) only [k_124_24, w_iconst, tg_124_24, tg_124_25, m_C_inl, Option.toList_some, Option.toList_none, List.cons_append, List.nil_append, w_icmp_eq, w_if_eq, hs_n, hs_k, hs_l, hs_R, hs_I, hs_L, hs_setI, hs_setL, hs_cpy, kk, k0, r00, k1, l1, r04, k133, r133, k134, l134, r03, ku, up, kp, CW_uk W, CW_u4 W, CW_u5 W, CW_u6 W, CW_dk W, CW_dl W, CW_qk W, CW_ql W, CW_jk W, CW_j0 W, CW_jk0 W, CW_jl0 W, CW_j1 W, CW_jk1 W, CW_jl1 W, CW_j2 W, CW_jk2 W, CW_jl2 W, CW_j3 W, CW_jk3 W, CW_jl3 W, CW_j4 W, CW_jk4 W, CW_jl4 W, PW_pk P, PW_p2 P, PW_p10 P, PW_ck P, PW_cl P, PW_ok P, PW_o0 P, PW_o1 P, PW_o3 P, PW_sk P, PW_sl P, PW_ak P, PW_bk P, PW_al P, dr0, drk, dr5, dr6, dr7, dk1, dl1, dk2, dl2, dk3, dl3, qr, qk, up_up, up_sw, up_sa, up_eq, up_na, up_nk, cp_na, i_add, i_sub, i_mul, i_tn, i_nat, Int.reduceToNat, Int.reduceAdd, Int.reduceSub, Int.reduceMul, Int.reduceNeg, l_32, l_nat, l_c_lt, l_c_gt, l_c_eq, i_lt, i_eq, i_lt0, i_0lt, i_eq0, i_eq1, Int.reduceLT, Int.reduceEq, Int.reduceLE, Int.reduceNe, not_true_eq_false, not_false_eq_true, Nat.lt_irrefl, Int.lt_irrefl, eq_self, eq_self, Nat.reduceAdd, Nat.reduceMul, Nat.reduceSub, Nat.reduceDiv, Nat.reduceMod, Nat.reduceEqDiff, Nat.reduceLeDiff, Nat.reduceLT, Nat.zero_add, Nat.add_zero, Nat.zero_le, and_false, and_true, and_self, false_and, true_and, or_false, or_true, if_true, if_false, ite_true, ite_false, ↓reduceIte, Int.reduceToNat, Int.reduceAdd, Int.reduceSub, Int.reduceMul, Int.reduceNeg, hs_bump]) | (simp (disch := first | omega | (simp (disch := omega) only [i_lt0, i_tn, i_nn, m_cat_n, m_cat_i, m_cat_r, m_cat_z, m_cat_rv, m_cat_l, m_o_n, m_o_i, m_o_r, m_o_z, m_o_rv, m_o_f, hs_n, hs_k, hs_l, Nat.reduceLeDiff, not_false_eq_true, or_true, true_or, or_false, false_or, kk, k0, r00, k1, l1, r04, k133, r133, k134, l134, r03, ku, up, kp, CW_uk W, CW_u4 W, CW_u5 W, CW_u6 W, CW_dk W, CW_dl W, CW_qk W, CW_ql W, CW_jk W, CW_j0 W, CW_jk0 W, CW_jl0 W, CW_j1 W, CW_jk1 W, CW_jl1 W, CW_j2 W, CW_jk2 W, CW_jl2 W, CW_j3 W, CW_jk3 W, CW_jl3 W, CW_j4 W, CW_jk4 W, CW_jl4 W, PW_pk P, PW_p2 P, PW_p10 P, PW_ck P, PW_cl P, PW_ok P, PW_o0 P, PW_o1 P, PW_o3 P, PW_sk P, PW_sl P, PW_ak P, PW_bk P, PW_al P, dr0, drk, dr5, dr6, dr7, dk1, dl1, dk2, dl2, dk3, dl3, qr, qk]; first | done | omega) | exact Or.inl rfl | exact Or.inr rfl) only [k_124_25, w_iret, tg_124_24, tg_124_25, m_C_inl, Option.toList_some, Option.toList_none, List.cons_append, List.nil_append, w_icmp_eq, w_if_eq, hs_n, hs_k, hs_l, hs_R, hs_I, hs_L, hs_setI, hs_setL, hs_cpy, kk, k0, r00, k1, l1, r04, k133, r133, k134, l134, r03, ku, up, kp, CW_uk W, CW_u4 W, CW_u5 W, CW_u6 W, CW_dk W, CW_dl W, CW_qk W, CW_ql W, CW_jk W, CW_j0 W, CW_jk0 W, CW_jl0 W, CW_j1 W, CW_jk1 W, CW_jl1 W, CW_j2 W, CW_jk2 W, CW_jl2 W, CW_j3 W, CW_jk3 W, CW_jl3 W, CW_j4 W, CW_jk4 W, CW_jl4 W, PW_pk P, PW_p2 P, PW_p10 P, PW_ck P, PW_cl P, PW_ok P, PW_o0 P, PW_o1 P, PW_o3 P, PW_sk P, PW_sl P, PW_ak P, PW_bk P, PW_al P, dr0, drk, dr5, dr6, dr7, dk1, dl1, dk2, dl2, dk3, dl3, qr, qk, up_up, up_sw, up_sa, up_eq, up_na, up_nk, cp_na, i_add, i_sub, i_mul, i_tn, i_nat, Int.reduceToNat, Int.reduceAdd, Int.reduceSub, Int.reduceMul, Int.reduceNeg, l_32, l_nat, l_c_lt, l_c_gt, l_c_eq, i_lt, i_eq, i_lt0, i_0lt, i_eq0, i_eq1, Int.reduceLT, Int.reduceEq, Int.reduceLE, Int.reduceNe, not_true_eq_false, not_false_eq_true, Nat.lt_irrefl, Int.lt_irrefl, eq_self, eq_self, Nat.reduceAdd, Nat.reduceMul, Nat.reduceSub, Nat.reduceDiv, Nat.reduceMod, Nat.reduceEqDiff, Nat.reduceLeDiff, Nat.reduceLT, Nat.zero_add, Nat.add_zero, Nat.zero_le, and_false, and_true, and_self, false_and, true_and, or_false, or_true, if_true, if_false, ite_true, ite_false, ↓reduceIte, Int.reduceToNat, Int.reduceAdd, Int.reduceSub, Int.reduceMul, Int.reduceNeg, hs_bump]) | (simp (disch := first | omega | (simp (disch := omega) only [i_lt0, i_tn, i_nn, m_cat_n, m_cat_i, m_cat_r, m_cat_z, m_cat_rv, m_cat_l, m_o_n, m_o_i, m_o_r, m_o_z, m_o_rv, m_o_f, hs_n, hs_k, hs_l, Nat.reduceLeDiff, not_false_eq_true, or_true, true_or, or_false, false_or, kk, k0, r00, k1, l1, r04, k133, r133, k134, l134, r03, ku, up, kp, CW_uk W, CW_u4 W, CW_u5 W, CW_u6 W, CW_dk W, CW_dl W, CW_qk W, CW_ql W, CW_jk W, CW_j0 W, CW_jk0 W, CW_jl0 W, CW_j1 W, CW_jk1 W, CW_jl1 W, CW_j2 W, CW_jk2 W, CW_jl2 W, CW_j3 W, CW_jk3 W, CW_jl3 W, CW_j4 W, CW_jk4 W, CW_jl4 W, PW_pk P, PW_p2 P, PW_p10 P, PW_ck P, PW_cl P, PW_ok P, PW_o0 P, PW_o1 P, PW_o3 P, PW_sk P, PW_sl P, PW_ak P, PW_bk P, PW_al P, dr0, drk, dr5, dr6, dr7, dk1, dl1, dk2, dl2, dk3, dl3, qr, qk]; first | done | omega) | exact Or.inl rfl | exact Or.inr rfl) only [cl_79, m_cat_n, m_cat_i, m_cat_r, m_cat_z, m_cat_rv, m_cat_l, Nat.zero_le, Nat.reduceLeDiff, Nat.reduceAdd, m_o_i, m_o_r, m_o_z, m_o_rv, hs_n, hs_k, kk, k0, r00, k1, l1, r04, k133, r133, k134, l134, r03, ku, up, kp, CW_uk W, CW_u4 W, CW_u5 W, CW_u6 W, CW_dk W, CW_dl W, CW_qk W, CW_ql W, CW_jk W, CW_j0 W, CW_jk0 W, CW_jl0 W, CW_j1 W, CW_jk1 W, CW_jl1 W, CW_j2 W, CW_jk2 W, CW_jl2 W, CW_j3 W, CW_jk3 W, CW_jl3 W, CW_j4 W, CW_jk4 W, CW_jl4 W, PW_pk P, PW_p2 P, PW_p10 P, PW_ck P, PW_cl P, PW_ok P, PW_o0 P, PW_o1 P, PW_o3 P, PW_sk P, PW_sl P, PW_ak P, PW_bk P, PW_al P, dr0, drk, dr5, dr6, dr7, dk1, dl1, dk2, dl2, dk3, dl3, qr, qk]; refine T_79 X0 hV ?_ ?_) | (intro j hj hjn; obtain ⟨dr0, drk, dr5, dr6, dr7, dk1, dl1, dk2, dl2, dk3, dl3⟩ := CW_D W j hj; have hdd := x_dr hV hj) | (simp only [mc_124]; exact hE)))
  all_goals first
    | (exfalso; omega)
    | exact hQ _
    | exact hE
set_option maxHeartbeats 2000000 in
theorem t_125 {L : Nat} {xs : Nat → Int32} {d : Nat} {h : m_H} {w : Int64} {F : m_M} {Q : Option Value ⊕ Nat → m_H → Prop} {ow : Nat → Nat} {u p : Nat} (I : q_CI ow h F u p) {x : Int} (hQ : ∀ v : Int32, Q (.inl (some (.int v))) (m_hS h (w, F))) (hE : Q (.inr 0) (m_hS (m_bump h) (w, F))) : m_W (p_P L xs) (d + 2) 125 k_125_0 [some (.ref 0), some (.int (Int32.ofInt x))] [] (m_hS h (w, F)) Q := by
  obtain ⟨⟨⟨s1, s2⟩, k0, r00, k1, l1, r04, k133, r133, k134, l134⟩, ⟨⟨f1, f2⟩, f6, ⟨n1, n2⟩, ⟨c1, c2⟩⟩, i3, r03, KU, i6⟩ := I
  have hX : m_X = 1000000000 := rfl
  have ku := CW_uk KU.2.2.1.1
  have up : m_R h u 0 = some p := KU.2.2.1.2.2.1
  have kp := PW_pk KU.2.2.1.2.1
  have un := KP_n KU
  have u1 := KU.1.1
  have p1 := KU.2.1.1
  have hb := bo_or u
  have X0 : CX h u (bo u) p F := KU.2.2.1
  have hV : q_x u (bo u) p F F := v_rf KU.2.2.2
  generalize ebo : bo u = b at X0 hV hb un
  have X1 := X0
  obtain ⟨W, P, up, ⟨dj1, dj2⟩, C, ⟨⟨nn1, nn2⟩, ⟨nn3, nn4⟩⟩, ⟨zz1, zz2, zz3⟩⟩ := X1
  have wb1 := CW_un W
  have wb2 := CW_bn W
  have wb3 := CW_X W
  have wb4 := CW_ub W
  have pb1 := PW_pn P
  have pb2 := PW_pX P
  have hr1 := hV.2.1.1
  have hj5 := hV.2.1.2.1
  obtain ⟨dr0, drk, dr5, dr6, dr7, dk1, dl1, dk2, dl2, dk3, dl3⟩ := CW_D W 0 (by omega)
  obtain ⟨qr, qk⟩ := CW_Q W 0 (by omega)
  have kk := CW_jk W
  rw [k_125_0]
  (repeat' (first | (simp (disch := first | omega | (simp (disch := omega) only [i_lt0, i_tn, i_nn, m_cat_n, m_cat_i, m_cat_r, m_cat_z, m_cat_rv, m_cat_l, m_o_n, m_o_i, m_o_r, m_o_z, m_o_rv, m_o_f, hs_n, hs_k, hs_l, Nat.reduceLeDiff, not_false_eq_true, or_true, true_or, or_false, false_or, kk, k0, r00, k1, l1, r04, k133, r133, k134, l134, r03, ku, up, kp, CW_uk W, CW_u4 W, CW_u5 W, CW_u6 W, CW_dk W, CW_dl W, CW_qk W, CW_ql W, CW_jk W, CW_j0 W, CW_jk0 W, CW_jl0 W, CW_j1 W, CW_jk1 W, CW_jl1 W, CW_j2 W, CW_jk2 W, CW_jl2 W, CW_j3 W, CW_jk3 W, CW_jl3 W, CW_j4 W, CW_jk4 W, CW_jl4 W, PW_pk P, PW_p2 P, PW_p10 P, PW_ck P, PW_cl P, PW_ok P, PW_o0 P, PW_o1 P, PW_o3 P, PW_sk P, PW_sl P, PW_ak P, PW_bk P, PW_al P, dr0, drk, dr5, dr6, dr7, dk1, dl1, dk2, dl2, dk3, dl3, qr, qk]; first | done | omega) | exact Or.inl rfl | exact Or.inr rfl) only [w_aload_0, w_aloadz_0, w_aloadv_0, gf_707, m_rv_s, m_rv_n, w_iload_1, m_cat_n, m_cat_i, m_cat_r, m_cat_z, m_cat_rv, m_cat_l, Nat.zero_le, Nat.reduceLeDiff, Nat.reduceAdd, m_o_i, m_o_r, m_o_z, m_o_rv, m_C_inl, Option.toList_some, Option.toList_none, List.cons_append, List.nil_append, gf_132, w_iret, w_icmp_eq, w_if_eq, hs_n, hs_k, hs_l, hs_R, hs_I, hs_L, hs_setI, hs_setL, hs_cpy, kk, k0, r00, k1, l1, r04, k133, r133, k134, l134, r03, ku, up, kp, CW_uk W, CW_u4 W, CW_u5 W, CW_u6 W, CW_dk W, CW_dl W, CW_qk W, CW_ql W, CW_jk W, CW_j0 W, CW_jk0 W, CW_jl0 W, CW_j1 W, CW_jk1 W, CW_jl1 W, CW_j2 W, CW_jk2 W, CW_jl2 W, CW_j3 W, CW_jk3 W, CW_jl3 W, CW_j4 W, CW_jk4 W, CW_jl4 W, PW_pk P, PW_p2 P, PW_p10 P, PW_ck P, PW_cl P, PW_ok P, PW_o0 P, PW_o1 P, PW_o3 P, PW_sk P, PW_sl P, PW_ak P, PW_bk P, PW_al P, dr0, drk, dr5, dr6, dr7, dk1, dl1, dk2, dl2, dk3, dl3, qr, qk, up_up, up_sw, up_sa, up_eq, up_na, up_nk, cp_na, i_add, i_sub, i_mul, i_tn, i_nat, Int.reduceToNat, Int.reduceAdd, Int.reduceSub, Int.reduceMul, Int.reduceNeg, l_32, l_nat, l_c_lt, l_c_gt, l_c_eq, i_lt, i_eq, i_lt0, i_0lt, i_eq0, i_eq1, Int.reduceLT, Int.reduceEq, Int.reduceLE, Int.reduceNe, not_true_eq_false, not_false_eq_true, Nat.lt_irrefl, Int.lt_irrefl, eq_self, eq_self, Nat.reduceAdd, Nat.reduceMul, Nat.reduceSub, Nat.reduceDiv, Nat.reduceMod, Nat.reduceEqDiff, Nat.reduceLeDiff, Nat.reduceLT, Nat.zero_add, Nat.add_zero, Nat.zero_le, and_false, and_true, and_self, false_and, true_and, or_false, or_true, if_true, if_false, ite_true, ite_false, ↓reduceIte, Int.reduceToNat, Int.reduceAdd, Int.reduceSub, Int.reduceMul, Int.reduceNeg, hs_bump]) | split | (simp (disch := first | omega | (simp (disch := omega) only [i_lt0, i_tn, i_nn, m_cat_n, m_cat_i, m_cat_r, m_cat_z, m_cat_rv, m_cat_l, m_o_n, m_o_i, m_o_r, m_o_z, m_o_rv, m_o_f, hs_n, hs_k, hs_l, Nat.reduceLeDiff, not_false_eq_true, or_true, true_or, or_false, false_or, kk, k0, r00, k1, l1, r04, k133, r133, k134, l134, r03, ku, up, kp, CW_uk W, CW_u4 W, CW_u5 W, CW_u6 W, CW_dk W, CW_dl W, CW_qk W, CW_ql W, CW_jk W, CW_j0 W, CW_jk0 W, CW_jl0 W, CW_j1 W, CW_jk1 W, CW_jl1 W, CW_j2 W, CW_jk2 W, CW_jl2 W, CW_j3 W, CW_jk3 W, CW_jl3 W, CW_j4 W, CW_jk4 W, CW_jl4 W, PW_pk P, PW_p2 P, PW_p10 P, PW_ck P, PW_cl P, PW_ok P, PW_o0 P, PW_o1 P, PW_o3 P, PW_sk P, PW_sl P, PW_ak P, PW_bk P, PW_al P, dr0, drk, dr5, dr6, dr7, dk1, dl1, dk2, dl2, dk3, dl3, qr, qk]; first | done | omega) | exact Or.inl rfl | exact Or.inr rfl) only [cl_79, m_cat_n, m_cat_i, m_cat_r, m_cat_z, m_cat_rv, m_cat_l, Nat.zero_le, Nat.reduceLeDiff, Nat.reduceAdd, m_o_i, m_o_r, m_o_z, m_o_rv, hs_n, hs_k, kk, k0, r00, k1, l1, r04, k133, r133, k134, l134, r03, ku, up, kp, CW_uk W, CW_u4 W, CW_u5 W, CW_u6 W, CW_dk W, CW_dl W, CW_qk W, CW_ql W, CW_jk W, CW_j0 W, CW_jk0 W, CW_jl0 W, CW_j1 W, CW_jk1 W, CW_jl1 W, CW_j2 W, CW_jk2 W, CW_jl2 W, CW_j3 W, CW_jk3 W, CW_jl3 W, CW_j4 W, CW_jk4 W, CW_jl4 W, PW_pk P, PW_p2 P, PW_p10 P, PW_ck P, PW_cl P, PW_ok P, PW_o0 P, PW_o1 P, PW_o3 P, PW_sk P, PW_sl P, PW_ak P, PW_bk P, PW_al P, dr0, drk, dr5, dr6, dr7, dk1, dl1, dk2, dl2, dk3, dl3, qr, qk]; refine T_79 X0 hV ?_ ?_) | (intro j hj hjn; obtain ⟨dr0, drk, dr5, dr6, dr7, dk1, dl1, dk2, dl2, dk3, dl3⟩ := CW_D W j hj; have hdd := x_dr hV hj) | (simp only [mc_125]; exact hE)))
  all_goals first
    | (exfalso; omega)
    | exact hQ _
    | exact hE
set_option maxHeartbeats 2000000 in
theorem t_129 {L : Nat} {xs : Nat → Int32} {d : Nat} {h : m_H} {w : Int64} {F : m_M} {Q : Option Value ⊕ Nat → m_H → Prop} {ow : Nat → Nat} {u p : Nat} (I : q_CI ow h F u p) {x : Int} (hQ : ∀ v : Int32, Q (.inl (some (.int v))) (m_hS h (w, F))) (hE : Q (.inr 0) (m_hS (m_bump h) (w, F))) : m_W (p_P L xs) (d + 2) 129 k_129_0 [some (.ref 0), some (.int (Int32.ofInt x))] [] (m_hS h (w, F)) Q := by
  obtain ⟨⟨⟨s1, s2⟩, k0, r00, k1, l1, r04, k133, r133, k134, l134⟩, ⟨⟨f1, f2⟩, f6, ⟨n1, n2⟩, ⟨c1, c2⟩⟩, i3, r03, KU, i6⟩ := I
  have hX : m_X = 1000000000 := rfl
  have ku := CW_uk KU.2.2.1.1
  have up : m_R h u 0 = some p := KU.2.2.1.2.2.1
  have kp := PW_pk KU.2.2.1.2.1
  have un := KP_n KU
  have u1 := KU.1.1
  have p1 := KU.2.1.1
  have hb := bo_or u
  have X0 : CX h u (bo u) p F := KU.2.2.1
  have hV : q_x u (bo u) p F F := v_rf KU.2.2.2
  generalize ebo : bo u = b at X0 hV hb un
  have X1 := X0
  obtain ⟨W, P, up, ⟨dj1, dj2⟩, C, ⟨⟨nn1, nn2⟩, ⟨nn3, nn4⟩⟩, ⟨zz1, zz2, zz3⟩⟩ := X1
  have wb1 := CW_un W
  have wb2 := CW_bn W
  have wb3 := CW_X W
  have wb4 := CW_ub W
  have pb1 := PW_pn P
  have pb2 := PW_pX P
  have hr1 := hV.2.1.1
  have hj5 := hV.2.1.2.1
  obtain ⟨dr0, drk, dr5, dr6, dr7, dk1, dl1, dk2, dl2, dk3, dl3⟩ := CW_D W 0 (by omega)
  obtain ⟨qr, qk⟩ := CW_Q W 0 (by omega)
  have kk := CW_jk W
  rw [k_129_0]
  (repeat' (first | (simp (disch := first | omega | (simp (disch := omega) only [i_lt0, i_tn, i_nn, m_cat_n, m_cat_i, m_cat_r, m_cat_z, m_cat_rv, m_cat_l, m_o_n, m_o_i, m_o_r, m_o_z, m_o_rv, m_o_f, hs_n, hs_k, hs_l, Nat.reduceLeDiff, not_false_eq_true, or_true, true_or, or_false, false_or, kk, k0, r00, k1, l1, r04, k133, r133, k134, l134, r03, ku, up, kp, CW_uk W, CW_u4 W, CW_u5 W, CW_u6 W, CW_dk W, CW_dl W, CW_qk W, CW_ql W, CW_jk W, CW_j0 W, CW_jk0 W, CW_jl0 W, CW_j1 W, CW_jk1 W, CW_jl1 W, CW_j2 W, CW_jk2 W, CW_jl2 W, CW_j3 W, CW_jk3 W, CW_jl3 W, CW_j4 W, CW_jk4 W, CW_jl4 W, PW_pk P, PW_p2 P, PW_p10 P, PW_ck P, PW_cl P, PW_ok P, PW_o0 P, PW_o1 P, PW_o3 P, PW_sk P, PW_sl P, PW_ak P, PW_bk P, PW_al P, dr0, drk, dr5, dr6, dr7, dk1, dl1, dk2, dl2, dk3, dl3, qr, qk]; first | done | omega) | exact Or.inl rfl | exact Or.inr rfl) only [w_aload_0, w_aloadz_0, w_aloadv_0, gf_707, m_rv_s, m_rv_n, w_iload_1, m_cat_n, m_cat_i, m_cat_r, m_cat_z, m_cat_rv, m_cat_l, Nat.zero_le, Nat.reduceLeDiff, Nat.reduceAdd, m_o_i, m_o_r, m_o_z, m_o_rv, m_C_inl, Option.toList_some, Option.toList_none, List.cons_append, List.nil_append, gf_136, w_iret, w_icmp_eq, w_if_eq, hs_n, hs_k, hs_l, hs_R, hs_I, hs_L, hs_setI, hs_setL, hs_cpy, kk, k0, r00, k1, l1, r04, k133, r133, k134, l134, r03, ku, up, kp, CW_uk W, CW_u4 W, CW_u5 W, CW_u6 W, CW_dk W, CW_dl W, CW_qk W, CW_ql W, CW_jk W, CW_j0 W, CW_jk0 W, CW_jl0 W, CW_j1 W, CW_jk1 W, CW_jl1 W, CW_j2 W, CW_jk2 W, CW_jl2 W, CW_j3 W, CW_jk3 W, CW_jl3 W, CW_j4 W, CW_jk4 W, CW_jl4 W, PW_pk P, PW_p2 P, PW_p10 P, PW_ck P, PW_cl P, PW_ok P, PW_o0 P, PW_o1 P, PW_o3 P, PW_sk P, PW_sl P, PW_ak P, PW_bk P, PW_al P, dr0, drk, dr5, dr6, dr7, dk1, dl1, dk2, dl2, dk3, dl3, qr, qk, up_up, up_sw, up_sa, up_eq, up_na, up_nk, cp_na, i_add, i_sub, i_mul, i_tn, i_nat, Int.reduceToNat, Int.reduceAdd, Int.reduceSub, Int.reduceMul, Int.reduceNeg, l_32, l_nat, l_c_lt, l_c_gt, l_c_eq, i_lt, i_eq, i_lt0, i_0lt, i_eq0, i_eq1, Int.reduceLT, Int.reduceEq, Int.reduceLE, Int.reduceNe, not_true_eq_false, not_false_eq_true, Nat.lt_irrefl, Int.lt_irrefl, eq_self, eq_self, Nat.reduceAdd, Nat.reduceMul, Nat.reduceSub, Nat.reduceDiv, Nat.reduceMod, Nat.reduceEqDiff, Nat.reduceLeDiff, Nat.reduceLT, Nat.zero_add, Nat.add_zero, Nat.zero_le, and_false, and_true, and_self, false_and, true_and, or_false, or_true, if_true, if_false, ite_true, ite_false, ↓reduceIte, Int.reduceToNat, Int.reduceAdd, Int.reduceSub, Int.reduceMul, Int.reduceNeg, hs_bump]) | split | (simp (disch := first | omega | (simp (disch := omega) only [i_lt0, i_tn, i_nn, m_cat_n, m_cat_i, m_cat_r, m_cat_z, m_cat_rv, m_cat_l, m_o_n, m_o_i, m_o_r, m_o_z, m_o_rv, m_o_f, hs_n, hs_k, hs_l, Nat.reduceLeDiff, not_false_eq_true, or_true, true_or, or_false, false_or, kk, k0, r00, k1, l1, r04, k133, r133, k134, l134, r03, ku, up, kp, CW_uk W, CW_u4 W, CW_u5 W, CW_u6 W, CW_dk W, CW_dl W, CW_qk W, CW_ql W, CW_jk W, CW_j0 W, CW_jk0 W, CW_jl0 W, CW_j1 W, CW_jk1 W, CW_jl1 W, CW_j2 W, CW_jk2 W, CW_jl2 W, CW_j3 W, CW_jk3 W, CW_jl3 W, CW_j4 W, CW_jk4 W, CW_jl4 W, PW_pk P, PW_p2 P, PW_p10 P, PW_ck P, PW_cl P, PW_ok P, PW_o0 P, PW_o1 P, PW_o3 P, PW_sk P, PW_sl P, PW_ak P, PW_bk P, PW_al P, dr0, drk, dr5, dr6, dr7, dk1, dl1, dk2, dl2, dk3, dl3, qr, qk]; first | done | omega) | exact Or.inl rfl | exact Or.inr rfl) only [cl_79, m_cat_n, m_cat_i, m_cat_r, m_cat_z, m_cat_rv, m_cat_l, Nat.zero_le, Nat.reduceLeDiff, Nat.reduceAdd, m_o_i, m_o_r, m_o_z, m_o_rv, hs_n, hs_k, kk, k0, r00, k1, l1, r04, k133, r133, k134, l134, r03, ku, up, kp, CW_uk W, CW_u4 W, CW_u5 W, CW_u6 W, CW_dk W, CW_dl W, CW_qk W, CW_ql W, CW_jk W, CW_j0 W, CW_jk0 W, CW_jl0 W, CW_j1 W, CW_jk1 W, CW_jl1 W, CW_j2 W, CW_jk2 W, CW_jl2 W, CW_j3 W, CW_jk3 W, CW_jl3 W, CW_j4 W, CW_jk4 W, CW_jl4 W, PW_pk P, PW_p2 P, PW_p10 P, PW_ck P, PW_cl P, PW_ok P, PW_o0 P, PW_o1 P, PW_o3 P, PW_sk P, PW_sl P, PW_ak P, PW_bk P, PW_al P, dr0, drk, dr5, dr6, dr7, dk1, dl1, dk2, dl2, dk3, dl3, qr, qk]; refine T_79 X0 hV ?_ ?_) | (intro j hj hjn; obtain ⟨dr0, drk, dr5, dr6, dr7, dk1, dl1, dk2, dl2, dk3, dl3⟩ := CW_D W j hj; have hdd := x_dr hV hj) | (simp only [mc_129]; exact hE)))
  all_goals first
    | (exfalso; omega)
    | exact hQ _
    | exact hE
set_option maxHeartbeats 2000000 in
theorem t_131 {L : Nat} {xs : Nat → Int32} {d : Nat} {h : m_H} {w : Int64} {F : m_M} {Q : Option Value ⊕ Nat → m_H → Prop} {ow : Nat → Nat} {u p : Nat} (I : q_CI ow h F u p) {x : Int} (hQ : ∀ v : Int32, Q (.inl (some (.int v))) (m_hS h (w, F))) (hE : Q (.inr 0) (m_hS (m_bump h) (w, F))) : m_W (p_P L xs) (d + 2) 131 k_131_0 [some (.ref 0), some (.int (Int32.ofInt x))] [] (m_hS h (w, F)) Q := by
  obtain ⟨⟨⟨s1, s2⟩, k0, r00, k1, l1, r04, k133, r133, k134, l134⟩, ⟨⟨f1, f2⟩, f6, ⟨n1, n2⟩, ⟨c1, c2⟩⟩, i3, r03, KU, i6⟩ := I
  have hX : m_X = 1000000000 := rfl
  have ku := CW_uk KU.2.2.1.1
  have up : m_R h u 0 = some p := KU.2.2.1.2.2.1
  have kp := PW_pk KU.2.2.1.2.1
  have un := KP_n KU
  have u1 := KU.1.1
  have p1 := KU.2.1.1
  have hb := bo_or u
  have X0 : CX h u (bo u) p F := KU.2.2.1
  have hV : q_x u (bo u) p F F := v_rf KU.2.2.2
  generalize ebo : bo u = b at X0 hV hb un
  have X1 := X0
  obtain ⟨W, P, up, ⟨dj1, dj2⟩, C, ⟨⟨nn1, nn2⟩, ⟨nn3, nn4⟩⟩, ⟨zz1, zz2, zz3⟩⟩ := X1
  have wb1 := CW_un W
  have wb2 := CW_bn W
  have wb3 := CW_X W
  have wb4 := CW_ub W
  have pb1 := PW_pn P
  have pb2 := PW_pX P
  have hr1 := hV.2.1.1
  have hj5 := hV.2.1.2.1
  obtain ⟨dr0, drk, dr5, dr6, dr7, dk1, dl1, dk2, dl2, dk3, dl3⟩ := CW_D W 0 (by omega)
  obtain ⟨qr, qk⟩ := CW_Q W 0 (by omega)
  have kk := CW_jk W
  rw [k_131_0]
  (repeat' (first | (simp (disch := first | omega | (simp (disch := omega) only [i_lt0, i_tn, i_nn, m_cat_n, m_cat_i, m_cat_r, m_cat_z, m_cat_rv, m_cat_l, m_o_n, m_o_i, m_o_r, m_o_z, m_o_rv, m_o_f, hs_n, hs_k, hs_l, Nat.reduceLeDiff, not_false_eq_true, or_true, true_or, or_false, false_or, kk, k0, r00, k1, l1, r04, k133, r133, k134, l134, r03, ku, up, kp, CW_uk W, CW_u4 W, CW_u5 W, CW_u6 W, CW_dk W, CW_dl W, CW_qk W, CW_ql W, CW_jk W, CW_j0 W, CW_jk0 W, CW_jl0 W, CW_j1 W, CW_jk1 W, CW_jl1 W, CW_j2 W, CW_jk2 W, CW_jl2 W, CW_j3 W, CW_jk3 W, CW_jl3 W, CW_j4 W, CW_jk4 W, CW_jl4 W, PW_pk P, PW_p2 P, PW_p10 P, PW_ck P, PW_cl P, PW_ok P, PW_o0 P, PW_o1 P, PW_o3 P, PW_sk P, PW_sl P, PW_ak P, PW_bk P, PW_al P, dr0, drk, dr5, dr6, dr7, dk1, dl1, dk2, dl2, dk3, dl3, qr, qk]; first | done | omega) | exact Or.inl rfl | exact Or.inr rfl) only [w_aload_0, w_aloadz_0, w_aloadv_0, gf_707, m_rv_s, m_rv_n, w_iload_1, m_cat_n, m_cat_i, m_cat_r, m_cat_z, m_cat_rv, m_cat_l, Nat.zero_le, Nat.reduceLeDiff, Nat.reduceAdd, m_o_i, m_o_r, m_o_z, m_o_rv, m_C_inl, Option.toList_some, Option.toList_none, List.cons_append, List.nil_append, gf_137, w_iret, w_icmp_eq, w_if_eq, hs_n, hs_k, hs_l, hs_R, hs_I, hs_L, hs_setI, hs_setL, hs_cpy, kk, k0, r00, k1, l1, r04, k133, r133, k134, l134, r03, ku, up, kp, CW_uk W, CW_u4 W, CW_u5 W, CW_u6 W, CW_dk W, CW_dl W, CW_qk W, CW_ql W, CW_jk W, CW_j0 W, CW_jk0 W, CW_jl0 W, CW_j1 W, CW_jk1 W, CW_jl1 W, CW_j2 W, CW_jk2 W, CW_jl2 W, CW_j3 W, CW_jk3 W, CW_jl3 W, CW_j4 W, CW_jk4 W, CW_jl4 W, PW_pk P, PW_p2 P, PW_p10 P, PW_ck P, PW_cl P, PW_ok P, PW_o0 P, PW_o1 P, PW_o3 P, PW_sk P, PW_sl P, PW_ak P, PW_bk P, PW_al P, dr0, drk, dr5, dr6, dr7, dk1, dl1, dk2, dl2, dk3, dl3, qr, qk, up_up, up_sw, up_sa, up_eq, up_na, up_nk, cp_na, i_add, i_sub, i_mul, i_tn, i_nat, Int.reduceToNat, Int.reduceAdd, Int.reduceSub, Int.reduceMul, Int.reduceNeg, l_32, l_nat, l_c_lt, l_c_gt, l_c_eq, i_lt, i_eq, i_lt0, i_0lt, i_eq0, i_eq1, Int.reduceLT, Int.reduceEq, Int.reduceLE, Int.reduceNe, not_true_eq_false, not_false_eq_true, Nat.lt_irrefl, Int.lt_irrefl, eq_self, eq_self, Nat.reduceAdd, Nat.reduceMul, Nat.reduceSub, Nat.reduceDiv, Nat.reduceMod, Nat.reduceEqDiff, Nat.reduceLeDiff, Nat.reduceLT, Nat.zero_add, Nat.add_zero, Nat.zero_le, and_false, and_true, and_self, false_and, true_and, or_false, or_true, if_true, if_false, ite_true, ite_false, ↓reduceIte, Int.reduceToNat, Int.reduceAdd, Int.reduceSub, Int.reduceMul, Int.reduceNeg, hs_bump]) | split | (simp (disch := first | omega | (simp (disch := omega) only [i_lt0, i_tn, i_nn, m_cat_n, m_cat_i, m_cat_r, m_cat_z, m_cat_rv, m_cat_l, m_o_n, m_o_i, m_o_r, m_o_z, m_o_rv, m_o_f, hs_n, hs_k, hs_l, Nat.reduceLeDiff, not_false_eq_true, or_true, true_or, or_false, false_or, kk, k0, r00, k1, l1, r04, k133, r133, k134, l134, r03, ku, up, kp, CW_uk W, CW_u4 W, CW_u5 W, CW_u6 W, CW_dk W, CW_dl W, CW_qk W, CW_ql W, CW_jk W, CW_j0 W, CW_jk0 W, CW_jl0 W, CW_j1 W, CW_jk1 W, CW_jl1 W, CW_j2 W, CW_jk2 W, CW_jl2 W, CW_j3 W, CW_jk3 W, CW_jl3 W, CW_j4 W, CW_jk4 W, CW_jl4 W, PW_pk P, PW_p2 P, PW_p10 P, PW_ck P, PW_cl P, PW_ok P, PW_o0 P, PW_o1 P, PW_o3 P, PW_sk P, PW_sl P, PW_ak P, PW_bk P, PW_al P, dr0, drk, dr5, dr6, dr7, dk1, dl1, dk2, dl2, dk3, dl3, qr, qk]; first | done | omega) | exact Or.inl rfl | exact Or.inr rfl) only [cl_79, m_cat_n, m_cat_i, m_cat_r, m_cat_z, m_cat_rv, m_cat_l, Nat.zero_le, Nat.reduceLeDiff, Nat.reduceAdd, m_o_i, m_o_r, m_o_z, m_o_rv, hs_n, hs_k, kk, k0, r00, k1, l1, r04, k133, r133, k134, l134, r03, ku, up, kp, CW_uk W, CW_u4 W, CW_u5 W, CW_u6 W, CW_dk W, CW_dl W, CW_qk W, CW_ql W, CW_jk W, CW_j0 W, CW_jk0 W, CW_jl0 W, CW_j1 W, CW_jk1 W, CW_jl1 W, CW_j2 W, CW_jk2 W, CW_jl2 W, CW_j3 W, CW_jk3 W, CW_jl3 W, CW_j4 W, CW_jk4 W, CW_jl4 W, PW_pk P, PW_p2 P, PW_p10 P, PW_ck P, PW_cl P, PW_ok P, PW_o0 P, PW_o1 P, PW_o3 P, PW_sk P, PW_sl P, PW_ak P, PW_bk P, PW_al P, dr0, drk, dr5, dr6, dr7, dk1, dl1, dk2, dl2, dk3, dl3, qr, qk]; refine T_79 X0 hV ?_ ?_) | (intro j hj hjn; obtain ⟨dr0, drk, dr5, dr6, dr7, dk1, dl1, dk2, dl2, dk3, dl3⟩ := CW_D W j hj; have hdd := x_dr hV hj) | (simp only [mc_131]; exact hE)))
  all_goals first
    | (exfalso; omega)
    | exact hQ _
    | exact hE
set_option maxHeartbeats 2000000 in
theorem t_133 {L : Nat} {xs : Nat → Int32} {d : Nat} {h : m_H} {w : Int64} {F : m_M} {Q : Option Value ⊕ Nat → m_H → Prop} {ow : Nat → Nat} {u p : Nat} (I : q_CI ow h F u p) {x : Int} (hQ : ∀ v : Int32, Q (.inl (some (.int v))) (m_hS h (w, F))) (hE : Q (.inr 0) (m_hS (m_bump h) (w, F))) : m_W (p_P L xs) (d + 2) 133 k_133_0 [some (.ref 0), some (.int (Int32.ofInt x))] [] (m_hS h (w, F)) Q := by
  obtain ⟨⟨⟨s1, s2⟩, k0, r00, k1, l1, r04, k133, r133, k134, l134⟩, ⟨⟨f1, f2⟩, f6, ⟨n1, n2⟩, ⟨c1, c2⟩⟩, i3, r03, KU, i6⟩ := I
  have hX : m_X = 1000000000 := rfl
  have ku := CW_uk KU.2.2.1.1
  have up : m_R h u 0 = some p := KU.2.2.1.2.2.1
  have kp := PW_pk KU.2.2.1.2.1
  have un := KP_n KU
  have u1 := KU.1.1
  have p1 := KU.2.1.1
  have hb := bo_or u
  have X0 : CX h u (bo u) p F := KU.2.2.1
  have hV : q_x u (bo u) p F F := v_rf KU.2.2.2
  generalize ebo : bo u = b at X0 hV hb un
  have X1 := X0
  obtain ⟨W, P, up, ⟨dj1, dj2⟩, C, ⟨⟨nn1, nn2⟩, ⟨nn3, nn4⟩⟩, ⟨zz1, zz2, zz3⟩⟩ := X1
  have wb1 := CW_un W
  have wb2 := CW_bn W
  have wb3 := CW_X W
  have wb4 := CW_ub W
  have pb1 := PW_pn P
  have pb2 := PW_pX P
  have hr1 := hV.2.1.1
  have hj5 := hV.2.1.2.1
  obtain ⟨dr0, drk, dr5, dr6, dr7, dk1, dl1, dk2, dl2, dk3, dl3⟩ := CW_D W 0 (by omega)
  obtain ⟨qr, qk⟩ := CW_Q W 0 (by omega)
  have kk := CW_jk W
  rw [k_133_0]
  (repeat' (first | (simp (disch := first | omega | (simp (disch := omega) only [i_lt0, i_tn, i_nn, m_cat_n, m_cat_i, m_cat_r, m_cat_z, m_cat_rv, m_cat_l, m_o_n, m_o_i, m_o_r, m_o_z, m_o_rv, m_o_f, hs_n, hs_k, hs_l, Nat.reduceLeDiff, not_false_eq_true, or_true, true_or, or_false, false_or, kk, k0, r00, k1, l1, r04, k133, r133, k134, l134, r03, ku, up, kp, CW_uk W, CW_u4 W, CW_u5 W, CW_u6 W, CW_dk W, CW_dl W, CW_qk W, CW_ql W, CW_jk W, CW_j0 W, CW_jk0 W, CW_jl0 W, CW_j1 W, CW_jk1 W, CW_jl1 W, CW_j2 W, CW_jk2 W, CW_jl2 W, CW_j3 W, CW_jk3 W, CW_jl3 W, CW_j4 W, CW_jk4 W, CW_jl4 W, PW_pk P, PW_p2 P, PW_p10 P, PW_ck P, PW_cl P, PW_ok P, PW_o0 P, PW_o1 P, PW_o3 P, PW_sk P, PW_sl P, PW_ak P, PW_bk P, PW_al P, dr0, drk, dr5, dr6, dr7, dk1, dl1, dk2, dl2, dk3, dl3, qr, qk]; first | done | omega) | exact Or.inl rfl | exact Or.inr rfl) only [w_aload_0, w_aloadz_0, w_aloadv_0, gf_707, m_rv_s, m_rv_n, w_iload_1, m_cat_n, m_cat_i, m_cat_r, m_cat_z, m_cat_rv, m_cat_l, Nat.zero_le, Nat.reduceLeDiff, Nat.reduceAdd, m_o_i, m_o_r, m_o_z, m_o_rv, m_C_inl, Option.toList_some, Option.toList_none, List.cons_append, List.nil_append, gf_139, w_iret, w_icmp_eq, w_if_eq, hs_n, hs_k, hs_l, hs_R, hs_I, hs_L, hs_setI, hs_setL, hs_cpy, kk, k0, r00, k1, l1, r04, k133, r133, k134, l134, r03, ku, up, kp, CW_uk W, CW_u4 W, CW_u5 W, CW_u6 W, CW_dk W, CW_dl W, CW_qk W, CW_ql W, CW_jk W, CW_j0 W, CW_jk0 W, CW_jl0 W, CW_j1 W, CW_jk1 W, CW_jl1 W, CW_j2 W, CW_jk2 W, CW_jl2 W, CW_j3 W, CW_jk3 W, CW_jl3 W, CW_j4 W, CW_jk4 W, CW_jl4 W, PW_pk P, PW_p2 P, PW_p10 P, PW_ck P, PW_cl P, PW_ok P, PW_o0 P, PW_o1 P, PW_o3 P, PW_sk P, PW_sl P, PW_ak P, PW_bk P, PW_al P, dr0, drk, dr5, dr6, dr7, dk1, dl1, dk2, dl2, dk3, dl3, qr, qk, up_up, up_sw, up_sa, up_eq, up_na, up_nk, cp_na, i_add, i_sub, i_mul, i_tn, i_nat, Int.reduceToNat, Int.reduceAdd, Int.reduceSub, Int.reduceMul, Int.reduceNeg, l_32, l_nat, l_c_lt, l_c_gt, l_c_eq, i_lt, i_eq, i_lt0, i_0lt, i_eq0, i_eq1, Int.reduceLT, Int.reduceEq, Int.reduceLE, Int.reduceNe, not_true_eq_false, not_false_eq_true, Nat.lt_irrefl, Int.lt_irrefl, eq_self, eq_self, Nat.reduceAdd, Nat.reduceMul, Nat.reduceSub, Nat.reduceDiv, Nat.reduceMod, Nat.reduceEqDiff, Nat.reduceLeDiff, Nat.reduceLT, Nat.zero_add, Nat.add_zero, Nat.zero_le, and_false, and_true, and_self, false_and, true_and, or_false, or_true, if_true, if_false, ite_true, ite_false, ↓reduceIte, Int.reduceToNat, Int.reduceAdd, Int.reduceSub, Int.reduceMul, Int.reduceNeg, hs_bump]) | split | (simp (disch := first | omega | (simp (disch := omega) only [i_lt0, i_tn, i_nn, m_cat_n, m_cat_i, m_cat_r, m_cat_z, m_cat_rv, m_cat_l, m_o_n, m_o_i, m_o_r, m_o_z, m_o_rv, m_o_f, hs_n, hs_k, hs_l, Nat.reduceLeDiff, not_false_eq_true, or_true, true_or, or_false, false_or, kk, k0, r00, k1, l1, r04, k133, r133, k134, l134, r03, ku, up, kp, CW_uk W, CW_u4 W, CW_u5 W, CW_u6 W, CW_dk W, CW_dl W, CW_qk W, CW_ql W, CW_jk W, CW_j0 W, CW_jk0 W, CW_jl0 W, CW_j1 W, CW_jk1 W, CW_jl1 W, CW_j2 W, CW_jk2 W, CW_jl2 W, CW_j3 W, CW_jk3 W, CW_jl3 W, CW_j4 W, CW_jk4 W, CW_jl4 W, PW_pk P, PW_p2 P, PW_p10 P, PW_ck P, PW_cl P, PW_ok P, PW_o0 P, PW_o1 P, PW_o3 P, PW_sk P, PW_sl P, PW_ak P, PW_bk P, PW_al P, dr0, drk, dr5, dr6, dr7, dk1, dl1, dk2, dl2, dk3, dl3, qr, qk]; first | done | omega) | exact Or.inl rfl | exact Or.inr rfl) only [cl_79, m_cat_n, m_cat_i, m_cat_r, m_cat_z, m_cat_rv, m_cat_l, Nat.zero_le, Nat.reduceLeDiff, Nat.reduceAdd, m_o_i, m_o_r, m_o_z, m_o_rv, hs_n, hs_k, kk, k0, r00, k1, l1, r04, k133, r133, k134, l134, r03, ku, up, kp, CW_uk W, CW_u4 W, CW_u5 W, CW_u6 W, CW_dk W, CW_dl W, CW_qk W, CW_ql W, CW_jk W, CW_j0 W, CW_jk0 W, CW_jl0 W, CW_j1 W, CW_jk1 W, CW_jl1 W, CW_j2 W, CW_jk2 W, CW_jl2 W, CW_j3 W, CW_jk3 W, CW_jl3 W, CW_j4 W, CW_jk4 W, CW_jl4 W, PW_pk P, PW_p2 P, PW_p10 P, PW_ck P, PW_cl P, PW_ok P, PW_o0 P, PW_o1 P, PW_o3 P, PW_sk P, PW_sl P, PW_ak P, PW_bk P, PW_al P, dr0, drk, dr5, dr6, dr7, dk1, dl1, dk2, dl2, dk3, dl3, qr, qk]; refine T_79 X0 hV ?_ ?_) | (intro j hj hjn; obtain ⟨dr0, drk, dr5, dr6, dr7, dk1, dl1, dk2, dl2, dk3, dl3⟩ := CW_D W j hj; have hdd := x_dr hV hj) | (simp only [mc_133]; exact hE)))
  all_goals first
    | (exfalso; omega)
    | exact hQ _
    | exact hE
set_option maxHeartbeats 2000000 in
theorem t_126 {L : Nat} {xs : Nat → Int32} {d : Nat} {h : m_H} {w : Int64} {F : m_M} {Q : Option Value ⊕ Nat → m_H → Prop} {ow : Nat → Nat} {u p : Nat} (I : q_CI ow h F u p) {x y : Int} (hQ : ∀ v : Int32, Q (.inl (some (.int v))) (m_hS h (w, F))) (hE : Q (.inr 0) (m_hS (m_bump h) (w, F))) : m_W (p_P L xs) (d + 2) 126 k_126_0 [some (.ref 0), some (.int (Int32.ofInt x)), some (.int (Int32.ofInt y))] [] (m_hS h (w, F)) Q := by
  obtain ⟨⟨⟨s1, s2⟩, k0, r00, k1, l1, r04, k133, r133, k134, l134⟩, ⟨⟨f1, f2⟩, f6, ⟨n1, n2⟩, ⟨c1, c2⟩⟩, i3, r03, KU, i6⟩ := I
  have hX : m_X = 1000000000 := rfl
  have ku := CW_uk KU.2.2.1.1
  have up : m_R h u 0 = some p := KU.2.2.1.2.2.1
  have kp := PW_pk KU.2.2.1.2.1
  have un := KP_n KU
  have u1 := KU.1.1
  have p1 := KU.2.1.1
  have hb := bo_or u
  have X0 : CX h u (bo u) p F := KU.2.2.1
  have hV : q_x u (bo u) p F F := v_rf KU.2.2.2
  generalize ebo : bo u = b at X0 hV hb un
  have X1 := X0
  obtain ⟨W, P, up, ⟨dj1, dj2⟩, C, ⟨⟨nn1, nn2⟩, ⟨nn3, nn4⟩⟩, ⟨zz1, zz2, zz3⟩⟩ := X1
  have wb1 := CW_un W
  have wb2 := CW_bn W
  have wb3 := CW_X W
  have wb4 := CW_ub W
  have pb1 := PW_pn P
  have pb2 := PW_pX P
  have hr1 := hV.2.1.1
  have hj5 := hV.2.1.2.1
  obtain ⟨dr0, drk, dr5, dr6, dr7, dk1, dl1, dk2, dl2, dk3, dl3⟩ := CW_D W 0 (by omega)
  obtain ⟨qr, qk⟩ := CW_Q W 0 (by omega)
  have kk := CW_jk W
  obtain ⟨y, hy9, y0, y9⟩ : ∃ y9 : Int, Int32.ofInt y = Int32.ofInt y9 ∧ -2147483648 ≤ y9 ∧ y9 ≤ 2147483647 := i_any _
  rw [hy9]
  rw [k_126_0]
  (repeat' (first | (simp (disch := first | omega | (simp (disch := omega) only [i_lt0, i_tn, i_nn, m_cat_n, m_cat_i, m_cat_r, m_cat_z, m_cat_rv, m_cat_l, m_o_n, m_o_i, m_o_r, m_o_z, m_o_rv, m_o_f, hs_n, hs_k, hs_l, Nat.reduceLeDiff, not_false_eq_true, or_true, true_or, or_false, false_or, kk, k0, r00, k1, l1, r04, k133, r133, k134, l134, r03, ku, up, kp, CW_uk W, CW_u4 W, CW_u5 W, CW_u6 W, CW_dk W, CW_dl W, CW_qk W, CW_ql W, CW_jk W, CW_j0 W, CW_jk0 W, CW_jl0 W, CW_j1 W, CW_jk1 W, CW_jl1 W, CW_j2 W, CW_jk2 W, CW_jl2 W, CW_j3 W, CW_jk3 W, CW_jl3 W, CW_j4 W, CW_jk4 W, CW_jl4 W, PW_pk P, PW_p2 P, PW_p10 P, PW_ck P, PW_cl P, PW_ok P, PW_o0 P, PW_o1 P, PW_o3 P, PW_sk P, PW_sl P, PW_ak P, PW_bk P, PW_al P, dr0, drk, dr5, dr6, dr7, dk1, dl1, dk2, dl2, dk3, dl3, qr, qk]; first | done | omega) | exact Or.inl rfl | exact Or.inr rfl) only [w_aload_0, w_aloadz_0, w_aloadv_0, gf_707, m_rv_s, m_rv_n, w_iload_1, m_cat_n, m_cat_i, m_cat_r, m_cat_z, m_cat_rv, m_cat_l, Nat.zero_le, Nat.reduceLeDiff, Nat.reduceAdd, m_o_i, m_o_r, m_o_z, m_o_rv, m_C_inl, Option.toList_some, Option.toList_none, List.cons_append, List.nil_append, w_iload_2, cl_8, w_iret, k_8_0, k_8_10, tg_8_10, k_8_20, tg_8_20, w_if_lt, w_iconst, w_icmp_lt, wt_8, mc_126, gf_133, w_iaload, w_script, w_icmp_eq, w_if_eq, hs_n, hs_k, hs_l, hs_R, hs_I, hs_L, hs_setI, hs_setL, hs_cpy, kk, k0, r00, k1, l1, r04, k133, r133, k134, l134, r03, ku, up, kp, CW_uk W, CW_u4 W, CW_u5 W, CW_u6 W, CW_dk W, CW_dl W, CW_qk W, CW_ql W, CW_jk W, CW_j0 W, CW_jk0 W, CW_jl0 W, CW_j1 W, CW_jk1 W, CW_jl1 W, CW_j2 W, CW_jk2 W, CW_jl2 W, CW_j3 W, CW_jk3 W, CW_jl3 W, CW_j4 W, CW_jk4 W, CW_jl4 W, PW_pk P, PW_p2 P, PW_p10 P, PW_ck P, PW_cl P, PW_ok P, PW_o0 P, PW_o1 P, PW_o3 P, PW_sk P, PW_sl P, PW_ak P, PW_bk P, PW_al P, dr0, drk, dr5, dr6, dr7, dk1, dl1, dk2, dl2, dk3, dl3, qr, qk, up_up, up_sw, up_sa, up_eq, up_na, up_nk, cp_na, i_add, i_sub, i_mul, i_tn, i_nat, Int.reduceToNat, Int.reduceAdd, Int.reduceSub, Int.reduceMul, Int.reduceNeg, l_32, l_nat, l_c_lt, l_c_gt, l_c_eq, i_lt, i_eq, i_lt0, i_0lt, i_eq0, i_eq1, Int.reduceLT, Int.reduceEq, Int.reduceLE, Int.reduceNe, not_true_eq_false, not_false_eq_true, Nat.lt_irrefl, Int.lt_irrefl, eq_self, eq_self, Nat.reduceAdd, Nat.reduceMul, Nat.reduceSub, Nat.reduceDiv, Nat.reduceMod, Nat.reduceEqDiff, Nat.reduceLeDiff, Nat.reduceLT, Nat.zero_add, Nat.add_zero, Nat.zero_le, and_false, and_true, and_self, false_and, true_and, or_false, or_true, if_true, if_false, ite_true, ite_false, ↓reduceIte, Int.reduceToNat, Int.reduceAdd, Int.reduceSub, Int.reduceMul, Int.reduceNeg, hs_bump]) | split | (simp (disch := first | omega | (simp (disch := omega) only [i_lt0, i_tn, i_nn, m_cat_n, m_cat_i, m_cat_r, m_cat_z, m_cat_rv, m_cat_l, m_o_n, m_o_i, m_o_r, m_o_z, m_o_rv, m_o_f, hs_n, hs_k, hs_l, Nat.reduceLeDiff, not_false_eq_true, or_true, true_or, or_false, false_or, kk, k0, r00, k1, l1, r04, k133, r133, k134, l134, r03, ku, up, kp, CW_uk W, CW_u4 W, CW_u5 W, CW_u6 W, CW_dk W, CW_dl W, CW_qk W, CW_ql W, CW_jk W, CW_j0 W, CW_jk0 W, CW_jl0 W, CW_j1 W, CW_jk1 W, CW_jl1 W, CW_j2 W, CW_jk2 W, CW_jl2 W, CW_j3 W, CW_jk3 W, CW_jl3 W, CW_j4 W, CW_jk4 W, CW_jl4 W, PW_pk P, PW_p2 P, PW_p10 P, PW_ck P, PW_cl P, PW_ok P, PW_o0 P, PW_o1 P, PW_o3 P, PW_sk P, PW_sl P, PW_ak P, PW_bk P, PW_al P, dr0, drk, dr5, dr6, dr7, dk1, dl1, dk2, dl2, dk3, dl3, qr, qk]; first | done | omega) | exact Or.inl rfl | exact Or.inr rfl) only [cl_79, m_cat_n, m_cat_i, m_cat_r, m_cat_z, m_cat_rv, m_cat_l, Nat.zero_le, Nat.reduceLeDiff, Nat.reduceAdd, m_o_i, m_o_r, m_o_z, m_o_rv, hs_n, hs_k, kk, k0, r00, k1, l1, r04, k133, r133, k134, l134, r03, ku, up, kp, CW_uk W, CW_u4 W, CW_u5 W, CW_u6 W, CW_dk W, CW_dl W, CW_qk W, CW_ql W, CW_jk W, CW_j0 W, CW_jk0 W, CW_jl0 W, CW_j1 W, CW_jk1 W, CW_jl1 W, CW_j2 W, CW_jk2 W, CW_jl2 W, CW_j3 W, CW_jk3 W, CW_jl3 W, CW_j4 W, CW_jk4 W, CW_jl4 W, PW_pk P, PW_p2 P, PW_p10 P, PW_ck P, PW_cl P, PW_ok P, PW_o0 P, PW_o1 P, PW_o3 P, PW_sk P, PW_sl P, PW_ak P, PW_bk P, PW_al P, dr0, drk, dr5, dr6, dr7, dk1, dl1, dk2, dl2, dk3, dl3, qr, qk]; refine T_79 X0 hV ?_ ?_) | (intro j hj hjn; obtain ⟨dr0, drk, dr5, dr6, dr7, dk1, dl1, dk2, dl2, dk3, dl3⟩ := CW_D W j hj; have hdd := x_dr hV hj) | (simp only [mc_126]; exact hE)))
  all_goals first
    | (exfalso; omega)
    | exact hQ _
    | exact hE
set_option maxHeartbeats 2000000 in
theorem t_127 {L : Nat} {xs : Nat → Int32} {d : Nat} {h : m_H} {w : Int64} {F : m_M} {Q : Option Value ⊕ Nat → m_H → Prop} {ow : Nat → Nat} {u p : Nat} (I : q_CI ow h F u p) {x y : Int} (hQ : ∀ v : Int32, Q (.inl (some (.int v))) (m_hS h (w, F))) (hE : Q (.inr 0) (m_hS (m_bump h) (w, F))) : m_W (p_P L xs) (d + 2) 127 k_127_0 [some (.ref 0), some (.int (Int32.ofInt x)), some (.int (Int32.ofInt y))] [] (m_hS h (w, F)) Q := by
  obtain ⟨⟨⟨s1, s2⟩, k0, r00, k1, l1, r04, k133, r133, k134, l134⟩, ⟨⟨f1, f2⟩, f6, ⟨n1, n2⟩, ⟨c1, c2⟩⟩, i3, r03, KU, i6⟩ := I
  have hX : m_X = 1000000000 := rfl
  have ku := CW_uk KU.2.2.1.1
  have up : m_R h u 0 = some p := KU.2.2.1.2.2.1
  have kp := PW_pk KU.2.2.1.2.1
  have un := KP_n KU
  have u1 := KU.1.1
  have p1 := KU.2.1.1
  have hb := bo_or u
  have X0 : CX h u (bo u) p F := KU.2.2.1
  have hV : q_x u (bo u) p F F := v_rf KU.2.2.2
  generalize ebo : bo u = b at X0 hV hb un
  have X1 := X0
  obtain ⟨W, P, up, ⟨dj1, dj2⟩, C, ⟨⟨nn1, nn2⟩, ⟨nn3, nn4⟩⟩, ⟨zz1, zz2, zz3⟩⟩ := X1
  have wb1 := CW_un W
  have wb2 := CW_bn W
  have wb3 := CW_X W
  have wb4 := CW_ub W
  have pb1 := PW_pn P
  have pb2 := PW_pX P
  have hr1 := hV.2.1.1
  have hj5 := hV.2.1.2.1
  obtain ⟨dr0, drk, dr5, dr6, dr7, dk1, dl1, dk2, dl2, dk3, dl3⟩ := CW_D W 0 (by omega)
  obtain ⟨qr, qk⟩ := CW_Q W 0 (by omega)
  have kk := CW_jk W
  obtain ⟨y, hy9, y0, y9⟩ : ∃ y9 : Int, Int32.ofInt y = Int32.ofInt y9 ∧ -2147483648 ≤ y9 ∧ y9 ≤ 2147483647 := i_any _
  rw [hy9]
  rw [k_127_0]
  (repeat' (first | (simp (disch := first | omega | (simp (disch := omega) only [i_lt0, i_tn, i_nn, m_cat_n, m_cat_i, m_cat_r, m_cat_z, m_cat_rv, m_cat_l, m_o_n, m_o_i, m_o_r, m_o_z, m_o_rv, m_o_f, hs_n, hs_k, hs_l, Nat.reduceLeDiff, not_false_eq_true, or_true, true_or, or_false, false_or, kk, k0, r00, k1, l1, r04, k133, r133, k134, l134, r03, ku, up, kp, CW_uk W, CW_u4 W, CW_u5 W, CW_u6 W, CW_dk W, CW_dl W, CW_qk W, CW_ql W, CW_jk W, CW_j0 W, CW_jk0 W, CW_jl0 W, CW_j1 W, CW_jk1 W, CW_jl1 W, CW_j2 W, CW_jk2 W, CW_jl2 W, CW_j3 W, CW_jk3 W, CW_jl3 W, CW_j4 W, CW_jk4 W, CW_jl4 W, PW_pk P, PW_p2 P, PW_p10 P, PW_ck P, PW_cl P, PW_ok P, PW_o0 P, PW_o1 P, PW_o3 P, PW_sk P, PW_sl P, PW_ak P, PW_bk P, PW_al P, dr0, drk, dr5, dr6, dr7, dk1, dl1, dk2, dl2, dk3, dl3, qr, qk]; first | done | omega) | exact Or.inl rfl | exact Or.inr rfl) only [w_aload_0, w_aloadz_0, w_aloadv_0, gf_707, m_rv_s, m_rv_n, w_iload_1, m_cat_n, m_cat_i, m_cat_r, m_cat_z, m_cat_rv, m_cat_l, Nat.zero_le, Nat.reduceLeDiff, Nat.reduceAdd, m_o_i, m_o_r, m_o_z, m_o_rv, m_C_inl, Option.toList_some, Option.toList_none, List.cons_append, List.nil_append, w_iload_2, cl_9, w_iret, k_9_0, k_9_9, tg_9_9, k_9_19, tg_9_19, w_if_lt, w_iconst, w_icmp_lt, wt_9, mc_127, gf_133, w_iadd, w_iaload, w_script, w_icmp_eq, w_if_eq, hs_n, hs_k, hs_l, hs_R, hs_I, hs_L, hs_setI, hs_setL, hs_cpy, kk, k0, r00, k1, l1, r04, k133, r133, k134, l134, r03, ku, up, kp, CW_uk W, CW_u4 W, CW_u5 W, CW_u6 W, CW_dk W, CW_dl W, CW_qk W, CW_ql W, CW_jk W, CW_j0 W, CW_jk0 W, CW_jl0 W, CW_j1 W, CW_jk1 W, CW_jl1 W, CW_j2 W, CW_jk2 W, CW_jl2 W, CW_j3 W, CW_jk3 W, CW_jl3 W, CW_j4 W, CW_jk4 W, CW_jl4 W, PW_pk P, PW_p2 P, PW_p10 P, PW_ck P, PW_cl P, PW_ok P, PW_o0 P, PW_o1 P, PW_o3 P, PW_sk P, PW_sl P, PW_ak P, PW_bk P, PW_al P, dr0, drk, dr5, dr6, dr7, dk1, dl1, dk2, dl2, dk3, dl3, qr, qk, up_up, up_sw, up_sa, up_eq, up_na, up_nk, cp_na, i_add, i_sub, i_mul, i_tn, i_nat, Int.reduceToNat, Int.reduceAdd, Int.reduceSub, Int.reduceMul, Int.reduceNeg, l_32, l_nat, l_c_lt, l_c_gt, l_c_eq, i_lt, i_eq, i_lt0, i_0lt, i_eq0, i_eq1, Int.reduceLT, Int.reduceEq, Int.reduceLE, Int.reduceNe, not_true_eq_false, not_false_eq_true, Nat.lt_irrefl, Int.lt_irrefl, eq_self, eq_self, Nat.reduceAdd, Nat.reduceMul, Nat.reduceSub, Nat.reduceDiv, Nat.reduceMod, Nat.reduceEqDiff, Nat.reduceLeDiff, Nat.reduceLT, Nat.zero_add, Nat.add_zero, Nat.zero_le, and_false, and_true, and_self, false_and, true_and, or_false, or_true, if_true, if_false, ite_true, ite_false, ↓reduceIte, Int.reduceToNat, Int.reduceAdd, Int.reduceSub, Int.reduceMul, Int.reduceNeg, hs_bump]) | split | (simp (disch := first | omega | (simp (disch := omega) only [i_lt0, i_tn, i_nn, m_cat_n, m_cat_i, m_cat_r, m_cat_z, m_cat_rv, m_cat_l, m_o_n, m_o_i, m_o_r, m_o_z, m_o_rv, m_o_f, hs_n, hs_k, hs_l, Nat.reduceLeDiff, not_false_eq_true, or_true, true_or, or_false, false_or, kk, k0, r00, k1, l1, r04, k133, r133, k134, l134, r03, ku, up, kp, CW_uk W, CW_u4 W, CW_u5 W, CW_u6 W, CW_dk W, CW_dl W, CW_qk W, CW_ql W, CW_jk W, CW_j0 W, CW_jk0 W, CW_jl0 W, CW_j1 W, CW_jk1 W, CW_jl1 W, CW_j2 W, CW_jk2 W, CW_jl2 W, CW_j3 W, CW_jk3 W, CW_jl3 W, CW_j4 W, CW_jk4 W, CW_jl4 W, PW_pk P, PW_p2 P, PW_p10 P, PW_ck P, PW_cl P, PW_ok P, PW_o0 P, PW_o1 P, PW_o3 P, PW_sk P, PW_sl P, PW_ak P, PW_bk P, PW_al P, dr0, drk, dr5, dr6, dr7, dk1, dl1, dk2, dl2, dk3, dl3, qr, qk]; first | done | omega) | exact Or.inl rfl | exact Or.inr rfl) only [cl_79, m_cat_n, m_cat_i, m_cat_r, m_cat_z, m_cat_rv, m_cat_l, Nat.zero_le, Nat.reduceLeDiff, Nat.reduceAdd, m_o_i, m_o_r, m_o_z, m_o_rv, hs_n, hs_k, kk, k0, r00, k1, l1, r04, k133, r133, k134, l134, r03, ku, up, kp, CW_uk W, CW_u4 W, CW_u5 W, CW_u6 W, CW_dk W, CW_dl W, CW_qk W, CW_ql W, CW_jk W, CW_j0 W, CW_jk0 W, CW_jl0 W, CW_j1 W, CW_jk1 W, CW_jl1 W, CW_j2 W, CW_jk2 W, CW_jl2 W, CW_j3 W, CW_jk3 W, CW_jl3 W, CW_j4 W, CW_jk4 W, CW_jl4 W, PW_pk P, PW_p2 P, PW_p10 P, PW_ck P, PW_cl P, PW_ok P, PW_o0 P, PW_o1 P, PW_o3 P, PW_sk P, PW_sl P, PW_ak P, PW_bk P, PW_al P, dr0, drk, dr5, dr6, dr7, dk1, dl1, dk2, dl2, dk3, dl3, qr, qk]; refine T_79 X0 hV ?_ ?_) | (intro j hj hjn; obtain ⟨dr0, drk, dr5, dr6, dr7, dk1, dl1, dk2, dl2, dk3, dl3⟩ := CW_D W j hj; have hdd := x_dr hV hj) | (simp only [mc_127]; exact hE)))
  all_goals first
    | (exfalso; omega)
    | exact hQ _
    | exact hE
set_option maxHeartbeats 2000000 in
theorem t_128 {L : Nat} {xs : Nat → Int32} {d : Nat} {h : m_H} {w : Int64} {F : m_M} {Q : Option Value ⊕ Nat → m_H → Prop} {ow : Nat → Nat} {u p : Nat} (I : q_CI ow h F u p) {x y : Int} (hQ : ∀ v : Int32, Q (.inl (some (.int v))) (m_hS h (w, F))) (hE : Q (.inr 0) (m_hS (m_bump h) (w, F))) : m_W (p_P L xs) (d + 2) 128 k_128_0 [some (.ref 0), some (.int (Int32.ofInt x)), some (.int (Int32.ofInt y))] [] (m_hS h (w, F)) Q := by
  obtain ⟨⟨⟨s1, s2⟩, k0, r00, k1, l1, r04, k133, r133, k134, l134⟩, ⟨⟨f1, f2⟩, f6, ⟨n1, n2⟩, ⟨c1, c2⟩⟩, i3, r03, KU, i6⟩ := I
  have hX : m_X = 1000000000 := rfl
  have ku := CW_uk KU.2.2.1.1
  have up : m_R h u 0 = some p := KU.2.2.1.2.2.1
  have kp := PW_pk KU.2.2.1.2.1
  have un := KP_n KU
  have u1 := KU.1.1
  have p1 := KU.2.1.1
  have hb := bo_or u
  have X0 : CX h u (bo u) p F := KU.2.2.1
  have hV : q_x u (bo u) p F F := v_rf KU.2.2.2
  generalize ebo : bo u = b at X0 hV hb un
  have X1 := X0
  obtain ⟨W, P, up, ⟨dj1, dj2⟩, C, ⟨⟨nn1, nn2⟩, ⟨nn3, nn4⟩⟩, ⟨zz1, zz2, zz3⟩⟩ := X1
  have wb1 := CW_un W
  have wb2 := CW_bn W
  have wb3 := CW_X W
  have wb4 := CW_ub W
  have pb1 := PW_pn P
  have pb2 := PW_pX P
  have hr1 := hV.2.1.1
  have hj5 := hV.2.1.2.1
  obtain ⟨dr0, drk, dr5, dr6, dr7, dk1, dl1, dk2, dl2, dk3, dl3⟩ := CW_D W 0 (by omega)
  obtain ⟨qr, qk⟩ := CW_Q W 0 (by omega)
  have kk := CW_jk W
  obtain ⟨y, hy9, y0, y9⟩ : ∃ y9 : Int, Int32.ofInt y = Int32.ofInt y9 ∧ -2147483648 ≤ y9 ∧ y9 ≤ 2147483647 := i_any _
  rw [hy9]
  rw [k_128_0]
  (repeat' (first | (simp (disch := first | omega | (simp (disch := omega) only [i_lt0, i_tn, i_nn, m_cat_n, m_cat_i, m_cat_r, m_cat_z, m_cat_rv, m_cat_l, m_o_n, m_o_i, m_o_r, m_o_z, m_o_rv, m_o_f, hs_n, hs_k, hs_l, Nat.reduceLeDiff, not_false_eq_true, or_true, true_or, or_false, false_or, kk, k0, r00, k1, l1, r04, k133, r133, k134, l134, r03, ku, up, kp, CW_uk W, CW_u4 W, CW_u5 W, CW_u6 W, CW_dk W, CW_dl W, CW_qk W, CW_ql W, CW_jk W, CW_j0 W, CW_jk0 W, CW_jl0 W, CW_j1 W, CW_jk1 W, CW_jl1 W, CW_j2 W, CW_jk2 W, CW_jl2 W, CW_j3 W, CW_jk3 W, CW_jl3 W, CW_j4 W, CW_jk4 W, CW_jl4 W, PW_pk P, PW_p2 P, PW_p10 P, PW_ck P, PW_cl P, PW_ok P, PW_o0 P, PW_o1 P, PW_o3 P, PW_sk P, PW_sl P, PW_ak P, PW_bk P, PW_al P, dr0, drk, dr5, dr6, dr7, dk1, dl1, dk2, dl2, dk3, dl3, qr, qk]; first | done | omega) | exact Or.inl rfl | exact Or.inr rfl) only [w_aload_0, w_aloadz_0, w_aloadv_0, gf_707, m_rv_s, m_rv_n, w_iload_1, m_cat_n, m_cat_i, m_cat_r, m_cat_z, m_cat_rv, m_cat_l, Nat.zero_le, Nat.reduceLeDiff, Nat.reduceAdd, m_o_i, m_o_r, m_o_z, m_o_rv, m_C_inl, Option.toList_some, Option.toList_none, List.cons_append, List.nil_append, w_iload_2, cl_10, w_iret, k_10_0, k_10_13, tg_10_13, k_10_23, tg_10_23, w_if_lt, gf_134, w_len, w_slen, w_icmp_lt, wt_10, mc_128, w_iaload, w_script, w_icmp_eq, w_if_eq, hs_n, hs_k, hs_l, hs_R, hs_I, hs_L, hs_setI, hs_setL, hs_cpy, kk, k0, r00, k1, l1, r04, k133, r133, k134, l134, r03, ku, up, kp, CW_uk W, CW_u4 W, CW_u5 W, CW_u6 W, CW_dk W, CW_dl W, CW_qk W, CW_ql W, CW_jk W, CW_j0 W, CW_jk0 W, CW_jl0 W, CW_j1 W, CW_jk1 W, CW_jl1 W, CW_j2 W, CW_jk2 W, CW_jl2 W, CW_j3 W, CW_jk3 W, CW_jl3 W, CW_j4 W, CW_jk4 W, CW_jl4 W, PW_pk P, PW_p2 P, PW_p10 P, PW_ck P, PW_cl P, PW_ok P, PW_o0 P, PW_o1 P, PW_o3 P, PW_sk P, PW_sl P, PW_ak P, PW_bk P, PW_al P, dr0, drk, dr5, dr6, dr7, dk1, dl1, dk2, dl2, dk3, dl3, qr, qk, up_up, up_sw, up_sa, up_eq, up_na, up_nk, cp_na, i_add, i_sub, i_mul, i_tn, i_nat, Int.reduceToNat, Int.reduceAdd, Int.reduceSub, Int.reduceMul, Int.reduceNeg, l_32, l_nat, l_c_lt, l_c_gt, l_c_eq, i_lt, i_eq, i_lt0, i_0lt, i_eq0, i_eq1, Int.reduceLT, Int.reduceEq, Int.reduceLE, Int.reduceNe, not_true_eq_false, not_false_eq_true, Nat.lt_irrefl, Int.lt_irrefl, eq_self, eq_self, Nat.reduceAdd, Nat.reduceMul, Nat.reduceSub, Nat.reduceDiv, Nat.reduceMod, Nat.reduceEqDiff, Nat.reduceLeDiff, Nat.reduceLT, Nat.zero_add, Nat.add_zero, Nat.zero_le, and_false, and_true, and_self, false_and, true_and, or_false, or_true, if_true, if_false, ite_true, ite_false, ↓reduceIte, Int.reduceToNat, Int.reduceAdd, Int.reduceSub, Int.reduceMul, Int.reduceNeg, hs_bump]) | split | (simp (disch := first | omega | (simp (disch := omega) only [i_lt0, i_tn, i_nn, m_cat_n, m_cat_i, m_cat_r, m_cat_z, m_cat_rv, m_cat_l, m_o_n, m_o_i, m_o_r, m_o_z, m_o_rv, m_o_f, hs_n, hs_k, hs_l, Nat.reduceLeDiff, not_false_eq_true, or_true, true_or, or_false, false_or, kk, k0, r00, k1, l1, r04, k133, r133, k134, l134, r03, ku, up, kp, CW_uk W, CW_u4 W, CW_u5 W, CW_u6 W, CW_dk W, CW_dl W, CW_qk W, CW_ql W, CW_jk W, CW_j0 W, CW_jk0 W, CW_jl0 W, CW_j1 W, CW_jk1 W, CW_jl1 W, CW_j2 W, CW_jk2 W, CW_jl2 W, CW_j3 W, CW_jk3 W, CW_jl3 W, CW_j4 W, CW_jk4 W, CW_jl4 W, PW_pk P, PW_p2 P, PW_p10 P, PW_ck P, PW_cl P, PW_ok P, PW_o0 P, PW_o1 P, PW_o3 P, PW_sk P, PW_sl P, PW_ak P, PW_bk P, PW_al P, dr0, drk, dr5, dr6, dr7, dk1, dl1, dk2, dl2, dk3, dl3, qr, qk]; first | done | omega) | exact Or.inl rfl | exact Or.inr rfl) only [cl_79, m_cat_n, m_cat_i, m_cat_r, m_cat_z, m_cat_rv, m_cat_l, Nat.zero_le, Nat.reduceLeDiff, Nat.reduceAdd, m_o_i, m_o_r, m_o_z, m_o_rv, hs_n, hs_k, kk, k0, r00, k1, l1, r04, k133, r133, k134, l134, r03, ku, up, kp, CW_uk W, CW_u4 W, CW_u5 W, CW_u6 W, CW_dk W, CW_dl W, CW_qk W, CW_ql W, CW_jk W, CW_j0 W, CW_jk0 W, CW_jl0 W, CW_j1 W, CW_jk1 W, CW_jl1 W, CW_j2 W, CW_jk2 W, CW_jl2 W, CW_j3 W, CW_jk3 W, CW_jl3 W, CW_j4 W, CW_jk4 W, CW_jl4 W, PW_pk P, PW_p2 P, PW_p10 P, PW_ck P, PW_cl P, PW_ok P, PW_o0 P, PW_o1 P, PW_o3 P, PW_sk P, PW_sl P, PW_ak P, PW_bk P, PW_al P, dr0, drk, dr5, dr6, dr7, dk1, dl1, dk2, dl2, dk3, dl3, qr, qk]; refine T_79 X0 hV ?_ ?_) | (intro j hj hjn; obtain ⟨dr0, drk, dr5, dr6, dr7, dk1, dl1, dk2, dl2, dk3, dl3⟩ := CW_D W j hj; have hdd := x_dr hV hj) | (simp only [mc_128]; exact hE)))
  all_goals first
    | (exfalso; omega)
    | exact hQ _
    | exact hE
set_option maxHeartbeats 2000000 in
theorem t_130 {L : Nat} {xs : Nat → Int32} {d : Nat} {h : m_H} {w : Int64} {F : m_M} {Q : Option Value ⊕ Nat → m_H → Prop} {ow : Nat → Nat} {u p : Nat} (I : q_CI ow h F u p) {x y : Int} (hQ : ∀ v : Int32, Q (.inl (some (.int v))) (m_hS h (w, F))) (hE : Q (.inr 0) (m_hS (m_bump h) (w, F))) : m_W (p_P L xs) (d + 2) 130 k_130_0 [some (.ref 0), some (.int (Int32.ofInt x)), some (.int (Int32.ofInt y)), none] [] (m_hS h (w, F)) Q := by
  obtain ⟨⟨⟨s1, s2⟩, k0, r00, k1, l1, r04, k133, r133, k134, l134⟩, ⟨⟨f1, f2⟩, f6, ⟨n1, n2⟩, ⟨c1, c2⟩⟩, i3, r03, KU, i6⟩ := I
  have hX : m_X = 1000000000 := rfl
  have ku := CW_uk KU.2.2.1.1
  have up : m_R h u 0 = some p := KU.2.2.1.2.2.1
  have kp := PW_pk KU.2.2.1.2.1
  have un := KP_n KU
  have u1 := KU.1.1
  have p1 := KU.2.1.1
  have hb := bo_or u
  have X0 : CX h u (bo u) p F := KU.2.2.1
  have hV : q_x u (bo u) p F F := v_rf KU.2.2.2
  generalize ebo : bo u = b at X0 hV hb un
  have X1 := X0
  obtain ⟨W, P, up, ⟨dj1, dj2⟩, C, ⟨⟨nn1, nn2⟩, ⟨nn3, nn4⟩⟩, ⟨zz1, zz2, zz3⟩⟩ := X1
  have wb1 := CW_un W
  have wb2 := CW_bn W
  have wb3 := CW_X W
  have wb4 := CW_ub W
  have pb1 := PW_pn P
  have pb2 := PW_pX P
  have hr1 := hV.2.1.1
  have hj5 := hV.2.1.2.1
  obtain ⟨dr0, drk, dr5, dr6, dr7, dk1, dl1, dk2, dl2, dk3, dl3⟩ := CW_D W 0 (by omega)
  obtain ⟨qr, qk⟩ := CW_Q W 0 (by omega)
  have kk := CW_jk W
  obtain ⟨y, hy9, y0, y9⟩ : ∃ y9 : Int, Int32.ofInt y = Int32.ofInt y9 ∧ -2147483648 ≤ y9 ∧ y9 ≤ 2147483647 := i_any _
  rw [hy9]
  rw [k_130_0]
  (repeat' (first | (simp (disch := first | omega | (simp (disch := omega) only [i_lt0, i_tn, i_nn, m_cat_n, m_cat_i, m_cat_r, m_cat_z, m_cat_rv, m_cat_l, m_o_n, m_o_i, m_o_r, m_o_z, m_o_rv, m_o_f, hs_n, hs_k, hs_l, Nat.reduceLeDiff, not_false_eq_true, or_true, true_or, or_false, false_or, kk, k0, r00, k1, l1, r04, k133, r133, k134, l134, r03, ku, up, kp, CW_uk W, CW_u4 W, CW_u5 W, CW_u6 W, CW_dk W, CW_dl W, CW_qk W, CW_ql W, CW_jk W, CW_j0 W, CW_jk0 W, CW_jl0 W, CW_j1 W, CW_jk1 W, CW_jl1 W, CW_j2 W, CW_jk2 W, CW_jl2 W, CW_j3 W, CW_jk3 W, CW_jl3 W, CW_j4 W, CW_jk4 W, CW_jl4 W, PW_pk P, PW_p2 P, PW_p10 P, PW_ck P, PW_cl P, PW_ok P, PW_o0 P, PW_o1 P, PW_o3 P, PW_sk P, PW_sl P, PW_ak P, PW_bk P, PW_al P, dr0, drk, dr5, dr6, dr7, dk1, dl1, dk2, dl2, dk3, dl3, qr, qk]; first | done | omega) | exact Or.inl rfl | exact Or.inr rfl) only [w_aload_0, w_aloadz_0, w_aloadv_0, gf_707, m_rv_s, m_rv_n, w_iload_1, m_cat_n, m_cat_i, m_cat_r, m_cat_z, m_cat_rv, m_cat_l, Nat.zero_le, Nat.reduceLeDiff, Nat.reduceAdd, m_o_i, m_o_r, m_o_z, m_o_rv, m_C_inl, Option.toList_some, Option.toList_none, List.cons_append, List.nil_append, w_astore_3, w_astorez_3, w_astorev_3, m_o_n, m_o_f, w_iload_2, w_if_ge, wt_130, mc_130, tg_130_23, k_11_0, k_11_30, tg_11_30, k_11_31, tg_11_31, w_if_lt, gf_136, w_icmp_ge, gf_135, w_len, w_slen, w_iaload, w_script, w_goto, w_iconst, w_iret, w_icmp_eq, w_if_eq, hs_n, hs_k, hs_l, hs_R, hs_I, hs_L, hs_setI, hs_setL, hs_cpy, kk, k0, r00, k1, l1, r04, k133, r133, k134, l134, r03, ku, up, kp, CW_uk W, CW_u4 W, CW_u5 W, CW_u6 W, CW_dk W, CW_dl W, CW_qk W, CW_ql W, CW_jk W, CW_j0 W, CW_jk0 W, CW_jl0 W, CW_j1 W, CW_jk1 W, CW_jl1 W, CW_j2 W, CW_jk2 W, CW_jl2 W, CW_j3 W, CW_jk3 W, CW_jl3 W, CW_j4 W, CW_jk4 W, CW_jl4 W, PW_pk P, PW_p2 P, PW_p10 P, PW_ck P, PW_cl P, PW_ok P, PW_o0 P, PW_o1 P, PW_o3 P, PW_sk P, PW_sl P, PW_ak P, PW_bk P, PW_al P, dr0, drk, dr5, dr6, dr7, dk1, dl1, dk2, dl2, dk3, dl3, qr, qk, up_up, up_sw, up_sa, up_eq, up_na, up_nk, cp_na, i_add, i_sub, i_mul, i_tn, i_nat, Int.reduceToNat, Int.reduceAdd, Int.reduceSub, Int.reduceMul, Int.reduceNeg, l_32, l_nat, l_c_lt, l_c_gt, l_c_eq, i_lt, i_eq, i_lt0, i_0lt, i_eq0, i_eq1, Int.reduceLT, Int.reduceEq, Int.reduceLE, Int.reduceNe, not_true_eq_false, not_false_eq_true, Nat.lt_irrefl, Int.lt_irrefl, eq_self, eq_self, Nat.reduceAdd, Nat.reduceMul, Nat.reduceSub, Nat.reduceDiv, Nat.reduceMod, Nat.reduceEqDiff, Nat.reduceLeDiff, Nat.reduceLT, Nat.zero_add, Nat.add_zero, Nat.zero_le, and_false, and_true, and_self, false_and, true_and, or_false, or_true, if_true, if_false, ite_true, ite_false, ↓reduceIte, Int.reduceToNat, Int.reduceAdd, Int.reduceSub, Int.reduceMul, Int.reduceNeg, hs_bump]) | split | (simp (disch := first | omega | (simp (disch := omega) only [i_lt0, i_tn, i_nn, m_cat_n, m_cat_i, m_cat_r, m_cat_z, m_cat_rv, m_cat_l, m_o_n, m_o_i, m_o_r, m_o_z, m_o_rv, m_o_f, hs_n, hs_k, hs_l, Nat.reduceLeDiff, not_false_eq_true, or_true, true_or, or_false, false_or, kk, k0, r00, k1, l1, r04, k133, r133, k134, l134, r03, ku, up, kp, CW_uk W, CW_u4 W, CW_u5 W, CW_u6 W, CW_dk W, CW_dl W, CW_qk W, CW_ql W, CW_jk W, CW_j0 W, CW_jk0 W, CW_jl0 W, CW_j1 W, CW_jk1 W, CW_jl1 W, CW_j2 W, CW_jk2 W, CW_jl2 W, CW_j3 W, CW_jk3 W, CW_jl3 W, CW_j4 W, CW_jk4 W, CW_jl4 W, PW_pk P, PW_p2 P, PW_p10 P, PW_ck P, PW_cl P, PW_ok P, PW_o0 P, PW_o1 P, PW_o3 P, PW_sk P, PW_sl P, PW_ak P, PW_bk P, PW_al P, dr0, drk, dr5, dr6, dr7, dk1, dl1, dk2, dl2, dk3, dl3, qr, qk]; first | done | omega) | exact Or.inl rfl | exact Or.inr rfl) only [k_130_23, w_aload_3, w_aloadz_3, w_aloadv_3, w_iload_2, m_cat_n, m_cat_i, m_cat_r, m_cat_z, m_cat_rv, m_cat_l, Nat.zero_le, Nat.reduceLeDiff, Nat.reduceAdd, cl_11, m_o_i, m_o_r, m_o_z, m_o_rv, m_C_inl, Option.toList_some, Option.toList_none, List.cons_append, List.nil_append, w_iret, tg_130_23, k_11_0, k_11_30, tg_11_30, k_11_31, tg_11_31, w_iload_1, w_if_lt, w_aload_0, w_aloadz_0, w_aloadv_0, gf_136, m_rv_s, m_rv_n, w_icmp_ge, gf_135, w_len, w_slen, w_iaload, w_script, w_goto, w_iconst, w_icmp_eq, w_if_eq, hs_n, hs_k, hs_l, hs_R, hs_I, hs_L, hs_setI, hs_setL, hs_cpy, kk, k0, r00, k1, l1, r04, k133, r133, k134, l134, r03, ku, up, kp, CW_uk W, CW_u4 W, CW_u5 W, CW_u6 W, CW_dk W, CW_dl W, CW_qk W, CW_ql W, CW_jk W, CW_j0 W, CW_jk0 W, CW_jl0 W, CW_j1 W, CW_jk1 W, CW_jl1 W, CW_j2 W, CW_jk2 W, CW_jl2 W, CW_j3 W, CW_jk3 W, CW_jl3 W, CW_j4 W, CW_jk4 W, CW_jl4 W, PW_pk P, PW_p2 P, PW_p10 P, PW_ck P, PW_cl P, PW_ok P, PW_o0 P, PW_o1 P, PW_o3 P, PW_sk P, PW_sl P, PW_ak P, PW_bk P, PW_al P, dr0, drk, dr5, dr6, dr7, dk1, dl1, dk2, dl2, dk3, dl3, qr, qk, up_up, up_sw, up_sa, up_eq, up_na, up_nk, cp_na, i_add, i_sub, i_mul, i_tn, i_nat, Int.reduceToNat, Int.reduceAdd, Int.reduceSub, Int.reduceMul, Int.reduceNeg, l_32, l_nat, l_c_lt, l_c_gt, l_c_eq, i_lt, i_eq, i_lt0, i_0lt, i_eq0, i_eq1, Int.reduceLT, Int.reduceEq, Int.reduceLE, Int.reduceNe, not_true_eq_false, not_false_eq_true, Nat.lt_irrefl, Int.lt_irrefl, eq_self, eq_self, Nat.reduceAdd, Nat.reduceMul, Nat.reduceSub, Nat.reduceDiv, Nat.reduceMod, Nat.reduceEqDiff, Nat.reduceLeDiff, Nat.reduceLT, Nat.zero_add, Nat.add_zero, Nat.zero_le, and_false, and_true, and_self, false_and, true_and, or_false, or_true, if_true, if_false, ite_true, ite_false, ↓reduceIte, Int.reduceToNat, Int.reduceAdd, Int.reduceSub, Int.reduceMul, Int.reduceNeg, hs_bump]) | (simp (disch := first | omega | (simp (disch := omega) only [i_lt0, i_tn, i_nn, m_cat_n, m_cat_i, m_cat_r, m_cat_z, m_cat_rv, m_cat_l, m_o_n, m_o_i, m_o_r, m_o_z, m_o_rv, m_o_f, hs_n, hs_k, hs_l, Nat.reduceLeDiff, not_false_eq_true, or_true, true_or, or_false, false_or, kk, k0, r00, k1, l1, r04, k133, r133, k134, l134, r03, ku, up, kp, CW_uk W, CW_u4 W, CW_u5 W, CW_u6 W, CW_dk W, CW_dl W, CW_qk W, CW_ql W, CW_jk W, CW_j0 W, CW_jk0 W, CW_jl0 W, CW_j1 W, CW_jk1 W, CW_jl1 W, CW_j2 W, CW_jk2 W, CW_jl2 W, CW_j3 W, CW_jk3 W, CW_jl3 W, CW_j4 W, CW_jk4 W, CW_jl4 W, PW_pk P, PW_p2 P, PW_p10 P, PW_ck P, PW_cl P, PW_ok P, PW_o0 P, PW_o1 P, PW_o3 P, PW_sk P, PW_sl P, PW_ak P, PW_bk P, PW_al P, dr0, drk, dr5, dr6, dr7, dk1, dl1, dk2, dl2, dk3, dl3, qr, qk]; first | done | omega) | exact Or.inl rfl | exact Or.inr rfl) only [cl_79, m_cat_n, m_cat_i, m_cat_r, m_cat_z, m_cat_rv, m_cat_l, Nat.zero_le, Nat.reduceLeDiff, Nat.reduceAdd, m_o_i, m_o_r, m_o_z, m_o_rv, hs_n, hs_k, kk, k0, r00, k1, l1, r04, k133, r133, k134, l134, r03, ku, up, kp, CW_uk W, CW_u4 W, CW_u5 W, CW_u6 W, CW_dk W, CW_dl W, CW_qk W, CW_ql W, CW_jk W, CW_j0 W, CW_jk0 W, CW_jl0 W, CW_j1 W, CW_jk1 W, CW_jl1 W, CW_j2 W, CW_jk2 W, CW_jl2 W, CW_j3 W, CW_jk3 W, CW_jl3 W, CW_j4 W, CW_jk4 W, CW_jl4 W, PW_pk P, PW_p2 P, PW_p10 P, PW_ck P, PW_cl P, PW_ok P, PW_o0 P, PW_o1 P, PW_o3 P, PW_sk P, PW_sl P, PW_ak P, PW_bk P, PW_al P, dr0, drk, dr5, dr6, dr7, dk1, dl1, dk2, dl2, dk3, dl3, qr, qk]; refine T_79 X0 hV ?_ ?_) | (intro j hj hjn; obtain ⟨dr0, drk, dr5, dr6, dr7, dk1, dl1, dk2, dl2, dk3, dl3⟩ := CW_D W j hj; have hdd := x_dr hV hj) | (simp only [mc_130]; exact hE)))
  all_goals first
    | (exfalso; omega)
    | exact hQ _
    | exact hE
set_option maxHeartbeats 2000000 in
theorem t_132 {L : Nat} {xs : Nat → Int32} {d : Nat} {h : m_H} {w : Int64} {F : m_M} {Q : Option Value ⊕ Nat → m_H → Prop} {ow : Nat → Nat} {u p : Nat} (I : q_CI ow h F u p) {x : Int} (hQ : ∀ v : Int32, Q (.inl (some (.int v))) (m_hS h (w, F))) (hE : Q (.inr 0) (m_hS (m_bump h) (w, F))) : m_W (p_P L xs) (d + 2) 132 k_132_0 [some (.ref 0), some (.int (Int32.ofInt x))] [] (m_hS h (w, F)) Q := by
  obtain ⟨⟨⟨s1, s2⟩, k0, r00, k1, l1, r04, k133, r133, k134, l134⟩, ⟨⟨f1, f2⟩, f6, ⟨n1, n2⟩, ⟨c1, c2⟩⟩, i3, r03, KU, i6⟩ := I
  have hX : m_X = 1000000000 := rfl
  have ku := CW_uk KU.2.2.1.1
  have up : m_R h u 0 = some p := KU.2.2.1.2.2.1
  have kp := PW_pk KU.2.2.1.2.1
  have un := KP_n KU
  have u1 := KU.1.1
  have p1 := KU.2.1.1
  have hb := bo_or u
  have X0 : CX h u (bo u) p F := KU.2.2.1
  have hV : q_x u (bo u) p F F := v_rf KU.2.2.2
  generalize ebo : bo u = b at X0 hV hb un
  have X1 := X0
  obtain ⟨W, P, up, ⟨dj1, dj2⟩, C, ⟨⟨nn1, nn2⟩, ⟨nn3, nn4⟩⟩, ⟨zz1, zz2, zz3⟩⟩ := X1
  have wb1 := CW_un W
  have wb2 := CW_bn W
  have wb3 := CW_X W
  have wb4 := CW_ub W
  have pb1 := PW_pn P
  have pb2 := PW_pX P
  have hr1 := hV.2.1.1
  have hj5 := hV.2.1.2.1
  obtain ⟨dr0, drk, dr5, dr6, dr7, dk1, dl1, dk2, dl2, dk3, dl3⟩ := CW_D W 0 (by omega)
  obtain ⟨qr, qk⟩ := CW_Q W 0 (by omega)
  have kk := CW_jk W
  rw [k_132_0]
  (repeat' (first | (simp (disch := first | omega | (simp (disch := omega) only [i_lt0, i_tn, i_nn, m_cat_n, m_cat_i, m_cat_r, m_cat_z, m_cat_rv, m_cat_l, m_o_n, m_o_i, m_o_r, m_o_z, m_o_rv, m_o_f, hs_n, hs_k, hs_l, Nat.reduceLeDiff, not_false_eq_true, or_true, true_or, or_false, false_or, kk, k0, r00, k1, l1, r04, k133, r133, k134, l134, r03, ku, up, kp, CW_uk W, CW_u4 W, CW_u5 W, CW_u6 W, CW_dk W, CW_dl W, CW_qk W, CW_ql W, CW_jk W, CW_j0 W, CW_jk0 W, CW_jl0 W, CW_j1 W, CW_jk1 W, CW_jl1 W, CW_j2 W, CW_jk2 W, CW_jl2 W, CW_j3 W, CW_jk3 W, CW_jl3 W, CW_j4 W, CW_jk4 W, CW_jl4 W, PW_pk P, PW_p2 P, PW_p10 P, PW_ck P, PW_cl P, PW_ok P, PW_o0 P, PW_o1 P, PW_o3 P, PW_sk P, PW_sl P, PW_ak P, PW_bk P, PW_al P, dr0, drk, dr5, dr6, dr7, dk1, dl1, dk2, dl2, dk3, dl3, qr, qk]; first | done | omega) | exact Or.inl rfl | exact Or.inr rfl) only [w_aload_0, w_aloadz_0, w_aloadv_0, gf_707, m_rv_s, m_rv_n, w_iload_1, m_cat_n, m_cat_i, m_cat_r, m_cat_z, m_cat_rv, m_cat_l, Nat.zero_le, Nat.reduceLeDiff, Nat.reduceAdd, m_o_i, m_o_r, m_o_z, m_o_rv, m_C_inl, Option.toList_some, Option.toList_none, List.cons_append, List.nil_append, w_iret, w_icmp_eq, w_if_eq, hs_n, hs_k, hs_l, hs_R, hs_I, hs_L, hs_setI, hs_setL, hs_cpy, kk, k0, r00, k1, l1, r04, k133, r133, k134, l134, r03, ku, up, kp, CW_uk W, CW_u4 W, CW_u5 W, CW_u6 W, CW_dk W, CW_dl W, CW_qk W, CW_ql W, CW_jk W, CW_j0 W, CW_jk0 W, CW_jl0 W, CW_j1 W, CW_jk1 W, CW_jl1 W, CW_j2 W, CW_jk2 W, CW_jl2 W, CW_j3 W, CW_jk3 W, CW_jl3 W, CW_j4 W, CW_jk4 W, CW_jl4 W, PW_pk P, PW_p2 P, PW_p10 P, PW_ck P, PW_cl P, PW_ok P, PW_o0 P, PW_o1 P, PW_o3 P, PW_sk P, PW_sl P, PW_ak P, PW_bk P, PW_al P, dr0, drk, dr5, dr6, dr7, dk1, dl1, dk2, dl2, dk3, dl3, qr, qk, up_up, up_sw, up_sa, up_eq, up_na, up_nk, cp_na, i_add, i_sub, i_mul, i_tn, i_nat, Int.reduceToNat, Int.reduceAdd, Int.reduceSub, Int.reduceMul, Int.reduceNeg, l_32, l_nat, l_c_lt, l_c_gt, l_c_eq, i_lt, i_eq, i_lt0, i_0lt, i_eq0, i_eq1, Int.reduceLT, Int.reduceEq, Int.reduceLE, Int.reduceNe, not_true_eq_false, not_false_eq_true, Nat.lt_irrefl, Int.lt_irrefl, eq_self, eq_self, Nat.reduceAdd, Nat.reduceMul, Nat.reduceSub, Nat.reduceDiv, Nat.reduceMod, Nat.reduceEqDiff, Nat.reduceLeDiff, Nat.reduceLT, Nat.zero_add, Nat.add_zero, Nat.zero_le, and_false, and_true, and_self, false_and, true_and, or_false, or_true, if_true, if_false, ite_true, ite_false, ↓reduceIte, Int.reduceToNat, Int.reduceAdd, Int.reduceSub, Int.reduceMul, Int.reduceNeg, hs_bump]) | split | (simp (disch := first | omega | (simp (disch := omega) only [i_lt0, i_tn, i_nn, m_cat_n, m_cat_i, m_cat_r, m_cat_z, m_cat_rv, m_cat_l, m_o_n, m_o_i, m_o_r, m_o_z, m_o_rv, m_o_f, hs_n, hs_k, hs_l, Nat.reduceLeDiff, not_false_eq_true, or_true, true_or, or_false, false_or, kk, k0, r00, k1, l1, r04, k133, r133, k134, l134, r03, ku, up, kp, CW_uk W, CW_u4 W, CW_u5 W, CW_u6 W, CW_dk W, CW_dl W, CW_qk W, CW_ql W, CW_jk W, CW_j0 W, CW_jk0 W, CW_jl0 W, CW_j1 W, CW_jk1 W, CW_jl1 W, CW_j2 W, CW_jk2 W, CW_jl2 W, CW_j3 W, CW_jk3 W, CW_jl3 W, CW_j4 W, CW_jk4 W, CW_jl4 W, PW_pk P, PW_p2 P, PW_p10 P, PW_ck P, PW_cl P, PW_ok P, PW_o0 P, PW_o1 P, PW_o3 P, PW_sk P, PW_sl P, PW_ak P, PW_bk P, PW_al P, dr0, drk, dr5, dr6, dr7, dk1, dl1, dk2, dl2, dk3, dl3, qr, qk]; first | done | omega) | exact Or.inl rfl | exact Or.inr rfl) only [cl_79, m_cat_n, m_cat_i, m_cat_r, m_cat_z, m_cat_rv, m_cat_l, Nat.zero_le, Nat.reduceLeDiff, Nat.reduceAdd, m_o_i, m_o_r, m_o_z, m_o_rv, hs_n, hs_k, kk, k0, r00, k1, l1, r04, k133, r133, k134, l134, r03, ku, up, kp, CW_uk W, CW_u4 W, CW_u5 W, CW_u6 W, CW_dk W, CW_dl W, CW_qk W, CW_ql W, CW_jk W, CW_j0 W, CW_jk0 W, CW_jl0 W, CW_j1 W, CW_jk1 W, CW_jl1 W, CW_j2 W, CW_jk2 W, CW_jl2 W, CW_j3 W, CW_jk3 W, CW_jl3 W, CW_j4 W, CW_jk4 W, CW_jl4 W, PW_pk P, PW_p2 P, PW_p10 P, PW_ck P, PW_cl P, PW_ok P, PW_o0 P, PW_o1 P, PW_o3 P, PW_sk P, PW_sl P, PW_ak P, PW_bk P, PW_al P, dr0, drk, dr5, dr6, dr7, dk1, dl1, dk2, dl2, dk3, dl3, qr, qk]; refine T_79 X0 hV ?_ ?_) | (intro j hj hjn; obtain ⟨dr0, drk, dr5, dr6, dr7, dk1, dl1, dk2, dl2, dk3, dl3⟩ := CW_D W j hj; have hdd := x_dr hV hj) | (simp (disch := first | omega | (simp (disch := omega) only [i_lt0, i_tn, i_nn, m_cat_n, m_cat_i, m_cat_r, m_cat_z, m_cat_rv, m_cat_l, m_o_n, m_o_i, m_o_r, m_o_z, m_o_rv, m_o_f, hs_n, hs_k, hs_l, Nat.reduceLeDiff, not_false_eq_true, or_true, true_or, or_false, false_or, kk, k0, r00, k1, l1, r04, k133, r133, k134, l134, r03, ku, up, kp, CW_uk W, CW_u4 W, CW_u5 W, CW_u6 W, CW_dk W, CW_dl W, CW_qk W, CW_ql W, CW_jk W, CW_j0 W, CW_jk0 W, CW_jl0 W, CW_j1 W, CW_jk1 W, CW_jl1 W, CW_j2 W, CW_jk2 W, CW_jl2 W, CW_j3 W, CW_jk3 W, CW_jl3 W, CW_j4 W, CW_jk4 W, CW_jl4 W, PW_pk P, PW_p2 P, PW_p10 P, PW_ck P, PW_cl P, PW_ok P, PW_o0 P, PW_o1 P, PW_o3 P, PW_sk P, PW_sl P, PW_ak P, PW_bk P, PW_al P, dr0, drk, dr5, dr6, dr7, dk1, dl1, dk2, dl2, dk3, dl3, qr, qk]; first | done | omega) | exact Or.inl rfl | exact Or.inr rfl) only [cl_89, m_cat_n, m_cat_i, m_cat_r, m_cat_z, m_cat_rv, m_cat_l, Nat.zero_le, Nat.reduceLeDiff, Nat.reduceAdd, m_o_i, m_o_r, m_o_z, m_o_rv, hs_n, hs_k, kk, k0, r00, k1, l1, r04, k133, r133, k134, l134, r03, ku, up, kp, CW_uk W, CW_u4 W, CW_u5 W, CW_u6 W, CW_dk W, CW_dl W, CW_qk W, CW_ql W, CW_jk W, CW_j0 W, CW_jk0 W, CW_jl0 W, CW_j1 W, CW_jk1 W, CW_jl1 W, CW_j2 W, CW_jk2 W, CW_jl2 W, CW_j3 W, CW_jk3 W, CW_jl3 W, CW_j4 W, CW_jk4 W, CW_jl4 W, PW_pk P, PW_p2 P, PW_p10 P, PW_ck P, PW_cl P, PW_ok P, PW_o0 P, PW_o1 P, PW_o3 P, PW_sk P, PW_sl P, PW_ak P, PW_bk P, PW_al P, dr0, drk, dr5, dr6, dr7, dk1, dl1, dk2, dl2, dk3, dl3, qr, qk]; refine t_89 X0 hV hj ?_; intro v9 v90 v91) | (simp only [mc_132]; exact hE)))
  all_goals first
    | (exfalso; omega)
    | exact hQ _
    | exact hE
set_option maxHeartbeats 2000000 in
theorem t_138 {L : Nat} {xs : Nat → Int32} {d : Nat} {h : m_H} {w : Int64} {F : m_M} {Q : Option Value ⊕ Nat → m_H → Prop} {ow : Nat → Nat} {u p : Nat} (I : q_CI ow h F u p) {x : Int} (hQ : ∀ v : UInt64, Q (.inl (some (.double v))) (m_hS h (w, F))) (hE : Q (.inr 0) (m_hS (m_bump h) (w, F))) : m_W (p_P L xs) (d + 2) 138 k_138_0 [some (.ref 0), some (.int (Int32.ofInt x)), none] [] (m_hS h (w, F)) Q := by
  obtain ⟨⟨⟨s1, s2⟩, k0, r00, k1, l1, r04, k133, r133, k134, l134⟩, ⟨⟨f1, f2⟩, f6, ⟨n1, n2⟩, ⟨c1, c2⟩⟩, i3, r03, KU, i6⟩ := I
  have hX : m_X = 1000000000 := rfl
  have ku := CW_uk KU.2.2.1.1
  have up : m_R h u 0 = some p := KU.2.2.1.2.2.1
  have kp := PW_pk KU.2.2.1.2.1
  have un := KP_n KU
  have u1 := KU.1.1
  have p1 := KU.2.1.1
  have hb := bo_or u
  have X0 : CX h u (bo u) p F := KU.2.2.1
  have hV : q_x u (bo u) p F F := v_rf KU.2.2.2
  generalize ebo : bo u = b at X0 hV hb un
  have X1 := X0
  obtain ⟨W, P, up, ⟨dj1, dj2⟩, C, ⟨⟨nn1, nn2⟩, ⟨nn3, nn4⟩⟩, ⟨zz1, zz2, zz3⟩⟩ := X1
  have wb1 := CW_un W
  have wb2 := CW_bn W
  have wb3 := CW_X W
  have wb4 := CW_ub W
  have pb1 := PW_pn P
  have pb2 := PW_pX P
  have hr1 := hV.2.1.1
  have hj5 := hV.2.1.2.1
  obtain ⟨dr0, drk, dr5, dr6, dr7, dk1, dl1, dk2, dl2, dk3, dl3⟩ := CW_D W 0 (by omega)
  obtain ⟨qr, qk⟩ := CW_Q W 0 (by omega)
  have kk := CW_jk W
  rw [k_138_0]
  (repeat' (first | (simp (disch := first | omega | (simp (disch := omega) only [i_lt0, i_tn, i_nn, m_cat_n, m_cat_i, m_cat_r, m_cat_z, m_cat_rv, m_cat_l, m_o_n, m_o_i, m_o_r, m_o_z, m_o_rv, m_o_f, hs_n, hs_k, hs_l, Nat.reduceLeDiff, not_false_eq_true, or_true, true_or, or_false, false_or, kk, k0, r00, k1, l1, r04, k133, r133, k134, l134, r03, ku, up, kp, CW_uk W, CW_u4 W, CW_u5 W, CW_u6 W, CW_dk W, CW_dl W, CW_qk W, CW_ql W, CW_jk W, CW_j0 W, CW_jk0 W, CW_jl0 W, CW_j1 W, CW_jk1 W, CW_jl1 W, CW_j2 W, CW_jk2 W, CW_jl2 W, CW_j3 W, CW_jk3 W, CW_jl3 W, CW_j4 W, CW_jk4 W, CW_jl4 W, PW_pk P, PW_p2 P, PW_p10 P, PW_ck P, PW_cl P, PW_ok P, PW_o0 P, PW_o1 P, PW_o3 P, PW_sk P, PW_sl P, PW_ak P, PW_bk P, PW_al P, dr0, drk, dr5, dr6, dr7, dk1, dl1, dk2, dl2, dk3, dl3, qr, qk]; first | done | omega) | exact Or.inl rfl | exact Or.inr rfl) only [w_aload_0, w_aloadz_0, w_aloadv_0, gf_707, m_rv_s, m_rv_n, w_iload_1, m_cat_n, m_cat_i, m_cat_r, m_cat_z, m_cat_rv, m_cat_l, Nat.zero_le, Nat.reduceLeDiff, Nat.reduceAdd, m_o_i, m_o_r, m_o_z, m_o_rv, m_C_inl, Option.toList_some, Option.toList_none, List.cons_append, List.nil_append, w_astore_2, w_astorez_2, w_astorev_2, m_o_n, m_o_f, gf_641, w_if_ne, w_dconst1, w_goto, tg_138_23, tg_138_37, w_icmp_eq, w_if_eq, hs_n, hs_k, hs_l, hs_R, hs_I, hs_L, hs_setI, hs_setL, hs_cpy, kk, k0, r00, k1, l1, r04, k133, r133, k134, l134, r03, ku, up, kp, CW_uk W, CW_u4 W, CW_u5 W, CW_u6 W, CW_dk W, CW_dl W, CW_qk W, CW_ql W, CW_jk W, CW_j0 W, CW_jk0 W, CW_jl0 W, CW_j1 W, CW_jk1 W, CW_jl1 W, CW_j2 W, CW_jk2 W, CW_jl2 W, CW_j3 W, CW_jk3 W, CW_jl3 W, CW_j4 W, CW_jk4 W, CW_jl4 W, PW_pk P, PW_p2 P, PW_p10 P, PW_ck P, PW_cl P, PW_ok P, PW_o0 P, PW_o1 P, PW_o3 P, PW_sk P, PW_sl P, PW_ak P, PW_bk P, PW_al P, dr0, drk, dr5, dr6, dr7, dk1, dl1, dk2, dl2, dk3, dl3, qr, qk, up_up, up_sw, up_sa, up_eq, up_na, up_nk, cp_na, i_add, i_sub, i_mul, i_tn, i_nat, Int.reduceToNat, Int.reduceAdd, Int.reduceSub, Int.reduceMul, Int.reduceNeg, l_32, l_nat, l_c_lt, l_c_gt, l_c_eq, i_lt, i_eq, i_lt0, i_0lt, i_eq0, i_eq1, Int.reduceLT, Int.reduceEq, Int.reduceLE, Int.reduceNe, not_true_eq_false, not_false_eq_true, Nat.lt_irrefl, Int.lt_irrefl, eq_self, eq_self, Nat.reduceAdd, Nat.reduceMul, Nat.reduceSub, Nat.reduceDiv, Nat.reduceMod, Nat.reduceEqDiff, Nat.reduceLeDiff, Nat.reduceLT, Nat.zero_add, Nat.add_zero, Nat.zero_le, and_false, and_true, and_self, false_and, true_and, or_false, or_true, if_true, if_false, ite_true, ite_false, ↓reduceIte, Int.reduceToNat, Int.reduceAdd, Int.reduceSub, Int.reduceMul, Int.reduceNeg, hs_bump]) | split | (simp (disch := first | omega | (simp (disch := omega) only [i_lt0, i_tn, i_nn, m_cat_n, m_cat_i, m_cat_r, m_cat_z, m_cat_rv, m_cat_l, m_o_n, m_o_i, m_o_r, m_o_z, m_o_rv, m_o_f, hs_n, hs_k, hs_l, Nat.reduceLeDiff, not_false_eq_true, or_true, true_or, or_false, false_or, kk, k0, r00, k1, l1, r04, k133, r133, k134, l134, r03, ku, up, kp, CW_uk W, CW_u4 W, CW_u5 W, CW_u6 W, CW_dk W, CW_dl W, CW_qk W, CW_ql W, CW_jk W, CW_j0 W, CW_jk0 W, CW_jl0 W, CW_j1 W, CW_jk1 W, CW_jl1 W, CW_j2 W, CW_jk2 W, CW_jl2 W, CW_j3 W, CW_jk3 W, CW_jl3 W, CW_j4 W, CW_jk4 W, CW_jl4 W, PW_pk P, PW_p2 P, PW_p10 P, PW_ck P, PW_cl P, PW_ok P, PW_o0 P, PW_o1 P, PW_o3 P, PW_sk P, PW_sl P, PW_ak P, PW_bk P, PW_al P, dr0, drk, dr5, dr6, dr7, dk1, dl1, dk2, dl2, dk3, dl3, qr, qk]; first | done | omega) | exact Or.inl rfl | exact Or.inr rfl) only [k_138_23, w_aload_2, w_aloadz_2, w_aloadv_2, gf_141, m_rv_s, m_rv_n, w_i2d, w_aload_0, w_aloadz_0, w_aloadv_0, gf_707, gf_641, w_ddiv, tg_138_23, tg_138_37, m_C_inl, Option.toList_some, Option.toList_none, List.cons_append, List.nil_append, w_icmp_eq, w_if_eq, hs_n, hs_k, hs_l, hs_R, hs_I, hs_L, hs_setI, hs_setL, hs_cpy, kk, k0, r00, k1, l1, r04, k133, r133, k134, l134, r03, ku, up, kp, CW_uk W, CW_u4 W, CW_u5 W, CW_u6 W, CW_dk W, CW_dl W, CW_qk W, CW_ql W, CW_jk W, CW_j0 W, CW_jk0 W, CW_jl0 W, CW_j1 W, CW_jk1 W, CW_jl1 W, CW_j2 W, CW_jk2 W, CW_jl2 W, CW_j3 W, CW_jk3 W, CW_jl3 W, CW_j4 W, CW_jk4 W, CW_jl4 W, PW_pk P, PW_p2 P, PW_p10 P, PW_ck P, PW_cl P, PW_ok P, PW_o0 P, PW_o1 P, PW_o3 P, PW_sk P, PW_sl P, PW_ak P, PW_bk P, PW_al P, dr0, drk, dr5, dr6, dr7, dk1, dl1, dk2, dl2, dk3, dl3, qr, qk, up_up, up_sw, up_sa, up_eq, up_na, up_nk, cp_na, i_add, i_sub, i_mul, i_tn, i_nat, Int.reduceToNat, Int.reduceAdd, Int.reduceSub, Int.reduceMul, Int.reduceNeg, l_32, l_nat, l_c_lt, l_c_gt, l_c_eq, i_lt, i_eq, i_lt0, i_0lt, i_eq0, i_eq1, Int.reduceLT, Int.reduceEq, Int.reduceLE, Int.reduceNe, not_true_eq_false, not_false_eq_true, Nat.lt_irrefl, Int.lt_irrefl, eq_self, eq_self, Nat.reduceAdd, Nat.reduceMul, Nat.reduceSub, Nat.reduceDiv, Nat.reduceMod, Nat.reduceEqDiff, Nat.reduceLeDiff, Nat.reduceLT, Nat.zero_add, Nat.add_zero, Nat.zero_le, and_false, and_true, and_self, false_and, true_and, or_false, or_true, if_true, if_false, ite_true, ite_false, ↓reduceIte, Int.reduceToNat, Int.reduceAdd, Int.reduceSub, Int.reduceMul, Int.reduceNeg, hs_bump]) | (simp (disch := first | omega | (simp (disch := omega) only [i_lt0, i_tn, i_nn, m_cat_n, m_cat_i, m_cat_r, m_cat_z, m_cat_rv, m_cat_l, m_o_n, m_o_i, m_o_r, m_o_z, m_o_rv, m_o_f, hs_n, hs_k, hs_l, Nat.reduceLeDiff, not_false_eq_true, or_true, true_or, or_false, false_or, kk, k0, r00, k1, l1, r04, k133, r133, k134, l134, r03, ku, up, kp, CW_uk W, CW_u4 W, CW_u5 W, CW_u6 W, CW_dk W, CW_dl W, CW_qk W, CW_ql W, CW_jk W, CW_j0 W, CW_jk0 W, CW_jl0 W, CW_j1 W, CW_jk1 W, CW_jl1 W, CW_j2 W, CW_jk2 W, CW_jl2 W, CW_j3 W, CW_jk3 W, CW_jl3 W, CW_j4 W, CW_jk4 W, CW_jl4 W, PW_pk P, PW_p2 P, PW_p10 P, PW_ck P, PW_cl P, PW_ok P, PW_o0 P, PW_o1 P, PW_o3 P, PW_sk P, PW_sl P, PW_ak P, PW_bk P, PW_al P, dr0, drk, dr5, dr6, dr7, dk1, dl1, dk2, dl2, dk3, dl3, qr, qk]; first | done | omega) | exact Or.inl rfl | exact Or.inr rfl) only [k_138_37, w_dret, tg_138_23, tg_138_37, m_C_inl, Option.toList_some, Option.toList_none, List.cons_append, List.nil_append, w_icmp_eq, w_if_eq, hs_n, hs_k, hs_l, hs_R, hs_I, hs_L, hs_setI, hs_setL, hs_cpy, kk, k0, r00, k1, l1, r04, k133, r133, k134, l134, r03, ku, up, kp, CW_uk W, CW_u4 W, CW_u5 W, CW_u6 W, CW_dk W, CW_dl W, CW_qk W, CW_ql W, CW_jk W, CW_j0 W, CW_jk0 W, CW_jl0 W, CW_j1 W, CW_jk1 W, CW_jl1 W, CW_j2 W, CW_jk2 W, CW_jl2 W, CW_j3 W, CW_jk3 W, CW_jl3 W, CW_j4 W, CW_jk4 W, CW_jl4 W, PW_pk P, PW_p2 P, PW_p10 P, PW_ck P, PW_cl P, PW_ok P, PW_o0 P, PW_o1 P, PW_o3 P, PW_sk P, PW_sl P, PW_ak P, PW_bk P, PW_al P, dr0, drk, dr5, dr6, dr7, dk1, dl1, dk2, dl2, dk3, dl3, qr, qk, up_up, up_sw, up_sa, up_eq, up_na, up_nk, cp_na, i_add, i_sub, i_mul, i_tn, i_nat, Int.reduceToNat, Int.reduceAdd, Int.reduceSub, Int.reduceMul, Int.reduceNeg, l_32, l_nat, l_c_lt, l_c_gt, l_c_eq, i_lt, i_eq, i_lt0, i_0lt, i_eq0, i_eq1, Int.reduceLT, Int.reduceEq, Int.reduceLE, Int.reduceNe, not_true_eq_false, not_false_eq_true, Nat.lt_irrefl, Int.lt_irrefl, eq_self, eq_self, Nat.reduceAdd, Nat.reduceMul, Nat.reduceSub, Nat.reduceDiv, Nat.reduceMod, Nat.reduceEqDiff, Nat.reduceLeDiff, Nat.reduceLT, Nat.zero_add, Nat.add_zero, Nat.zero_le, and_false, and_true, and_self, false_and, true_and, or_false, or_true, if_true, if_false, ite_true, ite_false, ↓reduceIte, Int.reduceToNat, Int.reduceAdd, Int.reduceSub, Int.reduceMul, Int.reduceNeg, hs_bump]) | (simp (disch := first | omega | (simp (disch := omega) only [i_lt0, i_tn, i_nn, m_cat_n, m_cat_i, m_cat_r, m_cat_z, m_cat_rv, m_cat_l, m_o_n, m_o_i, m_o_r, m_o_z, m_o_rv, m_o_f, hs_n, hs_k, hs_l, Nat.reduceLeDiff, not_false_eq_true, or_true, true_or, or_false, false_or, kk, k0, r00, k1, l1, r04, k133, r133, k134, l134, r03, ku, up, kp, CW_uk W, CW_u4 W, CW_u5 W, CW_u6 W, CW_dk W, CW_dl W, CW_qk W, CW_ql W, CW_jk W, CW_j0 W, CW_jk0 W, CW_jl0 W, CW_j1 W, CW_jk1 W, CW_jl1 W, CW_j2 W, CW_jk2 W, CW_jl2 W, CW_j3 W, CW_jk3 W, CW_jl3 W, CW_j4 W, CW_jk4 W, CW_jl4 W, PW_pk P, PW_p2 P, PW_p10 P, PW_ck P, PW_cl P, PW_ok P, PW_o0 P, PW_o1 P, PW_o3 P, PW_sk P, PW_sl P, PW_ak P, PW_bk P, PW_al P, dr0, drk, dr5, dr6, dr7, dk1, dl1, dk2, dl2, dk3, dl3, qr, qk]; first | done | omega) | exact Or.inl rfl | exact Or.inr rfl) only [cl_79, m_cat_n, m_cat_i, m_cat_r, m_cat_z, m_cat_rv, m_cat_l, Nat.zero_le, Nat.reduceLeDiff, Nat.reduceAdd, m_o_i, m_o_r, m_o_z, m_o_rv, hs_n, hs_k, kk, k0, r00, k1, l1, r04, k133, r133, k134, l134, r03, ku, up, kp, CW_uk W, CW_u4 W, CW_u5 W, CW_u6 W, CW_dk W, CW_dl W, CW_qk W, CW_ql W, CW_jk W, CW_j0 W, CW_jk0 W, CW_jl0 W, CW_j1 W, CW_jk1 W, CW_jl1 W, CW_j2 W, CW_jk2 W, CW_jl2 W, CW_j3 W, CW_jk3 W, CW_jl3 W, CW_j4 W, CW_jk4 W, CW_jl4 W, PW_pk P, PW_p2 P, PW_p10 P, PW_ck P, PW_cl P, PW_ok P, PW_o0 P, PW_o1 P, PW_o3 P, PW_sk P, PW_sl P, PW_ak P, PW_bk P, PW_al P, dr0, drk, dr5, dr6, dr7, dk1, dl1, dk2, dl2, dk3, dl3, qr, qk]; refine T_79 X0 hV ?_ ?_) | (intro j hj hjn; obtain ⟨dr0, drk, dr5, dr6, dr7, dk1, dl1, dk2, dl2, dk3, dl3⟩ := CW_D W j hj; have hdd := x_dr hV hj) | (simp only [mc_138]; exact hE)))
  all_goals first
    | (exfalso; omega)
    | exact hQ _
    | exact hE
    | (rw [w_ddiv (fp_dd (by assumption)), w_dret]
       exact hQ _)
set_option maxHeartbeats 2000000 in
theorem t_139 {L : Nat} {xs : Nat → Int32} {d : Nat} {h : m_H} {w : Int64} {F : m_M} {Q : Option Value ⊕ Nat → m_H → Prop} {ow : Nat → Nat} {u p : Nat} (I : q_CI ow h F u p) {x : Int} (hQ : ∀ v : UInt32, FP.Core.fIsNaN v = false → Q (.inl (some (.float v))) (m_hS h (w, F))) (hE : Q (.inr 0) (m_hS (m_bump h) (w, F))) : m_W (p_P L xs) (d + 2) 139 k_139_0 [some (.ref 0), some (.int (Int32.ofInt x)), none] [] (m_hS h (w, F)) Q := by
  obtain ⟨⟨⟨s1, s2⟩, k0, r00, k1, l1, r04, k133, r133, k134, l134⟩, ⟨⟨f1, f2⟩, f6, ⟨n1, n2⟩, ⟨c1, c2⟩⟩, i3, r03, KU, i6⟩ := I
  have hX : m_X = 1000000000 := rfl
  have ku := CW_uk KU.2.2.1.1
  have up : m_R h u 0 = some p := KU.2.2.1.2.2.1
  have kp := PW_pk KU.2.2.1.2.1
  have un := KP_n KU
  have u1 := KU.1.1
  have p1 := KU.2.1.1
  have hb := bo_or u
  have X0 : CX h u (bo u) p F := KU.2.2.1
  have hV : q_x u (bo u) p F F := v_rf KU.2.2.2
  generalize ebo : bo u = b at X0 hV hb un
  have X1 := X0
  obtain ⟨W, P, up, ⟨dj1, dj2⟩, C, ⟨⟨nn1, nn2⟩, ⟨nn3, nn4⟩⟩, ⟨zz1, zz2, zz3⟩⟩ := X1
  have wb1 := CW_un W
  have wb2 := CW_bn W
  have wb3 := CW_X W
  have wb4 := CW_ub W
  have pb1 := PW_pn P
  have pb2 := PW_pX P
  have hr1 := hV.2.1.1
  have hj5 := hV.2.1.2.1
  obtain ⟨dr0, drk, dr5, dr6, dr7, dk1, dl1, dk2, dl2, dk3, dl3⟩ := CW_D W 0 (by omega)
  obtain ⟨qr, qk⟩ := CW_Q W 0 (by omega)
  have kk := CW_jk W
  rw [k_139_0]
  (repeat' (first | (simp (disch := first | omega | (simp (disch := omega) only [i_lt0, i_tn, i_nn, m_cat_n, m_cat_i, m_cat_r, m_cat_z, m_cat_rv, m_cat_l, m_o_n, m_o_i, m_o_r, m_o_z, m_o_rv, m_o_f, hs_n, hs_k, hs_l, Nat.reduceLeDiff, not_false_eq_true, or_true, true_or, or_false, false_or, kk, k0, r00, k1, l1, r04, k133, r133, k134, l134, r03, ku, up, kp, CW_uk W, CW_u4 W, CW_u5 W, CW_u6 W, CW_dk W, CW_dl W, CW_qk W, CW_ql W, CW_jk W, CW_j0 W, CW_jk0 W, CW_jl0 W, CW_j1 W, CW_jk1 W, CW_jl1 W, CW_j2 W, CW_jk2 W, CW_jl2 W, CW_j3 W, CW_jk3 W, CW_jl3 W, CW_j4 W, CW_jk4 W, CW_jl4 W, PW_pk P, PW_p2 P, PW_p10 P, PW_ck P, PW_cl P, PW_ok P, PW_o0 P, PW_o1 P, PW_o3 P, PW_sk P, PW_sl P, PW_ak P, PW_bk P, PW_al P, dr0, drk, dr5, dr6, dr7, dk1, dl1, dk2, dl2, dk3, dl3, qr, qk]; first | done | omega) | exact Or.inl rfl | exact Or.inr rfl) only [w_aload_0, w_aloadz_0, w_aloadv_0, gf_707, m_rv_s, m_rv_n, w_iload_1, m_cat_n, m_cat_i, m_cat_r, m_cat_z, m_cat_rv, m_cat_l, Nat.zero_le, Nat.reduceLeDiff, Nat.reduceAdd, m_o_i, m_o_r, m_o_z, m_o_rv, m_C_inl, Option.toList_some, Option.toList_none, List.cons_append, List.nil_append, w_astore_2, w_astorez_2, w_astorev_2, m_o_n, m_o_f, w_aload_2, w_aloadz_2, w_aloadv_2, gf_142, w_if_ne, w_fconst, w_fret, tg_139_18, w_icmp_eq, w_if_eq, hs_n, hs_k, hs_l, hs_R, hs_I, hs_L, hs_setI, hs_setL, hs_cpy, kk, k0, r00, k1, l1, r04, k133, r133, k134, l134, r03, ku, up, kp, CW_uk W, CW_u4 W, CW_u5 W, CW_u6 W, CW_dk W, CW_dl W, CW_qk W, CW_ql W, CW_jk W, CW_j0 W, CW_jk0 W, CW_jl0 W, CW_j1 W, CW_jk1 W, CW_jl1 W, CW_j2 W, CW_jk2 W, CW_jl2 W, CW_j3 W, CW_jk3 W, CW_jl3 W, CW_j4 W, CW_jk4 W, CW_jl4 W, PW_pk P, PW_p2 P, PW_p10 P, PW_ck P, PW_cl P, PW_ok P, PW_o0 P, PW_o1 P, PW_o3 P, PW_sk P, PW_sl P, PW_ak P, PW_bk P, PW_al P, dr0, drk, dr5, dr6, dr7, dk1, dl1, dk2, dl2, dk3, dl3, qr, qk, up_up, up_sw, up_sa, up_eq, up_na, up_nk, cp_na, i_add, i_sub, i_mul, i_tn, i_nat, Int.reduceToNat, Int.reduceAdd, Int.reduceSub, Int.reduceMul, Int.reduceNeg, l_32, l_nat, l_c_lt, l_c_gt, l_c_eq, i_lt, i_eq, i_lt0, i_0lt, i_eq0, i_eq1, Int.reduceLT, Int.reduceEq, Int.reduceLE, Int.reduceNe, not_true_eq_false, not_false_eq_true, Nat.lt_irrefl, Int.lt_irrefl, eq_self, eq_self, Nat.reduceAdd, Nat.reduceMul, Nat.reduceSub, Nat.reduceDiv, Nat.reduceMod, Nat.reduceEqDiff, Nat.reduceLeDiff, Nat.reduceLT, Nat.zero_add, Nat.add_zero, Nat.zero_le, and_false, and_true, and_self, false_and, true_and, or_false, or_true, if_true, if_false, ite_true, ite_false, ↓reduceIte, Int.reduceToNat, Int.reduceAdd, Int.reduceSub, Int.reduceMul, Int.reduceNeg, hs_bump]) | split | (simp (disch := first | omega | (simp (disch := omega) only [i_lt0, i_tn, i_nn, m_cat_n, m_cat_i, m_cat_r, m_cat_z, m_cat_rv, m_cat_l, m_o_n, m_o_i, m_o_r, m_o_z, m_o_rv, m_o_f, hs_n, hs_k, hs_l, Nat.reduceLeDiff, not_false_eq_true, or_true, true_or, or_false, false_or, kk, k0, r00, k1, l1, r04, k133, r133, k134, l134, r03, ku, up, kp, CW_uk W, CW_u4 W, CW_u5 W, CW_u6 W, CW_dk W, CW_dl W, CW_qk W, CW_ql W, CW_jk W, CW_j0 W, CW_jk0 W, CW_jl0 W, CW_j1 W, CW_jk1 W, CW_jl1 W, CW_j2 W, CW_jk2 W, CW_jl2 W, CW_j3 W, CW_jk3 W, CW_jl3 W, CW_j4 W, CW_jk4 W, CW_jl4 W, PW_pk P, PW_p2 P, PW_p10 P, PW_ck P, PW_cl P, PW_ok P, PW_o0 P, PW_o1 P, PW_o3 P, PW_sk P, PW_sl P, PW_ak P, PW_bk P, PW_al P, dr0, drk, dr5, dr6, dr7, dk1, dl1, dk2, dl2, dk3, dl3, qr, qk]; first | done | omega) | exact Or.inl rfl | exact Or.inr rfl) only [k_139_18, w_aload_2, w_aloadz_2, w_aloadv_2, gf_143, m_rv_s, m_rv_n, w_i2d, gf_142, w_ddiv, w_d2f, w_fret, tg_139_18, m_C_inl, Option.toList_some, Option.toList_none, List.cons_append, List.nil_append, w_icmp_eq, w_if_eq, hs_n, hs_k, hs_l, hs_R, hs_I, hs_L, hs_setI, hs_setL, hs_cpy, kk, k0, r00, k1, l1, r04, k133, r133, k134, l134, r03, ku, up, kp, CW_uk W, CW_u4 W, CW_u5 W, CW_u6 W, CW_dk W, CW_dl W, CW_qk W, CW_ql W, CW_jk W, CW_j0 W, CW_jk0 W, CW_jl0 W, CW_j1 W, CW_jk1 W, CW_jl1 W, CW_j2 W, CW_jk2 W, CW_jl2 W, CW_j3 W, CW_jk3 W, CW_jl3 W, CW_j4 W, CW_jk4 W, CW_jl4 W, PW_pk P, PW_p2 P, PW_p10 P, PW_ck P, PW_cl P, PW_ok P, PW_o0 P, PW_o1 P, PW_o3 P, PW_sk P, PW_sl P, PW_ak P, PW_bk P, PW_al P, dr0, drk, dr5, dr6, dr7, dk1, dl1, dk2, dl2, dk3, dl3, qr, qk, up_up, up_sw, up_sa, up_eq, up_na, up_nk, cp_na, i_add, i_sub, i_mul, i_tn, i_nat, Int.reduceToNat, Int.reduceAdd, Int.reduceSub, Int.reduceMul, Int.reduceNeg, l_32, l_nat, l_c_lt, l_c_gt, l_c_eq, i_lt, i_eq, i_lt0, i_0lt, i_eq0, i_eq1, Int.reduceLT, Int.reduceEq, Int.reduceLE, Int.reduceNe, not_true_eq_false, not_false_eq_true, Nat.lt_irrefl, Int.lt_irrefl, eq_self, eq_self, Nat.reduceAdd, Nat.reduceMul, Nat.reduceSub, Nat.reduceDiv, Nat.reduceMod, Nat.reduceEqDiff, Nat.reduceLeDiff, Nat.reduceLT, Nat.zero_add, Nat.add_zero, Nat.zero_le, and_false, and_true, and_self, false_and, true_and, or_false, or_true, if_true, if_false, ite_true, ite_false, ↓reduceIte, Int.reduceToNat, Int.reduceAdd, Int.reduceSub, Int.reduceMul, Int.reduceNeg, hs_bump]) | (simp (disch := first | omega | (simp (disch := omega) only [i_lt0, i_tn, i_nn, m_cat_n, m_cat_i, m_cat_r, m_cat_z, m_cat_rv, m_cat_l, m_o_n, m_o_i, m_o_r, m_o_z, m_o_rv, m_o_f, hs_n, hs_k, hs_l, Nat.reduceLeDiff, not_false_eq_true, or_true, true_or, or_false, false_or, kk, k0, r00, k1, l1, r04, k133, r133, k134, l134, r03, ku, up, kp, CW_uk W, CW_u4 W, CW_u5 W, CW_u6 W, CW_dk W, CW_dl W, CW_qk W, CW_ql W, CW_jk W, CW_j0 W, CW_jk0 W, CW_jl0 W, CW_j1 W, CW_jk1 W, CW_jl1 W, CW_j2 W, CW_jk2 W, CW_jl2 W, CW_j3 W, CW_jk3 W, CW_jl3 W, CW_j4 W, CW_jk4 W, CW_jl4 W, PW_pk P, PW_p2 P, PW_p10 P, PW_ck P, PW_cl P, PW_ok P, PW_o0 P, PW_o1 P, PW_o3 P, PW_sk P, PW_sl P, PW_ak P, PW_bk P, PW_al P, dr0, drk, dr5, dr6, dr7, dk1, dl1, dk2, dl2, dk3, dl3, qr, qk]; first | done | omega) | exact Or.inl rfl | exact Or.inr rfl) only [cl_79, m_cat_n, m_cat_i, m_cat_r, m_cat_z, m_cat_rv, m_cat_l, Nat.zero_le, Nat.reduceLeDiff, Nat.reduceAdd, m_o_i, m_o_r, m_o_z, m_o_rv, hs_n, hs_k, kk, k0, r00, k1, l1, r04, k133, r133, k134, l134, r03, ku, up, kp, CW_uk W, CW_u4 W, CW_u5 W, CW_u6 W, CW_dk W, CW_dl W, CW_qk W, CW_ql W, CW_jk W, CW_j0 W, CW_jk0 W, CW_jl0 W, CW_j1 W, CW_jk1 W, CW_jl1 W, CW_j2 W, CW_jk2 W, CW_jl2 W, CW_j3 W, CW_jk3 W, CW_jl3 W, CW_j4 W, CW_jk4 W, CW_jl4 W, PW_pk P, PW_p2 P, PW_p10 P, PW_ck P, PW_cl P, PW_ok P, PW_o0 P, PW_o1 P, PW_o3 P, PW_sk P, PW_sl P, PW_ak P, PW_bk P, PW_al P, dr0, drk, dr5, dr6, dr7, dk1, dl1, dk2, dl2, dk3, dl3, qr, qk]; refine T_79 X0 hV ?_ ?_) | (intro j hj hjn; obtain ⟨dr0, drk, dr5, dr6, dr7, dk1, dl1, dk2, dl2, dk3, dl3⟩ := CW_D W j hj; have hdd := x_dr hV hj) | (simp only [mc_139]; exact hE)))
  all_goals first
    | (exfalso; omega)
    | exact hQ _
    | exact hE
    | exact hQ _ (by decide)
    | (rw [w_ddiv (fp_dd (by assumption)), w_d2f (fp_d2 (by assumption)), w_fret]
       exact hQ _ (fp_df (by assumption)))
