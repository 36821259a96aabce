/-! ticks of the reference -/
theorem q_tr_s {h : m_H} {r : Nat} {v u : Int32} : m_setI (m_setI (q_tr h r v) r 40 u) r 0 u = q_tr h r u := by
  refine m_H_ex ?_ ?_ ?_ ?_ ?_ ?_ ?_ ?_ ?_
  · simp only [h_n_tr, h_n_setI]
  · simp only [h_c_tr, h_c_setI]
  · simp only [h_s_tr, h_s_setI]
  · simp only [h_k_tr, h_k_setI]
  · simp only [h_l_tr, h_l_setI]
  · funext c k
    rw [h_I_setI, h_I_setI, h_I_tr, h_I_tr]
    by_cases hc : c = r
    · subst hc
      rcases (show k = 0 ∨ k = 40 ∨ (¬ k = 0 ∧ ¬ k = 40) by omega) with e | e | e
      · simp (disch := omega) only [if_pos, if_neg, e, true_and, true_or, ↓reduceIte]
      · simp (disch := omega) only [if_pos, if_neg, e, true_and, or_true, ↓reduceIte]
      · simp (disch := omega) only [if_pos, if_neg]
    · simp (disch := omega) only [if_neg]
  · simp only [h_L_tr, h_L_setI]
  · simp only [h_D_tr, h_D_setI]
  · simp only [h_R_tr, h_R_setI]
theorem q_tr_0 {h : m_H} {r : Nat} {v : Int32} (e1 : m_I h r 0 = v) (e2 : m_I h r 40 = v) : q_tr h r v = h := by
  refine m_H_ex ?_ ?_ ?_ ?_ ?_ ?_ ?_ ?_ ?_
  · simp only [h_n_tr]
  · simp only [h_c_tr]
  · simp only [h_s_tr]
  · simp only [h_k_tr]
  · simp only [h_l_tr]
  · funext c k
    rw [h_I_tr]
    by_cases h1 : c = r ∧ (k = 0 ∨ k = 40)
    · rw [if_pos h1]
      obtain ⟨rfl, rfl | rfl⟩ := h1
      · exact e1.symm
      · exact e2.symm
    · rw [if_neg h1]
  · simp only [h_L_tr]
  · simp only [h_D_tr]
  · simp only [h_R_tr]
set_option maxHeartbeats 8000000 in
theorem ct_232 {L : Nat} {xs : Nat → Int32} {d : Nat} {h : m_H} {Q : Option Value ⊕ Nat → m_H → Prop} {r j : Nat} (hX : m_n h ≤ m_X) (n0 : 157 ≤ m_n h) (m1 : m_k h 135 = 12) (m2 : m_R h 135 1 = some 136) (m3 : m_k h 136 = 100) (m4 : m_l h 136 = 20) (m5 : m_I h 136 0 = Int32.ofInt 1) (m6 : m_I h 136 4 = Int32.ofInt 20) (r1 : r < m_n h) (r2 : m_k h r = 100) (r3 : m_l h r = 2392) (i1 : m_I h r 1 = Int32.ofInt 0) (i2 : m_I h r 12 = Int32.ofInt 0) (i3 : m_I h r 20 = Int32.ofInt 0) (i4 : m_I h r 24 = Int32.ofInt 0) (i5 : m_I h r 28 = Int32.ofInt (-1)) (i6 : m_I h r 32 = Int32.ofInt (-1)) (n1 : ¬ 136 = r) (n2 : ¬ 135 = r) (hj : j ≤ 1000) : m_W (p_P L xs) (d + 6) 232 k_232_0 [some (.ref 135), some (.ref r), none] [] (q_tr h r (Int32.ofInt j)) Q = Q (.inl none) (q_tr h r (Int32.ofInt ((j + 1 : Nat) : Int))) := by
  have hX2 : m_X = 1000000000 := rfl
  rw [c_s]
  rcases (show j < 19 ∨ 19 ≤ j by omega) with h19 | h19
  · simp (maxSteps := 400000) (disch := first | omega | (simp (disch := first | omega | (simp only [h_n_setI, h_n_setL, h_n_setD, h_n_setR, h_n_cpy, h_n_fill, h_n_mk, h_n_bump, h_n_Req, h_n_Drv, h_n_Rq, h_n_Dr, h_n_Jrn, h_n_Wp, h_n_Wd, h_n_h0, h_n_tk, h_n_tr]; first | done | omega)) only [i_lt0, i_tn, i_nn, m_cat_n, m_cat_i, m_cat_r, m_cat_z, m_cat_rv, m_cat_l, m_o_n, m_o_i, m_o_r, m_o_z, m_o_rv, m_o_f, h_n_setI, h_n_setL, h_n_setD, h_n_setR, h_n_cpy, h_n_fill, h_n_mk, h_n_bump, h_n_Req, h_n_Drv, h_n_Rq, h_n_Dr, h_n_Jrn, h_n_Wp, h_n_Wd, h_n_h0, h_n_tk, h_n_tr, h_k_setI, h_k_setL, h_k_setD, h_k_setR, h_k_cpy, h_k_fill, h_k_bump, h_l_setI, h_l_setL, h_l_setD, h_l_setR, h_l_cpy, h_l_fill, h_l_bump, hk_old, hk_new, hl_old, hl_new, h_k_Req, h_l_Req, h_k_tr, h_l_tr, m1, m3, m4, r2, r3, m2, m4, m5, m6, r3, i1, i2, i3, i4, i5, i6, n1, n2]; first | done | omega) | exact Or.inl rfl | exact Or.inr rfl) only [k_226_0, k_226_17, tg_226_17, k_226_22, tg_226_22, k_226_82, tg_226_82, w_aload_1, w_aloadz_1, w_aloadv_1, w_iconst, w_iload_2, w_iadd, w_iaload, w_script, w_icmp_eq, w_istore_3, m_o_n, m_o_i, m_o_r, m_o_z, m_o_rv, m_o_f, w_istore_4, w_iload_4, w_icmp_ge, w_iload_3, w_iret, k_227_0, k_227_2, tg_227_2, k_227_82, tg_227_82, w_vret, k_228_0, w_aload_0, w_aloadz_0, w_aloadv_0, m_cat_n, m_cat_i, m_cat_r, m_cat_z, m_cat_rv, m_cat_l, Nat.zero_le, Nat.reduceLeDiff, Nat.reduceAdd, cl_226, m_C_inl, Option.toList_some, Option.toList_none, List.cons_append, List.nil_append, w_icmp_ne, k_231_0, k_231_28, tg_231_28, k_231_44, tg_231_44, k_231_69, tg_231_69, k_231_94, tg_231_94, k_231_104, tg_231_104, k_231_132, tg_231_132, cl_227, w_if_ne, cl_228, w_if_eq, w_isub, gf_769, m_rv_s, m_rv_n, w_icmp_lt, w_iastore, w_dup2, k_232_0, k_232_2, tg_232_2, k_232_24, tg_232_24, w_istore_2, cl_231, w_iinc_2, w_goto, m_C_inl, Option.toList_some, Option.toList_none, List.cons_append, List.nil_append, h_n_setI, h_n_setL, h_n_setD, h_n_setR, h_n_cpy, h_n_fill, h_n_mk, h_n_bump, h_n_Req, h_n_Drv, h_n_Rq, h_n_Dr, h_n_Jrn, h_n_Wp, h_n_Wd, h_n_h0, h_n_tk, h_n_tr, i_add, i_sub, i_mul, i_tn, i_nat, Int.reduceToNat, Int.reduceAdd, Int.reduceSub, Int.reduceMul, Int.reduceNeg, h_I_tr, h_R_tr, h_l_tr, h_k_tr, h_I_setI, h_R_setI, h_l_setI, h_k_setI, m2, m4, m5, m6, r3, i1, i2, i3, i4, i5, i6, n1, n2, i_lt, i_eq, i_lt0, i_0lt, i_eq0, Int.reduceLT, Int.reduceEq, Int.lt_irrefl, if_pos, if_neg, Nat.reduceAdd, Nat.reduceMul, Nat.reduceSub, Nat.reduceDiv, Nat.reduceMod, Nat.reduceEqDiff, Nat.reduceLeDiff, Nat.reduceLT, Nat.zero_add, Nat.add_zero, Nat.zero_le, Nat.sub_self, Nat.not_lt_zero, Nat.lt_irrefl, Nat.le_refl, and_false, and_true, and_self, false_and, true_and, or_false, or_true, false_or, true_or, or_self, ↓reduceIte]
    rw [q_tr_s]
  · simp (maxSteps := 400000) (disch := first | omega | (simp (disch := first | omega | (simp only [h_n_setI, h_n_setL, h_n_setD, h_n_setR, h_n_cpy, h_n_fill, h_n_mk, h_n_bump, h_n_Req, h_n_Drv, h_n_Rq, h_n_Dr, h_n_Jrn, h_n_Wp, h_n_Wd, h_n_h0, h_n_tk, h_n_tr]; first | done | omega)) only [i_lt0, i_tn, i_nn, m_cat_n, m_cat_i, m_cat_r, m_cat_z, m_cat_rv, m_cat_l, m_o_n, m_o_i, m_o_r, m_o_z, m_o_rv, m_o_f, h_n_setI, h_n_setL, h_n_setD, h_n_setR, h_n_cpy, h_n_fill, h_n_mk, h_n_bump, h_n_Req, h_n_Drv, h_n_Rq, h_n_Dr, h_n_Jrn, h_n_Wp, h_n_Wd, h_n_h0, h_n_tk, h_n_tr, h_k_setI, h_k_setL, h_k_setD, h_k_setR, h_k_cpy, h_k_fill, h_k_bump, h_l_setI, h_l_setL, h_l_setD, h_l_setR, h_l_cpy, h_l_fill, h_l_bump, hk_old, hk_new, hl_old, hl_new, h_k_Req, h_l_Req, h_k_tr, h_l_tr, m1, m3, m4, r2, r3, m2, m4, m5, m6, r3, i1, i2, i3, i4, i5, i6, n1, n2]; first | done | omega) | exact Or.inl rfl | exact Or.inr rfl) only [k_226_0, k_226_17, tg_226_17, k_226_22, tg_226_22, k_226_82, tg_226_82, w_aload_1, w_aloadz_1, w_aloadv_1, w_iconst, w_iload_2, w_iadd, w_iaload, w_script, w_icmp_eq, w_istore_3, m_o_n, m_o_i, m_o_r, m_o_z, m_o_rv, m_o_f, w_istore_4, w_iload_4, w_icmp_ge, w_iload_3, w_iret, k_227_0, k_227_2, tg_227_2, k_227_82, tg_227_82, w_vret, k_228_0, w_aload_0, w_aloadz_0, w_aloadv_0, m_cat_n, m_cat_i, m_cat_r, m_cat_z, m_cat_rv, m_cat_l, Nat.zero_le, Nat.reduceLeDiff, Nat.reduceAdd, cl_226, m_C_inl, Option.toList_some, Option.toList_none, List.cons_append, List.nil_append, w_icmp_ne, k_231_0, k_231_28, tg_231_28, k_231_44, tg_231_44, k_231_69, tg_231_69, k_231_94, tg_231_94, k_231_104, tg_231_104, k_231_132, tg_231_132, cl_227, w_if_ne, cl_228, w_if_eq, w_isub, gf_769, m_rv_s, m_rv_n, w_icmp_lt, w_iastore, w_dup2, k_232_0, k_232_2, tg_232_2, k_232_24, tg_232_24, w_istore_2, cl_231, w_iinc_2, w_goto, m_C_inl, Option.toList_some, Option.toList_none, List.cons_append, List.nil_append, h_n_setI, h_n_setL, h_n_setD, h_n_setR, h_n_cpy, h_n_fill, h_n_mk, h_n_bump, h_n_Req, h_n_Drv, h_n_Rq, h_n_Dr, h_n_Jrn, h_n_Wp, h_n_Wd, h_n_h0, h_n_tk, h_n_tr, i_add, i_sub, i_mul, i_tn, i_nat, Int.reduceToNat, Int.reduceAdd, Int.reduceSub, Int.reduceMul, Int.reduceNeg, h_I_tr, h_R_tr, h_l_tr, h_k_tr, h_I_setI, h_R_setI, h_l_setI, h_k_setI, m2, m4, m5, m6, r3, i1, i2, i3, i4, i5, i6, n1, n2, i_lt, i_eq, i_lt0, i_0lt, i_eq0, Int.reduceLT, Int.reduceEq, Int.lt_irrefl, if_pos, if_neg, Nat.reduceAdd, Nat.reduceMul, Nat.reduceSub, Nat.reduceDiv, Nat.reduceMod, Nat.reduceEqDiff, Nat.reduceLeDiff, Nat.reduceLT, Nat.zero_add, Nat.add_zero, Nat.zero_le, Nat.sub_self, Nat.not_lt_zero, Nat.lt_irrefl, Nat.le_refl, and_false, and_true, and_self, false_and, true_and, or_false, or_true, false_or, true_or, or_self, ↓reduceIte]
    rw [m_setI_eq (a := r) (k := 20) (by simp only [h_I_setI, h_I_tr, i3, Nat.reduceAdd, Nat.reduceMul, Nat.reduceSub, Nat.reduceDiv, Nat.reduceMod, Nat.reduceEqDiff, Nat.reduceLeDiff, Nat.reduceLT, Nat.zero_add, Nat.add_zero, Nat.zero_le, Nat.sub_self, Nat.not_lt_zero, Nat.lt_irrefl, Nat.le_refl, and_false, and_true, and_self, false_and, true_and, or_false, or_true, false_or, true_or, or_self, ↓reduceIte]), q_tr_s]
theorem lp_269 {L : Nat} {xs : Nat → Int32} {d : Nat} {h : m_H} {Q : Option Value ⊕ Nat → m_H → Prop} {t : Nat} {x2 : Int32} (hX : m_n h ≤ m_X) (n0 : 157 ≤ m_n h) (m1 : m_k h 135 = 12) (m2 : m_R h 135 1 = some 136) (m3 : m_k h 136 = 100) (m4 : m_l h 136 = 20) (m5 : m_I h 136 0 = Int32.ofInt 1) (m6 : m_I h 136 4 = Int32.ofInt 20) (r1 : 147 < m_n h) (r2 : m_k h 147 = 100) (r3 : m_l h 147 = 2392) (i1 : m_I h 147 1 = Int32.ofInt 0) (i2 : m_I h 147 12 = Int32.ofInt 0) (i3 : m_I h 147 20 = Int32.ofInt 0) (i4 : m_I h 147 24 = Int32.ofInt 0) (i5 : m_I h 147 28 = Int32.ofInt (-1)) (i6 : m_I h 147 32 = Int32.ofInt (-1)) (n1 : ¬ 136 = 147) (n2 : ¬ 135 = 147) (m7 : m_R h 135 12 = some 147) (ht : t ≤ 1000) : ∀ n j : Nat, j + n = t → m_W (p_P L xs) (d + 7) 269 k_269_53 [some (.ref 135), some (.int (Int32.ofInt t)), some (.int x2), some (.int (Int32.ofInt j))] [] (q_tr h 147 (Int32.ofInt j)) Q = m_W (p_P L xs) (d + 7) 269 k_269_72 [some (.ref 135), some (.int (Int32.ofInt t)), some (.int x2), some (.int (Int32.ofInt t))] [] (q_tr h 147 (Int32.ofInt t)) Q := by
  have hX2 : m_X = 1000000000 := rfl
  intro n
  induction n with
  | zero =>
    intro j hj
    have e : j = t := by omega
    subst e
    rw [k_269_53]
    simp (disch := first | omega | (simp (disch := first | omega | (simp only [h_n_setI, h_n_setL, h_n_setD, h_n_setR, h_n_cpy, h_n_fill, h_n_mk, h_n_bump, h_n_Req, h_n_Drv, h_n_Rq, h_n_Dr, h_n_Jrn, h_n_Wp, h_n_Wd, h_n_h0, h_n_tk, h_n_tr]; first | done | omega)) only [i_lt0, i_tn, i_nn, m_cat_n, m_cat_i, m_cat_r, m_cat_z, m_cat_rv, m_cat_l, m_o_n, m_o_i, m_o_r, m_o_z, m_o_rv, m_o_f, h_n_setI, h_n_setL, h_n_setD, h_n_setR, h_n_cpy, h_n_fill, h_n_mk, h_n_bump, h_n_Req, h_n_Drv, h_n_Rq, h_n_Dr, h_n_Jrn, h_n_Wp, h_n_Wd, h_n_h0, h_n_tk, h_n_tr, h_k_setI, h_k_setL, h_k_setD, h_k_setR, h_k_cpy, h_k_fill, h_k_bump, h_l_setI, h_l_setL, h_l_setD, h_l_setR, h_l_cpy, h_l_fill, h_l_bump, hk_old, hk_new, hl_old, hl_new, h_k_Req, h_l_Req]; first | done | omega) | exact Or.inl rfl | exact Or.inr rfl) only [w_iload_3, w_iload_1, w_icmp_ge, i_lt, Int.lt_irrefl, ↓reduceIte, tg_269_72, Int.reduceToNat]
  | succ n ih =>
    intro j hj
    have e : (j : Int) < (t : Int) := by omega
    refine Eq.trans ?_ (ih (j + 1) (by omega))
    conv => lhs; rw [k_269_53]
    simp (disch := first | omega | (simp (disch := first | omega | (simp only [h_n_setI, h_n_setL, h_n_setD, h_n_setR, h_n_cpy, h_n_fill, h_n_mk, h_n_bump, h_n_Req, h_n_Drv, h_n_Rq, h_n_Dr, h_n_Jrn, h_n_Wp, h_n_Wd, h_n_h0, h_n_tk, h_n_tr]; first | done | omega)) only [i_lt0, i_tn, i_nn, m_cat_n, m_cat_i, m_cat_r, m_cat_z, m_cat_rv, m_cat_l, m_o_n, m_o_i, m_o_r, m_o_z, m_o_rv, m_o_f, h_n_setI, h_n_setL, h_n_setD, h_n_setR, h_n_cpy, h_n_fill, h_n_mk, h_n_bump, h_n_Req, h_n_Drv, h_n_Rq, h_n_Dr, h_n_Jrn, h_n_Wp, h_n_Wd, h_n_h0, h_n_tk, h_n_tr, h_k_setI, h_k_setL, h_k_setD, h_k_setR, h_k_cpy, h_k_fill, h_k_bump, h_l_setI, h_l_setL, h_l_setD, h_l_setR, h_l_cpy, h_l_fill, h_l_bump, hk_old, hk_new, hl_old, hl_new, h_k_Req, h_l_Req, h_k_tr, h_l_tr, m1]; first | done | omega) | exact Or.inl rfl | exact Or.inr rfl) only [w_iload_3, w_iload_1, w_aload_0, w_icmp_ge, i_lt, e, ↓reduceIte, gf_780, h_R_tr, m7, m_rv_s, cl_232]
    rw [ct_232 hX n0 m1 m2 m3 m4 m5 m6 r1 r2 r3 i1 i2 i3 i4 i5 i6 n1 n2 (by omega)]
    simp (disch := first | omega | (simp (disch := first | omega | (simp only [h_n_setI, h_n_setL, h_n_setD, h_n_setR, h_n_cpy, h_n_fill, h_n_mk, h_n_bump, h_n_Req, h_n_Drv, h_n_Rq, h_n_Dr, h_n_Jrn, h_n_Wp, h_n_Wd, h_n_h0, h_n_tk, h_n_tr]; first | done | omega)) only [i_lt0, i_tn, i_nn, m_cat_n, m_cat_i, m_cat_r, m_cat_z, m_cat_rv, m_cat_l, m_o_n, m_o_i, m_o_r, m_o_z, m_o_rv, m_o_f, h_n_setI, h_n_setL, h_n_setD, h_n_setR, h_n_cpy, h_n_fill, h_n_mk, h_n_bump, h_n_Req, h_n_Drv, h_n_Rq, h_n_Dr, h_n_Jrn, h_n_Wp, h_n_Wd, h_n_h0, h_n_tk, h_n_tr, h_k_setI, h_k_setL, h_k_setD, h_k_setR, h_k_cpy, h_k_fill, h_k_bump, h_l_setI, h_l_setL, h_l_setD, h_l_setR, h_l_cpy, h_l_fill, h_l_bump, hk_old, hk_new, hl_old, hl_new, h_k_Req, h_l_Req, h_k_tr, h_l_tr, m1]; first | done | omega) | exact Or.inl rfl | exact Or.inr rfl) only [m_C_inl, Option.toList_none, List.nil_append, w_iinc_3, i_add, w_goto, tg_269_53, Int.reduceToNat, c_s]
