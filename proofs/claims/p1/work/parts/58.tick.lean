/-! ticks of a driver with nothing to do -/
theorem m_setI_eq {h : m_H} {a k : Nat} {v : Int32} (e : m_I h a k = v) : m_setI h a k v = h := by
  refine m_H_ex ?_ ?_ ?_ ?_ ?_ ?_ ?_ ?_ ?_
  · simp only [h_n_setI]
  · simp only [h_c_setI]
  · simp only [h_s_setI]
  · simp only [h_k_setI]
  · simp only [h_l_setI]
  · funext x y
    rw [h_I_setI]
    by_cases hx : x = a ∧ y = k
    · rw [if_pos hx, hx.1, hx.2, e]
    · rw [if_neg hx]
  · simp only [h_L_setI]
  · simp only [h_D_setI]
  · simp only [h_R_setI]
def q_tk (h : m_H) (w r : Nat) (v : Int32) : m_H := ((m_n h, m_c h, m_s h), m_k h, m_l h, (fun c k => if c = w ∧ k = 1 then v else if c = r ∧ k = 13 then v else m_I h c k), m_L h, m_D h, m_R h)
theorem h_n_tk (h : m_H) (w r : Nat) (v : Int32) : m_n (q_tk h w r v) = m_n h := of_eq_true (eq_self _)
theorem h_c_tk (h : m_H) (w r : Nat) (v : Int32) : m_c (q_tk h w r v) = m_c h := of_eq_true (eq_self _)
theorem h_s_tk (h : m_H) (w r : Nat) (v : Int32) : m_s (q_tk h w r v) = m_s h := of_eq_true (eq_self _)
theorem h_k_tk (h : m_H) (w r : Nat) (v : Int32) : m_k (q_tk h w r v) = m_k h := of_eq_true (eq_self _)
theorem h_l_tk (h : m_H) (w r : Nat) (v : Int32) : m_l (q_tk h w r v) = m_l h := of_eq_true (eq_self _)
theorem h_I_tk (h : m_H) (w r : Nat) (v : Int32) (c k : Nat) : m_I (q_tk h w r v) c k = if c = w ∧ k = 1 then v else if c = r ∧ k = 13 then v else m_I h c k := of_eq_true (eq_self _)
theorem h_L_tk (h : m_H) (w r : Nat) (v : Int32) : m_L (q_tk h w r v) = m_L h := of_eq_true (eq_self _)
theorem h_D_tk (h : m_H) (w r : Nat) (v : Int32) : m_D (q_tk h w r v) = m_D h := of_eq_true (eq_self _)
theorem h_R_tk (h : m_H) (w r : Nat) (v : Int32) : m_R (q_tk h w r v) = m_R h := of_eq_true (eq_self _)
def q_tr (h : m_H) (r : Nat) (v : Int32) : m_H := ((m_n h, m_c h, m_s h), m_k h, m_l h, (fun c k => if c = r ∧ (k = 0 ∨ k = 40) then v else m_I h c k), m_L h, m_D h, m_R h)
theorem h_n_tr (h : m_H) (r : Nat) (v : Int32) : m_n (q_tr h r v) = m_n h := of_eq_true (eq_self _)
theorem h_c_tr (h : m_H) (r : Nat) (v : Int32) : m_c (q_tr h r v) = m_c h := of_eq_true (eq_self _)
theorem h_s_tr (h : m_H) (r : Nat) (v : Int32) : m_s (q_tr h r v) = m_s h := of_eq_true (eq_self _)
theorem h_k_tr (h : m_H) (r : Nat) (v : Int32) : m_k (q_tr h r v) = m_k h := of_eq_true (eq_self _)
theorem h_l_tr (h : m_H) (r : Nat) (v : Int32) : m_l (q_tr h r v) = m_l h := of_eq_true (eq_self _)
theorem h_I_tr (h : m_H) (r : Nat) (v : Int32) (c k : Nat) : m_I (q_tr h r v) c k = if c = r ∧ (k = 0 ∨ k = 40) then v else m_I h c k := of_eq_true (eq_self _)
theorem h_L_tr (h : m_H) (r : Nat) (v : Int32) : m_L (q_tr h r v) = m_L h := of_eq_true (eq_self _)
theorem h_D_tr (h : m_H) (r : Nat) (v : Int32) : m_D (q_tr h r v) = m_D h := of_eq_true (eq_self _)
theorem h_R_tr (h : m_H) (r : Nat) (v : Int32) : m_R (q_tr h r v) = m_R h := of_eq_true (eq_self _)
theorem q_tk_0 {h : m_H} {w r : Nat} {v : Int32} (e1 : m_I h w 1 = v) (e2 : m_I h r 13 = v) : q_tk h w r v = h := by
  refine m_H_ex ?_ ?_ ?_ ?_ ?_ ?_ ?_ ?_ ?_
  · simp only [h_n_tk]
  · simp only [h_c_tk]
  · simp only [h_s_tk]
  · simp only [h_k_tk]
  · simp only [h_l_tk]
  · funext c k
    rw [h_I_tk]
    by_cases h1 : c = w ∧ k = 1
    · rw [if_pos h1, h1.1, h1.2, e1]
    · rw [if_neg h1]
      by_cases h2 : c = r ∧ k = 13
      · rw [if_pos h2, h2.1, h2.2, e2]
      · rw [if_neg h2]
  · simp only [h_L_tk]
  · simp only [h_D_tk]
  · simp only [h_R_tk]
theorem q_tk_s {h : m_H} {w r : Nat} {v u : Int32} (hne : ¬ r = w) : m_setI (m_setI (q_tk h w r v) r 13 u) w 1 u = q_tk h w r u := by
  refine m_H_ex ?_ ?_ ?_ ?_ ?_ ?_ ?_ ?_ ?_
  · simp only [h_n_tk, h_n_setI]
  · simp only [h_c_tk, h_c_setI]
  · simp only [h_s_tk, h_s_setI]
  · simp only [h_k_tk, h_k_setI]
  · simp only [h_l_tk, h_l_setI]
  · funext c k
    rw [h_I_setI, h_I_setI, h_I_tk, h_I_tk]
    by_cases h1 : c = w ∧ k = 1
    · rw [if_pos h1, if_pos h1]
    · rw [if_neg h1, if_neg h1, if_neg h1]
      by_cases h2 : c = r ∧ k = 13
      · rw [if_pos h2, if_pos h2]
      · rw [if_neg h2, if_neg h2, if_neg h2]
  · simp only [h_L_tk, h_L_setI]
  · simp only [h_D_tk, h_D_setI]
  · simp only [h_R_tk, h_R_setI]
set_option maxHeartbeats 8000000 in
theorem lp_83 {L : Nat} {xs : Nat → Int32} {d : Nat} {h : m_H} {Q : Option Value ⊕ Nat → m_H → Prop} {w p row r t : Nat} (hX : m_n h ≤ m_X) (w1 : w < m_n h) (w2 : m_k h w = 10) (w3 : m_R h w 0 = some p) (w4 : m_R h w 4 = some row) (w5 : m_I h w 2 = Int32.ofInt 0) (p1 : p < m_n h) (p2 : m_k h p = 5) (p3 : m_I h p 0 = Int32.ofInt 1) (p4 : m_I h p 5 = Int32.ofInt 20) (r1 : row < m_n h) (r2 : m_k h row = 202) (r3 : m_l h row = 4) (r4 : m_R h row 0 = some r) (d1 : r < m_n h) (d2 : m_k h r = 2) (d3 : m_I h r 1 = Int32.ofInt 0) (d4 : m_I h r 3 = Int32.ofInt 0) (d5 : m_I h r 4 = Int32.ofInt 0) (d6 : m_I h r 9 = Int32.ofInt (-1)) (d7 : m_I h r 10 = Int32.ofInt (-1)) (d8 : m_I h r 11 = Int32.ofInt 0) (d9 : m_I h r 12 = Int32.ofInt 2147483647) (n1 : ¬ r = w) (n2 : ¬ p = w) (n3 : ¬ p = r) (ht : t ≤ 1000) : ∀ (n j : Nat) (x3 : Option Value), j + n = t → m_W (p_P L xs) (d + 6) 83 k_83_2 [some (.ref w), some (.int (Int32.ofInt t)), some (.int (Int32.ofInt j)), x3] [] (q_tk h w r (Int32.ofInt j)) Q = Q (.inl none) (q_tk h w r (Int32.ofInt t)) := by
  have hX2 : m_X = 1000000000 := rfl
  intro n
  induction n with
  | zero =>
    intro j x3 hj
    have e : j = t := by omega
    subst e
    rw [k_83_2]
    simp (disch := first | omega | (simp (disch := first | omega | (simp only [h_n_setI, h_n_setL, h_n_setD, h_n_setR, h_n_cpy, h_n_fill, h_n_mk, h_n_bump, h_n_Req, h_n_Drv, h_n_Rq, h_n_Dr, h_n_Jrn, h_n_Wp, h_n_Wd, h_n_h0, h_n_tk, h_n_tr]; first | done | omega)) only [i_lt0, i_tn, i_nn, m_cat_n, m_cat_i, m_cat_r, m_cat_z, m_cat_rv, m_cat_l, m_o_n, m_o_i, m_o_r, m_o_z, m_o_rv, m_o_f, h_n_setI, h_n_setL, h_n_setD, h_n_setR, h_n_cpy, h_n_fill, h_n_mk, h_n_bump, h_n_Req, h_n_Drv, h_n_Rq, h_n_Dr, h_n_Jrn, h_n_Wp, h_n_Wd, h_n_h0, h_n_tk, h_n_tr, h_k_setI, h_k_setL, h_k_setD, h_k_setR, h_k_cpy, h_k_fill, h_k_bump, h_l_setI, h_l_setL, h_l_setD, h_l_setR, h_l_cpy, h_l_fill, h_l_bump, hk_old, hk_new, hl_old, hl_new, h_k_Req, h_l_Req]; first | done | omega) | exact Or.inl rfl | exact Or.inr rfl) only [w_iload_2, w_iload_1, w_icmp_ge, i_lt, Int.lt_irrefl, ↓reduceIte, tg_83_61, k_83_61, w_vret, Int.reduceToNat]
  | succ n ih =>
    intro j x3 hj
    have e : (j : Int) < (t : Int) := by omega
    refine Eq.trans ?_ (ih (j + 1) (some (.int (Int32.ofInt 1))) (by omega))
    conv => lhs; rw [k_83_2]
    rcases (show j < 19 ∨ 19 ≤ j by omega) with h19 | h19
    · simp (maxSteps := 400000) (disch := first | omega | (simp (disch := first | omega | (simp only [h_n_setI, h_n_setL, h_n_setD, h_n_setR, h_n_cpy, h_n_fill, h_n_mk, h_n_bump, h_n_Req, h_n_Drv, h_n_Rq, h_n_Dr, h_n_Jrn, h_n_Wp, h_n_Wd, h_n_h0, h_n_tk, h_n_tr]; first | done | omega)) only [i_lt0, i_tn, i_nn, m_cat_n, m_cat_i, m_cat_r, m_cat_z, m_cat_rv, m_cat_l, m_o_n, m_o_i, m_o_r, m_o_z, m_o_rv, m_o_f, h_n_setI, h_n_setL, h_n_setD, h_n_setR, h_n_cpy, h_n_fill, h_n_mk, h_n_bump, h_n_Req, h_n_Drv, h_n_Rq, h_n_Dr, h_n_Jrn, h_n_Wp, h_n_Wd, h_n_h0, h_n_tk, h_n_tr, h_k_setI, h_k_setL, h_k_setD, h_k_setR, h_k_cpy, h_k_fill, h_k_bump, h_l_setI, h_l_setL, h_l_setD, h_l_setR, h_l_cpy, h_l_fill, h_l_bump, hk_old, hk_new, hl_old, hl_new, h_k_Req, h_l_Req, h_k_tk, h_l_tk, w2, p2, r2, r3, d2, w3, w4, w5, p3, p4, r3, r4, d3, d4, d5, d6, d7, d8, d9, n1, n2, n3]; first | done | omega) | exact Or.inl rfl | exact Or.inr rfl) only [k_83_0, tg_83_2, k_83_9, tg_83_9, k_83_45, tg_83_45, k_83_61, tg_83_61, w_iconst, w_istore_2, m_o_n, m_o_i, m_o_r, m_o_z, m_o_rv, m_o_f, w_iload_2, w_iload_1, w_icmp_ge, w_istore_3, w_iload_3, w_aload_0, w_aloadz_0, w_aloadv_0, gf_640, m_rv_s, m_rv_n, gf_320, gf_644, w_len, w_slen, w_aaload, m_cat_n, m_cat_i, m_cat_r, m_cat_z, m_cat_rv, m_cat_l, Nat.zero_le, Nat.reduceLeDiff, Nat.reduceAdd, cl_84, m_C_inl, Option.toList_some, Option.toList_none, List.cons_append, List.nil_append, w_iinc_3, w_goto, w_dup_i, w_dup_r, w_dup_z, w_dup_v, gf_641, w_iadd, pf_641, w_iinc_2, w_vret, k_84_0, k_84_24, tg_84_24, k_84_48, tg_84_48, k_84_68, tg_84_68, k_84_96, tg_84_96, k_84_139, tg_84_139, w_aload_1, w_aloadz_1, w_aloadv_1, gf_129, w_icmp_ne, w_icmp_eq, gf_140, w_icmp_lt, w_if_ne, gf_137, cl_88, gf_141, pf_141, gf_131, w_isub, gf_325, pf_132, k_88_0, cl_89, k_89_0, k_89_15, tg_89_15, gf_138, gf_139, w_iret, m_C_inl, Option.toList_some, Option.toList_none, List.cons_append, List.nil_append, h_n_setI, h_n_setL, h_n_setD, h_n_setR, h_n_cpy, h_n_fill, h_n_mk, h_n_bump, h_n_Req, h_n_Drv, h_n_Rq, h_n_Dr, h_n_Jrn, h_n_Wp, h_n_Wd, h_n_h0, h_n_tk, h_n_tr, i_add, i_sub, i_mul, i_tn, i_nat, Int.reduceToNat, Int.reduceAdd, Int.reduceSub, Int.reduceMul, Int.reduceNeg, h_I_tk, h_R_tk, h_l_tk, h_k_tk, h_I_setI, h_R_setI, h_l_setI, false_and, and_false, true_and, and_true, ↓reduceIte, Nat.reduceEqDiff, and_self, w3, w4, w5, p3, p4, r3, r4, d3, d4, d5, d6, d7, d8, d9, n1, n2, n3, i_lt, i_eq, i_lt0, i_0lt, i_eq0, Int.reduceLT, Int.reduceEq, Int.lt_irrefl, if_pos, if_neg, Nat.reduceAdd, Nat.reduceMul, Nat.reduceSub, Nat.reduceDiv, Nat.reduceMod, Nat.reduceEqDiff, Nat.reduceLeDiff, Nat.reduceLT, Nat.zero_add, Nat.add_zero, Nat.zero_le, Nat.sub_self, Nat.not_lt_zero, Nat.lt_irrefl, Nat.le_refl, and_false, and_true, and_self, false_and, true_and, or_false, or_true, false_or, true_or, or_self, ↓reduceIte]
      rw [q_tk_s n1, c_s]
    · simp (maxSteps := 400000) (disch := first | omega | (simp (disch := first | omega | (simp only [h_n_setI, h_n_setL, h_n_setD, h_n_setR, h_n_cpy, h_n_fill, h_n_mk, h_n_bump, h_n_Req, h_n_Drv, h_n_Rq, h_n_Dr, h_n_Jrn, h_n_Wp, h_n_Wd, h_n_h0, h_n_tk, h_n_tr]; first | done | omega)) only [i_lt0, i_tn, i_nn, m_cat_n, m_cat_i, m_cat_r, m_cat_z, m_cat_rv, m_cat_l, m_o_n, m_o_i, m_o_r, m_o_z, m_o_rv, m_o_f, h_n_setI, h_n_setL, h_n_setD, h_n_setR, h_n_cpy, h_n_fill, h_n_mk, h_n_bump, h_n_Req, h_n_Drv, h_n_Rq, h_n_Dr, h_n_Jrn, h_n_Wp, h_n_Wd, h_n_h0, h_n_tk, h_n_tr, h_k_setI, h_k_setL, h_k_setD, h_k_setR, h_k_cpy, h_k_fill, h_k_bump, h_l_setI, h_l_setL, h_l_setD, h_l_setR, h_l_cpy, h_l_fill, h_l_bump, hk_old, hk_new, hl_old, hl_new, h_k_Req, h_l_Req, h_k_tk, h_l_tk, w2, p2, r2, r3, d2, w3, w4, w5, p3, p4, r3, r4, d3, d4, d5, d6, d7, d8, d9, n1, n2, n3]; first | done | omega) | exact Or.inl rfl | exact Or.inr rfl) only [k_83_0, tg_83_2, k_83_9, tg_83_9, k_83_45, tg_83_45, k_83_61, tg_83_61, w_iconst, w_istore_2, m_o_n, m_o_i, m_o_r, m_o_z, m_o_rv, m_o_f, w_iload_2, w_iload_1, w_icmp_ge, w_istore_3, w_iload_3, w_aload_0, w_aloadz_0, w_aloadv_0, gf_640, m_rv_s, m_rv_n, gf_320, gf_644, w_len, w_slen, w_aaload, m_cat_n, m_cat_i, m_cat_r, m_cat_z, m_cat_rv, m_cat_l, Nat.zero_le, Nat.reduceLeDiff, Nat.reduceAdd, cl_84, m_C_inl, Option.toList_some, Option.toList_none, List.cons_append, List.nil_append, w_iinc_3, w_goto, w_dup_i, w_dup_r, w_dup_z, w_dup_v, gf_641, w_iadd, pf_641, w_iinc_2, w_vret, k_84_0, k_84_24, tg_84_24, k_84_48, tg_84_48, k_84_68, tg_84_68, k_84_96, tg_84_96, k_84_139, tg_84_139, w_aload_1, w_aloadz_1, w_aloadv_1, gf_129, w_icmp_ne, w_icmp_eq, gf_140, w_icmp_lt, w_if_ne, gf_137, cl_88, gf_141, pf_141, gf_131, w_isub, gf_325, pf_132, k_88_0, cl_89, k_89_0, k_89_15, tg_89_15, gf_138, gf_139, w_iret, m_C_inl, Option.toList_some, Option.toList_none, List.cons_append, List.nil_append, h_n_setI, h_n_setL, h_n_setD, h_n_setR, h_n_cpy, h_n_fill, h_n_mk, h_n_bump, h_n_Req, h_n_Drv, h_n_Rq, h_n_Dr, h_n_Jrn, h_n_Wp, h_n_Wd, h_n_h0, h_n_tk, h_n_tr, i_add, i_sub, i_mul, i_tn, i_nat, Int.reduceToNat, Int.reduceAdd, Int.reduceSub, Int.reduceMul, Int.reduceNeg, h_I_tk, h_R_tk, h_l_tk, h_k_tk, h_I_setI, h_R_setI, h_l_setI, false_and, and_false, true_and, and_true, ↓reduceIte, Nat.reduceEqDiff, and_self, w3, w4, w5, p3, p4, r3, r4, d3, d4, d5, d6, d7, d8, d9, n1, n2, n3, i_lt, i_eq, i_lt0, i_0lt, i_eq0, Int.reduceLT, Int.reduceEq, Int.lt_irrefl, if_pos, if_neg, Nat.reduceAdd, Nat.reduceMul, Nat.reduceSub, Nat.reduceDiv, Nat.reduceMod, Nat.reduceEqDiff, Nat.reduceLeDiff, Nat.reduceLT, Nat.zero_add, Nat.add_zero, Nat.zero_le, Nat.sub_self, Nat.not_lt_zero, Nat.lt_irrefl, Nat.le_refl, and_false, and_true, and_self, false_and, true_and, or_false, or_true, false_or, true_or, or_self, ↓reduceIte]
      rw [m_setI_eq (a := r) (k := 4) (by simp only [h_I_setI, h_I_tk, d5, n1, Nat.reduceAdd, Nat.reduceMul, Nat.reduceSub, Nat.reduceDiv, Nat.reduceMod, Nat.reduceEqDiff, Nat.reduceLeDiff, Nat.reduceLT, Nat.zero_add, Nat.add_zero, Nat.zero_le, Nat.sub_self, Nat.not_lt_zero, Nat.lt_irrefl, Nat.le_refl, and_false, and_true, and_self, false_and, true_and, or_false, or_true, false_or, true_or, or_self, ↓reduceIte]), q_tk_s n1, c_s]
