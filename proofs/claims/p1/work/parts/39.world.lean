/-! World made -/
theorem kDrv_old {h : m_H} {a c : Nat} {x : Int32} (hc : c < m_n h) : m_k (q_Drv h a x) c = m_k h c := by rw [h_k_Drv, if_neg (by omega)]
theorem lDrv_old {h : m_H} {a c : Nat} {x : Int32} (hc : c < m_n h) : m_l (q_Drv h a x) c = m_l h c := by rw [h_l_Drv, if_neg (by omega), if_neg (by omega), if_neg (by omega)]
theorem IDrv_old {h : m_H} {a c k : Nat} {x : Int32} (hc : c < m_n h) (ha : ¬ c = a) : m_I (q_Drv h a x) c k = m_I h c k := by rw [h_I_Drv, if_neg ha, if_neg (by omega)]
theorem RDrv_old {h : m_H} {a c k : Nat} {x : Int32} (hc : c < m_n h) (ha : ¬ c = a) : m_R (q_Drv h a x) c k = m_R h c k := by rw [h_R_Drv, if_neg ha, if_neg (by omega)]
theorem lp_77r {L : Nat} {xs : Nat → Int32} {d : Nat} {h : m_H} {Q : Option Value ⊕ Nat → m_H → Prop} {w row p : Nat} (hw : w < m_n h) (hk : m_k h w = 10) (hr : row < m_n h) (hne : ¬ w = row) (hR : m_R h w 5 = some row) (hkr : m_k h row = 207) (hlr : m_l h row = 100) (hX : m_n h + 110 < m_X) : ∀ n j : Nat, j + n = 100 → m_W (p_P L xs) (d + 1) 77 k_77_88 [some (.ref w), some (.ref p), some (.int (Int32.ofInt j))] [] (q_Rq h row j) Q = Q (.inl none) (q_Rq h row 100) := by
  intro n
  induction n with
  | zero =>
    intro j hj
    have e : j = 100 := by omega
    subst e
    have g1 : m_k (q_Rq h row 100) w = 10 := by rw [h_k_Rq, if_neg (by omega)]; exact hk
    have g2 : m_R (q_Rq h row 100) w 5 = some row := by rw [h_R_Rq, if_neg (fun e => hne e.1), if_neg (by omega)]; exact hR
    have g3 : m_k (q_Rq h row 100) row = 207 := by rw [h_k_Rq, if_neg (by omega)]; exact hkr
    have g4 : m_l (q_Rq h row 100) row = 100 := by rw [h_l_Rq, if_neg (by omega)]; exact hlr
    rw [k_77_88]
    simp (disch := first | omega | (simp (disch := first | omega | (simp only [h_n_setI, h_n_setL, h_n_setD, h_n_setR, h_n_cpy, h_n_fill, h_n_mk, h_n_bump, h_n_Req, h_n_Drv, h_n_Rq, h_n_Dr]; first | done | omega)) only [i_lt0, i_tn, i_nn, m_cat_n, m_cat_i, m_cat_r, m_cat_z, m_cat_rv, m_cat_l, m_o_n, m_o_i, m_o_r, m_o_z, m_o_rv, m_o_f, h_n_setI, h_n_setL, h_n_setD, h_n_setR, h_n_cpy, h_n_fill, h_n_mk, h_n_bump, h_n_Req, h_n_Drv, h_n_Rq, h_n_Dr, h_k_setI, h_k_setL, h_k_setD, h_k_setR, h_k_cpy, h_k_fill, h_k_bump, h_l_setI, h_l_setL, h_l_setD, h_l_setR, h_l_cpy, h_l_fill, h_l_bump, hk_old, hk_new, hl_old, hl_new, h_k_Req, h_l_Req, g1, g3, g4]; first | done | omega)) only [k_77_0, tg_77_57, tg_77_86, tg_77_88, k_77_117, tg_77_117, w_aload_0, w_aloadz_0, w_aloadv_0, m_cat_n, m_cat_i, m_cat_r, m_cat_z, m_cat_rv, m_cat_l, Nat.zero_le, Nat.reduceLeDiff, Nat.reduceAdd, w_obj, w_iconst, pf_641, pf_642, w_anew, pf_644, pfz_644, pfv_644, pf_645, pfz_645, pfv_645, w_new, nf_4, w_dup_i, w_dup_r, w_dup_z, w_dup_v, cl_23, m_o_i, m_o_r, m_o_z, m_o_rv, m_C_inl, Option.toList_some, Option.toList_none, List.cons_append, List.nil_append, pf_646, pfz_646, pfv_646, w_aload_1, w_aloadz_1, w_aloadv_1, pf_640, pfz_640, pfv_640, gf_323, m_rv_s, m_rv_n, pf_643, w_istore_2, m_o_n, m_o_f, w_iload_2, gf_644, w_len, w_slen, w_icmp_ge, nf_2, cl_6, w_aastore, w_iinc_2, w_goto, gf_645, nf_7, cl_51, w_vret, h_n_setI, h_n_setL, h_n_setD, h_n_setR, h_n_cpy, h_n_fill, h_n_mk, h_n_bump, h_n_Req, h_n_Drv, h_n_Rq, h_n_Dr, i_add, i_sub, i_mul, i_tn, i_nat, Int.reduceToNat, Int.reduceAdd, Int.reduceSub, Int.reduceMul, Int.reduceNeg, g2, g4, i_lt, Int.lt_irrefl, ↓reduceIte]
    
  | succ n ih =>
    intro j hj
    have g1 : m_k (q_Rq h row j) w = 10 := by rw [h_k_Rq, if_neg (by omega)]; exact hk
    have g2 : m_R (q_Rq h row j) w 5 = some row := by rw [h_R_Rq, if_neg (fun e => hne e.1), if_neg (by omega)]; exact hR
    have g3 : m_k (q_Rq h row j) row = 207 := by rw [h_k_Rq, if_neg (by omega)]; exact hkr
    have g4 : m_l (q_Rq h row j) row = 100 := by rw [h_l_Rq, if_neg (by omega)]; exact hlr
    have e : (j : Int) < ((100 : Nat) : Int) := by omega
    refine Eq.trans ?_ (ih (j + 1) (by omega))
    conv => lhs; rw [k_77_88]
    simp (disch := first | omega | (simp (disch := first | omega | (simp only [h_n_setI, h_n_setL, h_n_setD, h_n_setR, h_n_cpy, h_n_fill, h_n_mk, h_n_bump, h_n_Req, h_n_Drv, h_n_Rq, h_n_Dr]; first | done | omega)) only [i_lt0, i_tn, i_nn, m_cat_n, m_cat_i, m_cat_r, m_cat_z, m_cat_rv, m_cat_l, m_o_n, m_o_i, m_o_r, m_o_z, m_o_rv, m_o_f, h_n_setI, h_n_setL, h_n_setD, h_n_setR, h_n_cpy, h_n_fill, h_n_mk, h_n_bump, h_n_Req, h_n_Drv, h_n_Rq, h_n_Dr, h_k_setI, h_k_setL, h_k_setD, h_k_setR, h_k_cpy, h_k_fill, h_k_bump, h_l_setI, h_l_setL, h_l_setD, h_l_setR, h_l_cpy, h_l_fill, h_l_bump, hk_old, hk_new, hl_old, hl_new, h_k_Req, h_l_Req, g1, g3, g4, ]; first | done | omega)) only [k_77_0, tg_77_57, tg_77_86, tg_77_88, k_77_117, tg_77_117, w_aload_0, w_aloadz_0, w_aloadv_0, m_cat_n, m_cat_i, m_cat_r, m_cat_z, m_cat_rv, m_cat_l, Nat.zero_le, Nat.reduceLeDiff, Nat.reduceAdd, w_obj, w_iconst, pf_641, pf_642, w_anew, pf_644, pfz_644, pfv_644, pf_645, pfz_645, pfv_645, w_new, nf_4, w_dup_i, w_dup_r, w_dup_z, w_dup_v, cl_23, m_o_i, m_o_r, m_o_z, m_o_rv, m_C_inl, Option.toList_some, Option.toList_none, List.cons_append, List.nil_append, pf_646, pfz_646, pfv_646, w_aload_1, w_aloadz_1, w_aloadv_1, pf_640, pfz_640, pfv_640, gf_323, m_rv_s, m_rv_n, pf_643, w_istore_2, m_o_n, m_o_f, w_iload_2, gf_644, w_len, w_slen, w_icmp_ge, nf_2, cl_6, w_aastore, w_iinc_2, w_goto, gf_645, nf_7, cl_51, w_vret, h_n_setI, h_n_setL, h_n_setD, h_n_setR, h_n_cpy, h_n_fill, h_n_mk, h_n_bump, h_n_Req, h_n_Drv, h_n_Rq, h_n_Dr, i_add, i_sub, i_mul, i_tn, i_nat, Int.reduceToNat, Int.reduceAdd, Int.reduceSub, Int.reduceMul, Int.reduceNeg, g2, g4, i_lt, e, ↓reduceIte, c_t, ct_51]
    rw [q_Rq_s hr, c_s]
theorem lp_77d {L : Nat} {xs : Nat → Int32} {d : Nat} {h : m_H} {Q : Option Value ⊕ Nat → m_H → Prop} {w row p : Nat} (hw : w < m_n h) (hk : m_k h w = 10) (hr : row < m_n h) (hne : ¬ w = row) (hR : m_R h w 4 = some row) (hkr : m_k h row = 202) (hlr : m_l h row = 4) (hX : m_n h + 26 < m_X) : ∀ n j : Nat, j + n = 4 → m_W (p_P L xs) (d + 1) 77 k_77_57 [some (.ref w), some (.ref p), some (.int (Int32.ofInt j))] [] (q_Dr h row j) Q = m_W (p_P L xs) (d + 1) 77 k_77_86 [some (.ref w), some (.ref p), some (.int (Int32.ofInt ((4 : Nat) : Int)))] [] (q_Dr h row 4) Q := by
  intro n
  induction n with
  | zero =>
    intro j hj
    have e : j = 4 := by omega
    subst e
    have g1 : m_k (q_Dr h row 4) w = 10 := by rw [h_k_Dr, if_neg (by omega)]; exact hk
    have g2 : m_R (q_Dr h row 4) w 4 = some row := by rw [h_R_Dr, if_neg (fun e => hne e.1), if_neg (by omega)]; exact hR
    have g3 : m_k (q_Dr h row 4) row = 202 := by rw [h_k_Dr, if_neg (by omega)]; exact hkr
    have g4 : m_l (q_Dr h row 4) row = 4 := by rw [h_l_Dr, if_neg (by omega)]; exact hlr
    rw [k_77_57]
    simp (disch := first | omega | (simp (disch := first | omega | (simp only [h_n_setI, h_n_setL, h_n_setD, h_n_setR, h_n_cpy, h_n_fill, h_n_mk, h_n_bump, h_n_Req, h_n_Drv, h_n_Rq, h_n_Dr]; first | done | omega)) only [i_lt0, i_tn, i_nn, m_cat_n, m_cat_i, m_cat_r, m_cat_z, m_cat_rv, m_cat_l, m_o_n, m_o_i, m_o_r, m_o_z, m_o_rv, m_o_f, h_n_setI, h_n_setL, h_n_setD, h_n_setR, h_n_cpy, h_n_fill, h_n_mk, h_n_bump, h_n_Req, h_n_Drv, h_n_Rq, h_n_Dr, h_k_setI, h_k_setL, h_k_setD, h_k_setR, h_k_cpy, h_k_fill, h_k_bump, h_l_setI, h_l_setL, h_l_setD, h_l_setR, h_l_cpy, h_l_fill, h_l_bump, hk_old, hk_new, hl_old, hl_new, h_k_Req, h_l_Req, g1, g3, g4]; first | done | omega)) only [k_77_0, tg_77_57, tg_77_86, tg_77_88, k_77_117, tg_77_117, w_aload_0, w_aloadz_0, w_aloadv_0, m_cat_n, m_cat_i, m_cat_r, m_cat_z, m_cat_rv, m_cat_l, Nat.zero_le, Nat.reduceLeDiff, Nat.reduceAdd, w_obj, w_iconst, pf_641, pf_642, w_anew, pf_644, pfz_644, pfv_644, pf_645, pfz_645, pfv_645, w_new, nf_4, w_dup_i, w_dup_r, w_dup_z, w_dup_v, cl_23, m_o_i, m_o_r, m_o_z, m_o_rv, m_C_inl, Option.toList_some, Option.toList_none, List.cons_append, List.nil_append, pf_646, pfz_646, pfv_646, w_aload_1, w_aloadz_1, w_aloadv_1, pf_640, pfz_640, pfv_640, gf_323, m_rv_s, m_rv_n, pf_643, w_istore_2, m_o_n, m_o_f, w_iload_2, gf_644, w_len, w_slen, w_icmp_ge, nf_2, cl_6, w_aastore, w_iinc_2, w_goto, gf_645, nf_7, cl_51, w_vret, h_n_setI, h_n_setL, h_n_setD, h_n_setR, h_n_cpy, h_n_fill, h_n_mk, h_n_bump, h_n_Req, h_n_Drv, h_n_Rq, h_n_Dr, i_add, i_sub, i_mul, i_tn, i_nat, Int.reduceToNat, Int.reduceAdd, Int.reduceSub, Int.reduceMul, Int.reduceNeg, g2, g4, i_lt, Int.lt_irrefl, ↓reduceIte]
    
  | succ n ih =>
    intro j hj
    have g1 : m_k (q_Dr h row j) w = 10 := by rw [h_k_Dr, if_neg (by omega)]; exact hk
    have g2 : m_R (q_Dr h row j) w 4 = some row := by rw [h_R_Dr, if_neg (fun e => hne e.1), if_neg (by omega)]; exact hR
    have g3 : m_k (q_Dr h row j) row = 202 := by rw [h_k_Dr, if_neg (by omega)]; exact hkr
    have g4 : m_l (q_Dr h row j) row = 4 := by rw [h_l_Dr, if_neg (by omega)]; exact hlr
    have e : (j : Int) < ((4 : Nat) : Int) := by omega
    refine Eq.trans ?_ (ih (j + 1) (by omega))
    conv => lhs; rw [k_77_57]
    simp (disch := first | omega | (simp (disch := first | omega | (simp only [h_n_setI, h_n_setL, h_n_setD, h_n_setR, h_n_cpy, h_n_fill, h_n_mk, h_n_bump, h_n_Req, h_n_Drv, h_n_Rq, h_n_Dr]; first | done | omega)) only [i_lt0, i_tn, i_nn, m_cat_n, m_cat_i, m_cat_r, m_cat_z, m_cat_rv, m_cat_l, m_o_n, m_o_i, m_o_r, m_o_z, m_o_rv, m_o_f, h_n_setI, h_n_setL, h_n_setD, h_n_setR, h_n_cpy, h_n_fill, h_n_mk, h_n_bump, h_n_Req, h_n_Drv, h_n_Rq, h_n_Dr, h_k_setI, h_k_setL, h_k_setD, h_k_setR, h_k_cpy, h_k_fill, h_k_bump, h_l_setI, h_l_setL, h_l_setD, h_l_setR, h_l_cpy, h_l_fill, h_l_bump, hk_old, hk_new, hl_old, hl_new, h_k_Req, h_l_Req, g1, g3, g4, kDrv_old, lDrv_old]; first | done | omega)) only [k_77_0, tg_77_57, tg_77_86, tg_77_88, k_77_117, tg_77_117, w_aload_0, w_aloadz_0, w_aloadv_0, m_cat_n, m_cat_i, m_cat_r, m_cat_z, m_cat_rv, m_cat_l, Nat.zero_le, Nat.reduceLeDiff, Nat.reduceAdd, w_obj, w_iconst, pf_641, pf_642, w_anew, pf_644, pfz_644, pfv_644, pf_645, pfz_645, pfv_645, w_new, nf_4, w_dup_i, w_dup_r, w_dup_z, w_dup_v, cl_23, m_o_i, m_o_r, m_o_z, m_o_rv, m_C_inl, Option.toList_some, Option.toList_none, List.cons_append, List.nil_append, pf_646, pfz_646, pfv_646, w_aload_1, w_aloadz_1, w_aloadv_1, pf_640, pfz_640, pfv_640, gf_323, m_rv_s, m_rv_n, pf_643, w_istore_2, m_o_n, m_o_f, w_iload_2, gf_644, w_len, w_slen, w_icmp_ge, nf_2, cl_6, w_aastore, w_iinc_2, w_goto, gf_645, nf_7, cl_51, w_vret, h_n_setI, h_n_setL, h_n_setD, h_n_setR, h_n_cpy, h_n_fill, h_n_mk, h_n_bump, h_n_Req, h_n_Drv, h_n_Rq, h_n_Dr, i_add, i_sub, i_mul, i_tn, i_nat, Int.reduceToNat, Int.reduceAdd, Int.reduceSub, Int.reduceMul, Int.reduceNeg, g2, g4, i_lt, e, ↓reduceIte, c_t, ct_6]
    rw [q_Dr_s hr, c_s]
