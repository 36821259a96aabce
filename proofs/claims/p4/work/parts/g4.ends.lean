/-! the reference: requests end, exactly -/
set_option maxHeartbeats 2000000 in
/-- an empty stretch of codes -/
theorem v0_210 {L : Nat} {xs : Nat → Int32} {d : Nat} {h : m_H} {w : Int64} {F : m_M} {Q : Option Value ⊕ Nat → m_H → Prop} (I : RF h) {a : Nat} (ha : a = 147 ∨ a = 148) {f g dr ar re : Int} (fg : f = g) (hQ : ∀ (F' : m_M), sp_f a F F' → F' a = F a → Q (.inl (some (.int (Int32.ofInt 0)))) (m_hS h (w, F'))) : m_W (p_P L xs) (d + 2) 210 k_210_0 [some (.ref 135), some (.ref a), some (.int (Int32.ofInt f)), some (.int (Int32.ofInt g)), some (.int (Int32.ofInt dr)), some (.int (Int32.ofInt ar)), some (.int (Int32.ofInt re)), none, none] [] (m_hS h (w, F)) Q := by
  have hka := ra_k I ha
  have hla := ra_l I ha
  have hna := ra_n I ha
  have hxa := ra_x ha
  have ne135 : ¬ 135 = a := by omega
  have ne136 : ¬ 136 = a := by omega
  have ne144 : ¬ 144 = a := by omega
  have ne153 : ¬ 153 = a := by omega
  have na135 : ¬ a = 135 := by omega
  have na153 : ¬ a = 153 := by omega
  subst fg
  have fl : ¬ f < f := Int.lt_irrefl f
  rw [k_210_0]
  simp (disch := first | omega | (simp (disch := omega) only [i_lt0, i_tn, i_nn, m_cat_n, m_cat_i, m_cat_r, m_cat_z, m_cat_rv, m_cat_l, m_o_n, m_o_i, m_o_r, m_o_z, m_o_rv, m_o_f, hs_n, hs_k, hs_l, f_k_135 I, n_135 I, f_R_135_9 I, f_k_144 I, f_l_144 I, n_144 I, x_144, f_R_135_29 I, f_k_153 I, f_l_153 I, n_153 I, x_153, Nat.reduceLeDiff, not_false_eq_true, or_true, true_or, or_false, false_or, hka, hla, hxa, hna]; first | done | omega) | exact Or.inl rfl | exact Or.inr rfl) only [k_210_0, w_aload_0, w_aloadz_0, w_aloadv_0, w_iconst, pf_804, gf_797, m_rv_s, m_rv_n, w_iastore, w_iload_2, w_istore_7, m_o_n, m_o_i, m_o_r, m_o_z, m_o_rv, m_o_f, tg_210_15, tg_210_42, tg_210_98, tg_210_153, tg_210_178, tg_210_190, tg_210_201, tg_210_207, m_C_inl, Option.toList_some, Option.toList_none, List.cons_append, List.nil_append, w_icmp_eq, w_if_eq, hs_n, hs_k, hs_l, hs_R, hs_I, hs_L, hs_setI, hs_setL, hs_cpy, f_k_135 I, n_135 I, f_R_135_9 I, f_k_144 I, f_l_144 I, n_144 I, x_144, f_R_135_29 I, f_k_153 I, f_l_153 I, n_153 I, x_153, up_up, up_sw, up_sa, i_add, i_sub, i_mul, i_tn, i_nat, Int.reduceToNat, Int.reduceAdd, Int.reduceSub, Int.reduceMul, Int.reduceNeg, l_32, l_nat, l_c_lt, l_c_gt, l_c_eq, i_lt, i_eq, i_lt0, i_0lt, i_eq0, i_eq1, Int.reduceLT, Int.reduceEq, Int.reduceLE, Int.reduceNe, not_true_eq_false, not_false_eq_true, Nat.lt_irrefl, Int.lt_irrefl, eq_self, eq_self, Nat.reduceAdd, Nat.reduceMul, Nat.reduceSub, Nat.reduceDiv, Nat.reduceMod, Nat.reduceEqDiff, Nat.reduceLeDiff, Nat.reduceLT, Nat.zero_add, Nat.add_zero, Nat.zero_le, and_false, and_true, and_self, false_and, true_and, or_false, or_true, if_true, if_false, ite_true, ite_false, ↓reduceIte, Int.reduceToNat, Int.reduceAdd, Int.reduceSub, Int.reduceMul, Int.reduceNeg, up_eq, up_na, up_nk]
  rw [k_210_15]
  simp (disch := first | omega | (simp (disch := omega) only [i_lt0, i_tn, i_nn, m_cat_n, m_cat_i, m_cat_r, m_cat_z, m_cat_rv, m_cat_l, m_o_n, m_o_i, m_o_r, m_o_z, m_o_rv, m_o_f, hs_n, hs_k, hs_l, f_k_135 I, n_135 I, f_R_135_9 I, f_k_144 I, f_l_144 I, n_144 I, x_144, f_R_135_29 I, f_k_153 I, f_l_153 I, n_153 I, x_153, Nat.reduceLeDiff, not_false_eq_true, or_true, true_or, or_false, false_or, hka, hla, hxa, hna]; first | done | omega) | exact Or.inl rfl | exact Or.inr rfl) only [k_210_15, k_210_207, w_iload_7, w_iload_3, w_icmp_ge, w_aload_0, w_aloadz_0, w_aloadv_0, gf_777, m_rv_s, m_rv_n, w_iaload, w_script, w_istore_8, m_o_n, m_o_i, m_o_r, m_o_z, m_o_rv, m_o_f, w_iload_8, m_cat_n, m_cat_i, m_cat_r, m_cat_z, m_cat_rv, m_cat_l, Nat.zero_le, Nat.reduceLeDiff, Nat.reduceAdd, m_C_inl, Option.toList_some, Option.toList_none, List.cons_append, List.nil_append, w_if_eq, w_goto, gf_797, w_iconst, w_iret, tg_210_15, tg_210_42, tg_210_98, tg_210_153, tg_210_178, tg_210_190, tg_210_201, tg_210_207, w_icmp_eq, hs_n, hs_k, hs_l, hs_R, hs_I, hs_L, hs_setI, hs_setL, hs_cpy, f_k_135 I, n_135 I, f_R_135_9 I, f_k_144 I, f_l_144 I, n_144 I, x_144, f_R_135_29 I, f_k_153 I, f_l_153 I, n_153 I, x_153, up_up, up_sw, up_sa, i_add, i_sub, i_mul, i_tn, i_nat, Int.reduceToNat, Int.reduceAdd, Int.reduceSub, Int.reduceMul, Int.reduceNeg, l_32, l_nat, l_c_lt, l_c_gt, l_c_eq, i_lt, i_eq, i_lt0, i_0lt, i_eq0, i_eq1, Int.reduceLT, Int.reduceEq, Int.reduceLE, Int.reduceNe, not_true_eq_false, not_false_eq_true, Nat.lt_irrefl, Int.lt_irrefl, eq_self, eq_self, Nat.reduceAdd, Nat.reduceMul, Nat.reduceSub, Nat.reduceDiv, Nat.reduceMod, Nat.reduceEqDiff, Nat.reduceLeDiff, Nat.reduceLT, Nat.zero_add, Nat.add_zero, Nat.zero_le, and_false, and_true, and_self, false_and, true_and, or_false, or_true, if_true, if_false, ite_true, ite_false, ↓reduceIte, Int.reduceToNat, Int.reduceAdd, Int.reduceSub, Int.reduceMul, Int.reduceNeg, up_eq, up_na, up_nk, Int32.lt_irrefl]
  refine hQ _ (fun x y z1 z2 z3 => by simp (disch := omega) only [up_na, up_no]) ?_
  simp (disch := omega) only [up_ro]
set_option maxHeartbeats 4000000 in
theorem v_213 {L : Nat} {xs : Nat → Int32} {d : Nat} {h : m_H} {w : Int64} {F : m_M} {Q : Option Value ⊕ Nat → m_H → Prop} (I : RF h) {a : Nat} (ha : a = 147 ∨ a = 148) {G : tx_G} {D : Nat} (P : q_pR F G) (gd : q_gd G) (hI : sp_I G D (F a)) {q : Int} (q0 : 0 ≤ q) (q1 : q < F a 1) (hk3 : sp_c G (sp_o (F a) q 1) 1 = 3) (hQ : ∀ F' : m_M, sp_f a F F' → F' a = F a → Q (.inl (some (.int (Int32.ofInt (if sp_tr G (F a) q then 1 else 0))))) (m_hS h (w, F'))) : m_W (p_P L xs) (d + 3) 213 k_213_0 [some (.ref 135), some (.ref a), some (.int (Int32.ofInt q)), none] [] (m_hS h (w, F)) Q := by
  have hka := ra_k I ha
  have hla := ra_l I ha
  have hna := ra_n I ha
  have hxa := ra_x ha
  have ne135 : ¬ 135 = a := by omega
  have ne136 : ¬ 136 = a := by omega
  have ne144 : ¬ 144 = a := by omega
  have ne153 : ¬ 153 = a := by omega
  have na135 : ¬ a = 135 := by omega
  have na153 : ¬ a = 153 := by omega
  have hqq := I_q hI q0 q1
  have hnn := I_n hI
  obtain ⟨c, hc⟩ : ∃ c, c = F a (192 + 14 * q + 1).toNat := ⟨_, rfl⟩
  rw [← hc] at hqq
  have hgl := gd.2.1
  obtain ⟨p1, p2, p3, p4, p5, p6, p7⟩ := pR_c P hqq.2.1 hqq.2.2
  obtain ⟨⟨k1, k2⟩, ⟨k3, k4⟩, ⟨c1, c2, c3, c4, c5, c6⟩, x_t, x_r, x_s, x_k⟩ := gd.1 c hqq.2.1 hqq.2.2
  have eo : sp_o (F a) q 1 = c := hc.symm
  rw [k_213_0]
  simp (disch := first | omega | (simp (disch := omega) only [i_lt0, i_tn, i_nn, m_cat_n, m_cat_i, m_cat_r, m_cat_z, m_cat_rv, m_cat_l, m_o_n, m_o_i, m_o_r, m_o_z, m_o_rv, m_o_f, hs_n, hs_k, hs_l, f_k_135 I, n_135 I, f_R_135_4 I, f_k_139 I, f_l_139 I, n_139 I, x_139, f_R_135_8 I, f_k_143 I, f_l_143 I, n_143 I, x_143, Nat.reduceLeDiff, not_false_eq_true, or_true, true_or, or_false, false_or, hka, hla, hxa, hna]; first | done | omega) | exact Or.inl rfl | exact Or.inr rfl) only [k_213_0, k_213_45, k_213_46, w_aload_1, w_aloadz_1, w_aloadv_1, w_iload_2, w_iconst, m_cat_n, m_cat_i, m_cat_r, m_cat_z, m_cat_rv, m_cat_l, Nat.zero_le, Nat.reduceLeDiff, Nat.reduceAdd, cl_211, m_o_i, m_o_r, m_o_z, m_o_rv, m_C_inl, Option.toList_some, Option.toList_none, List.cons_append, List.nil_append, w_istore_3, m_o_n, m_o_f, w_aload_0, w_aloadz_0, w_aloadv_0, gf_776, m_rv_s, m_rv_n, w_iload_3, w_iaload, w_script, gf_772, w_icmp_ne, w_goto, w_zret, tg_213_45, tg_213_46, k_211_0, w_iload_1, w_imul, w_iadd, w_iret, w_icmp_eq, w_if_eq, hs_n, hs_k, hs_l, hs_R, hs_I, hs_L, hs_setI, hs_setL, hs_cpy, f_k_135 I, n_135 I, f_R_135_4 I, f_k_139 I, f_l_139 I, n_139 I, x_139, f_R_135_8 I, f_k_143 I, f_l_143 I, n_143 I, x_143, up_up, up_sw, up_sa, i_add, i_sub, i_mul, i_tn, i_nat, Int.reduceToNat, Int.reduceAdd, Int.reduceSub, Int.reduceMul, Int.reduceNeg, l_32, l_nat, l_c_lt, l_c_gt, l_c_eq, i_lt, i_eq, i_lt0, i_0lt, i_eq0, i_eq1, Int.reduceLT, Int.reduceEq, Int.reduceLE, Int.reduceNe, not_true_eq_false, not_false_eq_true, Nat.lt_irrefl, Int.lt_irrefl, eq_self, eq_self, Nat.reduceAdd, Nat.reduceMul, Nat.reduceSub, Nat.reduceDiv, Nat.reduceMod, Nat.reduceEqDiff, Nat.reduceLeDiff, Nat.reduceLT, Nat.zero_add, Nat.add_zero, Nat.zero_le, and_false, and_true, and_self, false_and, true_and, or_false, or_true, if_true, if_false, ite_true, ite_false, ↓reduceIte, Int.reduceToNat, Int.reduceAdd, Int.reduceSub, Int.reduceMul, Int.reduceNeg, up_eq, up_na, up_nk, ← hc, p1, p2, p3, p4, p5, p6, p7]
  simp (disch := first | omega | (simp (disch := omega) only [i_lt0, i_tn, i_nn, m_cat_n, m_cat_i, m_cat_r, m_cat_z, m_cat_rv, m_cat_l, m_o_n, m_o_i, m_o_r, m_o_z, m_o_rv, m_o_f, hs_n, hs_k, hs_l, f_k_135 I, n_135 I, Nat.reduceLeDiff, not_false_eq_true, or_true, true_or, or_false, false_or]; first | done | omega) | exact Or.inl rfl | exact Or.inr rfl) only [cl_210, m_cat_n, m_cat_i, m_cat_r, m_cat_z, m_cat_rv, m_cat_l, Nat.zero_le, Nat.reduceLeDiff, Nat.reduceAdd, m_o_i, m_o_r, m_o_z, m_o_rv, hs_n, hs_k, f_k_135 I, n_135 I, hna, hka]
  obtain ⟨x, hx, hx01⟩ := x_t (by rw [← eo]; exact hk3) (sp_op (F a (192 + 14 * q + 0).toNat) (F a (192 + 14 * q + 2).toNat) 0) (F a (192 + 14 * q + 0).toNat) (F a)
  have et : sp_v (sp_xt G (F a) q) = x := by
    unfold sp_xt
    rw [eo]
    show sp_v (sp_ex _ _ _ _ _) = x
    rw [show sp_o (F a) q 0 = F a (192 + 14 * q + 0).toNat from rfl, show sp_o (F a) q 2 = F a (192 + 14 * q + 2).toNat from rfl, hx]
    rfl
  refine v_210 I ha (by omega) (by omega) (by omega) (by omega) (by omega) (at_g P gd (by omega) (by omega) (by omega)).2.1 (at_g P gd (by omega) (by omega) (by omega)).1 (at_g P gd (by omega) (by omega) (by omega)).2.2 hx (fun v F1 f1 r1 v1 => ?_)
  have ev : v = x := v1 x rfl
  subst ev
  have hq := hQ F1 f1 r1
  unfold sp_tr at hq
  rw [et] at hq
  (repeat' (first | (simp (disch := first | omega | (simp (disch := omega) only [i_lt0, i_tn, i_nn, m_cat_n, m_cat_i, m_cat_r, m_cat_z, m_cat_rv, m_cat_l, m_o_n, m_o_i, m_o_r, m_o_z, m_o_rv, m_o_f, hs_n, hs_k, hs_l, f_k_135 I, n_135 I, f_R_135_4 I, f_k_139 I, f_l_139 I, n_139 I, x_139, f_R_135_8 I, f_k_143 I, f_l_143 I, n_143 I, x_143, Nat.reduceLeDiff, not_false_eq_true, or_true, true_or, or_false, false_or, hka, hla, hxa, hna]; first | done | omega) | exact Or.inl rfl | exact Or.inr rfl) only [k_213_45, k_213_46, w_aload_1, w_aloadz_1, w_aloadv_1, w_iload_2, w_iconst, m_cat_n, m_cat_i, m_cat_r, m_cat_z, m_cat_rv, m_cat_l, Nat.zero_le, Nat.reduceLeDiff, Nat.reduceAdd, m_o_i, m_o_r, m_o_z, m_o_rv, m_C_inl, Option.toList_some, Option.toList_none, List.cons_append, List.nil_append, w_istore_3, m_o_n, m_o_f, w_aload_0, w_aloadz_0, w_aloadv_0, gf_776, m_rv_s, m_rv_n, w_iload_3, w_iaload, w_script, gf_772, w_icmp_ne, w_goto, w_zret, tg_213_45, tg_213_46, w_icmp_eq, w_if_eq, hs_n, hs_k, hs_l, hs_R, hs_I, hs_L, hs_setI, hs_setL, hs_cpy, f_k_135 I, n_135 I, f_R_135_4 I, f_k_139 I, f_l_139 I, n_139 I, x_139, f_R_135_8 I, f_k_143 I, f_l_143 I, n_143 I, x_143, up_up, up_sw, up_sa, i_add, i_sub, i_mul, i_tn, i_nat, Int.reduceToNat, Int.reduceAdd, Int.reduceSub, Int.reduceMul, Int.reduceNeg, l_32, l_nat, l_c_lt, l_c_gt, l_c_eq, i_lt, i_eq, i_lt0, i_0lt, i_eq0, i_eq1, Int.reduceLT, Int.reduceEq, Int.reduceLE, Int.reduceNe, not_true_eq_false, not_false_eq_true, Nat.lt_irrefl, Int.lt_irrefl, eq_self, eq_self, Nat.reduceAdd, Nat.reduceMul, Nat.reduceSub, Nat.reduceDiv, Nat.reduceMod, Nat.reduceEqDiff, Nat.reduceLeDiff, Nat.reduceLT, Nat.zero_add, Nat.add_zero, Nat.zero_le, and_false, and_true, and_self, false_and, true_and, or_false, or_true, if_true, if_false, ite_true, ite_false, ↓reduceIte, Int.reduceToNat, Int.reduceAdd, Int.reduceSub, Int.reduceMul, Int.reduceNeg, up_eq, up_na, up_nk]) | split))
  · rw [if_pos (by omega)] at hq; exact hq
  · rw [if_neg (by omega)] at hq; exact hq
set_option maxHeartbeats 4000000 in
theorem v_214 {L : Nat} {xs : Nat → Int32} {d : Nat} {h : m_H} {w : Int64} {F : m_M} {Q : Option Value ⊕ Nat → m_H → Prop} (I : RF h) {a : Nat} (ha : a = 147 ∨ a = 148) {G : tx_G} {D : Nat} (P : q_pR F G) (gd : q_gd G) (hI : sp_I G D (F a)) {q : Int} (q0 : 0 ≤ q) (q1 : q < F a 1) (hQ : ∀ F' : m_M, sp_f a F F' → F' a = F a → Q (.inl (some (.int (Int32.ofInt (sp_re G (F a) q))))) (m_hS h (w, F'))) : m_W (p_P L xs) (d + 3) 214 k_214_0 [some (.ref 135), some (.ref a), some (.int (Int32.ofInt q)), none] [] (m_hS h (w, F)) Q := by
  have hka := ra_k I ha
  have hla := ra_l I ha
  have hna := ra_n I ha
  have hxa := ra_x ha
  have ne135 : ¬ 135 = a := by omega
  have ne136 : ¬ 136 = a := by omega
  have ne144 : ¬ 144 = a := by omega
  have ne153 : ¬ 153 = a := by omega
  have na135 : ¬ a = 135 := by omega
  have na153 : ¬ a = 153 := by omega
  have hqq := I_q hI q0 q1
  have hnn := I_n hI
  obtain ⟨c, hc⟩ : ∃ c, c = F a (192 + 14 * q + 1).toNat := ⟨_, rfl⟩
  rw [← hc] at hqq
  have hgl := gd.2.1
  obtain ⟨p1, p2, p3, p4, p5, p6, p7⟩ := pR_c P hqq.2.1 hqq.2.2
  obtain ⟨⟨k1, k2⟩, ⟨k3, k4⟩, ⟨c1, c2, c3, c4, c5, c6⟩, x_t, x_r, x_s, x_k⟩ := gd.1 c hqq.2.1 hqq.2.2
  have eo : sp_o (F a) q 1 = c := hc.symm
  rw [k_214_0]
  simp (disch := first | omega | (simp (disch := omega) only [i_lt0, i_tn, i_nn, m_cat_n, m_cat_i, m_cat_r, m_cat_z, m_cat_rv, m_cat_l, m_o_n, m_o_i, m_o_r, m_o_z, m_o_rv, m_o_f, hs_n, hs_k, hs_l, f_k_135 I, n_135 I, f_R_135_4 I, f_k_139 I, f_l_139 I, n_139 I, x_139, f_R_135_5 I, f_k_140 I, f_l_140 I, n_140 I, x_140, Nat.reduceLeDiff, not_false_eq_true, or_true, true_or, or_false, false_or, hka, hla, hxa, hna]; first | done | omega) | exact Or.inl rfl | exact Or.inr rfl) only [k_214_0, w_aload_1, w_aloadz_1, w_aloadv_1, w_iload_2, w_iconst, m_cat_n, m_cat_i, m_cat_r, m_cat_z, m_cat_rv, m_cat_l, Nat.zero_le, Nat.reduceLeDiff, Nat.reduceAdd, cl_211, m_o_i, m_o_r, m_o_z, m_o_rv, m_C_inl, Option.toList_some, Option.toList_none, List.cons_append, List.nil_append, w_istore_3, m_o_n, m_o_f, w_aload_0, w_aloadz_0, w_aloadv_0, gf_772, m_rv_s, m_rv_n, w_iload_3, w_iaload, w_script, gf_773, w_iret, k_211_0, w_iload_1, w_imul, w_iadd, w_icmp_eq, w_if_eq, hs_n, hs_k, hs_l, hs_R, hs_I, hs_L, hs_setI, hs_setL, hs_cpy, f_k_135 I, n_135 I, f_R_135_4 I, f_k_139 I, f_l_139 I, n_139 I, x_139, f_R_135_5 I, f_k_140 I, f_l_140 I, n_140 I, x_140, up_up, up_sw, up_sa, i_add, i_sub, i_mul, i_tn, i_nat, Int.reduceToNat, Int.reduceAdd, Int.reduceSub, Int.reduceMul, Int.reduceNeg, l_32, l_nat, l_c_lt, l_c_gt, l_c_eq, i_lt, i_eq, i_lt0, i_0lt, i_eq0, i_eq1, Int.reduceLT, Int.reduceEq, Int.reduceLE, Int.reduceNe, not_true_eq_false, not_false_eq_true, Nat.lt_irrefl, Int.lt_irrefl, eq_self, eq_self, Nat.reduceAdd, Nat.reduceMul, Nat.reduceSub, Nat.reduceDiv, Nat.reduceMod, Nat.reduceEqDiff, Nat.reduceLeDiff, Nat.reduceLT, Nat.zero_add, Nat.add_zero, Nat.zero_le, and_false, and_true, and_self, false_and, true_and, or_false, or_true, if_true, if_false, ite_true, ite_false, ↓reduceIte, Int.reduceToNat, Int.reduceAdd, Int.reduceSub, Int.reduceMul, Int.reduceNeg, up_eq, up_na, up_nk, ← hc, p1, p2, p3, p4, p5, p6, p7]
  simp (disch := first | omega | (simp (disch := omega) only [i_lt0, i_tn, i_nn, m_cat_n, m_cat_i, m_cat_r, m_cat_z, m_cat_rv, m_cat_l, m_o_n, m_o_i, m_o_r, m_o_z, m_o_rv, m_o_f, hs_n, hs_k, hs_l, f_k_135 I, n_135 I, Nat.reduceLeDiff, not_false_eq_true, or_true, true_or, or_false, false_or]; first | done | omega) | exact Or.inl rfl | exact Or.inr rfl) only [cl_210, m_cat_n, m_cat_i, m_cat_r, m_cat_z, m_cat_rv, m_cat_l, Nat.zero_le, Nat.reduceLeDiff, Nat.reduceAdd, m_o_i, m_o_r, m_o_z, m_o_rv, hs_n, hs_k, f_k_135 I, n_135 I, hna, hka]
  rcases x_r (sp_op (F a (192 + 14 * q + 0).toNat) (F a (192 + 14 * q + 2).toNat) 0) (F a (192 + 14 * q + 0).toNat) (F a) with e45 | ⟨x, hx⟩
  · have eg : sp_g G (sp_c G c 4) (sp_c G c 5) = [] := by
      unfold sp_g
      rw [show (sp_c G c 5 - sp_c G c 4).toNat = 0 by omega]
      rfl
    have et : sp_re G (F a) q = 0 := by
      unfold sp_re sp_xr
      rw [eo, eg, sp_ex]
      rfl
    rw [et] at hQ
    refine v0_210 I ha (by omega) (fun F1 f1 r1 => ?_)
    simp (disch := first | omega | (simp (disch := omega) only [i_lt0, i_tn, i_nn, m_cat_n, m_cat_i, m_cat_r, m_cat_z, m_cat_rv, m_cat_l, m_o_n, m_o_i, m_o_r, m_o_z, m_o_rv, m_o_f, hs_n, hs_k, hs_l, f_k_135 I, n_135 I, f_R_135_4 I, f_k_139 I, f_l_139 I, n_139 I, x_139, f_R_135_5 I, f_k_140 I, f_l_140 I, n_140 I, x_140, Nat.reduceLeDiff, not_false_eq_true, or_true, true_or, or_false, false_or, hka, hla, hxa, hna]; first | done | omega) | exact Or.inl rfl | exact Or.inr rfl) only [w_aload_1, w_aloadz_1, w_aloadv_1, w_iload_2, w_iconst, m_cat_n, m_cat_i, m_cat_r, m_cat_z, m_cat_rv, m_cat_l, Nat.zero_le, Nat.reduceLeDiff, Nat.reduceAdd, m_o_i, m_o_r, m_o_z, m_o_rv, m_C_inl, Option.toList_some, Option.toList_none, List.cons_append, List.nil_append, w_istore_3, m_o_n, m_o_f, w_aload_0, w_aloadz_0, w_aloadv_0, gf_772, m_rv_s, m_rv_n, w_iload_3, w_iaload, w_script, gf_773, w_iret, w_icmp_eq, w_if_eq, hs_n, hs_k, hs_l, hs_R, hs_I, hs_L, hs_setI, hs_setL, hs_cpy, f_k_135 I, n_135 I, f_R_135_4 I, f_k_139 I, f_l_139 I, n_139 I, x_139, f_R_135_5 I, f_k_140 I, f_l_140 I, n_140 I, x_140, up_up, up_sw, up_sa, i_add, i_sub, i_mul, i_tn, i_nat, Int.reduceToNat, Int.reduceAdd, Int.reduceSub, Int.reduceMul, Int.reduceNeg, l_32, l_nat, l_c_lt, l_c_gt, l_c_eq, i_lt, i_eq, i_lt0, i_0lt, i_eq0, i_eq1, Int.reduceLT, Int.reduceEq, Int.reduceLE, Int.reduceNe, not_true_eq_false, not_false_eq_true, Nat.lt_irrefl, Int.lt_irrefl, eq_self, eq_self, Nat.reduceAdd, Nat.reduceMul, Nat.reduceSub, Nat.reduceDiv, Nat.reduceMod, Nat.reduceEqDiff, Nat.reduceLeDiff, Nat.reduceLT, Nat.zero_add, Nat.add_zero, Nat.zero_le, and_false, and_true, and_self, false_and, true_and, or_false, or_true, if_true, if_false, ite_true, ite_false, ↓reduceIte, Int.reduceToNat, Int.reduceAdd, Int.reduceSub, Int.reduceMul, Int.reduceNeg, up_eq, up_na, up_nk]
    exact hQ F1 f1 r1
  · have et : sp_re G (F a) q = x := by
      unfold sp_re sp_xr
      rw [eo, show sp_o (F a) q 0 = F a (192 + 14 * q + 0).toNat from rfl, show sp_o (F a) q 2 = F a (192 + 14 * q + 2).toNat from rfl, hx]
      rfl
    rw [et] at hQ
    refine v_210 I ha (by omega) (by omega) (by omega) (by omega) (by omega) (at_g P gd (by omega) (by omega) (by omega)).2.1 (at_g P gd (by omega) (by omega) (by omega)).1 (at_g P gd (by omega) (by omega) (by omega)).2.2 hx (fun v F1 f1 r1 v1 => ?_)
    have ev : v = x := v1 x rfl
    subst ev
    simp (disch := first | omega | (simp (disch := omega) only [i_lt0, i_tn, i_nn, m_cat_n, m_cat_i, m_cat_r, m_cat_z, m_cat_rv, m_cat_l, m_o_n, m_o_i, m_o_r, m_o_z, m_o_rv, m_o_f, hs_n, hs_k, hs_l, f_k_135 I, n_135 I, f_R_135_4 I, f_k_139 I, f_l_139 I, n_139 I, x_139, f_R_135_5 I, f_k_140 I, f_l_140 I, n_140 I, x_140, Nat.reduceLeDiff, not_false_eq_true, or_true, true_or, or_false, false_or, hka, hla, hxa, hna]; first | done | omega) | exact Or.inl rfl | exact Or.inr rfl) only [w_aload_1, w_aloadz_1, w_aloadv_1, w_iload_2, w_iconst, m_cat_n, m_cat_i, m_cat_r, m_cat_z, m_cat_rv, m_cat_l, Nat.zero_le, Nat.reduceLeDiff, Nat.reduceAdd, m_o_i, m_o_r, m_o_z, m_o_rv, m_C_inl, Option.toList_some, Option.toList_none, List.cons_append, List.nil_append, w_istore_3, m_o_n, m_o_f, w_aload_0, w_aloadz_0, w_aloadv_0, gf_772, m_rv_s, m_rv_n, w_iload_3, w_iaload, w_script, gf_773, w_iret, w_icmp_eq, w_if_eq, hs_n, hs_k, hs_l, hs_R, hs_I, hs_L, hs_setI, hs_setL, hs_cpy, f_k_135 I, n_135 I, f_R_135_4 I, f_k_139 I, f_l_139 I, n_139 I, x_139, f_R_135_5 I, f_k_140 I, f_l_140 I, n_140 I, x_140, up_up, up_sw, up_sa, i_add, i_sub, i_mul, i_tn, i_nat, Int.reduceToNat, Int.reduceAdd, Int.reduceSub, Int.reduceMul, Int.reduceNeg, l_32, l_nat, l_c_lt, l_c_gt, l_c_eq, i_lt, i_eq, i_lt0, i_0lt, i_eq0, i_eq1, Int.reduceLT, Int.reduceEq, Int.reduceLE, Int.reduceNe, not_true_eq_false, not_false_eq_true, Nat.lt_irrefl, Int.lt_irrefl, eq_self, eq_self, Nat.reduceAdd, Nat.reduceMul, Nat.reduceSub, Nat.reduceDiv, Nat.reduceMod, Nat.reduceEqDiff, Nat.reduceLeDiff, Nat.reduceLT, Nat.zero_add, Nat.add_zero, Nat.zero_le, and_false, and_true, and_self, false_and, true_and, or_false, or_true, if_true, if_false, ite_true, ite_false, ↓reduceIte, Int.reduceToNat, Int.reduceAdd, Int.reduceSub, Int.reduceMul, Int.reduceNeg, up_eq, up_na, up_nk]
    exact hQ F1 f1 r1
set_option maxHeartbeats 4000000 in
theorem v_215 {L : Nat} {xs : Nat → Int32} {d : Nat} {h : m_H} {w : Int64} {F : m_M} {Q : Option Value ⊕ Nat → m_H → Prop} (I : RF h) {a : Nat} (ha : a = 147 ∨ a = 148) {G : tx_G} {D : Nat} (P : q_pR F G) (gd : q_gd G) (hI : sp_I G D (F a)) {q : Int} (q0 : 0 ≤ q) (q1 : q < F a 1) (hQ : ∀ F' : m_M, sp_f a F F' → F' a = sp_ke G (F a) q → Q (.inl none) (m_hS h (w, F'))) : m_W (p_P L xs) (d + 3) 215 k_215_0 [some (.ref 135), some (.ref a), some (.int (Int32.ofInt q)), none] [] (m_hS h (w, F)) Q := by
  have hka := ra_k I ha
  have hla := ra_l I ha
  have hna := ra_n I ha
  have hxa := ra_x ha
  have ne135 : ¬ 135 = a := by omega
  have ne136 : ¬ 136 = a := by omega
  have ne144 : ¬ 144 = a := by omega
  have ne153 : ¬ 153 = a := by omega
  have na135 : ¬ a = 135 := by omega
  have na153 : ¬ a = 153 := by omega
  have hqq := I_q hI q0 q1
  have hnn := I_n hI
  obtain ⟨c, hc⟩ : ∃ c, c = F a (192 + 14 * q + 1).toNat := ⟨_, rfl⟩
  rw [← hc] at hqq
  have hgl := gd.2.1
  obtain ⟨p1, p2, p3, p4, p5, p6, p7⟩ := pR_c P hqq.2.1 hqq.2.2
  obtain ⟨⟨k1, k2⟩, ⟨k3, k4⟩, ⟨c1, c2, c3, c4, c5, c6⟩, x_t, x_r, x_s, x_k⟩ := gd.1 c hqq.2.1 hqq.2.2
  have eo : sp_o (F a) q 1 = c := hc.symm
  rw [k_215_0]
  simp (disch := first | omega | (simp (disch := omega) only [i_lt0, i_tn, i_nn, m_cat_n, m_cat_i, m_cat_r, m_cat_z, m_cat_rv, m_cat_l, m_o_n, m_o_i, m_o_r, m_o_z, m_o_rv, m_o_f, hs_n, hs_k, hs_l, f_k_135 I, n_135 I, f_R_135_6 I, f_k_141 I, f_l_141 I, n_141 I, x_141, f_R_135_7 I, f_k_142 I, f_l_142 I, n_142 I, x_142, Nat.reduceLeDiff, not_false_eq_true, or_true, true_or, or_false, false_or, hka, hla, hxa, hna]; first | done | omega) | exact Or.inl rfl | exact Or.inr rfl) only [k_215_0, w_aload_1, w_aloadz_1, w_aloadv_1, w_iload_2, w_iconst, m_cat_n, m_cat_i, m_cat_r, m_cat_z, m_cat_rv, m_cat_l, Nat.zero_le, Nat.reduceLeDiff, Nat.reduceAdd, cl_211, m_o_i, m_o_r, m_o_z, m_o_rv, m_C_inl, Option.toList_some, Option.toList_none, List.cons_append, List.nil_append, w_istore_3, m_o_n, m_o_f, w_aload_0, w_aloadz_0, w_aloadv_0, gf_774, m_rv_s, m_rv_n, w_iload_3, w_iaload, w_script, gf_775, w_pop_i, w_pop_r, w_pop_z, w_pop_v, w_vret, k_211_0, w_iload_1, w_imul, w_iadd, w_iret, w_icmp_eq, w_if_eq, hs_n, hs_k, hs_l, hs_R, hs_I, hs_L, hs_setI, hs_setL, hs_cpy, f_k_135 I, n_135 I, f_R_135_6 I, f_k_141 I, f_l_141 I, n_141 I, x_141, f_R_135_7 I, f_k_142 I, f_l_142 I, n_142 I, x_142, up_up, up_sw, up_sa, i_add, i_sub, i_mul, i_tn, i_nat, Int.reduceToNat, Int.reduceAdd, Int.reduceSub, Int.reduceMul, Int.reduceNeg, l_32, l_nat, l_c_lt, l_c_gt, l_c_eq, i_lt, i_eq, i_lt0, i_0lt, i_eq0, i_eq1, Int.reduceLT, Int.reduceEq, Int.reduceLE, Int.reduceNe, not_true_eq_false, not_false_eq_true, Nat.lt_irrefl, Int.lt_irrefl, eq_self, eq_self, Nat.reduceAdd, Nat.reduceMul, Nat.reduceSub, Nat.reduceDiv, Nat.reduceMod, Nat.reduceEqDiff, Nat.reduceLeDiff, Nat.reduceLT, Nat.zero_add, Nat.add_zero, Nat.zero_le, and_false, and_true, and_self, false_and, true_and, or_false, or_true, if_true, if_false, ite_true, ite_false, ↓reduceIte, Int.reduceToNat, Int.reduceAdd, Int.reduceSub, Int.reduceMul, Int.reduceNeg, up_eq, up_na, up_nk, ← hc, p1, p2, p3, p4, p5, p6, p7]
  simp (disch := first | omega | (simp (disch := omega) only [i_lt0, i_tn, i_nn, m_cat_n, m_cat_i, m_cat_r, m_cat_z, m_cat_rv, m_cat_l, m_o_n, m_o_i, m_o_r, m_o_z, m_o_rv, m_o_f, hs_n, hs_k, hs_l, f_k_135 I, n_135 I, Nat.reduceLeDiff, not_false_eq_true, or_true, true_or, or_false, false_or]; first | done | omega) | exact Or.inl rfl | exact Or.inr rfl) only [cl_210, m_cat_n, m_cat_i, m_cat_r, m_cat_z, m_cat_rv, m_cat_l, Nat.zero_le, Nat.reduceLeDiff, Nat.reduceAdd, m_o_i, m_o_r, m_o_z, m_o_rv, hs_n, hs_k, f_k_135 I, n_135 I, hna, hka]
  obtain ⟨s', hx⟩ := x_k (sp_op (F a (192 + 14 * q + 0).toNat) (F a (192 + 14 * q + 2).toNat) (F a (192 + 14 * q + 8).toNat)) (F a (192 + 14 * q + 0).toNat) (F a)
  have et : sp_ke G (F a) q = s' := by
    unfold sp_ke sp_xk
    rw [eo, show sp_o (F a) q 0 = F a (192 + 14 * q + 0).toNat from rfl, show sp_o (F a) q 2 = F a (192 + 14 * q + 2).toNat from rfl, show sp_o (F a) q 8 = F a (192 + 14 * q + 8).toNat from rfl, hx]
    rfl
  rw [et] at hQ
  refine v_210 I ha (by omega) (by omega) (by omega) (by omega) (by omega) (at_g P gd (by omega) (by omega) (by omega)).2.1 (at_g P gd (by omega) (by omega) (by omega)).1 (at_g P gd (by omega) (by omega) (by omega)).2.2 hx (fun v F1 f1 r1 v1 => ?_)
  simp (disch := first | omega | (simp (disch := omega) only [i_lt0, i_tn, i_nn, m_cat_n, m_cat_i, m_cat_r, m_cat_z, m_cat_rv, m_cat_l, m_o_n, m_o_i, m_o_r, m_o_z, m_o_rv, m_o_f, hs_n, hs_k, hs_l, f_k_135 I, n_135 I, f_R_135_6 I, f_k_141 I, f_l_141 I, n_141 I, x_141, f_R_135_7 I, f_k_142 I, f_l_142 I, n_142 I, x_142, Nat.reduceLeDiff, not_false_eq_true, or_true, true_or, or_false, false_or, hka, hla, hxa, hna]; first | done | omega) | exact Or.inl rfl | exact Or.inr rfl) only [w_aload_1, w_aloadz_1, w_aloadv_1, w_iload_2, w_iconst, m_cat_n, m_cat_i, m_cat_r, m_cat_z, m_cat_rv, m_cat_l, Nat.zero_le, Nat.reduceLeDiff, Nat.reduceAdd, m_o_i, m_o_r, m_o_z, m_o_rv, m_C_inl, Option.toList_some, Option.toList_none, List.cons_append, List.nil_append, w_istore_3, m_o_n, m_o_f, w_aload_0, w_aloadz_0, w_aloadv_0, gf_774, m_rv_s, m_rv_n, w_iload_3, w_iaload, w_script, gf_775, w_pop_i, w_pop_r, w_pop_z, w_pop_v, w_vret, w_icmp_eq, w_if_eq, hs_n, hs_k, hs_l, hs_R, hs_I, hs_L, hs_setI, hs_setL, hs_cpy, f_k_135 I, n_135 I, f_R_135_6 I, f_k_141 I, f_l_141 I, n_141 I, x_141, f_R_135_7 I, f_k_142 I, f_l_142 I, n_142 I, x_142, up_up, up_sw, up_sa, i_add, i_sub, i_mul, i_tn, i_nat, Int.reduceToNat, Int.reduceAdd, Int.reduceSub, Int.reduceMul, Int.reduceNeg, l_32, l_nat, l_c_lt, l_c_gt, l_c_eq, i_lt, i_eq, i_lt0, i_0lt, i_eq0, i_eq1, Int.reduceLT, Int.reduceEq, Int.reduceLE, Int.reduceNe, not_true_eq_false, not_false_eq_true, Nat.lt_irrefl, Int.lt_irrefl, eq_self, eq_self, Nat.reduceAdd, Nat.reduceMul, Nat.reduceSub, Nat.reduceDiv, Nat.reduceMod, Nat.reduceEqDiff, Nat.reduceLeDiff, Nat.reduceLT, Nat.zero_add, Nat.add_zero, Nat.zero_le, and_false, and_true, and_self, false_and, true_and, or_false, or_true, if_true, if_false, ite_true, ite_false, ↓reduceIte, Int.reduceToNat, Int.reduceAdd, Int.reduceSub, Int.reduceMul, Int.reduceNeg, up_eq, up_na, up_nk]
  exact hQ F1 f1 r1
