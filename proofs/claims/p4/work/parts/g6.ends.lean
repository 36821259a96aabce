/-! the reference: a request ends badly, well -/
section IB
variable {G : tx_G} {D : Nat} {s : sp_R} {q y dr k : Int}
theorem o_dr (hI : sp_I G D s) (q0 : 0 ≤ q) (q1 : q < s 1) : 0 ≤ sp_o s q 0 ∧ sp_o s q 0 < 4 := by
  have := I_q hI q0 q1
  have := I_n hI
  unfold sp_o
  omega
theorem I_u {j v : Int} (hI : sp_I G D s) (q0 : 0 ≤ q) (q1 : q < s 1) (j0 : 2 ≤ j) (j1 : j ≤ 13) : sp_I G D (sp_u s q j v) ∧ sp_u s q j v 1 = s 1 := by
  have := I_n hI
  unfold sp_u
  exact ⟨I_nc (by unfold q_cr; omega) hI, u1_n (by omega)⟩
theorem I_b2 (hI : sp_I G D s) (hk : k = 28 ∨ k = 32) (d0 : 0 ≤ dr) (d4 : dr < 4) : sp_I G D (sp_b2 s k dr q) ∧ sp_b2 s k dr q 1 = s 1 := by
  have := I_n hI
  unfold sp_b2
  split
  · exact ⟨I_fl (by omega) (by omega) (by omega) (by omega) hI, u1_n (by omega)⟩
  · exact ⟨hI, rfl⟩
theorem I_bad (hI : sp_I G D s) (q0 : 0 ≤ q) (q1 : q < s 1) : sp_I G D (sp_bad s q y) ∧ sp_bad s q y 1 = s 1 := by
  obtain ⟨d0, d4⟩ := o_dr hI q0 q1
  unfold sp_bad sp_b1
  have a1 := I_u (j := 6) (v := 3) hI q0 q1 (by decide) (by decide)
  have a2 := I_u (j := 7) (v := y) a1.1 q0 (by rw [a1.2]; exact q1) (by decide) (by decide)
  have a3 := I_u (j := 13) (v := s 0) a2.1 q0 (by rw [a2.2, a1.2]; exact q1) (by decide) (by decide)
  have a4 := I_b2 (k := 28) (q := q) a3.1 (Or.inl rfl) d0 d4
  have a5 := I_b2 (k := 32) (q := q) a4.1 (Or.inr rfl) d0 d4
  have a6 := I_no (ev := 3) (dr := sp_o s q 0) (q := q) (by decide) (by decide) a5.1
  exact ⟨a6.1, by rw [a6.2, a5.2, a4.2, a3.2, a2.2, a1.2]⟩
theorem I_ke (gd : q_gd G) (hI : sp_I G D s) (q0 : 0 ≤ q) (q1 : q < s 1) : sp_I G D (sp_ke G s q) ∧ sp_ke G s q 1 = s 1 ∧ ∀ j, ¬ (48 ≤ j ∧ j < 96) → sp_ke G s q j = s j := by
  obtain ⟨d0, d4⟩ := o_dr hI q0 q1
  have hqq := I_q hI q0 q1
  obtain ⟨s', hx⟩ := (gd.1 (sp_o s q 1) hqq.2.1 hqq.2.2).2.2.2.2.2.2 (sp_op (sp_o s q 0) (sp_o s q 2) (sp_o s q 8)) (sp_o s q 0) s
  have e : sp_ke G s q = s' := by
    unfold sp_ke sp_xk
    rw [hx]
    rfl
  rw [e]
  have fr := ex_fr d0 d4 _ _ _ hx
  exact ⟨I_cg (fun j hj => fr j (by unfold q_cr at hj; omega)) hI, fr 1 (by omega), fr⟩
theorem I_w1 (hI : sp_I G D s) (q0 : 0 ≤ q) (q1 : q < s 1) : sp_I G D (sp_w1 s q y) ∧ sp_w1 s q y 1 = s 1 ∧ sp_w1 s q y (44 + sp_o s q 0).toNat = s (44 + sp_o s q 0).toNat ∧ sp_o (sp_w1 s q y) q 0 = sp_o s q 0 := by
  obtain ⟨d0, d4⟩ := o_dr hI q0 q1
  have hn := I_n hI
  unfold sp_w1
  have a1 := I_u (j := 6) (v := 2) hI q0 q1 (by decide) (by decide)
  have a2 := I_u (j := 8) (v := y) a1.1 q0 (by rw [a1.2]; exact q1) (by decide) (by decide)
  have a3 := I_u (j := 13) (v := s 0) a2.1 q0 (by rw [a2.2, a1.2]; exact q1) (by decide) (by decide)
  have e1 := a3.2.trans (a2.2.trans a1.2)
  refine ⟨I_fl (by omega) (by omega) (by omega) (by rw [e1]; omega) a3.1, ?_, ?_, ?_⟩
  · rw [u1_n (by omega)]
    exact e1
  · unfold sp_u
    rw [u1_n (by omega), u1_n (by omega), u1_n (by omega), u1_n (by omega)]
  · unfold sp_o at d0 d4 ⊢
    unfold sp_u
    rw [u1_n (by omega), u1_n (by omega), u1_n (by omega), u1_n (by omega)]
end IB
set_option maxHeartbeats 4000000 in
/-- endsBadly -/
theorem v_217 {L : Nat} {xs : Nat → Int32} {d : Nat} {h : m_H} {w : Int64} {F : m_M} {Q : Option Value ⊕ Nat → m_H → Prop} (I : RF h) {a : Nat} (ha : a = 147 ∨ a = 148) {G : tx_G} {D : Nat} (hI : sp_I G D (F a)) {q : Int} (q0 : 0 ≤ q) (q1 : q < F a 1) {y : Int} (hQ : ∀ F' : m_M, sp_f a F F' → F' a = sp_bad (F a) q y → Q (.inl none) (m_hS h (w, F'))) : m_W (p_P L xs) (d + 1) 217 k_217_0 [some (.ref 135), some (.ref a), some (.int (Int32.ofInt q)), some (.int (Int32.ofInt y)), none] [] (m_hS h (w, F)) Q := by
  have hka := ra_k I ha
  have hla := ra_l I ha
  have hna := ra_n I ha
  have hxa := ra_x ha
  have ne135 : ¬ 135 = a := by omega
  have ne136 : ¬ 136 = a := by omega
  have ne144 : ¬ 144 = a := by omega
  have ne153 : ¬ 153 = a := by omega
  have na135 : ¬ a = 135 := by omega
  have na153 : ¬ a = 153 := by omega
  have hqq := I_q hI q0 q1
  have hnn := I_n hI
  obtain ⟨dr, hdr⟩ : ∃ dr, dr = F a (192 + 14 * q + 0).toNat := ⟨_, rfl⟩
  rw [← hdr] at hqq
  have hd := I_d (dr := dr) hI (by omega) (by omega)
  have eo : sp_o (F a) q 0 = dr := hdr.symm
  unfold sp_bad at hQ
  rw [eo] at hQ
  unfold sp_b2 sp_b1 sp_u at hQ
  rw [k_217_0]
  (repeat' (first | (simp (disch := first | omega | (simp (disch := omega) only [i_lt0, i_tn, i_nn, m_cat_n, m_cat_i, m_cat_r, m_cat_z, m_cat_rv, m_cat_l, m_o_n, m_o_i, m_o_r, m_o_z, m_o_rv, m_o_f, hs_n, hs_k, hs_l, f_k_135 I, n_135 I, Nat.reduceLeDiff, not_false_eq_true, or_true, true_or, or_false, false_or, hka, hla, hxa, hna]; first | done | omega) | exact Or.inl rfl | exact Or.inr rfl) only [k_217_0, k_217_53, k_217_72, w_aload_1, w_aloadz_1, w_aloadv_1, w_iload_2, w_iconst, m_cat_n, m_cat_i, m_cat_r, m_cat_z, m_cat_rv, m_cat_l, Nat.zero_le, Nat.reduceLeDiff, Nat.reduceAdd, cl_211, m_o_i, m_o_r, m_o_z, m_o_rv, m_C_inl, Option.toList_some, Option.toList_none, List.cons_append, List.nil_append, w_istore_4, m_o_n, m_o_f, cl_212, w_iload_3, w_iaload, w_script, w_iload_4, w_iadd, w_icmp_ne, w_iastore, w_aload_0, w_aloadz_0, w_aloadv_0, w_vret, tg_217_53, tg_217_72, k_211_0, w_iload_1, w_imul, w_iret, k_212_0, w_icmp_eq, w_if_eq, hs_n, hs_k, hs_l, hs_R, hs_I, hs_L, hs_setI, hs_setL, hs_cpy, f_k_135 I, n_135 I, up_up, up_sw, up_sa, i_add, i_sub, i_mul, i_tn, i_nat, Int.reduceToNat, Int.reduceAdd, Int.reduceSub, Int.reduceMul, Int.reduceNeg, l_32, l_nat, l_c_lt, l_c_gt, l_c_eq, i_lt, i_eq, i_lt0, i_0lt, i_eq0, i_eq1, Int.reduceLT, Int.reduceEq, Int.reduceLE, Int.reduceNe, not_true_eq_false, not_false_eq_true, Nat.lt_irrefl, Int.lt_irrefl, eq_self, eq_self, Nat.reduceAdd, Nat.reduceMul, Nat.reduceSub, Nat.reduceDiv, Nat.reduceMod, Nat.reduceEqDiff, Nat.reduceLeDiff, Nat.reduceLT, Nat.zero_add, Nat.add_zero, Nat.zero_le, and_false, and_true, and_self, false_and, true_and, or_false, or_true, if_true, if_false, ite_true, ite_false, ↓reduceIte, Int.reduceToNat, Int.reduceAdd, Int.reduceSub, Int.reduceMul, Int.reduceNeg, up_eq, up_na, up_nk, ← hdr]) | split | (simp (disch := first | omega | (simp (disch := omega) only [i_lt0, i_tn, i_nn, m_cat_n, m_cat_i, m_cat_r, m_cat_z, m_cat_rv, m_cat_l, m_o_n, m_o_i, m_o_r, m_o_z, m_o_rv, m_o_f, hs_n, hs_k, hs_l, f_k_135 I, n_135 I, Nat.reduceLeDiff, not_false_eq_true, or_true, true_or, or_false, false_or]; first | done | omega) | exact Or.inl rfl | exact Or.inr rfl) only [cl_216, m_cat_n, m_cat_i, m_cat_r, m_cat_z, m_cat_rv, m_cat_l, Nat.zero_le, Nat.reduceLeDiff, Nat.reduceAdd, m_o_i, m_o_r, m_o_z, m_o_rv, hs_n, hs_k, f_k_135 I, n_135 I, hna, hka]; refine v_216 (G := G) (D := D) I ha (by omega) (by omega) (by simp (disch := omega) only [up_row, up_ro, u1_n, u1_e, u1_uu, u1_sw, if_pos, if_neg, and_true, true_and, and_self, if_true, if_false]; (repeat (first | exact hI | assumption | refine I_nc (by unfold q_cr; omega) ?_ | refine I_fl (by omega) (by omega) (by omega) (by first | omega | (simp (disch := omega) only [u1_n]; omega)) ?_))) ?_; intro F1 f1 r1)))
  all_goals
    refine hQ F1 (sf_tr (by intro x y z1 z2 z3; simp (disch := omega) only [up_na, up_no]) f1) ?_
    rw [r1]
    simp (disch := omega) only [up_row, up_ro, u1_n, u1_e, u1_uu, u1_sw, if_pos, if_neg, and_true, true_and, and_self, if_true, if_false]
set_option maxHeartbeats 4000000 in
/-- endsWell -/
theorem v_219 {L : Nat} {xs : Nat → Int32} {d : Nat} {h : m_H} {w : Int64} {F : m_M} {Q : Option Value ⊕ Nat → m_H → Prop} (I : RF h) {a : Nat} (ha : a = 147 ∨ a = 148) {G : tx_G} (P : q_pR F G) (gd : q_gd G) (hI : sp_I G 4 (F a)) {q : Int} (q0 : 0 ≤ q) (q1 : q < F a 1) {y : Int} (hQ : ∀ F' : m_M, sp_f a F F' → F' a = sp_wel G (F a) q y → Q (.inl none) (m_hS h (w, F'))) : m_W (p_P L xs) (d + 4) 219 k_219_0 [some (.ref 135), some (.ref a), some (.int (Int32.ofInt q)), some (.int (Int32.ofInt y)), none] [] (m_hS h (w, F)) Q := by
  have hka := ra_k I ha
  have hla := ra_l I ha
  have hna := ra_n I ha
  have hxa := ra_x ha
  have ne135 : ¬ 135 = a := by omega
  have ne136 : ¬ 136 = a := by omega
  have ne144 : ¬ 144 = a := by omega
  have ne153 : ¬ 153 = a := by omega
  have na135 : ¬ a = 135 := by omega
  have na153 : ¬ a = 153 := by omega
  have hqq := I_q hI q0 q1
  have hnn := I_n hI
  obtain ⟨dr, hdr⟩ : ∃ dr, dr = F a (192 + 14 * q + 0).toNat := ⟨_, rfl⟩
  rw [← hdr] at hqq
  have hd := I_d (dr := dr) hI (by omega) (by omega)
  have eo : sp_o (F a) q 0 = dr := hdr.symm
  obtain ⟨i1, i2, i3, i4⟩ := I_w1 (y := y) hI q0 q1
  rw [eo] at i3 i4
  have j1 := I_no (ev := 2) (dr := dr) (q := q) (by decide) (by decide) i1
  have hq1 : q < sp_no (sp_w1 (F a) q y) 2 dr q 1 := by rw [j1.2, i2]; exact q1
  obtain ⟨l1, l2, l3⟩ := I_ke gd j1.1 q0 hq1
  unfold sp_wel sp_w3 sp_w2 at hQ
  rw [eo] at hQ
  rw [k_219_0]
  (repeat' (first | (simp (disch := first | omega | (simp (disch := omega) only [i_lt0, i_tn, i_nn, m_cat_n, m_cat_i, m_cat_r, m_cat_z, m_cat_rv, m_cat_l, m_o_n, m_o_i, m_o_r, m_o_z, m_o_rv, m_o_f, hs_n, hs_k, hs_l, f_k_135 I, n_135 I, f_R_135_1 I, f_k_136 I, f_l_136 I, n_136 I, x_136, Nat.reduceLeDiff, not_false_eq_true, or_true, true_or, or_false, false_or, hka, hla, hxa, hna]; first | done | omega) | exact Or.inl rfl | exact Or.inr rfl) only [k_219_0, w_aload_1, w_aloadz_1, w_aloadv_1, w_iload_2, w_iconst, m_cat_n, m_cat_i, m_cat_r, m_cat_z, m_cat_rv, m_cat_l, Nat.zero_le, Nat.reduceLeDiff, Nat.reduceAdd, cl_211, m_o_i, m_o_r, m_o_z, m_o_rv, m_C_inl, Option.toList_some, Option.toList_none, List.cons_append, List.nil_append, w_istore_4, m_o_n, m_o_f, cl_212, w_iload_3, w_iaload, w_script, w_iload_4, w_iadd, w_iastore, w_aload_0, w_aloadz_0, w_aloadv_0, w_imul, w_dup2, gf_769, m_rv_s, m_rv_n, w_icmp_lt, tg_219_111, k_211_0, w_iload_1, w_iret, k_212_0, w_vret, w_icmp_eq, w_if_eq, hs_n, hs_k, hs_l, hs_R, hs_I, hs_L, hs_setI, hs_setL, hs_cpy, f_k_135 I, n_135 I, f_R_135_1 I, f_k_136 I, f_l_136 I, n_136 I, x_136, up_up, up_sw, up_sa, i_add, i_sub, i_mul, i_tn, i_nat, Int.reduceToNat, Int.reduceAdd, Int.reduceSub, Int.reduceMul, Int.reduceNeg, l_32, l_nat, l_c_lt, l_c_gt, l_c_eq, i_lt, i_eq, i_lt0, i_0lt, i_eq0, i_eq1, Int.reduceLT, Int.reduceEq, Int.reduceLE, Int.reduceNe, not_true_eq_false, not_false_eq_true, Nat.lt_irrefl, Int.lt_irrefl, eq_self, eq_self, Nat.reduceAdd, Nat.reduceMul, Nat.reduceSub, Nat.reduceDiv, Nat.reduceMod, Nat.reduceEqDiff, Nat.reduceLeDiff, Nat.reduceLT, Nat.zero_add, Nat.add_zero, Nat.zero_le, and_false, and_true, and_self, false_and, true_and, or_false, or_true, if_true, if_false, ite_true, ite_false, ↓reduceIte, Int.reduceToNat, Int.reduceAdd, Int.reduceSub, Int.reduceMul, Int.reduceNeg, up_eq, up_na, up_nk, ← hdr]) | split | (simp (disch := first | omega | (simp (disch := omega) only [i_lt0, i_tn, i_nn, m_cat_n, m_cat_i, m_cat_r, m_cat_z, m_cat_rv, m_cat_l, m_o_n, m_o_i, m_o_r, m_o_z, m_o_rv, m_o_f, hs_n, hs_k, hs_l, f_k_135 I, n_135 I, Nat.reduceLeDiff, not_false_eq_true, or_true, true_or, or_false, false_or]; first | done | omega) | exact Or.inl rfl | exact Or.inr rfl) only [cl_216, m_cat_n, m_cat_i, m_cat_r, m_cat_z, m_cat_rv, m_cat_l, Nat.zero_le, Nat.reduceLeDiff, Nat.reduceAdd, m_o_i, m_o_r, m_o_z, m_o_rv, hs_n, hs_k, f_k_135 I, n_135 I, hna, hka]; refine v_216 (G := G) (D := 4) I ha (by omega) (by omega) (by simp (disch := omega) only [up_row, up_ro, u1_n, u1_e, u1_uu, u1_sw, if_pos, if_neg, and_true, true_and, and_self, if_true, if_false]; (repeat (first | exact hI | assumption | refine I_nc (by unfold q_cr; omega) ?_ | refine I_fl (by omega) (by omega) (by omega) (by first | omega | (simp (disch := omega) only [u1_n]; omega)) ?_))) ?_; intro F1 f1 r1)))
  have e1 : F1 a = sp_no (sp_w1 (F a) q y) 2 dr q := by
    rw [r1]
    unfold sp_w1 sp_u
    rw [eo]
    simp (disch := omega) only [up_row, up_ro, u1_n, u1_e, u1_uu, u1_sw, if_pos, if_neg, and_true, true_and, and_self, if_true, if_false]
  have g1 : sp_f a F F1 := sf_tr (by intro x y z1 z2 z3; simp (disch := omega) only [up_na, up_no]) f1
  simp (disch := first | omega | (simp (disch := omega) only [i_lt0, i_tn, i_nn, m_cat_n, m_cat_i, m_cat_r, m_cat_z, m_cat_rv, m_cat_l, m_o_n, m_o_i, m_o_r, m_o_z, m_o_rv, m_o_f, hs_n, hs_k, hs_l, f_k_135 I, n_135 I, Nat.reduceLeDiff, not_false_eq_true, or_true, true_or, or_false, false_or]; first | done | omega) | exact Or.inl rfl | exact Or.inr rfl) only [cl_215, m_cat_n, m_cat_i, m_cat_r, m_cat_z, m_cat_rv, m_cat_l, Nat.zero_le, Nat.reduceLeDiff, Nat.reduceAdd, m_o_i, m_o_r, m_o_z, m_o_rv, hs_n, hs_k, f_k_135 I, n_135 I, hna, hka]
  refine v_215 (D := 4) I ha (pR_f ha g1 P) gd (by rw [e1]; exact j1.1) q0 (by rw [e1]; exact hq1) (fun F2 f2 r2 => ?_)
  have g2 := sf_tr g1 f2
  obtain ⟨⟨-, -, -, -, -, -, e7, -⟩, -⟩ := pR_f ha g2 P
  have e2 : F2 a = sp_ke G (sp_no (sp_w1 (F a) q y) 2 dr q) q := by rw [r2, e1]
  rw [← e2] at l1 l2 hQ
  have hd2 := I_d (dr := dr) l1 (by omega) (by omega)
  have hn2 := I_n l1
  have x3 := I_lg (dr := dr) (q := q) (by omega) (by omega) q0 (by rw [l2]; exact hq1) l1
  have e3 : sp_lg (F2 a) dr q (44 + dr).toNat = F2 a (44 + dr).toNat + 1 := u1_e
  rw [e3] at hQ
  (repeat' (first | (simp (disch := first | omega | (simp (disch := omega) only [i_lt0, i_tn, i_nn, m_cat_n, m_cat_i, m_cat_r, m_cat_z, m_cat_rv, m_cat_l, m_o_n, m_o_i, m_o_r, m_o_z, m_o_rv, m_o_f, hs_n, hs_k, hs_l, f_k_135 I, n_135 I, f_R_135_1 I, f_k_136 I, f_l_136 I, n_136 I, x_136, Nat.reduceLeDiff, not_false_eq_true, or_true, true_or, or_false, false_or, hka, hla, hxa, hna]; first | done | omega) | exact Or.inl rfl | exact Or.inr rfl) only [k_219_0, w_aload_1, w_aloadz_1, w_aloadv_1, w_iload_2, w_iconst, m_cat_n, m_cat_i, m_cat_r, m_cat_z, m_cat_rv, m_cat_l, Nat.zero_le, Nat.reduceLeDiff, Nat.reduceAdd, m_o_i, m_o_r, m_o_z, m_o_rv, m_C_inl, Option.toList_some, Option.toList_none, List.cons_append, List.nil_append, w_istore_4, m_o_n, m_o_f, w_iload_3, w_iaload, w_script, w_iload_4, w_iadd, w_iastore, w_aload_0, w_aloadz_0, w_aloadv_0, w_imul, w_dup2, gf_769, m_rv_s, m_rv_n, w_icmp_lt, tg_219_111, w_icmp_eq, w_if_eq, hs_n, hs_k, hs_l, hs_R, hs_I, hs_L, hs_setI, hs_setL, hs_cpy, f_k_135 I, n_135 I, f_R_135_1 I, f_k_136 I, f_l_136 I, n_136 I, x_136, up_up, up_sw, up_sa, i_add, i_sub, i_mul, i_tn, i_nat, Int.reduceToNat, Int.reduceAdd, Int.reduceSub, Int.reduceMul, Int.reduceNeg, l_32, l_nat, l_c_lt, l_c_gt, l_c_eq, i_lt, i_eq, i_lt0, i_0lt, i_eq0, i_eq1, Int.reduceLT, Int.reduceEq, Int.reduceLE, Int.reduceNe, not_true_eq_false, not_false_eq_true, Nat.lt_irrefl, Int.lt_irrefl, eq_self, eq_self, Nat.reduceAdd, Nat.reduceMul, Nat.reduceSub, Nat.reduceDiv, Nat.reduceMod, Nat.reduceEqDiff, Nat.reduceLeDiff, Nat.reduceLT, Nat.zero_add, Nat.add_zero, Nat.zero_le, and_false, and_true, and_self, false_and, true_and, or_false, or_true, if_true, if_false, ite_true, ite_false, ↓reduceIte, Int.reduceToNat, Int.reduceAdd, Int.reduceSub, Int.reduceMul, Int.reduceNeg, up_eq, up_na, up_nk, e7]) | split))
  · rw [k_219_111]
    simp (disch := first | omega | (simp (disch := omega) only [i_lt0, i_tn, i_nn, m_cat_n, m_cat_i, m_cat_r, m_cat_z, m_cat_rv, m_cat_l, m_o_n, m_o_i, m_o_r, m_o_z, m_o_rv, m_o_f, hs_n, hs_k, hs_l, f_k_135 I, n_135 I, f_R_135_1 I, f_k_136 I, f_l_136 I, n_136 I, x_136, Nat.reduceLeDiff, not_false_eq_true, or_true, true_or, or_false, false_or, hka, hla, hxa, hna]; first | done | omega) | exact Or.inl rfl | exact Or.inr rfl) only [k_219_111, w_vret, tg_219_111, m_C_inl, Option.toList_some, Option.toList_none, List.cons_append, List.nil_append, w_icmp_eq, w_if_eq, hs_n, hs_k, hs_l, hs_R, hs_I, hs_L, hs_setI, hs_setL, hs_cpy, f_k_135 I, n_135 I, f_R_135_1 I, f_k_136 I, f_l_136 I, n_136 I, x_136, up_up, up_sw, up_sa, i_add, i_sub, i_mul, i_tn, i_nat, Int.reduceToNat, Int.reduceAdd, Int.reduceSub, Int.reduceMul, Int.reduceNeg, l_32, l_nat, l_c_lt, l_c_gt, l_c_eq, i_lt, i_eq, i_lt0, i_0lt, i_eq0, i_eq1, Int.reduceLT, Int.reduceEq, Int.reduceLE, Int.reduceNe, not_true_eq_false, not_false_eq_true, Nat.lt_irrefl, Int.lt_irrefl, eq_self, eq_self, Nat.reduceAdd, Nat.reduceMul, Nat.reduceSub, Nat.reduceDiv, Nat.reduceMod, Nat.reduceEqDiff, Nat.reduceLeDiff, Nat.reduceLT, Nat.zero_add, Nat.add_zero, Nat.zero_le, and_false, and_true, and_self, false_and, true_and, or_false, or_true, if_true, if_false, ite_true, ite_false, ↓reduceIte, Int.reduceToNat, Int.reduceAdd, Int.reduceSub, Int.reduceMul, Int.reduceNeg, up_eq, up_na, up_nk]
    rw [if_pos (by omega)] at hQ
    refine hQ _ (sf_tr g2 (by intro x y z1 z2 z3; simp (disch := omega) only [up_na, up_no])) ?_
    unfold sp_lg
    simp (disch := omega) only [up_row, up_ro, u1_n, u1_e, u1_uu, u1_sw, if_pos, if_neg, and_true, true_and, and_self, if_true, if_false]
  · simp (disch := first | omega | (simp (disch := omega) only [i_lt0, i_tn, i_nn, m_cat_n, m_cat_i, m_cat_r, m_cat_z, m_cat_rv, m_cat_l, m_o_n, m_o_i, m_o_r, m_o_z, m_o_rv, m_o_f, hs_n, hs_k, hs_l, f_k_135 I, n_135 I, Nat.reduceLeDiff, not_false_eq_true, or_true, true_or, or_false, false_or]; first | done | omega) | exact Or.inl rfl | exact Or.inr rfl) only [cl_218, m_cat_n, m_cat_i, m_cat_r, m_cat_z, m_cat_rv, m_cat_l, Nat.zero_le, Nat.reduceLeDiff, Nat.reduceAdd, m_o_i, m_o_r, m_o_z, m_o_rv, hs_n, hs_k, f_k_135 I, n_135 I, hna, hka]
    rw [if_neg (by omega)] at hQ
    refine v_218 (G := G) (D := dr.toNat) I ha (by omega) (by omega) (Or.inr rfl) ?_ (fun F3 f3 r3 => ?_)
    · unfold sp_lg at x3
      simp (disch := omega) only [up_row, up_ro, u1_n, u1_e, u1_uu, u1_sw, if_pos, if_neg, and_true, true_and, and_self, if_true, if_false]
      simp (disch := omega) only [up_row, up_ro, u1_n, u1_e, u1_uu, u1_sw, if_pos, if_neg, and_true, true_and, and_self, if_true, if_false] at x3
      exact x3
    · simp (disch := first | omega | (simp (disch := omega) only [i_lt0, i_tn, i_nn, m_cat_n, m_cat_i, m_cat_r, m_cat_z, m_cat_rv, m_cat_l, m_o_n, m_o_i, m_o_r, m_o_z, m_o_rv, m_o_f, hs_n, hs_k, hs_l, f_k_135 I, n_135 I, f_R_135_1 I, f_k_136 I, f_l_136 I, n_136 I, x_136, Nat.reduceLeDiff, not_false_eq_true, or_true, true_or, or_false, false_or, hka, hla, hxa, hna]; first | done | omega) | exact Or.inl rfl | exact Or.inr rfl) only [k_219_0, k_219_111, w_aload_1, w_aloadz_1, w_aloadv_1, w_iload_2, w_iconst, m_cat_n, m_cat_i, m_cat_r, m_cat_z, m_cat_rv, m_cat_l, Nat.zero_le, Nat.reduceLeDiff, Nat.reduceAdd, m_o_i, m_o_r, m_o_z, m_o_rv, m_C_inl, Option.toList_some, Option.toList_none, List.cons_append, List.nil_append, w_istore_4, m_o_n, m_o_f, w_iload_3, w_iaload, w_script, w_iload_4, w_iadd, w_iastore, w_aload_0, w_aloadz_0, w_aloadv_0, w_imul, w_dup2, gf_769, m_rv_s, m_rv_n, w_icmp_lt, w_vret, tg_219_111, w_icmp_eq, w_if_eq, hs_n, hs_k, hs_l, hs_R, hs_I, hs_L, hs_setI, hs_setL, hs_cpy, f_k_135 I, n_135 I, f_R_135_1 I, f_k_136 I, f_l_136 I, n_136 I, x_136, up_up, up_sw, up_sa, i_add, i_sub, i_mul, i_tn, i_nat, Int.reduceToNat, Int.reduceAdd, Int.reduceSub, Int.reduceMul, Int.reduceNeg, l_32, l_nat, l_c_lt, l_c_gt, l_c_eq, i_lt, i_eq, i_lt0, i_0lt, i_eq0, i_eq1, Int.reduceLT, Int.reduceEq, Int.reduceLE, Int.reduceNe, not_true_eq_false, not_false_eq_true, Nat.lt_irrefl, Int.lt_irrefl, eq_self, eq_self, Nat.reduceAdd, Nat.reduceMul, Nat.reduceSub, Nat.reduceDiv, Nat.reduceMod, Nat.reduceEqDiff, Nat.reduceLeDiff, Nat.reduceLT, Nat.zero_add, Nat.add_zero, Nat.zero_le, and_false, and_true, and_self, false_and, true_and, or_false, or_true, if_true, if_false, ite_true, ite_false, ↓reduceIte, Int.reduceToNat, Int.reduceAdd, Int.reduceSub, Int.reduceMul, Int.reduceNeg, up_eq, up_na, up_nk]
      refine hQ F3 (sf_tr g2 (sf_tr (by intro x y z1 z2 z3; simp (disch := omega) only [up_na, up_no]) f3)) ?_
      rw [r3]
      unfold sp_lg
      simp (disch := omega) only [up_row, up_ro, u1_n, u1_e, u1_uu, u1_sw, if_pos, if_neg, and_true, true_and, and_self, if_true, if_false]
