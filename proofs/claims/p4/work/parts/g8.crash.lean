/-! a driver crashes, exactly -/
section CR
variable {G : tx_G} {D : Nat} {s : sp_R} {B dr q : Int}
theorem I_k1 (hI : sp_I G D s) (d0 : 0 ≤ dr) (d4 : dr < 4) (hB : sp_B B s) : sp_I G D (sp_k1 s dr) ∧ sp_k1 s dr 1 = s 1 ∧ sp_B (B + 3) (sp_k1 s dr) := by
  have a1 := I_no (ev := 4) (dr := dr) (q := -1) (by decide) (by decide) hI
  have b1 := B_no (ev := 4) (dr := dr) (q := -1) hI (by decide) (by decide) (by omega) (by omega) hB
  have := B_j b1 (j := (20 + dr).toNat) (by unfold sp_rp; omega)
  unfold sp_k1
  have hb : sp_B (B + 3) (tx_u1 (sp_no s 4 dr (-1)) (20 + dr).toNat (sp_no s 4 dr (-1) (20 + dr).toNat + 1)) := B_u (by omega) (by omega) (B_m (by omega) b1)
  refine ⟨I_cg (fun j hj => if_neg (by unfold q_cr at hj; omega)) (I_nc (by unfold q_cr; omega) a1.1), ?_, B_cg (if_neg (by omega)) (fun j hj => ?_) hb⟩
  · refine (if_neg (by omega)).trans ?_
    rw [u1_n (by omega)]
    exact a1.2
  · by_cases c : 80 + 4 * dr ≤ j ∧ j < 84 + 4 * dr
    · exact Or.inl (if_pos c)
    · exact Or.inr ⟨j, hj, if_neg c⟩
theorem I_k2 (hI : sp_I G D s) (q0 : -1 ≤ q) (q1 : q < s 1) (hB : sp_B B s) : sp_I G D (sp_k2 G s q) ∧ sp_k2 G s q 1 = s 1 ∧ sp_B (B + 3) (sp_k2 G s q) := by
  unfold sp_k2
  split
  · exact ⟨hI, rfl, B_m (by omega) hB⟩
  · have hn := I_n hI
    have a1 := I_u (j := 10) (v := sp_o s q 10 + 1) hI (by omega) q1 (by decide) (by decide)
    have b1 : sp_B (B + 1) (sp_u s q 10 (sp_o s q 10 + 1)) := by
      have := B_j hB (j := (192 + 14 * q + 10).toNat) (by unfold sp_rp; omega)
      unfold sp_u sp_o
      exact B_u (by omega) (by omega) (B_m (by omega) hB)
    split
    · exact ⟨a1.1, a1.2, B_m (by omega) b1⟩
    · have a2 := I_bad (q := q) (y := 3) a1.1 (by omega) (by rw [a1.2]; exact q1)
      have b2 := B_bad (q := q) (y := 3) a1.1 (by omega) (by rw [a1.2]; exact q1) (by decide) b1
      exact ⟨a2.1, a2.2.trans a1.2, B_m (by omega) b2⟩
theorem I_dd : ∀ (f : Nat) (i : Int) (s : sp_R) (B : Int), 0 ≤ i → i + f ≤ s 1 → sp_I G D s → sp_B B s → sp_I G D (sp_dd dr f i s) ∧ sp_dd dr f i s 1 = s 1 ∧ sp_B (B + 2 * f) (sp_dd dr f i s)
  | 0, i, s, B, _, _, hI, hB => ⟨hI, rfl, B_m (by omega) hB⟩
  | f + 1, i, s, B, i0, i1, hI, hB => by
    show sp_I G D (sp_dd dr f (i + 1) (if sp_o s i 0 = dr ∧ sp_o s i 6 < 2 then sp_bad s i 5 else s)) ∧ sp_dd dr f (i + 1) (if sp_o s i 0 = dr ∧ sp_o s i 6 < 2 then sp_bad s i 5 else s) 1 = s 1 ∧ sp_B (B + 2 * (f + 1 : Nat)) (sp_dd dr f (i + 1) (if sp_o s i 0 = dr ∧ sp_o s i 6 < 2 then sp_bad s i 5 else s))
    split
    · have a := I_bad (y := 5) hI i0 (by omega)
      have b := B_bad (y := 5) hI i0 (by omega) (by decide) hB
      have c := I_dd f (i + 1) _ _ (by omega) (by rw [a.2]; omega) a.1 b
      exact ⟨c.1, c.2.1.trans a.2, B_m (by omega) c.2.2⟩
    · have c := I_dd f (i + 1) s B (by omega) (by omega) hI hB
      exact ⟨c.1, c.2.1, B_m (by omega) c.2.2⟩
theorem I_k3 (gd : q_gd G) (hI : sp_I G D s) (d0 : 0 ≤ dr) (d4 : dr < 4) (hB : sp_B B s) : sp_I G D (sp_k3 G s dr) ∧ sp_k3 G s dr 1 = s 1 ∧ sp_B (B + 202) (sp_k3 G s dr) := by
  have hn := I_n hI
  have h1 := hB.1
  have h2 := hB.2.1
  unfold sp_k3
  split
  · have := dl_b gd (s (20 + dr).toNat)
    refine ⟨I_nc (by unfold q_cr; omega) (I_nc (by unfold q_cr; omega) hI), ?_, B_m (by omega) (B_u (by omega) (by omega) (B_u (by omega) (by omega) hB))⟩
    rw [u1_n (by omega), u1_n (by omega)]
  · have a0 : sp_I G D (tx_u1 s (12 + dr).toNat 2) := I_nc (by unfold q_cr; omega) hI
    have a1 := I_no (ev := 8) (dr := dr) (q := -1) (by decide) (by decide) a0
    have b1 := B_no (ev := 8) (dr := dr) (q := -1) a0 (by decide) (by decide) (by omega) (by omega) (B_u (by omega) (by omega) hB)
    have e1 : sp_no (tx_u1 s (12 + dr).toNat 2) 8 dr (-1) 1 = s 1 := by
      rw [a1.2, u1_n (by omega)]
    have c := I_dd (dr := dr) (s 1).toNat 0 _ _ (by decide) (by rw [e1]; omega) a1.1 b1
    exact ⟨c.1, c.2.1.trans e1, B_m (by omega) c.2.2⟩
theorem I_cr (gd : q_gd G) (hI : sp_I G D s) (d0 : 0 ≤ dr) (d4 : dr < 4) (hB : sp_B B s) : sp_I G D (sp_cr G s dr) ∧ sp_cr G s dr 1 = s 1 ∧ sp_B (B + 208) (sp_cr G s dr) := by
  unfold sp_cr
  have a1 := I_k1 hI d0 d4 hB
  have hd := I_d a1.1 d0 d4
  have a2 := I_k2 a1.1 hd.2.1.1 hd.2.1.2 a1.2.2
  have a3 := I_k3 gd a2.1 d0 d4 a2.2.2
  exact ⟨a3.1, a3.2.1.trans (a2.2.1.trans a1.2.1), B_m (by omega) a3.2.2⟩
end CR
set_option maxHeartbeats 4000000 in
theorem vD_222 {L : Nat} {xs : Nat → Int32} {d : Nat} {h : m_H} {w : Int64} {F0 : m_M} {Q : Option Value ⊕ Nat → m_H → Prop} (I : RF h) {a : Nat} (ha : a = 147 ∨ a = 148) {G : tx_G} {dr : Int} (d0 : 0 ≤ dr) (d4 : dr < 4) {R : sp_R} (hQ : ∀ F' : m_M, sp_f a F0 F' → F' a = R → Q (.inl none) (m_hS h (w, F'))) {l3 : Option Value} (hl3 : m_o l3 = true) : ∀ (n : Nat) (F : m_M) (i B : Int), sp_f a F0 F → sp_I G 4 (F a) → sp_B B (F a) → B + 2 * n ≤ 1070000000 → 0 ≤ i → i + n = F a 1 → sp_dd dr n i (F a) = R → m_W (p_P L xs) (d + 2) 222 k_222_139 [some (.ref 135), some (.ref a), some (.int (Int32.ofInt dr)), l3, some (.int (Int32.ofInt i))] [] (m_hS h (w, F)) Q := by
  have hka := ra_k I ha
  have hla := ra_l I ha
  have hna := ra_n I ha
  have hxa := ra_x ha
  have ne135 : ¬ 135 = a := by omega
  have ne136 : ¬ 136 = a := by omega
  have ne144 : ¬ 144 = a := by omega
  have ne153 : ¬ 153 = a := by omega
  have na135 : ¬ a = 135 := by omega
  have na153 : ¬ a = 153 := by omega
  intro n
  induction n with
  | zero =>
    intro F i B f0 hI hB B9 h0 h1 hR
    have hnn := I_n hI
    have e : ¬ i < F a 1 := by omega
    rw [k_222_139]
    simp (disch := first | omega | (simp (disch := omega) only [i_lt0, i_tn, i_nn, m_cat_n, m_cat_i, m_cat_r, m_cat_z, m_cat_rv, m_cat_l, m_o_n, m_o_i, m_o_r, m_o_z, m_o_rv, m_o_f, hs_n, hs_k, hs_l, f_k_135 I, n_135 I, f_R_135_1 I, f_k_136 I, f_l_136 I, n_136 I, x_136, Nat.reduceLeDiff, not_false_eq_true, or_true, true_or, or_false, false_or, hka, hla, hxa, hna]; first | done | omega) | exact Or.inl rfl | exact Or.inr rfl) only [k_222_139, k_222_184, w_iload_4, w_aload_1, w_aloadz_1, w_aloadv_1, w_iconst, w_iaload, w_script, w_icmp_ge, m_cat_n, m_cat_i, m_cat_r, m_cat_z, m_cat_rv, m_cat_l, Nat.zero_le, Nat.reduceLeDiff, Nat.reduceAdd, m_o_i, m_o_r, m_o_z, m_o_rv, m_C_inl, Option.toList_some, Option.toList_none, List.cons_append, List.nil_append, w_iload_2, w_icmp_ne, w_aload_0, w_aloadz_0, w_aloadv_0, w_vret, tg_222_75, tg_222_120, tg_222_139, tg_222_178, tg_222_184, w_icmp_eq, w_if_eq, hs_n, hs_k, hs_l, hs_R, hs_I, hs_L, hs_setI, hs_setL, hs_cpy, f_k_135 I, n_135 I, f_R_135_1 I, f_k_136 I, f_l_136 I, n_136 I, x_136, up_up, up_sw, up_sa, i_add, i_sub, i_mul, i_tn, i_nat, Int.reduceToNat, Int.reduceAdd, Int.reduceSub, Int.reduceMul, Int.reduceNeg, l_32, l_nat, l_c_lt, l_c_gt, l_c_eq, i_lt, i_eq, i_lt0, i_0lt, i_eq0, i_eq1, Int.reduceLT, Int.reduceEq, Int.reduceLE, Int.reduceNe, not_true_eq_false, not_false_eq_true, Nat.lt_irrefl, Int.lt_irrefl, eq_self, eq_self, Nat.reduceAdd, Nat.reduceMul, Nat.reduceSub, Nat.reduceDiv, Nat.reduceMod, Nat.reduceEqDiff, Nat.reduceLeDiff, Nat.reduceLT, Nat.zero_add, Nat.add_zero, Nat.zero_le, and_false, and_true, and_self, false_and, true_and, or_false, or_true, if_true, if_false, ite_true, ite_false, ↓reduceIte, Int.reduceToNat, Int.reduceAdd, Int.reduceSub, Int.reduceMul, Int.reduceNeg, up_eq, up_na, up_nk, e]
    exact hQ F f0 hR
  | succ n ih =>
    intro F i B f0 hI hB B9 h0 h1 hR
    have hnn := I_n hI
    have e : i < F a 1 := by omega
    have h4 := hnn.2.2.1
    have hqq := I_q (q := i) hI (by omega) e
    have hB1 := hB.1
    have hb6 := B_j hB (j := (192 + 14 * i + 6).toNat) (by unfold sp_rp; omega)
    have hR : sp_dd dr n (i + 1) (if sp_o (F a) i 0 = dr ∧ sp_o (F a) i 6 < 2 then sp_bad (F a) i 5 else F a) = R := hR
    unfold sp_o at hR
    rw [k_222_139]
    by_cases c : F a (192 + 14 * i + 0).toNat = dr ∧ F a (192 + 14 * i + 6).toNat < 2
    · rw [if_pos c] at hR
      obtain ⟨ca, cb⟩ := c
      simp (disch := first | omega | (simp (disch := omega) only [i_lt0, i_tn, i_nn, m_cat_n, m_cat_i, m_cat_r, m_cat_z, m_cat_rv, m_cat_l, m_o_n, m_o_i, m_o_r, m_o_z, m_o_rv, m_o_f, hs_n, hs_k, hs_l, f_k_135 I, n_135 I, f_R_135_1 I, f_k_136 I, f_l_136 I, n_136 I, x_136, Nat.reduceLeDiff, not_false_eq_true, or_true, true_or, or_false, false_or, hka, hla, hxa, hna, hl3]; first | done | omega) | exact Or.inl rfl | exact Or.inr rfl) only [w_iload_4, w_aload_1, w_aloadz_1, w_aloadv_1, w_iconst, w_iaload, w_script, w_icmp_ge, m_cat_n, m_cat_i, m_cat_r, m_cat_z, m_cat_rv, m_cat_l, Nat.zero_le, Nat.reduceLeDiff, Nat.reduceAdd, cl_211, m_o_i, m_o_r, m_o_z, m_o_rv, m_C_inl, Option.toList_some, Option.toList_none, List.cons_append, List.nil_append, w_iload_2, w_icmp_ne, w_aload_0, w_aloadz_0, w_aloadv_0, tg_222_75, tg_222_120, tg_222_139, tg_222_178, tg_222_184, k_211_0, w_iload_1, w_imul, w_iadd, w_iret, w_icmp_eq, w_if_eq, hs_n, hs_k, hs_l, hs_R, hs_I, hs_L, hs_setI, hs_setL, hs_cpy, f_k_135 I, n_135 I, f_R_135_1 I, f_k_136 I, f_l_136 I, n_136 I, x_136, up_up, up_sw, up_sa, i_add, i_sub, i_mul, i_tn, i_nat, Int.reduceToNat, Int.reduceAdd, Int.reduceSub, Int.reduceMul, Int.reduceNeg, l_32, l_nat, l_c_lt, l_c_gt, l_c_eq, i_lt, i_eq, i_lt0, i_0lt, i_eq0, i_eq1, Int.reduceLT, Int.reduceEq, Int.reduceLE, Int.reduceNe, not_true_eq_false, not_false_eq_true, Nat.lt_irrefl, Int.lt_irrefl, eq_self, eq_self, Nat.reduceAdd, Nat.reduceMul, Nat.reduceSub, Nat.reduceDiv, Nat.reduceMod, Nat.reduceEqDiff, Nat.reduceLeDiff, Nat.reduceLT, Nat.zero_add, Nat.add_zero, Nat.zero_le, and_false, and_true, and_self, false_and, true_and, or_false, or_true, if_true, if_false, ite_true, ite_false, ↓reduceIte, Int.reduceToNat, Int.reduceAdd, Int.reduceSub, Int.reduceMul, Int.reduceNeg, up_eq, up_na, up_nk, e, ca, cb]
      simp (disch := first | omega | (simp (disch := omega) only [i_lt0, i_tn, i_nn, m_cat_n, m_cat_i, m_cat_r, m_cat_z, m_cat_rv, m_cat_l, m_o_n, m_o_i, m_o_r, m_o_z, m_o_rv, m_o_f, hs_n, hs_k, hs_l, f_k_135 I, n_135 I, Nat.reduceLeDiff, not_false_eq_true, or_true, true_or, or_false, false_or]; first | done | omega) | exact Or.inl rfl | exact Or.inr rfl) only [cl_217, m_cat_n, m_cat_i, m_cat_r, m_cat_z, m_cat_rv, m_cat_l, Nat.zero_le, Nat.reduceLeDiff, Nat.reduceAdd, m_o_i, m_o_r, m_o_z, m_o_rv, hs_n, hs_k, f_k_135 I, n_135 I, hna, hka]
      refine v_217 (G := G) (D := 4) I ha hI h0 e (fun F1 f1 r1 => ?_)
      simp (disch := first | omega | (simp (disch := omega) only [i_lt0, i_tn, i_nn, m_cat_n, m_cat_i, m_cat_r, m_cat_z, m_cat_rv, m_cat_l, m_o_n, m_o_i, m_o_r, m_o_z, m_o_rv, m_o_f, hs_n, hs_k, hs_l, f_k_135 I, n_135 I, f_R_135_1 I, f_k_136 I, f_l_136 I, n_136 I, x_136, Nat.reduceLeDiff, not_false_eq_true, or_true, true_or, or_false, false_or, hka, hla, hxa, hna, hl3]; first | done | omega) | exact Or.inl rfl | exact Or.inr rfl) only [k_222_178, w_iload_4, w_aload_1, w_aloadz_1, w_aloadv_1, w_iconst, w_iaload, w_script, w_icmp_ge, m_cat_n, m_cat_i, m_cat_r, m_cat_z, m_cat_rv, m_cat_l, Nat.zero_le, Nat.reduceLeDiff, Nat.reduceAdd, m_o_i, m_o_r, m_o_z, m_o_rv, m_C_inl, Option.toList_some, Option.toList_none, List.cons_append, List.nil_append, w_iload_2, w_icmp_ne, w_aload_0, w_aloadz_0, w_aloadv_0, w_iinc_4, m_o_n, m_o_f, w_goto, tg_222_75, tg_222_120, tg_222_139, tg_222_178, tg_222_184, w_icmp_eq, w_if_eq, hs_n, hs_k, hs_l, hs_R, hs_I, hs_L, hs_setI, hs_setL, hs_cpy, f_k_135 I, n_135 I, f_R_135_1 I, f_k_136 I, f_l_136 I, n_136 I, x_136, up_up, up_sw, up_sa, i_add, i_sub, i_mul, i_tn, i_nat, Int.reduceToNat, Int.reduceAdd, Int.reduceSub, Int.reduceMul, Int.reduceNeg, l_32, l_nat, l_c_lt, l_c_gt, l_c_eq, i_lt, i_eq, i_lt0, i_0lt, i_eq0, i_eq1, Int.reduceLT, Int.reduceEq, Int.reduceLE, Int.reduceNe, not_true_eq_false, not_false_eq_true, Nat.lt_irrefl, Int.lt_irrefl, eq_self, eq_self, Nat.reduceAdd, Nat.reduceMul, Nat.reduceSub, Nat.reduceDiv, Nat.reduceMod, Nat.reduceEqDiff, Nat.reduceLeDiff, Nat.reduceLT, Nat.zero_add, Nat.add_zero, Nat.zero_le, and_false, and_true, and_self, false_and, true_and, or_false, or_true, if_true, if_false, ite_true, ite_false, ↓reduceIte, Int.reduceToNat, Int.reduceAdd, Int.reduceSub, Int.reduceMul, Int.reduceNeg, up_eq, up_na, up_nk]
      have a1 := I_bad (y := 5) hI h0 e
      have b1 := B_bad (y := 5) hI h0 e (by decide) hB
      rw [← r1] at a1 b1 hR
      exact ih F1 (i + 1) (B + 2) (sf_tr f0 f1) a1.1 b1 (by omega) (by omega) (by rw [a1.2]; omega) hR
    · rw [if_neg c] at hR
      (repeat' (first | (simp (disch := first | omega | (simp (disch := omega) only [i_lt0, i_tn, i_nn, m_cat_n, m_cat_i, m_cat_r, m_cat_z, m_cat_rv, m_cat_l, m_o_n, m_o_i, m_o_r, m_o_z, m_o_rv, m_o_f, hs_n, hs_k, hs_l, f_k_135 I, n_135 I, f_R_135_1 I, f_k_136 I, f_l_136 I, n_136 I, x_136, Nat.reduceLeDiff, not_false_eq_true, or_true, true_or, or_false, false_or, hka, hla, hxa, hna, hl3]; first | done | omega) | exact Or.inl rfl | exact Or.inr rfl) only [k_222_178, w_iload_4, w_aload_1, w_aloadz_1, w_aloadv_1, w_iconst, w_iaload, w_script, w_icmp_ge, m_cat_n, m_cat_i, m_cat_r, m_cat_z, m_cat_rv, m_cat_l, Nat.zero_le, Nat.reduceLeDiff, Nat.reduceAdd, cl_211, m_o_i, m_o_r, m_o_z, m_o_rv, m_C_inl, Option.toList_some, Option.toList_none, List.cons_append, List.nil_append, w_iload_2, w_icmp_ne, w_aload_0, w_aloadz_0, w_aloadv_0, w_iinc_4, m_o_n, m_o_f, w_goto, tg_222_75, tg_222_120, tg_222_139, tg_222_178, tg_222_184, k_211_0, w_iload_1, w_imul, w_iadd, w_iret, w_icmp_eq, w_if_eq, hs_n, hs_k, hs_l, hs_R, hs_I, hs_L, hs_setI, hs_setL, hs_cpy, f_k_135 I, n_135 I, f_R_135_1 I, f_k_136 I, f_l_136 I, n_136 I, x_136, up_up, up_sw, up_sa, i_add, i_sub, i_mul, i_tn, i_nat, Int.reduceToNat, Int.reduceAdd, Int.reduceSub, Int.reduceMul, Int.reduceNeg, l_32, l_nat, l_c_lt, l_c_gt, l_c_eq, i_lt, i_eq, i_lt0, i_0lt, i_eq0, i_eq1, Int.reduceLT, Int.reduceEq, Int.reduceLE, Int.reduceNe, not_true_eq_false, not_false_eq_true, Nat.lt_irrefl, Int.lt_irrefl, eq_self, eq_self, Nat.reduceAdd, Nat.reduceMul, Nat.reduceSub, Nat.reduceDiv, Nat.reduceMod, Nat.reduceEqDiff, Nat.reduceLeDiff, Nat.reduceLT, Nat.zero_add, Nat.add_zero, Nat.zero_le, and_false, and_true, and_self, false_and, true_and, or_false, or_true, if_true, if_false, ite_true, ite_false, ↓reduceIte, Int.reduceToNat, Int.reduceAdd, Int.reduceSub, Int.reduceMul, Int.reduceNeg, up_eq, up_na, up_nk, e]) | split))
      all_goals first
        | exact ih F (i + 1) B f0 hI hB (by omega) (by omega) (by omega) hR
        | (exfalso; omega)
set_option maxHeartbeats 4000000 in
theorem vE_222 {L : Nat} {xs : Nat → Int32} {d : Nat} {h : m_H} {w : Int64} {F : m_M} {Q : Option Value ⊕ Nat → m_H → Prop} (I : RF h) {a : Nat} (ha : a = 147 ∨ a = 148) {G : tx_G} (P : q_pR F G) (gd : q_gd G) {dr : Int} (d0 : 0 ≤ dr) (d4 : dr < 4) (hI : sp_I G 4 (F a)) {B : Int} (hB : sp_B B (F a)) (B9 : B ≤ 1060000000) (hQ : ∀ F' : m_M, sp_f a F F' → F' a = sp_k3 G (F a) dr → Q (.inl none) (m_hS h (w, F'))) {l3 : Option Value} (hl3 : m_o l3 = true) : m_W (p_P L xs) (d + 2) 222 k_222_75 [some (.ref 135), some (.ref a), some (.int (Int32.ofInt dr)), l3, none] [] (m_hS h (w, F)) Q := by
  have hka := ra_k I ha
  have hla := ra_l I ha
  have hna := ra_n I ha
  have hxa := ra_x ha
  have ne135 : ¬ 135 = a := by omega
  have ne136 : ¬ 136 = a := by omega
  have ne144 : ¬ 144 = a := by omega
  have ne153 : ¬ 153 = a := by omega
  have na135 : ¬ a = 135 := by omega
  have na153 : ¬ a = 153 := by omega
  have hnn := I_n hI
  have hB1 := hB.1
  have hB2 := hB.2.1
  have e5 := P.1.2.2.2.2.1
  have g5 := gd.2.2.2.2.2.2.1
  have hb20 := B_j hB (j := (20 + dr).toNat) (by unfold sp_rp; omega)
  rw [k_222_75]
  by_cases c : F a (20 + dr).toNat ≤ G.1 5
  · unfold sp_k3 at hQ
    rw [if_pos c] at hQ
    have hdl := dl_b gd (F a (20 + dr).toNat)
    have cF : ¬ G.1 5 < F a (20 + dr).toNat := by omega
    simp (disch := first | omega | (simp (disch := omega) only [i_lt0, i_tn, i_nn, m_cat_n, m_cat_i, m_cat_r, m_cat_z, m_cat_rv, m_cat_l, m_o_n, m_o_i, m_o_r, m_o_z, m_o_rv, m_o_f, hs_n, hs_k, hs_l, f_k_135 I, n_135 I, f_R_135_1 I, f_k_136 I, f_l_136 I, n_136 I, x_136, Nat.reduceLeDiff, not_false_eq_true, or_true, true_or, or_false, false_or, hka, hla, hxa, hna, hl3]; first | done | omega) | exact Or.inl rfl | exact Or.inr rfl) only [k_222_75, w_aload_1, w_aloadz_1, w_aloadv_1, w_iconst, w_iload_2, w_iadd, w_iaload, w_script, w_aload_0, w_aloadz_0, w_aloadv_0, gf_769, m_rv_s, m_rv_n, w_icmp_gt, w_iastore, m_cat_n, m_cat_i, m_cat_r, m_cat_z, m_cat_rv, m_cat_l, Nat.zero_le, Nat.reduceLeDiff, Nat.reduceAdd, m_o_i, m_o_r, m_o_z, m_o_rv, m_C_inl, Option.toList_some, Option.toList_none, List.cons_append, List.nil_append, w_vret, tg_222_75, tg_222_120, tg_222_139, tg_222_178, tg_222_184, w_icmp_eq, w_if_eq, hs_n, hs_k, hs_l, hs_R, hs_I, hs_L, hs_setI, hs_setL, hs_cpy, f_k_135 I, n_135 I, f_R_135_1 I, f_k_136 I, f_l_136 I, n_136 I, x_136, up_up, up_sw, up_sa, i_add, i_sub, i_mul, i_tn, i_nat, Int.reduceToNat, Int.reduceAdd, Int.reduceSub, Int.reduceMul, Int.reduceNeg, l_32, l_nat, l_c_lt, l_c_gt, l_c_eq, i_lt, i_eq, i_lt0, i_0lt, i_eq0, i_eq1, Int.reduceLT, Int.reduceEq, Int.reduceLE, Int.reduceNe, not_true_eq_false, not_false_eq_true, Nat.lt_irrefl, Int.lt_irrefl, eq_self, eq_self, Nat.reduceAdd, Nat.reduceMul, Nat.reduceSub, Nat.reduceDiv, Nat.reduceMod, Nat.reduceEqDiff, Nat.reduceLeDiff, Nat.reduceLT, Nat.zero_add, Nat.add_zero, Nat.zero_le, and_false, and_true, and_self, false_and, true_and, or_false, or_true, if_true, if_false, ite_true, ite_false, ↓reduceIte, Int.reduceToNat, Int.reduceAdd, Int.reduceSub, Int.reduceMul, Int.reduceNeg, up_eq, up_na, up_nk, e5, cF]
    simp (disch := first | omega | (simp (disch := omega) only [i_lt0, i_tn, i_nn, m_cat_n, m_cat_i, m_cat_r, m_cat_z, m_cat_rv, m_cat_l, m_o_n, m_o_i, m_o_r, m_o_z, m_o_rv, m_o_f, hs_n, hs_k, hs_l, f_k_135 I, n_135 I, Nat.reduceLeDiff, not_false_eq_true, or_true, true_or, or_false, false_or]; first | done | omega) | exact Or.inl rfl | exact Or.inr rfl) only [cl_221, m_cat_n, m_cat_i, m_cat_r, m_cat_z, m_cat_rv, m_cat_l, Nat.zero_le, Nat.reduceLeDiff, Nat.reduceAdd, m_o_i, m_o_r, m_o_z, m_o_rv, hs_n, hs_k, f_k_135 I, n_135 I]
    refine v_221 I (pR_f ha (by intro x y z1 z2 z3; simp (disch := omega) only [up_na, up_no]) P) gd (by omega) (by omega) ?_
    simp (disch := first | omega | (simp (disch := omega) only [i_lt0, i_tn, i_nn, m_cat_n, m_cat_i, m_cat_r, m_cat_z, m_cat_rv, m_cat_l, m_o_n, m_o_i, m_o_r, m_o_z, m_o_rv, m_o_f, hs_n, hs_k, hs_l, f_k_135 I, n_135 I, f_R_135_1 I, f_k_136 I, f_l_136 I, n_136 I, x_136, Nat.reduceLeDiff, not_false_eq_true, or_true, true_or, or_false, false_or, hka, hla, hxa, hna, hl3]; first | done | omega) | exact Or.inl rfl | exact Or.inr rfl) only [w_aload_1, w_aloadz_1, w_aloadv_1, w_iconst, w_iload_2, w_iadd, w_iaload, w_script, w_aload_0, w_aloadz_0, w_aloadv_0, gf_769, m_rv_s, m_rv_n, w_icmp_gt, w_iastore, m_cat_n, m_cat_i, m_cat_r, m_cat_z, m_cat_rv, m_cat_l, Nat.zero_le, Nat.reduceLeDiff, Nat.reduceAdd, m_o_i, m_o_r, m_o_z, m_o_rv, m_C_inl, Option.toList_some, Option.toList_none, List.cons_append, List.nil_append, w_vret, tg_222_75, tg_222_120, tg_222_139, tg_222_178, tg_222_184, w_icmp_eq, w_if_eq, hs_n, hs_k, hs_l, hs_R, hs_I, hs_L, hs_setI, hs_setL, hs_cpy, f_k_135 I, n_135 I, f_R_135_1 I, f_k_136 I, f_l_136 I, n_136 I, x_136, up_up, up_sw, up_sa, i_add, i_sub, i_mul, i_tn, i_nat, Int.reduceToNat, Int.reduceAdd, Int.reduceSub, Int.reduceMul, Int.reduceNeg, l_32, l_nat, l_c_lt, l_c_gt, l_c_eq, i_lt, i_eq, i_lt0, i_0lt, i_eq0, i_eq1, Int.reduceLT, Int.reduceEq, Int.reduceLE, Int.reduceNe, not_true_eq_false, not_false_eq_true, Nat.lt_irrefl, Int.lt_irrefl, eq_self, eq_self, Nat.reduceAdd, Nat.reduceMul, Nat.reduceSub, Nat.reduceDiv, Nat.reduceMod, Nat.reduceEqDiff, Nat.reduceLeDiff, Nat.reduceLT, Nat.zero_add, Nat.add_zero, Nat.zero_le, and_false, and_true, and_self, false_and, true_and, or_false, or_true, if_true, if_false, ite_true, ite_false, ↓reduceIte, Int.reduceToNat, Int.reduceAdd, Int.reduceSub, Int.reduceMul, Int.reduceNeg, up_eq, up_na, up_nk]
    refine hQ _ (by intro x y z1 z2 z3; simp (disch := omega) only [up_na, up_no]) ?_
    simp (disch := omega) only [up_row, up_ro, u1_n, u1_e, u1_uu, u1_sw, if_pos, if_neg, and_true, true_and, and_self, if_true, if_false]
  · unfold sp_k3 at hQ
    rw [if_neg c] at hQ
    have cT : G.1 5 < F a (20 + dr).toNat := by omega
    (repeat' (first | (simp (disch := first | omega | (simp (disch := omega) only [i_lt0, i_tn, i_nn, m_cat_n, m_cat_i, m_cat_r, m_cat_z, m_cat_rv, m_cat_l, m_o_n, m_o_i, m_o_r, m_o_z, m_o_rv, m_o_f, hs_n, hs_k, hs_l, f_k_135 I, n_135 I, f_R_135_1 I, f_k_136 I, f_l_136 I, n_136 I, x_136, Nat.reduceLeDiff, not_false_eq_true, or_true, true_or, or_false, false_or, hka, hla, hxa, hna, hl3]; first | done | omega) | exact Or.inl rfl | exact Or.inr rfl) only [k_222_75, k_222_120, w_aload_1, w_aloadz_1, w_aloadv_1, w_iconst, w_iload_2, w_iadd, w_iaload, w_script, w_aload_0, w_aloadz_0, w_aloadv_0, gf_769, m_rv_s, m_rv_n, w_icmp_gt, w_iastore, m_cat_n, m_cat_i, m_cat_r, m_cat_z, m_cat_rv, m_cat_l, Nat.zero_le, Nat.reduceLeDiff, Nat.reduceAdd, m_o_i, m_o_r, m_o_z, m_o_rv, m_C_inl, Option.toList_some, Option.toList_none, List.cons_append, List.nil_append, w_vret, w_istore_4, m_o_n, m_o_f, tg_222_75, tg_222_120, tg_222_139, tg_222_178, tg_222_184, w_icmp_eq, w_if_eq, hs_n, hs_k, hs_l, hs_R, hs_I, hs_L, hs_setI, hs_setL, hs_cpy, f_k_135 I, n_135 I, f_R_135_1 I, f_k_136 I, f_l_136 I, n_136 I, x_136, up_up, up_sw, up_sa, i_add, i_sub, i_mul, i_tn, i_nat, Int.reduceToNat, Int.reduceAdd, Int.reduceSub, Int.reduceMul, Int.reduceNeg, l_32, l_nat, l_c_lt, l_c_gt, l_c_eq, i_lt, i_eq, i_lt0, i_0lt, i_eq0, i_eq1, Int.reduceLT, Int.reduceEq, Int.reduceLE, Int.reduceNe, not_true_eq_false, not_false_eq_true, Nat.lt_irrefl, Int.lt_irrefl, eq_self, eq_self, Nat.reduceAdd, Nat.reduceMul, Nat.reduceSub, Nat.reduceDiv, Nat.reduceMod, Nat.reduceEqDiff, Nat.reduceLeDiff, Nat.reduceLT, Nat.zero_add, Nat.add_zero, Nat.zero_le, and_false, and_true, and_self, false_and, true_and, or_false, or_true, if_true, if_false, ite_true, ite_false, ↓reduceIte, Int.reduceToNat, Int.reduceAdd, Int.reduceSub, Int.reduceMul, Int.reduceNeg, up_eq, up_na, up_nk, e5, cT]) | split | (simp (disch := first | omega | (simp (disch := omega) only [i_lt0, i_tn, i_nn, m_cat_n, m_cat_i, m_cat_r, m_cat_z, m_cat_rv, m_cat_l, m_o_n, m_o_i, m_o_r, m_o_z, m_o_rv, m_o_f, hs_n, hs_k, hs_l, f_k_135 I, n_135 I, Nat.reduceLeDiff, not_false_eq_true, or_true, true_or, or_false, false_or]; first | done | omega) | exact Or.inl rfl | exact Or.inr rfl) only [cl_216, m_cat_n, m_cat_i, m_cat_r, m_cat_z, m_cat_rv, m_cat_l, Nat.zero_le, Nat.reduceLeDiff, Nat.reduceAdd, m_o_i, m_o_r, m_o_z, m_o_rv, hs_n, hs_k, f_k_135 I, n_135 I, hna, hka]; refine v_216 (G := G) (D := 4) I ha (by omega) (by omega) (by (try simp (disch := omega) only [up_row, up_ro, u1_n, u1_e, u1_uu, u1_sw, if_pos, if_neg, and_true, true_and, and_self, if_true, if_false]); (repeat (first | exact hI | assumption | refine I_nc (by unfold q_cr; omega) ?_ | refine I_fl (by omega) (by omega) (by omega) (by first | omega | (simp (disch := omega) only [u1_n]; omega)) ?_))) ?_; intro F1 f1 r1)))
    have a0 : sp_I G 4 (tx_u1 (F a) (12 + dr).toNat 2) := I_nc (by unfold q_cr; omega) hI
    have a1 := I_no (ev := 8) (dr := dr) (q := -1) (by decide) (by decide) a0
    have b1 := B_no (ev := 8) (dr := dr) (q := -1) a0 (by decide) (by decide) (by omega) (by omega) (B_u (by omega) (by omega) hB)
    have e1 : sp_no (tx_u1 (F a) (12 + dr).toNat 2) 8 dr (-1) 1 = F a 1 := by
      rw [a1.2, u1_n (by omega)]
    have e2 : F1 a = sp_no (tx_u1 (F a) (12 + dr).toNat 2) 8 dr (-1) := by
      rw [r1]
      simp (disch := omega) only [up_row, up_ro, u1_n, u1_e, u1_uu, u1_sw, if_pos, if_neg, and_true, true_and, and_self, if_true, if_false]
    rw [← e2] at a1 b1 e1 hQ
    exact vD_222 (F0 := F) I ha d0 d4 hQ hl3 (F a 1).toNat F1 0 _ (sf_tr (by intro x y z1 z2 z3; simp (disch := omega) only [up_na, up_no]) f1) a1.1 b1 (by omega) (by decide) (by rw [e1]; omega) rfl
set_option maxHeartbeats 4000000 in
/-- crashes -/
theorem v_222 {L : Nat} {xs : Nat → Int32} {d : Nat} {h : m_H} {w : Int64} {F : m_M} {Q : Option Value ⊕ Nat → m_H → Prop} (I : RF h) {a : Nat} (ha : a = 147 ∨ a = 148) {G : tx_G} (P : q_pR F G) (gd : q_gd G) {dr : Int} (d0 : 0 ≤ dr) (d4 : dr < 4) (hI : sp_I G 4 (F a)) {B : Int} (hB : sp_B B (F a)) (B9 : B ≤ 1050000000) (hQ : ∀ F' : m_M, sp_f a F F' → F' a = sp_cr G (F a) dr → Q (.inl none) (m_hS h (w, F'))) : m_W (p_P L xs) (d + 2) 222 k_222_0 [some (.ref 135), some (.ref a), some (.int (Int32.ofInt dr)), none, none] [] (m_hS h (w, F)) Q := by
  have hka := ra_k I ha
  have hla := ra_l I ha
  have hna := ra_n I ha
  have hxa := ra_x ha
  have ne135 : ¬ 135 = a := by omega
  have ne136 : ¬ 136 = a := by omega
  have ne144 : ¬ 144 = a := by omega
  have ne153 : ¬ 153 = a := by omega
  have na135 : ¬ a = 135 := by omega
  have na153 : ¬ a = 153 := by omega
  have hnn := I_n hI
  have hB1 := hB.1
  rw [k_222_0]
  simp (disch := first | omega | (simp (disch := omega) only [i_lt0, i_tn, i_nn, m_cat_n, m_cat_i, m_cat_r, m_cat_z, m_cat_rv, m_cat_l, m_o_n, m_o_i, m_o_r, m_o_z, m_o_rv, m_o_f, hs_n, hs_k, hs_l, f_k_135 I, n_135 I, f_R_135_1 I, f_k_136 I, f_l_136 I, n_136 I, x_136, Nat.reduceLeDiff, not_false_eq_true, or_true, true_or, or_false, false_or, hka, hla, hxa, hna]; first | done | omega) | exact Or.inl rfl | exact Or.inr rfl) only [k_222_0, w_aload_0, w_aloadz_0, w_aloadv_0, w_aload_1, w_aloadz_1, w_aloadv_1, w_iconst, w_iload_2, m_cat_n, m_cat_i, m_cat_r, m_cat_z, m_cat_rv, m_cat_l, Nat.zero_le, Nat.reduceLeDiff, Nat.reduceAdd, m_o_i, m_o_r, m_o_z, m_o_rv, m_C_inl, Option.toList_some, Option.toList_none, List.cons_append, List.nil_append, w_iadd, w_dup2, w_iaload, w_script, w_iastore, w_istore_3, m_o_n, m_o_f, w_iload_3, w_icmp_eq, cl_211, cl_212, gf_769, m_rv_s, m_rv_n, w_icmp_lt, tg_222_75, tg_222_120, tg_222_139, tg_222_178, tg_222_184, k_211_0, w_iload_1, w_imul, w_iret, k_212_0, w_vret, w_if_eq, hs_n, hs_k, hs_l, hs_R, hs_I, hs_L, hs_setI, hs_setL, hs_cpy, f_k_135 I, n_135 I, f_R_135_1 I, f_k_136 I, f_l_136 I, n_136 I, x_136, up_up, up_sw, up_sa, i_add, i_sub, i_mul, i_tn, i_nat, Int.reduceToNat, Int.reduceAdd, Int.reduceSub, Int.reduceMul, Int.reduceNeg, l_32, l_nat, l_c_lt, l_c_gt, l_c_eq, i_lt, i_eq, i_lt0, i_0lt, i_eq0, i_eq1, Int.reduceLT, Int.reduceEq, Int.reduceLE, Int.reduceNe, not_true_eq_false, not_false_eq_true, Nat.lt_irrefl, Int.lt_irrefl, eq_self, eq_self, Nat.reduceAdd, Nat.reduceMul, Nat.reduceSub, Nat.reduceDiv, Nat.reduceMod, Nat.reduceEqDiff, Nat.reduceLeDiff, Nat.reduceLT, Nat.zero_add, Nat.add_zero, Nat.zero_le, and_false, and_true, and_self, false_and, true_and, or_false, or_true, if_true, if_false, ite_true, ite_false, ↓reduceIte, Int.reduceToNat, Int.reduceAdd, Int.reduceSub, Int.reduceMul, Int.reduceNeg, up_eq, up_na, up_nk]
  (simp (disch := first | omega | (simp (disch := omega) only [i_lt0, i_tn, i_nn, m_cat_n, m_cat_i, m_cat_r, m_cat_z, m_cat_rv, m_cat_l, m_o_n, m_o_i, m_o_r, m_o_z, m_o_rv, m_o_f, hs_n, hs_k, hs_l, f_k_135 I, n_135 I, Nat.reduceLeDiff, not_false_eq_true, or_true, true_or, or_false, false_or]; first | done | omega) | exact Or.inl rfl | exact Or.inr rfl) only [cl_216, m_cat_n, m_cat_i, m_cat_r, m_cat_z, m_cat_rv, m_cat_l, Nat.zero_le, Nat.reduceLeDiff, Nat.reduceAdd, m_o_i, m_o_r, m_o_z, m_o_rv, hs_n, hs_k, f_k_135 I, n_135 I, hna, hka]; refine v_216 (G := G) (D := 4) I ha (by omega) (by omega) (by (try simp (disch := omega) only [up_row, up_ro, u1_n, u1_e, u1_uu, u1_sw, if_pos, if_neg, and_true, true_and, and_self, if_true, if_false]); (repeat (first | exact hI | assumption | refine I_nc (by unfold q_cr; omega) ?_ | refine I_fl (by omega) (by omega) (by omega) (by first | omega | (simp (disch := omega) only [u1_n]; omega)) ?_))) ?_; intro F1 f1 r1)
  simp (disch := first | omega | (simp (disch := omega) only [i_lt0, i_tn, i_nn, m_cat_n, m_cat_i, m_cat_r, m_cat_z, m_cat_rv, m_cat_l, m_o_n, m_o_i, m_o_r, m_o_z, m_o_rv, m_o_f, hs_n, hs_k, hs_l, f_k_135 I, n_135 I, f_R_135_1 I, f_k_136 I, f_l_136 I, n_136 I, x_136, Nat.reduceLeDiff, not_false_eq_true, or_true, true_or, or_false, false_or, hka, hla, hxa, hna]; first | done | omega) | exact Or.inl rfl | exact Or.inr rfl) only [k_222_0, w_aload_0, w_aloadz_0, w_aloadv_0, w_aload_1, w_aloadz_1, w_aloadv_1, w_iconst, w_iload_2, m_cat_n, m_cat_i, m_cat_r, m_cat_z, m_cat_rv, m_cat_l, Nat.zero_le, Nat.reduceLeDiff, Nat.reduceAdd, m_o_i, m_o_r, m_o_z, m_o_rv, m_C_inl, Option.toList_some, Option.toList_none, List.cons_append, List.nil_append, w_iadd, w_dup2, w_iaload, w_script, w_iastore, w_istore_3, m_o_n, m_o_f, w_iload_3, w_icmp_eq, cl_211, cl_212, gf_769, m_rv_s, m_rv_n, w_icmp_lt, tg_222_75, tg_222_120, tg_222_139, tg_222_178, tg_222_184, k_211_0, w_iload_1, w_imul, w_iret, k_212_0, w_vret, w_if_eq, hs_n, hs_k, hs_l, hs_R, hs_I, hs_L, hs_setI, hs_setL, hs_cpy, f_k_135 I, n_135 I, f_R_135_1 I, f_k_136 I, f_l_136 I, n_136 I, x_136, up_up, up_sw, up_sa, i_add, i_sub, i_mul, i_tn, i_nat, Int.reduceToNat, Int.reduceAdd, Int.reduceSub, Int.reduceMul, Int.reduceNeg, l_32, l_nat, l_c_lt, l_c_gt, l_c_eq, i_lt, i_eq, i_lt0, i_0lt, i_eq0, i_eq1, Int.reduceLT, Int.reduceEq, Int.reduceLE, Int.reduceNe, not_true_eq_false, not_false_eq_true, Nat.lt_irrefl, Int.lt_irrefl, eq_self, eq_self, Nat.reduceAdd, Nat.reduceMul, Nat.reduceSub, Nat.reduceDiv, Nat.reduceMod, Nat.reduceEqDiff, Nat.reduceLeDiff, Nat.reduceLT, Nat.zero_add, Nat.add_zero, Nat.zero_le, and_false, and_true, and_self, false_and, true_and, or_false, or_true, if_true, if_false, ite_true, ite_false, ↓reduceIte, Int.reduceToNat, Int.reduceAdd, Int.reduceSub, Int.reduceMul, Int.reduceNeg, up_eq, up_na, up_nk]
  simp (disch := first | omega | (simp (disch := omega) only [i_lt0, i_tn, i_nn, m_cat_n, m_cat_i, m_cat_r, m_cat_z, m_cat_rv, m_cat_l, m_o_n, m_o_i, m_o_r, m_o_z, m_o_rv, m_o_f, hs_n, hs_k, hs_l, f_k_135 I, n_135 I, Nat.reduceLeDiff, not_false_eq_true, or_true, true_or, or_false, false_or]; first | done | omega) | exact Or.inl rfl | exact Or.inr rfl) only [cl_220, m_cat_n, m_cat_i, m_cat_r, m_cat_z, m_cat_rv, m_cat_l, Nat.zero_le, Nat.reduceLeDiff, Nat.reduceAdd, m_o_i, m_o_r, m_o_z, m_o_rv, hs_n, hs_k, f_k_135 I, n_135 I, hna, hka]
  refine v_220 I ha d0 d4 (fun F3 f3 r3 => ?_)
  have e3 : F3 a = sp_k1 (F a) dr := by
    rw [r3]
    unfold sp_k1
    simp (disch := omega) only [up_row, up_ro, u1_n, u1_e, u1_uu, u1_sw, if_pos, if_neg, and_true, true_and, and_self, if_true, if_false, r1]
  have g3 : sp_f a F F3 := sf_tr f1 (sf_tr (by intro x y z1 z2 z3; simp (disch := omega) only [up_na, up_no]) f3)
  have P3 := pR_f ha g3 P
  have a1 := I_k1 hI d0 d4 hB
  unfold sp_cr at hQ
  rw [← e3] at a1 hQ
  have hd := I_d a1.1 d0 d4
  have hn3 := I_n a1.1
  have a2 := I_k2 a1.1 hd.2.1.1 hd.2.1.2 a1.2.2
  have e6 := P3.1.2.2.2.2.2.1
  have g6 := gd.2.2.2.2.2.2.2.1
  obtain ⟨q, hq⟩ : ∃ q, q = F3 a (32 + dr).toNat := ⟨_, rfl⟩
  rw [← hq] at hd hQ a2
  by_cases c1 : q = -1
  · have e4 : sp_k2 G (F3 a) q = F3 a := if_pos c1
    rw [e4] at hQ
    simp (disch := first | omega | (simp (disch := omega) only [i_lt0, i_tn, i_nn, m_cat_n, m_cat_i, m_cat_r, m_cat_z, m_cat_rv, m_cat_l, m_o_n, m_o_i, m_o_r, m_o_z, m_o_rv, m_o_f, hs_n, hs_k, hs_l, f_k_135 I, n_135 I, f_R_135_1 I, f_k_136 I, f_l_136 I, n_136 I, x_136, Nat.reduceLeDiff, not_false_eq_true, or_true, true_or, or_false, false_or, hka, hla, hxa, hna]; first | done | omega) | exact Or.inl rfl | exact Or.inr rfl) only [k_222_0, w_aload_0, w_aloadz_0, w_aloadv_0, w_aload_1, w_aloadz_1, w_aloadv_1, w_iconst, w_iload_2, m_cat_n, m_cat_i, m_cat_r, m_cat_z, m_cat_rv, m_cat_l, Nat.zero_le, Nat.reduceLeDiff, Nat.reduceAdd, m_o_i, m_o_r, m_o_z, m_o_rv, m_C_inl, Option.toList_some, Option.toList_none, List.cons_append, List.nil_append, w_iadd, w_dup2, w_iaload, w_script, w_iastore, w_istore_3, m_o_n, m_o_f, w_iload_3, w_icmp_eq, cl_211, cl_212, gf_769, m_rv_s, m_rv_n, w_icmp_lt, tg_222_75, tg_222_120, tg_222_139, tg_222_178, tg_222_184, k_211_0, w_iload_1, w_imul, w_iret, k_212_0, w_vret, w_if_eq, hs_n, hs_k, hs_l, hs_R, hs_I, hs_L, hs_setI, hs_setL, hs_cpy, f_k_135 I, n_135 I, f_R_135_1 I, f_k_136 I, f_l_136 I, n_136 I, x_136, up_up, up_sw, up_sa, i_add, i_sub, i_mul, i_tn, i_nat, Int.reduceToNat, Int.reduceAdd, Int.reduceSub, Int.reduceMul, Int.reduceNeg, l_32, l_nat, l_c_lt, l_c_gt, l_c_eq, i_lt, i_eq, i_lt0, i_0lt, i_eq0, i_eq1, Int.reduceLT, Int.reduceEq, Int.reduceLE, Int.reduceNe, not_true_eq_false, not_false_eq_true, Nat.lt_irrefl, Int.lt_irrefl, eq_self, eq_self, Nat.reduceAdd, Nat.reduceMul, Nat.reduceSub, Nat.reduceDiv, Nat.reduceMod, Nat.reduceEqDiff, Nat.reduceLeDiff, Nat.reduceLT, Nat.zero_add, Nat.add_zero, Nat.zero_le, and_false, and_true, and_self, false_and, true_and, or_false, or_true, if_true, if_false, ite_true, ite_false, ↓reduceIte, Int.reduceToNat, Int.reduceAdd, Int.reduceSub, Int.reduceMul, Int.reduceNeg, up_eq, up_na, up_nk, ← hq, c1]
    exact vE_222 I ha P3 gd d0 d4 a1.1 a1.2.2 (by omega) (fun F' f' r' => hQ F' (sf_tr g3 f') r') rfl
  · have hb10 := B_j a1.2.2 (j := (192 + 14 * q + 10).toNat) (by unfold sp_rp; omega)
    unfold sp_k2 at hQ a2
    rw [if_neg c1] at hQ a2
    unfold sp_u sp_o at hQ a2
    by_cases c2 : F3 a (192 + 14 * q + 10).toNat + 1 < G.1 6
    · rw [if_pos c2] at hQ a2
      simp (disch := first | omega | (simp (disch := omega) only [i_lt0, i_tn, i_nn, m_cat_n, m_cat_i, m_cat_r, m_cat_z, m_cat_rv, m_cat_l, m_o_n, m_o_i, m_o_r, m_o_z, m_o_rv, m_o_f, hs_n, hs_k, hs_l, f_k_135 I, n_135 I, f_R_135_1 I, f_k_136 I, f_l_136 I, n_136 I, x_136, Nat.reduceLeDiff, not_false_eq_true, or_true, true_or, or_false, false_or, hka, hla, hxa, hna]; first | done | omega) | exact Or.inl rfl | exact Or.inr rfl) only [k_222_0, w_aload_0, w_aloadz_0, w_aloadv_0, w_aload_1, w_aloadz_1, w_aloadv_1, w_iconst, w_iload_2, m_cat_n, m_cat_i, m_cat_r, m_cat_z, m_cat_rv, m_cat_l, Nat.zero_le, Nat.reduceLeDiff, Nat.reduceAdd, m_o_i, m_o_r, m_o_z, m_o_rv, m_C_inl, Option.toList_some, Option.toList_none, List.cons_append, List.nil_append, w_iadd, w_dup2, w_iaload, w_script, w_iastore, w_istore_3, m_o_n, m_o_f, w_iload_3, w_icmp_eq, cl_211, cl_212, gf_769, m_rv_s, m_rv_n, w_icmp_lt, tg_222_75, tg_222_120, tg_222_139, tg_222_178, tg_222_184, k_211_0, w_iload_1, w_imul, w_iret, k_212_0, w_vret, w_if_eq, hs_n, hs_k, hs_l, hs_R, hs_I, hs_L, hs_setI, hs_setL, hs_cpy, f_k_135 I, n_135 I, f_R_135_1 I, f_k_136 I, f_l_136 I, n_136 I, x_136, up_up, up_sw, up_sa, i_add, i_sub, i_mul, i_tn, i_nat, Int.reduceToNat, Int.reduceAdd, Int.reduceSub, Int.reduceMul, Int.reduceNeg, l_32, l_nat, l_c_lt, l_c_gt, l_c_eq, i_lt, i_eq, i_lt0, i_0lt, i_eq0, i_eq1, Int.reduceLT, Int.reduceEq, Int.reduceLE, Int.reduceNe, not_true_eq_false, not_false_eq_true, Nat.lt_irrefl, Int.lt_irrefl, eq_self, eq_self, Nat.reduceAdd, Nat.reduceMul, Nat.reduceSub, Nat.reduceDiv, Nat.reduceMod, Nat.reduceEqDiff, Nat.reduceLeDiff, Nat.reduceLT, Nat.zero_add, Nat.add_zero, Nat.zero_le, and_false, and_true, and_self, false_and, true_and, or_false, or_true, if_true, if_false, ite_true, ite_false, ↓reduceIte, Int.reduceToNat, Int.reduceAdd, Int.reduceSub, Int.reduceMul, Int.reduceNeg, up_eq, up_na, up_nk, ← hq, c1, e6, c2]
      refine vE_222 I ha (pR_f ha (by intro x y z1 z2 z3; simp (disch := omega) only [up_na, up_no]) P3) gd d0 d4 ?_ (B := B + 6) ?_ (by omega) (fun F' f' r' => hQ F' (sf_tr g3 (sf_tr (by intro x y z1 z2 z3; simp (disch := omega) only [up_na, up_no]) f')) ?_) rfl
      · simp (disch := omega) only [up_row, up_ro, u1_n, u1_e, u1_uu, u1_sw, if_pos, if_neg, and_true, true_and, and_self, if_true, if_false]
        exact a2.1
      · simp (disch := omega) only [up_row, up_ro, u1_n, u1_e, u1_uu, u1_sw, if_pos, if_neg, and_true, true_and, and_self, if_true, if_false]
        exact B_m (by omega) a2.2.2
      · rw [r']
        simp (disch := omega) only [up_row, up_ro, u1_n, u1_e, u1_uu, u1_sw, if_pos, if_neg, and_true, true_and, and_self, if_true, if_false]
    · rw [if_neg c2] at hQ a2
      have i1 := I_u (j := 10) (v := F3 a (192 + 14 * q + 10).toNat + 1) a1.1 (by omega) hd.2.1.2 (by decide) (by decide)
      unfold sp_u at i1
      simp (disch := first | omega | (simp (disch := omega) only [i_lt0, i_tn, i_nn, m_cat_n, m_cat_i, m_cat_r, m_cat_z, m_cat_rv, m_cat_l, m_o_n, m_o_i, m_o_r, m_o_z, m_o_rv, m_o_f, hs_n, hs_k, hs_l, f_k_135 I, n_135 I, f_R_135_1 I, f_k_136 I, f_l_136 I, n_136 I, x_136, Nat.reduceLeDiff, not_false_eq_true, or_true, true_or, or_false, false_or, hka, hla, hxa, hna]; first | done | omega) | exact Or.inl rfl | exact Or.inr rfl) only [k_222_0, w_aload_0, w_aloadz_0, w_aloadv_0, w_aload_1, w_aloadz_1, w_aloadv_1, w_iconst, w_iload_2, m_cat_n, m_cat_i, m_cat_r, m_cat_z, m_cat_rv, m_cat_l, Nat.zero_le, Nat.reduceLeDiff, Nat.reduceAdd, m_o_i, m_o_r, m_o_z, m_o_rv, m_C_inl, Option.toList_some, Option.toList_none, List.cons_append, List.nil_append, w_iadd, w_dup2, w_iaload, w_script, w_iastore, w_istore_3, m_o_n, m_o_f, w_iload_3, w_icmp_eq, cl_211, cl_212, gf_769, m_rv_s, m_rv_n, w_icmp_lt, tg_222_75, tg_222_120, tg_222_139, tg_222_178, tg_222_184, k_211_0, w_iload_1, w_imul, w_iret, k_212_0, w_vret, w_if_eq, hs_n, hs_k, hs_l, hs_R, hs_I, hs_L, hs_setI, hs_setL, hs_cpy, f_k_135 I, n_135 I, f_R_135_1 I, f_k_136 I, f_l_136 I, n_136 I, x_136, up_up, up_sw, up_sa, i_add, i_sub, i_mul, i_tn, i_nat, Int.reduceToNat, Int.reduceAdd, Int.reduceSub, Int.reduceMul, Int.reduceNeg, l_32, l_nat, l_c_lt, l_c_gt, l_c_eq, i_lt, i_eq, i_lt0, i_0lt, i_eq0, i_eq1, Int.reduceLT, Int.reduceEq, Int.reduceLE, Int.reduceNe, not_true_eq_false, not_false_eq_true, Nat.lt_irrefl, Int.lt_irrefl, eq_self, eq_self, Nat.reduceAdd, Nat.reduceMul, Nat.reduceSub, Nat.reduceDiv, Nat.reduceMod, Nat.reduceEqDiff, Nat.reduceLeDiff, Nat.reduceLT, Nat.zero_add, Nat.add_zero, Nat.zero_le, and_false, and_true, and_self, false_and, true_and, or_false, or_true, if_true, if_false, ite_true, ite_false, ↓reduceIte, Int.reduceToNat, Int.reduceAdd, Int.reduceSub, Int.reduceMul, Int.reduceNeg, up_eq, up_na, up_nk, ← hq, c1, e6, c2]
      simp (disch := first | omega | (simp (disch := omega) only [i_lt0, i_tn, i_nn, m_cat_n, m_cat_i, m_cat_r, m_cat_z, m_cat_rv, m_cat_l, m_o_n, m_o_i, m_o_r, m_o_z, m_o_rv, m_o_f, hs_n, hs_k, hs_l, f_k_135 I, n_135 I, Nat.reduceLeDiff, not_false_eq_true, or_true, true_or, or_false, false_or]; first | done | omega) | exact Or.inl rfl | exact Or.inr rfl) only [cl_217, m_cat_n, m_cat_i, m_cat_r, m_cat_z, m_cat_rv, m_cat_l, Nat.zero_le, Nat.reduceLeDiff, Nat.reduceAdd, m_o_i, m_o_r, m_o_z, m_o_rv, hs_n, hs_k, f_k_135 I, n_135 I, hna, hka]
      refine v_217 (G := G) (D := 4) I ha ?_ (by omega) ?_ (fun F4 f4 r4 => ?_)
      · simp (disch := omega) only [up_row, up_ro, u1_n, u1_e, u1_uu, u1_sw, if_pos, if_neg, and_true, true_and, and_self, if_true, if_false]
        exact i1.1
      · simp (disch := omega) only [up_row, up_ro, u1_n, u1_e, u1_uu, u1_sw, if_pos, if_neg, and_true, true_and, and_self, if_true, if_false]
        exact hd.2.1.2
      · have e4 : F4 a = sp_bad (tx_u1 (F3 a) (192 + 14 * q + 10).toNat (F3 a (192 + 14 * q + 10).toNat + 1)) q 3 := by
          rw [r4]
          simp (disch := omega) only [up_row, up_ro, u1_n, u1_e, u1_uu, u1_sw, if_pos, if_neg, and_true, true_and, and_self, if_true, if_false]
        rw [← e4] at hQ a2
        have g4 := sf_tr g3 (sf_tr (by intro x y z1 z2 z3; simp (disch := omega) only [up_na, up_no]) f4)
        simp (disch := first | omega | (simp (disch := omega) only [i_lt0, i_tn, i_nn, m_cat_n, m_cat_i, m_cat_r, m_cat_z, m_cat_rv, m_cat_l, m_o_n, m_o_i, m_o_r, m_o_z, m_o_rv, m_o_f, hs_n, hs_k, hs_l, f_k_135 I, n_135 I, f_R_135_1 I, f_k_136 I, f_l_136 I, n_136 I, x_136, Nat.reduceLeDiff, not_false_eq_true, or_true, true_or, or_false, false_or, hka, hla, hxa, hna]; first | done | omega) | exact Or.inl rfl | exact Or.inr rfl) only [w_aload_0, w_aloadz_0, w_aloadv_0, w_aload_1, w_aloadz_1, w_aloadv_1, w_iconst, w_iload_2, m_cat_n, m_cat_i, m_cat_r, m_cat_z, m_cat_rv, m_cat_l, Nat.zero_le, Nat.reduceLeDiff, Nat.reduceAdd, m_o_i, m_o_r, m_o_z, m_o_rv, m_C_inl, Option.toList_some, Option.toList_none, List.cons_append, List.nil_append, w_iadd, w_dup2, w_iaload, w_script, w_iastore, w_istore_3, m_o_n, m_o_f, w_iload_3, w_icmp_eq, cl_211, cl_212, gf_769, m_rv_s, m_rv_n, w_icmp_lt, tg_222_75, tg_222_120, tg_222_139, tg_222_178, tg_222_184, k_211_0, w_iload_1, w_imul, w_iret, k_212_0, w_vret, w_if_eq, hs_n, hs_k, hs_l, hs_R, hs_I, hs_L, hs_setI, hs_setL, hs_cpy, f_k_135 I, n_135 I, f_R_135_1 I, f_k_136 I, f_l_136 I, n_136 I, x_136, up_up, up_sw, up_sa, i_add, i_sub, i_mul, i_tn, i_nat, Int.reduceToNat, Int.reduceAdd, Int.reduceSub, Int.reduceMul, Int.reduceNeg, l_32, l_nat, l_c_lt, l_c_gt, l_c_eq, i_lt, i_eq, i_lt0, i_0lt, i_eq0, i_eq1, Int.reduceLT, Int.reduceEq, Int.reduceLE, Int.reduceNe, not_true_eq_false, not_false_eq_true, Nat.lt_irrefl, Int.lt_irrefl, eq_self, eq_self, Nat.reduceAdd, Nat.reduceMul, Nat.reduceSub, Nat.reduceDiv, Nat.reduceMod, Nat.reduceEqDiff, Nat.reduceLeDiff, Nat.reduceLT, Nat.zero_add, Nat.add_zero, Nat.zero_le, and_false, and_true, and_self, false_and, true_and, or_false, or_true, if_true, if_false, ite_true, ite_false, ↓reduceIte, Int.reduceToNat, Int.reduceAdd, Int.reduceSub, Int.reduceMul, Int.reduceNeg, up_eq, up_na, up_nk]
        exact vE_222 I ha (pR_f ha g4 P) gd d0 d4 a2.1 a2.2.2 (by omega) (fun F' f' r' => hQ F' (sf_tr g4 f') r') rfl
