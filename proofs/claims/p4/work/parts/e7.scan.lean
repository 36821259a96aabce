/-! THE REFERENCE'S SCANNER as the spec has it -/
theorem nr_sn {b : Nat → Int} : ∀ (k p : Nat) (t : Int), tx_nr b (k + 1) p t = if 99999 < tx_nr b k p t then 1000000 else 10 * tx_nr b k p t + b (p + k) - 48
  | 0, p, t => rfl
  | k + 1, p, t => by
    show tx_nr b (k + 1) (p + 1) _ = _
    rw [nr_sn k (p + 1) _, show p + 1 + k = p + (k + 1) by omega]
    rfl
def tx_mn (k : Nat) : Nat := if k ≤ 10 then k else 10
theorem mn_le {k : Nat} (h : k ≤ 10) : tx_mn k = k := if_pos h
theorem mn_ge {k : Nat} (h : 10 ≤ k) : tx_mn k = 10 := by
  unfold tx_mn
  split <;> omega
theorem w_st {x c : Int} : Int64.ofInt 27 * Int64.ofInt x + Int64.ofInt c - Int64.ofInt 96 = Int64.ofInt (27 * x + (c - 96)) := by
  rw [← Int64.ofInt_mul, ← Int64.ofInt_add, ← Int64.ofInt_sub]
  congr 1
  omega
theorem w_sc {x c : Int} : Int64.ofInt ((27 : Nat) : Int) * Int64.ofInt x + Int64.ofInt c - Int64.ofInt ((96 : Nat) : Int) = Int64.ofInt (27 * x + (c - 96)) := w_st
/-- the ground: the text -/
def q_tb (F : m_M) (b : Nat → Int) (n : Nat) : Prop := F 135 20 = n ∧ n ≤ 900 ∧ (∀ k, k < n → F 151 k = b k) ∧ (∀ k, k < 900 → 0 ≤ F 151 k ∧ F 151 k ≤ 255) ∧ (0 ≤ F 135 24 ∧ F 135 24 ≤ 1000000)
/-- where the reading stands -/
def q_R (F : m_M) (w : Int64) (b : Nat → Int) (n : Nat) (s : tx_St) : Prop := (s.1 = 0 → F 135 26 = 0 ∧ F 135 22 = s.2 ∧ s.2 ≤ n ∧ F 135 23 = tx_k b n s.2 ∧ F 135 21 = ((if s.2 < n then tx_te b n s.2 else s.2 : Nat) : Int) ∧ (tx_k b n s.2 = 2 → F 135 24 = tx_nv b n s.2) ∧ (tx_k b n s.2 = 1 → tx_te b n s.2 - s.2 ≤ 10 → w = Int64.ofInt (tx_h (fun i => b (s.2 + i) - 96) (tx_te b n s.2 - s.2)))) ∧ (¬ s.1 = 0 → F 135 26 = s.1 ∧ F 135 27 = s.2) ∧ (s.1 = 0 → F 135 27 = -1)
/-- THE REFERENCE'S READING -/
def q_V (F : m_M) (w : Int64) (b : Nat → Int) (n : Nat) (s : tx_St) : Prop := q_sc F ∧ q_tb F b n ∧ q_R F w b n s
/-- what reading a token changes -/
def q_f1 (F F' : m_M) : Prop := ∀ x y, ¬ (x = 135 ∧ ((21 ≤ y ∧ y ≤ 24) ∨ y = 26 ∨ y = 27)) → F' x y = F x y
theorem f1_rf {F : m_M} : q_f1 F F := fun _ _ _ => rfl
theorem f1_tr {F G K : m_M} (h1 : q_f1 F G) (h2 : q_f1 G K) : q_f1 F K := fun x y h => (h2 x y h).trans (h1 x y h)
set_option maxHeartbeats 4000000 in
theorem lx_166 {L : Nat} {xs : Nat → Int32} {d : Nat} {h : m_H} {F : m_M} {Q : Option Value ⊕ Nat → m_H → Prop} (I : RF h) {b : Nat → Int} {n p : Nat} (h20 : F 135 20 = n) (h9 : n ≤ 900) (hb : ∀ k, k < n → F 151 k = b k) (hb2 : ∀ k, k < 900 → 0 ≤ F 151 k ∧ F 151 k ≤ 255) (h22 : F 135 22 = p) : ∀ (m k : Nat), p + k ≤ n → n - (p + k) ≤ m → Q (.inl none) (m_hS h (Int64.ofInt (tx_h (fun j => b (p + j) - 96) (tx_mn (((tx_w tx_L b n (p + k)) - p)))), m_up (m_up F 135 21 ((tx_w tx_L b n (p + k)) : Nat)) 135 23 1)) → m_W (p_P L xs) (d + 1) 166 k_166_5 [some (.ref 135)] [] (m_hS h (Int64.ofInt (tx_h (fun j => b (p + j) - 96) (tx_mn (k))), m_up F 135 21 ((p + k : Nat) : Int))) Q := by
  intro m
  induction m with
  | zero =>
    intro k h0 h1 hQ
    have e : ¬ ((p + k : Nat) : Int) < n := by omega
    rw [tx_w_no (by omega), show p + k - p = k by omega] at hQ
    rw [k_166_5]
    simp (disch := first | omega | (simp (disch := omega) only [i_lt0, i_tn, i_nn, m_cat_n, m_cat_i, m_cat_r, m_cat_z, m_cat_rv, m_cat_l, m_o_n, m_o_i, m_o_r, m_o_z, m_o_rv, m_o_f, hs_n, hs_k, hs_l, f_k_135 I, n_135 I, f_R_135_18 I, f_k_151 I, f_l_151 I, n_151 I, x_151, Nat.reduceLeDiff, not_false_eq_true, or_true, true_or, or_false, false_or]; first | done | omega) | exact Or.inl rfl | exact Or.inr rfl) only [k_166_0, k_166_60, k_166_73, w_aload_0, w_aloadz_0, w_aloadv_0, w_ldc2, pf_793, gf_789, m_rv_s, m_rv_n, m_cat_n, m_cat_i, m_cat_r, m_cat_z, m_cat_rv, m_cat_l, Nat.zero_le, Nat.reduceLeDiff, Nat.reduceAdd, cl_163, m_o_i, m_o_r, m_o_z, m_o_rv, m_C_inl, Option.toList_some, Option.toList_none, List.cons_append, List.nil_append, cl_164, w_if_eq, gf_790, w_isub, w_iconst, w_icmp_ge, gf_793, w_lmul, gf_786, w_iaload, w_script, w_i2l, w_ladd, w_lsub, w_dup_i, w_dup_r, w_dup_z, w_dup_v, w_iadd, pf_789, w_goto, pf_791, w_vret, tg_166_5, tg_166_60, tg_166_73, k_163_0, k_163_17, tg_163_17, k_163_18, tg_163_18, w_iload_1, gf_788, w_iret, k_164_0, k_164_16, tg_164_16, k_164_17, tg_164_17, w_iload_0, w_icmp_lt, w_icmp_gt, w_zret, w_icmp_eq, hs_n, hs_k, hs_l, hs_R, hs_I, hs_L, hs_setI, hs_setL, hs_cpy, f_k_135 I, n_135 I, f_R_135_18 I, f_k_151 I, f_l_151 I, n_151 I, x_151, up_up, up_sw, up_sa, up_if, i_add, i_sub, i_mul, i_tn, i_nat, Int.reduceToNat, Int.reduceAdd, Int.reduceSub, Int.reduceMul, Int.reduceNeg, l_32, l_nat, l_c_lt, l_c_gt, l_c_eq, i_lt, i_eq, i_lt0, i_0lt, i_eq0, i_eq1, Int.reduceLT, Int.reduceEq, Int.reduceLE, Int.reduceNe, not_true_eq_false, not_false_eq_true, Nat.lt_irrefl, Int.lt_irrefl, eq_self, eq_self, Nat.reduceAdd, Nat.reduceMul, Nat.reduceSub, Nat.reduceDiv, Nat.reduceMod, Nat.reduceEqDiff, Nat.reduceLeDiff, Nat.reduceLT, Nat.zero_add, Nat.add_zero, Nat.zero_le, and_false, and_true, and_self, false_and, true_and, or_false, or_true, if_true, if_false, ite_true, ite_false, ↓reduceIte, Int.reduceToNat, Int.reduceAdd, Int.reduceSub, Int.reduceMul, Int.reduceNeg, h20, e]
    exact hQ
  | succ m ih =>
    intro k h0 h1 hQ
    by_cases c : p + k < n
    · have hbi : F 151 (p + k) = b (p + k) := hb _ c
      have hbb := hb2 (p + k) (by omega)
      have e : ((p + k : Nat) : Int) < n := by omega
      by_cases c2 : tx_L (b (p + k)) = true
      · have c3 := tx_L_iff.mp c2
        rw [tx_w_go c c2, show p + k + 1 = p + (k + 1) by omega] at hQ
        have e5 : ((p + k : Nat) : Int) + 1 = ((p + (k + 1) : Nat) : Int) := by omega
        by_cases c4 : k < 10
        · have e4 : ((p + k : Nat) : Int) - p < 10 := by omega
          have e6 : (tx_mn (k)) = k := mn_le (by omega)
          have e7 : (tx_mn ((k + 1))) = k + 1 := mn_le (by omega)
          have e8 : 27 * tx_h (fun j => b (p + j) - 96) k + (b (p + k) - 96) = tx_h (fun j => b (p + j) - 96) (k + 1) := rfl
          have ih := ih (k + 1) (by omega) (by omega) hQ
          rw [e7, ← e8] at ih
          rw [e6, k_166_5]
          (repeat' (first | (simp (disch := first | omega | (simp (disch := omega) only [i_lt0, i_tn, i_nn, m_cat_n, m_cat_i, m_cat_r, m_cat_z, m_cat_rv, m_cat_l, m_o_n, m_o_i, m_o_r, m_o_z, m_o_rv, m_o_f, hs_n, hs_k, hs_l, f_k_135 I, n_135 I, f_R_135_18 I, f_k_151 I, f_l_151 I, n_151 I, x_151, Nat.reduceLeDiff, not_false_eq_true, or_true, true_or, or_false, false_or]; first | done | omega) | exact Or.inl rfl | exact Or.inr rfl) only [k_166_0, k_166_60, k_166_73, w_aload_0, w_aloadz_0, w_aloadv_0, w_ldc2, pf_793, gf_789, m_rv_s, m_rv_n, m_cat_n, m_cat_i, m_cat_r, m_cat_z, m_cat_rv, m_cat_l, Nat.zero_le, Nat.reduceLeDiff, Nat.reduceAdd, cl_163, m_o_i, m_o_r, m_o_z, m_o_rv, m_C_inl, Option.toList_some, Option.toList_none, List.cons_append, List.nil_append, cl_164, w_if_eq, gf_790, w_isub, w_iconst, w_icmp_ge, gf_793, w_lmul, gf_786, w_iaload, w_script, w_i2l, w_ladd, w_lsub, w_dup_i, w_dup_r, w_dup_z, w_dup_v, w_iadd, pf_789, w_goto, pf_791, w_vret, tg_166_5, tg_166_60, tg_166_73, k_163_0, k_163_17, tg_163_17, k_163_18, tg_163_18, w_iload_1, gf_788, w_iret, k_164_0, k_164_16, tg_164_16, k_164_17, tg_164_17, w_iload_0, w_icmp_lt, w_icmp_gt, w_zret, w_icmp_eq, hs_n, hs_k, hs_l, hs_R, hs_I, hs_L, hs_setI, hs_setL, hs_cpy, f_k_135 I, n_135 I, f_R_135_18 I, f_k_151 I, f_l_151 I, n_151 I, x_151, up_up, up_sw, up_sa, up_if, i_add, i_sub, i_mul, i_tn, i_nat, Int.reduceToNat, Int.reduceAdd, Int.reduceSub, Int.reduceMul, Int.reduceNeg, l_32, l_nat, l_c_lt, l_c_gt, l_c_eq, i_lt, i_eq, i_lt0, i_0lt, i_eq0, i_eq1, Int.reduceLT, Int.reduceEq, Int.reduceLE, Int.reduceNe, not_true_eq_false, not_false_eq_true, Nat.lt_irrefl, Int.lt_irrefl, eq_self, eq_self, Nat.reduceAdd, Nat.reduceMul, Nat.reduceSub, Nat.reduceDiv, Nat.reduceMod, Nat.reduceEqDiff, Nat.reduceLeDiff, Nat.reduceLT, Nat.zero_add, Nat.add_zero, Nat.zero_le, and_false, and_true, and_self, false_and, true_and, or_false, or_true, if_true, if_false, ite_true, ite_false, ↓reduceIte, Int.reduceToNat, Int.reduceAdd, Int.reduceSub, Int.reduceMul, Int.reduceNeg, h20, h22, e, e4, hbi, w_st, e5, Int.toNat_natCast]) | split))
          all_goals first
            | (exfalso; omega)
            | exact ih
            | (rw [w_sc]; exact ih)
        · have e4 : ¬ ((p + k : Nat) : Int) - p < 10 := by omega
          have e7 : (tx_mn ((k + 1))) = (tx_mn (k)) := by rw [mn_ge (by omega), mn_ge (by omega)]
          have ih := ih (k + 1) (by omega) (by omega) hQ
          rw [e7] at ih
          rw [k_166_5]
          (repeat' (first | (simp (disch := first | omega | (simp (disch := omega) only [i_lt0, i_tn, i_nn, m_cat_n, m_cat_i, m_cat_r, m_cat_z, m_cat_rv, m_cat_l, m_o_n, m_o_i, m_o_r, m_o_z, m_o_rv, m_o_f, hs_n, hs_k, hs_l, f_k_135 I, n_135 I, f_R_135_18 I, f_k_151 I, f_l_151 I, n_151 I, x_151, Nat.reduceLeDiff, not_false_eq_true, or_true, true_or, or_false, false_or]; first | done | omega) | exact Or.inl rfl | exact Or.inr rfl) only [k_166_0, k_166_60, k_166_73, w_aload_0, w_aloadz_0, w_aloadv_0, w_ldc2, pf_793, gf_789, m_rv_s, m_rv_n, m_cat_n, m_cat_i, m_cat_r, m_cat_z, m_cat_rv, m_cat_l, Nat.zero_le, Nat.reduceLeDiff, Nat.reduceAdd, cl_163, m_o_i, m_o_r, m_o_z, m_o_rv, m_C_inl, Option.toList_some, Option.toList_none, List.cons_append, List.nil_append, cl_164, w_if_eq, gf_790, w_isub, w_iconst, w_icmp_ge, gf_793, w_lmul, gf_786, w_iaload, w_script, w_i2l, w_ladd, w_lsub, w_dup_i, w_dup_r, w_dup_z, w_dup_v, w_iadd, pf_789, w_goto, pf_791, w_vret, tg_166_5, tg_166_60, tg_166_73, k_163_0, k_163_17, tg_163_17, k_163_18, tg_163_18, w_iload_1, gf_788, w_iret, k_164_0, k_164_16, tg_164_16, k_164_17, tg_164_17, w_iload_0, w_icmp_lt, w_icmp_gt, w_zret, w_icmp_eq, hs_n, hs_k, hs_l, hs_R, hs_I, hs_L, hs_setI, hs_setL, hs_cpy, f_k_135 I, n_135 I, f_R_135_18 I, f_k_151 I, f_l_151 I, n_151 I, x_151, up_up, up_sw, up_sa, up_if, i_add, i_sub, i_mul, i_tn, i_nat, Int.reduceToNat, Int.reduceAdd, Int.reduceSub, Int.reduceMul, Int.reduceNeg, l_32, l_nat, l_c_lt, l_c_gt, l_c_eq, i_lt, i_eq, i_lt0, i_0lt, i_eq0, i_eq1, Int.reduceLT, Int.reduceEq, Int.reduceLE, Int.reduceNe, not_true_eq_false, not_false_eq_true, Nat.lt_irrefl, Int.lt_irrefl, eq_self, eq_self, Nat.reduceAdd, Nat.reduceMul, Nat.reduceSub, Nat.reduceDiv, Nat.reduceMod, Nat.reduceEqDiff, Nat.reduceLeDiff, Nat.reduceLT, Nat.zero_add, Nat.add_zero, Nat.zero_le, and_false, and_true, and_self, false_and, true_and, or_false, or_true, if_true, if_false, ite_true, ite_false, ↓reduceIte, Int.reduceToNat, Int.reduceAdd, Int.reduceSub, Int.reduceMul, Int.reduceNeg, h20, h22, e, e4, hbi, e5, Int.toNat_natCast]) | split))
          all_goals first
            | (exfalso; omega)
            | exact ih
      · have c3 : ¬ (97 ≤ b (p + k) ∧ b (p + k) ≤ 122) := fun z => c2 (tx_L_iff.mpr z)
        rw [tx_w_no (fun z => c2 z.2), show p + k - p = k by omega] at hQ
        rw [k_166_5]
        (repeat' (first | (simp (disch := first | omega | (simp (disch := omega) only [i_lt0, i_tn, i_nn, m_cat_n, m_cat_i, m_cat_r, m_cat_z, m_cat_rv, m_cat_l, m_o_n, m_o_i, m_o_r, m_o_z, m_o_rv, m_o_f, hs_n, hs_k, hs_l, f_k_135 I, n_135 I, f_R_135_18 I, f_k_151 I, f_l_151 I, n_151 I, x_151, Nat.reduceLeDiff, not_false_eq_true, or_true, true_or, or_false, false_or]; first | done | omega) | exact Or.inl rfl | exact Or.inr rfl) only [k_166_0, k_166_60, k_166_73, w_aload_0, w_aloadz_0, w_aloadv_0, w_ldc2, pf_793, gf_789, m_rv_s, m_rv_n, m_cat_n, m_cat_i, m_cat_r, m_cat_z, m_cat_rv, m_cat_l, Nat.zero_le, Nat.reduceLeDiff, Nat.reduceAdd, cl_163, m_o_i, m_o_r, m_o_z, m_o_rv, m_C_inl, Option.toList_some, Option.toList_none, List.cons_append, List.nil_append, cl_164, w_if_eq, gf_790, w_isub, w_iconst, w_icmp_ge, gf_793, w_lmul, gf_786, w_iaload, w_script, w_i2l, w_ladd, w_lsub, w_dup_i, w_dup_r, w_dup_z, w_dup_v, w_iadd, pf_789, w_goto, pf_791, w_vret, tg_166_5, tg_166_60, tg_166_73, k_163_0, k_163_17, tg_163_17, k_163_18, tg_163_18, w_iload_1, gf_788, w_iret, k_164_0, k_164_16, tg_164_16, k_164_17, tg_164_17, w_iload_0, w_icmp_lt, w_icmp_gt, w_zret, w_icmp_eq, hs_n, hs_k, hs_l, hs_R, hs_I, hs_L, hs_setI, hs_setL, hs_cpy, f_k_135 I, n_135 I, f_R_135_18 I, f_k_151 I, f_l_151 I, n_151 I, x_151, up_up, up_sw, up_sa, up_if, i_add, i_sub, i_mul, i_tn, i_nat, Int.reduceToNat, Int.reduceAdd, Int.reduceSub, Int.reduceMul, Int.reduceNeg, l_32, l_nat, l_c_lt, l_c_gt, l_c_eq, i_lt, i_eq, i_lt0, i_0lt, i_eq0, i_eq1, Int.reduceLT, Int.reduceEq, Int.reduceLE, Int.reduceNe, not_true_eq_false, not_false_eq_true, Nat.lt_irrefl, Int.lt_irrefl, eq_self, eq_self, Nat.reduceAdd, Nat.reduceMul, Nat.reduceSub, Nat.reduceDiv, Nat.reduceMod, Nat.reduceEqDiff, Nat.reduceLeDiff, Nat.reduceLT, Nat.zero_add, Nat.add_zero, Nat.zero_le, and_false, and_true, and_self, false_and, true_and, or_false, or_true, if_true, if_false, ite_true, ite_false, ↓reduceIte, Int.reduceToNat, Int.reduceAdd, Int.reduceSub, Int.reduceMul, Int.reduceNeg, h20, e, hbi, Int.toNat_natCast]) | split))
        all_goals first
          | (exfalso; omega)
          | exact hQ
    · have e : ¬ ((p + k : Nat) : Int) < n := by omega
      rw [tx_w_no (fun z => c z.1), show p + k - p = k by omega] at hQ
      rw [k_166_5]
      simp (disch := first | omega | (simp (disch := omega) only [i_lt0, i_tn, i_nn, m_cat_n, m_cat_i, m_cat_r, m_cat_z, m_cat_rv, m_cat_l, m_o_n, m_o_i, m_o_r, m_o_z, m_o_rv, m_o_f, hs_n, hs_k, hs_l, f_k_135 I, n_135 I, f_R_135_18 I, f_k_151 I, f_l_151 I, n_151 I, x_151, Nat.reduceLeDiff, not_false_eq_true, or_true, true_or, or_false, false_or]; first | done | omega) | exact Or.inl rfl | exact Or.inr rfl) only [k_166_0, k_166_60, k_166_73, w_aload_0, w_aloadz_0, w_aloadv_0, w_ldc2, pf_793, gf_789, m_rv_s, m_rv_n, m_cat_n, m_cat_i, m_cat_r, m_cat_z, m_cat_rv, m_cat_l, Nat.zero_le, Nat.reduceLeDiff, Nat.reduceAdd, cl_163, m_o_i, m_o_r, m_o_z, m_o_rv, m_C_inl, Option.toList_some, Option.toList_none, List.cons_append, List.nil_append, cl_164, w_if_eq, gf_790, w_isub, w_iconst, w_icmp_ge, gf_793, w_lmul, gf_786, w_iaload, w_script, w_i2l, w_ladd, w_lsub, w_dup_i, w_dup_r, w_dup_z, w_dup_v, w_iadd, pf_789, w_goto, pf_791, w_vret, tg_166_5, tg_166_60, tg_166_73, k_163_0, k_163_17, tg_163_17, k_163_18, tg_163_18, w_iload_1, gf_788, w_iret, k_164_0, k_164_16, tg_164_16, k_164_17, tg_164_17, w_iload_0, w_icmp_lt, w_icmp_gt, w_zret, w_icmp_eq, hs_n, hs_k, hs_l, hs_R, hs_I, hs_L, hs_setI, hs_setL, hs_cpy, f_k_135 I, n_135 I, f_R_135_18 I, f_k_151 I, f_l_151 I, n_151 I, x_151, up_up, up_sw, up_sa, up_if, i_add, i_sub, i_mul, i_tn, i_nat, Int.reduceToNat, Int.reduceAdd, Int.reduceSub, Int.reduceMul, Int.reduceNeg, l_32, l_nat, l_c_lt, l_c_gt, l_c_eq, i_lt, i_eq, i_lt0, i_0lt, i_eq0, i_eq1, Int.reduceLT, Int.reduceEq, Int.reduceLE, Int.reduceNe, not_true_eq_false, not_false_eq_true, Nat.lt_irrefl, Int.lt_irrefl, eq_self, eq_self, Nat.reduceAdd, Nat.reduceMul, Nat.reduceSub, Nat.reduceDiv, Nat.reduceMod, Nat.reduceEqDiff, Nat.reduceLeDiff, Nat.reduceLT, Nat.zero_add, Nat.add_zero, Nat.zero_le, and_false, and_true, and_self, false_and, true_and, or_false, or_true, if_true, if_false, ite_true, ite_false, ↓reduceIte, Int.reduceToNat, Int.reduceAdd, Int.reduceSub, Int.reduceMul, Int.reduceNeg, h20, e]
      exact hQ
