/-! the reference: the journal; requests end, exactly -/
theorem u1_uu {s : sp_R} {j : Nat} {u v : Int} : tx_u1 (tx_u1 s j u) j v = tx_u1 s j v := by
  funext i
  unfold tx_u1
  split <;> rfl
theorem u1_sw {s : sp_R} {j k : Nat} {u v : Int} (h : j < k) : tx_u1 (tx_u1 s k u) j v = tx_u1 (tx_u1 s j v) k u := by
  funext i
  unfold tx_u1
  (repeat' split) <;> first | rfl | omega
/-- the journal's rows moved so far -/
def sp_shi (s : sp_R) (i : Int) : sp_R := fun j => if 1592 ≤ j ∧ (j : Int) < 1588 + i then s (j + 4) else s j
theorem shi_s {s : sp_R} {i : Int} (h : 4 ≤ i) (k : Nat) (hk : (k : Int) = 1588 + i) : tx_u1 (sp_shi s i) k (sp_shi s i (k + 4)) = sp_shi s (i + 1) := by
  funext j
  unfold tx_u1 sp_shi
  by_cases e : j = k
  · subst e
    rw [if_pos rfl, if_neg (by omega), if_pos (by omega)]
  · rw [if_neg e]
    by_cases c : 1592 ≤ j ∧ (j : Int) < 1588 + i
    · rw [if_pos c, if_pos (by omega)]
    · rw [if_neg c, if_neg (by omega)]
theorem shi_0 {s : sp_R} : sp_shi s 4 = s := by
  funext j
  exact if_neg (by omega)
theorem shi_e {s : sp_R} : tx_u1 (sp_shi s 800) 2 199 = sp_sh s := by
  unfold sp_sh
  refine congrArg (fun z => tx_u1 z 2 199) ?_
  funext j
  unfold sp_shi
  by_cases c : 1592 ≤ j ∧ j < 2388
  · rw [if_pos c, if_pos (by omega)]
  · rw [if_neg c, if_neg (by omega)]
set_option maxHeartbeats 4000000 in
theorem vE_216 {L : Nat} {xs : Nat → Int32} {d : Nat} {h : m_H} {w : Int64} {F : m_M} {Q : Option Value ⊕ Nat → m_H → Prop} (I : RF h) {a : Nat} (ha : a = 147 ∨ a = 148) {ev dr q : Int} (h2 : 0 ≤ F a 2 ∧ F a 2 ≤ 199) {l5 : Option Value} (h5 : m_o l5 = true) (hQ : ∀ F' : m_M, sp_f a F F' → F' a = sp_ad (F a) ev dr q → Q (.inl none) (m_hS h (w, F'))) : m_W (p_P L xs) d 216 k_216_60 [some (.ref 135), some (.ref a), some (.int (Int32.ofInt ev)), some (.int (Int32.ofInt dr)), some (.int (Int32.ofInt q)), l5] [] (m_hS h (w, F)) Q := by
  have hka := ra_k I ha
  have hla := ra_l I ha
  have hna := ra_n I ha
  have hxa := ra_x ha
  have ne135 : ¬ 135 = a := by omega
  have ne136 : ¬ 136 = a := by omega
  have ne144 : ¬ 144 = a := by omega
  have ne153 : ¬ 153 = a := by omega
  have na135 : ¬ a = 135 := by omega
  have na153 : ¬ a = 153 := by omega
  rw [k_216_60]
  simp (disch := first | omega | (simp (disch := omega) only [i_lt0, i_tn, i_nn, m_cat_n, m_cat_i, m_cat_r, m_cat_z, m_cat_rv, m_cat_l, m_o_n, m_o_i, m_o_r, m_o_z, m_o_rv, m_o_f, hs_n, hs_k, hs_l, f_k_135 I, n_135 I, Nat.reduceLeDiff, not_false_eq_true, or_true, true_or, or_false, false_or, hka, hla, hxa, hna, h5]; first | done | omega) | exact Or.inl rfl | exact Or.inr rfl) only [k_216_60, w_iconst, w_aload_1, w_aloadz_1, w_aloadv_1, w_iaload, w_script, w_imul, w_iadd, w_istore_5, m_o_n, m_o_i, m_o_r, m_o_z, m_o_rv, m_o_f, w_iload_5, w_iastore, w_iload_2, w_iload_3, w_iload_4, w_dup2, w_vret, tg_216_21, tg_216_53, tg_216_60, m_C_inl, Option.toList_some, Option.toList_none, List.cons_append, List.nil_append, w_icmp_eq, w_if_eq, hs_n, hs_k, hs_l, hs_R, hs_I, hs_L, hs_setI, hs_setL, hs_cpy, f_k_135 I, n_135 I, up_up, up_sw, up_sa, i_add, i_sub, i_mul, i_tn, i_nat, Int.reduceToNat, Int.reduceAdd, Int.reduceSub, Int.reduceMul, Int.reduceNeg, l_32, l_nat, l_c_lt, l_c_gt, l_c_eq, i_lt, i_eq, i_lt0, i_0lt, i_eq0, i_eq1, Int.reduceLT, Int.reduceEq, Int.reduceLE, Int.reduceNe, not_true_eq_false, not_false_eq_true, Nat.lt_irrefl, Int.lt_irrefl, eq_self, eq_self, Nat.reduceAdd, Nat.reduceMul, Nat.reduceSub, Nat.reduceDiv, Nat.reduceMod, Nat.reduceEqDiff, Nat.reduceLeDiff, Nat.reduceLT, Nat.zero_add, Nat.add_zero, Nat.zero_le, and_false, and_true, and_self, false_and, true_and, or_false, or_true, if_true, if_false, ite_true, ite_false, ↓reduceIte, Int.reduceToNat, Int.reduceAdd, Int.reduceSub, Int.reduceMul, Int.reduceNeg, up_eq, up_na, up_nk]
  refine hQ _ (by intro x y z1 z2 z3; simp (disch := omega) only [up_na, up_no]) ?_
  unfold sp_ad
  simp (disch := omega) only [up_row, up_ro, u1_n, u1_e, u1_uu, u1_sw, if_pos, if_neg, and_true, true_and, and_self, if_true, if_false]
set_option maxHeartbeats 4000000 in
theorem vL_216 {L : Nat} {xs : Nat → Int32} {d : Nat} {h : m_H} {w : Int64} {F0 : m_M} {Q : Option Value ⊕ Nat → m_H → Prop} (I : RF h) {a : Nat} (ha : a = 147 ∨ a = 148) {ev dr q : Int} {s : sp_R} (h2 : s 2 = 200) (hQ : ∀ F' : m_M, sp_f a F0 F' → F' a = sp_ad (sp_sh s) ev dr q → Q (.inl none) (m_hS h (w, F'))) : ∀ (n : Nat) (F : m_M) (i : Int), sp_f a F0 F → F a = sp_shi s i → 4 ≤ i → i ≤ 800 → 800 - i ≤ n → m_W (p_P L xs) d 216 k_216_21 [some (.ref 135), some (.ref a), some (.int (Int32.ofInt ev)), some (.int (Int32.ofInt dr)), some (.int (Int32.ofInt q)), some (.int (Int32.ofInt i))] [] (m_hS h (w, F)) Q := by
  have hka := ra_k I ha
  have hla := ra_l I ha
  have hna := ra_n I ha
  have hxa := ra_x ha
  have ne135 : ¬ 135 = a := by omega
  have ne136 : ¬ 136 = a := by omega
  have ne144 : ¬ 144 = a := by omega
  have ne153 : ¬ 153 = a := by omega
  have na135 : ¬ a = 135 := by omega
  have na153 : ¬ a = 153 := by omega
  have fin : ∀ F : m_M, sp_f a F0 F → F a = sp_shi s 800 → m_W (p_P L xs) d 216 k_216_53 [some (.ref 135), some (.ref a), some (.int (Int32.ofInt ev)), some (.int (Int32.ofInt dr)), some (.int (Int32.ofInt q)), some (.int (Int32.ofInt 800))] [] (m_hS h (w, F)) Q := by
    intro F f0 hr
    have hc : F a 2 = 200 := by rw [hr, ← h2]; exact if_neg (by omega)
    rw [k_216_53]
    simp (disch := first | omega | (simp (disch := omega) only [i_lt0, i_tn, i_nn, m_cat_n, m_cat_i, m_cat_r, m_cat_z, m_cat_rv, m_cat_l, m_o_n, m_o_i, m_o_r, m_o_z, m_o_rv, m_o_f, hs_n, hs_k, hs_l, f_k_135 I, n_135 I, Nat.reduceLeDiff, not_false_eq_true, or_true, true_or, or_false, false_or, hka, hla, hxa, hna]; first | done | omega) | exact Or.inl rfl | exact Or.inr rfl) only [k_216_53, w_aload_1, w_aloadz_1, w_aloadv_1, w_iconst, w_dup2, w_iaload, w_script, w_isub, w_iastore, tg_216_21, tg_216_53, tg_216_60, m_C_inl, Option.toList_some, Option.toList_none, List.cons_append, List.nil_append, w_icmp_eq, w_if_eq, hs_n, hs_k, hs_l, hs_R, hs_I, hs_L, hs_setI, hs_setL, hs_cpy, f_k_135 I, n_135 I, up_up, up_sw, up_sa, i_add, i_sub, i_mul, i_tn, i_nat, Int.reduceToNat, Int.reduceAdd, Int.reduceSub, Int.reduceMul, Int.reduceNeg, l_32, l_nat, l_c_lt, l_c_gt, l_c_eq, i_lt, i_eq, i_lt0, i_0lt, i_eq0, i_eq1, Int.reduceLT, Int.reduceEq, Int.reduceLE, Int.reduceNe, not_true_eq_false, not_false_eq_true, Nat.lt_irrefl, Int.lt_irrefl, eq_self, eq_self, Nat.reduceAdd, Nat.reduceMul, Nat.reduceSub, Nat.reduceDiv, Nat.reduceMod, Nat.reduceEqDiff, Nat.reduceLeDiff, Nat.reduceLT, Nat.zero_add, Nat.add_zero, Nat.zero_le, and_false, and_true, and_self, false_and, true_and, or_false, or_true, if_true, if_false, ite_true, ite_false, ↓reduceIte, Int.reduceToNat, Int.reduceAdd, Int.reduceSub, Int.reduceMul, Int.reduceNeg, up_eq, up_na, up_nk, hc]
    refine vE_216 I ha (by simp (disch := omega) only [up_eq]; decide) rfl (fun F1 f1 r1 => hQ F1 (sf_tr f0 (sf_tr (by intro x y z1 z2 z3; simp (disch := omega) only [up_na, up_no]) f1)) ?_)
    rw [r1]
    simp (disch := omega) only [up_row, up_ro, u1_n, u1_e, u1_uu, u1_sw, if_pos, if_neg, and_true, true_and, and_self, if_true, if_false]
    rw [hr, shi_e]
  intro n
  induction n with
  | zero =>
    intro F i f0 hr h0 h1 h2
    have e : ¬ i < 800 := by omega
    rw [k_216_21]
    simp (disch := first | omega | (simp (disch := omega) only [i_lt0, i_tn, i_nn, m_cat_n, m_cat_i, m_cat_r, m_cat_z, m_cat_rv, m_cat_l, m_o_n, m_o_i, m_o_r, m_o_z, m_o_rv, m_o_f, hs_n, hs_k, hs_l, f_k_135 I, n_135 I, Nat.reduceLeDiff, not_false_eq_true, or_true, true_or, or_false, false_or, hka, hla, hxa, hna]; first | done | omega) | exact Or.inl rfl | exact Or.inr rfl) only [k_216_21, w_iload_5, w_iconst, w_icmp_ge, w_aload_1, w_aloadz_1, w_aloadv_1, w_iadd, w_isub, w_iaload, w_script, w_iastore, w_iinc_5, m_o_n, m_o_i, m_o_r, m_o_z, m_o_rv, m_o_f, w_goto, tg_216_21, tg_216_53, tg_216_60, m_C_inl, Option.toList_some, Option.toList_none, List.cons_append, List.nil_append, w_icmp_eq, w_if_eq, hs_n, hs_k, hs_l, hs_R, hs_I, hs_L, hs_setI, hs_setL, hs_cpy, f_k_135 I, n_135 I, up_up, up_sw, up_sa, i_add, i_sub, i_mul, i_tn, i_nat, Int.reduceToNat, Int.reduceAdd, Int.reduceSub, Int.reduceMul, Int.reduceNeg, l_32, l_nat, l_c_lt, l_c_gt, l_c_eq, i_lt, i_eq, i_lt0, i_0lt, i_eq0, i_eq1, Int.reduceLT, Int.reduceEq, Int.reduceLE, Int.reduceNe, not_true_eq_false, not_false_eq_true, Nat.lt_irrefl, Int.lt_irrefl, eq_self, eq_self, Nat.reduceAdd, Nat.reduceMul, Nat.reduceSub, Nat.reduceDiv, Nat.reduceMod, Nat.reduceEqDiff, Nat.reduceLeDiff, Nat.reduceLT, Nat.zero_add, Nat.add_zero, Nat.zero_le, and_false, and_true, and_self, false_and, true_and, or_false, or_true, if_true, if_false, ite_true, ite_false, ↓reduceIte, Int.reduceToNat, Int.reduceAdd, Int.reduceSub, Int.reduceMul, Int.reduceNeg, up_eq, up_na, up_nk, e]
    obtain rfl : i = 800 := by omega
    exact fin F f0 hr
  | succ n ih =>
    intro F i f0 hr h0 h1 h2
    by_cases e : i < 800
    · rw [k_216_21]
      simp (disch := first | omega | (simp (disch := omega) only [i_lt0, i_tn, i_nn, m_cat_n, m_cat_i, m_cat_r, m_cat_z, m_cat_rv, m_cat_l, m_o_n, m_o_i, m_o_r, m_o_z, m_o_rv, m_o_f, hs_n, hs_k, hs_l, f_k_135 I, n_135 I, Nat.reduceLeDiff, not_false_eq_true, or_true, true_or, or_false, false_or, hka, hla, hxa, hna]; first | done | omega) | exact Or.inl rfl | exact Or.inr rfl) only [w_iload_5, w_iconst, w_icmp_ge, w_aload_1, w_aloadz_1, w_aloadv_1, w_iadd, w_isub, w_iaload, w_script, w_iastore, w_iinc_5, m_o_n, m_o_i, m_o_r, m_o_z, m_o_rv, m_o_f, w_goto, tg_216_21, tg_216_53, tg_216_60, m_C_inl, Option.toList_some, Option.toList_none, List.cons_append, List.nil_append, w_icmp_eq, w_if_eq, hs_n, hs_k, hs_l, hs_R, hs_I, hs_L, hs_setI, hs_setL, hs_cpy, f_k_135 I, n_135 I, up_up, up_sw, up_sa, i_add, i_sub, i_mul, i_tn, i_nat, Int.reduceToNat, Int.reduceAdd, Int.reduceSub, Int.reduceMul, Int.reduceNeg, l_32, l_nat, l_c_lt, l_c_gt, l_c_eq, i_lt, i_eq, i_lt0, i_0lt, i_eq0, i_eq1, Int.reduceLT, Int.reduceEq, Int.reduceLE, Int.reduceNe, not_true_eq_false, not_false_eq_true, Nat.lt_irrefl, Int.lt_irrefl, eq_self, eq_self, Nat.reduceAdd, Nat.reduceMul, Nat.reduceSub, Nat.reduceDiv, Nat.reduceMod, Nat.reduceEqDiff, Nat.reduceLeDiff, Nat.reduceLT, Nat.zero_add, Nat.add_zero, Nat.zero_le, and_false, and_true, and_self, false_and, true_and, or_false, or_true, if_true, if_false, ite_true, ite_false, ↓reduceIte, Int.reduceToNat, Int.reduceAdd, Int.reduceSub, Int.reduceMul, Int.reduceNeg, up_eq, up_na, up_nk, e]
      refine ih _ (i + 1) (sf_tr f0 (by intro x y z1 z2 z3; simp (disch := omega) only [up_na, up_no])) ?_ (by omega) (by omega) (by omega)
      simp (disch := omega) only [up_row, up_ro, u1_n, u1_e, u1_uu, u1_sw, if_pos, if_neg, and_true, true_and, and_self, if_true, if_false]
      rw [hr, ← shi_s h0 (1592 + i - 4).toNat (by omega), show (1592 + i).toNat = (1592 + i - 4).toNat + 4 by omega]
    · rw [k_216_21]
      simp (disch := first | omega | (simp (disch := omega) only [i_lt0, i_tn, i_nn, m_cat_n, m_cat_i, m_cat_r, m_cat_z, m_cat_rv, m_cat_l, m_o_n, m_o_i, m_o_r, m_o_z, m_o_rv, m_o_f, hs_n, hs_k, hs_l, f_k_135 I, n_135 I, Nat.reduceLeDiff, not_false_eq_true, or_true, true_or, or_false, false_or, hka, hla, hxa, hna]; first | done | omega) | exact Or.inl rfl | exact Or.inr rfl) only [k_216_21, w_iload_5, w_iconst, w_icmp_ge, w_aload_1, w_aloadz_1, w_aloadv_1, w_iadd, w_isub, w_iaload, w_script, w_iastore, w_iinc_5, m_o_n, m_o_i, m_o_r, m_o_z, m_o_rv, m_o_f, w_goto, tg_216_21, tg_216_53, tg_216_60, m_C_inl, Option.toList_some, Option.toList_none, List.cons_append, List.nil_append, w_icmp_eq, w_if_eq, hs_n, hs_k, hs_l, hs_R, hs_I, hs_L, hs_setI, hs_setL, hs_cpy, f_k_135 I, n_135 I, up_up, up_sw, up_sa, i_add, i_sub, i_mul, i_tn, i_nat, Int.reduceToNat, Int.reduceAdd, Int.reduceSub, Int.reduceMul, Int.reduceNeg, l_32, l_nat, l_c_lt, l_c_gt, l_c_eq, i_lt, i_eq, i_lt0, i_0lt, i_eq0, i_eq1, Int.reduceLT, Int.reduceEq, Int.reduceLE, Int.reduceNe, not_true_eq_false, not_false_eq_true, Nat.lt_irrefl, Int.lt_irrefl, eq_self, eq_self, Nat.reduceAdd, Nat.reduceMul, Nat.reduceSub, Nat.reduceDiv, Nat.reduceMod, Nat.reduceEqDiff, Nat.reduceLeDiff, Nat.reduceLT, Nat.zero_add, Nat.add_zero, Nat.zero_le, and_false, and_true, and_self, false_and, true_and, or_false, or_true, if_true, if_false, ite_true, ite_false, ↓reduceIte, Int.reduceToNat, Int.reduceAdd, Int.reduceSub, Int.reduceMul, Int.reduceNeg, up_eq, up_na, up_nk, e]
      obtain rfl : i = 800 := by omega
      exact fin F f0 hr
set_option maxHeartbeats 4000000 in
/-- notes -/
theorem v_216 {L : Nat} {xs : Nat → Int32} {d : Nat} {h : m_H} {w : Int64} {F : m_M} {Q : Option Value ⊕ Nat → m_H → Prop} (I : RF h) {a : Nat} (ha : a = 147 ∨ a = 148) {G : tx_G} {D : Nat} {ev dr q : Int} (v0 : 0 ≤ ev) (v8 : ev ≤ 8) (hI : sp_I G D (F a)) (hQ : ∀ F' : m_M, sp_f a F F' → F' a = sp_no (F a) ev dr q → Q (.inl none) (m_hS h (w, F'))) : m_W (p_P L xs) d 216 k_216_0 [some (.ref 135), some (.ref a), some (.int (Int32.ofInt ev)), some (.int (Int32.ofInt dr)), some (.int (Int32.ofInt q)), none] [] (m_hS h (w, F)) Q := by
  have hka := ra_k I ha
  have hla := ra_l I ha
  have hna := ra_n I ha
  have hxa := ra_x ha
  have ne135 : ¬ 135 = a := by omega
  have ne136 : ¬ 136 = a := by omega
  have ne144 : ¬ 144 = a := by omega
  have ne153 : ¬ 153 = a := by omega
  have na135 : ¬ a = 135 := by omega
  have na153 : ¬ a = 153 := by omega
  have hnn := I_n hI
  rw [k_216_0]
  by_cases e : F a 2 = 200
  · simp (disch := first | omega | (simp (disch := omega) only [i_lt0, i_tn, i_nn, m_cat_n, m_cat_i, m_cat_r, m_cat_z, m_cat_rv, m_cat_l, m_o_n, m_o_i, m_o_r, m_o_z, m_o_rv, m_o_f, hs_n, hs_k, hs_l, f_k_135 I, n_135 I, Nat.reduceLeDiff, not_false_eq_true, or_true, true_or, or_false, false_or, hka, hla, hxa, hna]; first | done | omega) | exact Or.inl rfl | exact Or.inr rfl) only [k_216_0, w_aload_1, w_aloadz_1, w_aloadv_1, w_iconst, w_iload_2, w_iadd, w_dup2, w_iaload, w_script, w_iastore, w_icmp_ne, w_istore_5, m_o_n, m_o_i, m_o_r, m_o_z, m_o_rv, m_o_f, tg_216_21, tg_216_53, tg_216_60, m_C_inl, Option.toList_some, Option.toList_none, List.cons_append, List.nil_append, w_icmp_eq, w_if_eq, hs_n, hs_k, hs_l, hs_R, hs_I, hs_L, hs_setI, hs_setL, hs_cpy, f_k_135 I, n_135 I, up_up, up_sw, up_sa, i_add, i_sub, i_mul, i_tn, i_nat, Int.reduceToNat, Int.reduceAdd, Int.reduceSub, Int.reduceMul, Int.reduceNeg, l_32, l_nat, l_c_lt, l_c_gt, l_c_eq, i_lt, i_eq, i_lt0, i_0lt, i_eq0, i_eq1, Int.reduceLT, Int.reduceEq, Int.reduceLE, Int.reduceNe, not_true_eq_false, not_false_eq_true, Nat.lt_irrefl, Int.lt_irrefl, eq_self, eq_self, Nat.reduceAdd, Nat.reduceMul, Nat.reduceSub, Nat.reduceDiv, Nat.reduceMod, Nat.reduceEqDiff, Nat.reduceLeDiff, Nat.reduceLT, Nat.zero_add, Nat.add_zero, Nat.zero_le, and_false, and_true, and_self, false_and, true_and, or_false, or_true, if_true, if_false, ite_true, ite_false, ↓reduceIte, Int.reduceToNat, Int.reduceAdd, Int.reduceSub, Int.reduceMul, Int.reduceNeg, up_eq, up_na, up_nk, e]
    refine vL_216 (F0 := F) (s := sp_ct (F a) ev) I ha ?_ (fun F1 f1 r1 => hQ F1 f1 ?_) 800 _ 4 (by intro x y z1 z2 z3; simp (disch := omega) only [up_na, up_no]) ?_ (by omega) (by omega) (by omega)
    · unfold sp_ct
      rw [u1_n (by omega)]
      exact e
    · unfold sp_no
      rw [if_pos e]
      exact r1
    · rw [shi_0]
      unfold sp_ct
      simp (disch := omega) only [up_row, up_ro, u1_n, u1_e, u1_uu, u1_sw, if_pos, if_neg, and_true, true_and, and_self, if_true, if_false]
  · simp (disch := first | omega | (simp (disch := omega) only [i_lt0, i_tn, i_nn, m_cat_n, m_cat_i, m_cat_r, m_cat_z, m_cat_rv, m_cat_l, m_o_n, m_o_i, m_o_r, m_o_z, m_o_rv, m_o_f, hs_n, hs_k, hs_l, f_k_135 I, n_135 I, Nat.reduceLeDiff, not_false_eq_true, or_true, true_or, or_false, false_or, hka, hla, hxa, hna]; first | done | omega) | exact Or.inl rfl | exact Or.inr rfl) only [k_216_0, w_aload_1, w_aloadz_1, w_aloadv_1, w_iconst, w_iload_2, w_iadd, w_dup2, w_iaload, w_script, w_iastore, w_icmp_ne, w_istore_5, m_o_n, m_o_i, m_o_r, m_o_z, m_o_rv, m_o_f, tg_216_21, tg_216_53, tg_216_60, m_C_inl, Option.toList_some, Option.toList_none, List.cons_append, List.nil_append, w_icmp_eq, w_if_eq, hs_n, hs_k, hs_l, hs_R, hs_I, hs_L, hs_setI, hs_setL, hs_cpy, f_k_135 I, n_135 I, up_up, up_sw, up_sa, i_add, i_sub, i_mul, i_tn, i_nat, Int.reduceToNat, Int.reduceAdd, Int.reduceSub, Int.reduceMul, Int.reduceNeg, l_32, l_nat, l_c_lt, l_c_gt, l_c_eq, i_lt, i_eq, i_lt0, i_0lt, i_eq0, i_eq1, Int.reduceLT, Int.reduceEq, Int.reduceLE, Int.reduceNe, not_true_eq_false, not_false_eq_true, Nat.lt_irrefl, Int.lt_irrefl, eq_self, eq_self, Nat.reduceAdd, Nat.reduceMul, Nat.reduceSub, Nat.reduceDiv, Nat.reduceMod, Nat.reduceEqDiff, Nat.reduceLeDiff, Nat.reduceLT, Nat.zero_add, Nat.add_zero, Nat.zero_le, and_false, and_true, and_self, false_and, true_and, or_false, or_true, if_true, if_false, ite_true, ite_false, ↓reduceIte, Int.reduceToNat, Int.reduceAdd, Int.reduceSub, Int.reduceMul, Int.reduceNeg, up_eq, up_na, up_nk, e]
    refine vE_216 I ha (by simp (disch := omega) only [up_nk]; omega) rfl (fun F1 f1 r1 => hQ F1 (sf_tr (by intro x y z1 z2 z3; simp (disch := omega) only [up_na, up_no]) f1) ?_)
    rw [r1]
    unfold sp_no sp_ct
    simp (disch := omega) only [up_row, up_ro, u1_n, u1_e, u1_uu, u1_sw, if_pos, if_neg, and_true, true_and, and_self, if_true, if_false]
def sp_cpi (s : sp_R) (dr i : Int) : sp_R := fun j => if 96 + 4 * dr ≤ j ∧ (j : Int) < 96 + 4 * dr + i then s (j - 16) else s j
theorem cpi_s {s : sp_R} {dr i : Int} (d0 : 0 ≤ dr) (h0 : 0 ≤ i) (h4 : i < 4) (d4 : dr < 4) : tx_u1 (sp_cpi s dr i) (96 + 4 * dr + i).toNat (sp_cpi s dr i (80 + 4 * dr + i).toNat) = sp_cpi s dr (i + 1) := by
  funext j
  unfold tx_u1 sp_cpi
  by_cases e : j = (96 + 4 * dr + i).toNat
  · rw [if_pos e, if_neg (by omega), if_pos (by omega), show j - 16 = (80 + 4 * dr + i).toNat by omega]
  · rw [if_neg e]
    by_cases c : 96 + 4 * dr ≤ j ∧ (j : Int) < 96 + 4 * dr + i
    · rw [if_pos c, if_pos (by omega)]
    · rw [if_neg c, if_neg (by omega)]
theorem cpi_0 {s : sp_R} {dr : Int} : sp_cpi s dr 0 = s := by
  funext j
  exact if_neg (by omega)
theorem cpi_4 {s : sp_R} {dr : Int} : sp_cpi s dr 4 = sp_cp s dr := by
  funext j
  unfold sp_cpi sp_cp
  by_cases c : 96 + 4 * dr ≤ j ∧ (j : Int) < 96 + 4 * dr + 4
  · rw [if_pos c, if_pos (by omega)]
  · rw [if_neg c, if_neg (by omega)]
theorem I_cp {G : tx_G} {D : Nat} {s : sp_R} {dr : Int} (d0 : 0 ≤ dr) (d4 : dr < 4) (hI : sp_I G D s) : sp_I G D (sp_cp s dr) := I_cg (fun j hj => if_neg (by unfold q_cr at hj; omega)) hI
theorem I_sn {G : tx_G} {D : Nat} {s : sp_R} {dr : Int} (d0 : 0 ≤ dr) (d4 : dr < 4) (hD : D = 4 ∨ D = dr.toNat) (hI : sp_I G D s) : sp_I G 4 (sp_sn s dr) ∧ sp_sn s dr 1 = s 1 := by
  unfold sp_sn
  have := I_no (ev := 6) (dr := dr) (q := -1) (by decide) (by decide) (I_l0 (j := (44 + dr).toNat) (by omega) (by omega) (by omega) (I_cp d0 d4 hI))
  refine ⟨this.1, this.2.trans ?_⟩
  rw [u1_n (by omega)]
  exact if_neg (by omega)
set_option maxHeartbeats 4000000 in
theorem vL_218 {L : Nat} {xs : Nat → Int32} {d : Nat} {h : m_H} {w : Int64} {F0 : m_M} {Q : Option Value ⊕ Nat → m_H → Prop} (I : RF h) {a : Nat} (ha : a = 147 ∨ a = 148) {G : tx_G} {D : Nat} {dr : Int} (d0 : 0 ≤ dr) (d4 : dr < 4) (hD : D = 4 ∨ D = dr.toNat) {s : sp_R} (hI : sp_I G D s) (hQ : ∀ F' : m_M, sp_f a F0 F' → F' a = sp_sn s dr → Q (.inl none) (m_hS h (w, F'))) : ∀ (n : Nat) (F : m_M) (i : Int), sp_f a F0 F → F a = sp_cpi s dr i → 0 ≤ i → i ≤ 4 → 4 - i ≤ n → m_W (p_P L xs) (d + 1) 218 k_218_2 [some (.ref 135), some (.ref a), some (.int (Int32.ofInt dr)), some (.int (Int32.ofInt i))] [] (m_hS h (w, F)) Q := by
  have hka := ra_k I ha
  have hla := ra_l I ha
  have hna := ra_n I ha
  have hxa := ra_x ha
  have ne135 : ¬ 135 = a := by omega
  have ne136 : ¬ 136 = a := by omega
  have ne144 : ¬ 144 = a := by omega
  have ne153 : ¬ 153 = a := by omega
  have na135 : ¬ a = 135 := by omega
  have na153 : ¬ a = 153 := by omega
  have fin : ∀ F : m_M, sp_f a F0 F → F a = sp_cpi s dr 4 → m_W (p_P L xs) (d + 1) 218 k_218_33 [some (.ref 135), some (.ref a), some (.int (Int32.ofInt dr)), some (.int (Int32.ofInt 4))] [] (m_hS h (w, F)) Q := by
    intro F f0 hr
    rw [cpi_4] at hr
    rw [k_218_33]
    simp (disch := first | omega | (simp (disch := omega) only [i_lt0, i_tn, i_nn, m_cat_n, m_cat_i, m_cat_r, m_cat_z, m_cat_rv, m_cat_l, m_o_n, m_o_i, m_o_r, m_o_z, m_o_rv, m_o_f, hs_n, hs_k, hs_l, f_k_135 I, n_135 I, Nat.reduceLeDiff, not_false_eq_true, or_true, true_or, or_false, false_or, hka, hla, hxa, hna]; first | done | omega) | exact Or.inl rfl | exact Or.inr rfl) only [k_218_33, w_aload_1, w_aloadz_1, w_aloadv_1, w_iconst, w_iload_2, w_iadd, w_iastore, w_aload_0, w_aloadz_0, w_aloadv_0, m_cat_n, m_cat_i, m_cat_r, m_cat_z, m_cat_rv, m_cat_l, Nat.zero_le, Nat.reduceLeDiff, Nat.reduceAdd, m_o_i, m_o_r, m_o_z, m_o_rv, m_C_inl, Option.toList_some, Option.toList_none, List.cons_append, List.nil_append, w_vret, tg_218_2, tg_218_33, w_icmp_eq, w_if_eq, hs_n, hs_k, hs_l, hs_R, hs_I, hs_L, hs_setI, hs_setL, hs_cpy, f_k_135 I, n_135 I, up_up, up_sw, up_sa, i_add, i_sub, i_mul, i_tn, i_nat, Int.reduceToNat, Int.reduceAdd, Int.reduceSub, Int.reduceMul, Int.reduceNeg, l_32, l_nat, l_c_lt, l_c_gt, l_c_eq, i_lt, i_eq, i_lt0, i_0lt, i_eq0, i_eq1, Int.reduceLT, Int.reduceEq, Int.reduceLE, Int.reduceNe, not_true_eq_false, not_false_eq_true, Nat.lt_irrefl, Int.lt_irrefl, eq_self, eq_self, Nat.reduceAdd, Nat.reduceMul, Nat.reduceSub, Nat.reduceDiv, Nat.reduceMod, Nat.reduceEqDiff, Nat.reduceLeDiff, Nat.reduceLT, Nat.zero_add, Nat.add_zero, Nat.zero_le, and_false, and_true, and_self, false_and, true_and, or_false, or_true, if_true, if_false, ite_true, ite_false, ↓reduceIte, Int.reduceToNat, Int.reduceAdd, Int.reduceSub, Int.reduceMul, Int.reduceNeg, up_eq, up_na, up_nk]
    simp (disch := first | omega | (simp (disch := omega) only [i_lt0, i_tn, i_nn, m_cat_n, m_cat_i, m_cat_r, m_cat_z, m_cat_rv, m_cat_l, m_o_n, m_o_i, m_o_r, m_o_z, m_o_rv, m_o_f, hs_n, hs_k, hs_l, f_k_135 I, n_135 I, Nat.reduceLeDiff, not_false_eq_true, or_true, true_or, or_false, false_or]; first | done | omega) | exact Or.inl rfl | exact Or.inr rfl) only [cl_216, m_cat_n, m_cat_i, m_cat_r, m_cat_z, m_cat_rv, m_cat_l, Nat.zero_le, Nat.reduceLeDiff, Nat.reduceAdd, m_o_i, m_o_r, m_o_z, m_o_rv, hs_n, hs_k, f_k_135 I, n_135 I, hna, hka]
    have hI2 := I_l0 (j := (44 + dr).toNat) (by omega) (by omega) (by omega) (I_cp d0 d4 hI)
    refine v_216 (G := G) (D := 4) I ha (by omega) (by omega) ?_ (fun F1 f1 r1 => ?_)
    · simp (disch := omega) only [up_row, up_ro, u1_n, u1_e, u1_uu, u1_sw, if_pos, if_neg, and_true, true_and, and_self, if_true, if_false]
      rw [hr]
      exact hI2
    · simp (disch := first | omega | (simp (disch := omega) only [i_lt0, i_tn, i_nn, m_cat_n, m_cat_i, m_cat_r, m_cat_z, m_cat_rv, m_cat_l, m_o_n, m_o_i, m_o_r, m_o_z, m_o_rv, m_o_f, hs_n, hs_k, hs_l, f_k_135 I, n_135 I, Nat.reduceLeDiff, not_false_eq_true, or_true, true_or, or_false, false_or, hka, hla, hxa, hna]; first | done | omega) | exact Or.inl rfl | exact Or.inr rfl) only [w_aload_1, w_aloadz_1, w_aloadv_1, w_iconst, w_iload_2, w_iadd, w_iastore, w_aload_0, w_aloadz_0, w_aloadv_0, m_cat_n, m_cat_i, m_cat_r, m_cat_z, m_cat_rv, m_cat_l, Nat.zero_le, Nat.reduceLeDiff, Nat.reduceAdd, m_o_i, m_o_r, m_o_z, m_o_rv, m_C_inl, Option.toList_some, Option.toList_none, List.cons_append, List.nil_append, w_vret, tg_218_2, tg_218_33, w_icmp_eq, w_if_eq, hs_n, hs_k, hs_l, hs_R, hs_I, hs_L, hs_setI, hs_setL, hs_cpy, f_k_135 I, n_135 I, up_up, up_sw, up_sa, i_add, i_sub, i_mul, i_tn, i_nat, Int.reduceToNat, Int.reduceAdd, Int.reduceSub, Int.reduceMul, Int.reduceNeg, l_32, l_nat, l_c_lt, l_c_gt, l_c_eq, i_lt, i_eq, i_lt0, i_0lt, i_eq0, i_eq1, Int.reduceLT, Int.reduceEq, Int.reduceLE, Int.reduceNe, not_true_eq_false, not_false_eq_true, Nat.lt_irrefl, Int.lt_irrefl, eq_self, eq_self, Nat.reduceAdd, Nat.reduceMul, Nat.reduceSub, Nat.reduceDiv, Nat.reduceMod, Nat.reduceEqDiff, Nat.reduceLeDiff, Nat.reduceLT, Nat.zero_add, Nat.add_zero, Nat.zero_le, and_false, and_true, and_self, false_and, true_and, or_false, or_true, if_true, if_false, ite_true, ite_false, ↓reduceIte, Int.reduceToNat, Int.reduceAdd, Int.reduceSub, Int.reduceMul, Int.reduceNeg, up_eq, up_na, up_nk]
      refine hQ F1 (sf_tr f0 (sf_tr (by intro x y z1 z2 z3; simp (disch := omega) only [up_na, up_no]) f1)) ?_
      rw [r1]
      unfold sp_sn
      simp (disch := omega) only [up_row, up_ro, u1_n, u1_e, u1_uu, u1_sw, if_pos, if_neg, and_true, true_and, and_self, if_true, if_false]
      rw [hr]
  intro n
  induction n with
  | zero =>
    intro F i f0 hr h0 h1 h2
    have e : ¬ i < 4 := by omega
    rw [k_218_2]
    simp (disch := first | omega | (simp (disch := omega) only [i_lt0, i_tn, i_nn, m_cat_n, m_cat_i, m_cat_r, m_cat_z, m_cat_rv, m_cat_l, m_o_n, m_o_i, m_o_r, m_o_z, m_o_rv, m_o_f, hs_n, hs_k, hs_l, f_k_135 I, n_135 I, Nat.reduceLeDiff, not_false_eq_true, or_true, true_or, or_false, false_or, hka, hla, hxa, hna]; first | done | omega) | exact Or.inl rfl | exact Or.inr rfl) only [k_218_2, w_iload_3, w_iconst, w_icmp_ge, w_aload_1, w_aloadz_1, w_aloadv_1, w_iload_2, w_imul, w_iadd, w_iaload, w_script, w_iastore, w_iinc_3, m_o_n, m_o_i, m_o_r, m_o_z, m_o_rv, m_o_f, w_goto, tg_218_2, tg_218_33, m_C_inl, Option.toList_some, Option.toList_none, List.cons_append, List.nil_append, w_icmp_eq, w_if_eq, hs_n, hs_k, hs_l, hs_R, hs_I, hs_L, hs_setI, hs_setL, hs_cpy, f_k_135 I, n_135 I, up_up, up_sw, up_sa, i_add, i_sub, i_mul, i_tn, i_nat, Int.reduceToNat, Int.reduceAdd, Int.reduceSub, Int.reduceMul, Int.reduceNeg, l_32, l_nat, l_c_lt, l_c_gt, l_c_eq, i_lt, i_eq, i_lt0, i_0lt, i_eq0, i_eq1, Int.reduceLT, Int.reduceEq, Int.reduceLE, Int.reduceNe, not_true_eq_false, not_false_eq_true, Nat.lt_irrefl, Int.lt_irrefl, eq_self, eq_self, Nat.reduceAdd, Nat.reduceMul, Nat.reduceSub, Nat.reduceDiv, Nat.reduceMod, Nat.reduceEqDiff, Nat.reduceLeDiff, Nat.reduceLT, Nat.zero_add, Nat.add_zero, Nat.zero_le, and_false, and_true, and_self, false_and, true_and, or_false, or_true, if_true, if_false, ite_true, ite_false, ↓reduceIte, Int.reduceToNat, Int.reduceAdd, Int.reduceSub, Int.reduceMul, Int.reduceNeg, up_eq, up_na, up_nk, e]
    obtain rfl : i = 4 := by omega
    exact fin F f0 hr
  | succ n ih =>
    intro F i f0 hr h0 h1 h2
    by_cases e : i < 4
    · rw [k_218_2]
      simp (disch := first | omega | (simp (disch := omega) only [i_lt0, i_tn, i_nn, m_cat_n, m_cat_i, m_cat_r, m_cat_z, m_cat_rv, m_cat_l, m_o_n, m_o_i, m_o_r, m_o_z, m_o_rv, m_o_f, hs_n, hs_k, hs_l, f_k_135 I, n_135 I, Nat.reduceLeDiff, not_false_eq_true, or_true, true_or, or_false, false_or, hka, hla, hxa, hna]; first | done | omega) | exact Or.inl rfl | exact Or.inr rfl) only [w_iload_3, w_iconst, w_icmp_ge, w_aload_1, w_aloadz_1, w_aloadv_1, w_iload_2, w_imul, w_iadd, w_iaload, w_script, w_iastore, w_iinc_3, m_o_n, m_o_i, m_o_r, m_o_z, m_o_rv, m_o_f, w_goto, tg_218_2, tg_218_33, m_C_inl, Option.toList_some, Option.toList_none, List.cons_append, List.nil_append, w_icmp_eq, w_if_eq, hs_n, hs_k, hs_l, hs_R, hs_I, hs_L, hs_setI, hs_setL, hs_cpy, f_k_135 I, n_135 I, up_up, up_sw, up_sa, i_add, i_sub, i_mul, i_tn, i_nat, Int.reduceToNat, Int.reduceAdd, Int.reduceSub, Int.reduceMul, Int.reduceNeg, l_32, l_nat, l_c_lt, l_c_gt, l_c_eq, i_lt, i_eq, i_lt0, i_0lt, i_eq0, i_eq1, Int.reduceLT, Int.reduceEq, Int.reduceLE, Int.reduceNe, not_true_eq_false, not_false_eq_true, Nat.lt_irrefl, Int.lt_irrefl, eq_self, eq_self, Nat.reduceAdd, Nat.reduceMul, Nat.reduceSub, Nat.reduceDiv, Nat.reduceMod, Nat.reduceEqDiff, Nat.reduceLeDiff, Nat.reduceLT, Nat.zero_add, Nat.add_zero, Nat.zero_le, and_false, and_true, and_self, false_and, true_and, or_false, or_true, if_true, if_false, ite_true, ite_false, ↓reduceIte, Int.reduceToNat, Int.reduceAdd, Int.reduceSub, Int.reduceMul, Int.reduceNeg, up_eq, up_na, up_nk, e]
      refine ih _ (i + 1) (sf_tr f0 (by intro x y z1 z2 z3; simp (disch := omega) only [up_na, up_no])) ?_ (by omega) (by omega) (by omega)
      simp (disch := omega) only [up_row, up_ro, u1_n, u1_e, u1_uu, u1_sw, if_pos, if_neg, and_true, true_and, and_self, if_true, if_false]
      rw [hr, ← cpi_s d0 h0 e d4]
    · rw [k_218_2]
      simp (disch := first | omega | (simp (disch := omega) only [i_lt0, i_tn, i_nn, m_cat_n, m_cat_i, m_cat_r, m_cat_z, m_cat_rv, m_cat_l, m_o_n, m_o_i, m_o_r, m_o_z, m_o_rv, m_o_f, hs_n, hs_k, hs_l, f_k_135 I, n_135 I, Nat.reduceLeDiff, not_false_eq_true, or_true, true_or, or_false, false_or, hka, hla, hxa, hna]; first | done | omega) | exact Or.inl rfl | exact Or.inr rfl) only [k_218_2, w_iload_3, w_iconst, w_icmp_ge, w_aload_1, w_aloadz_1, w_aloadv_1, w_iload_2, w_imul, w_iadd, w_iaload, w_script, w_iastore, w_iinc_3, m_o_n, m_o_i, m_o_r, m_o_z, m_o_rv, m_o_f, w_goto, tg_218_2, tg_218_33, m_C_inl, Option.toList_some, Option.toList_none, List.cons_append, List.nil_append, w_icmp_eq, w_if_eq, hs_n, hs_k, hs_l, hs_R, hs_I, hs_L, hs_setI, hs_setL, hs_cpy, f_k_135 I, n_135 I, up_up, up_sw, up_sa, i_add, i_sub, i_mul, i_tn, i_nat, Int.reduceToNat, Int.reduceAdd, Int.reduceSub, Int.reduceMul, Int.reduceNeg, l_32, l_nat, l_c_lt, l_c_gt, l_c_eq, i_lt, i_eq, i_lt0, i_0lt, i_eq0, i_eq1, Int.reduceLT, Int.reduceEq, Int.reduceLE, Int.reduceNe, not_true_eq_false, not_false_eq_true, Nat.lt_irrefl, Int.lt_irrefl, eq_self, eq_self, Nat.reduceAdd, Nat.reduceMul, Nat.reduceSub, Nat.reduceDiv, Nat.reduceMod, Nat.reduceEqDiff, Nat.reduceLeDiff, Nat.reduceLT, Nat.zero_add, Nat.add_zero, Nat.zero_le, and_false, and_true, and_self, false_and, true_and, or_false, or_true, if_true, if_false, ite_true, ite_false, ↓reduceIte, Int.reduceToNat, Int.reduceAdd, Int.reduceSub, Int.reduceMul, Int.reduceNeg, up_eq, up_na, up_nk, e]
      obtain rfl : i = 4 := by omega
      exact fin F f0 hr
/-- snaps -/
theorem v_218 {L : Nat} {xs : Nat → Int32} {d : Nat} {h : m_H} {w : Int64} {F : m_M} {Q : Option Value ⊕ Nat → m_H → Prop} (I : RF h) {a : Nat} (ha : a = 147 ∨ a = 148) {G : tx_G} {D : Nat} {dr : Int} (d0 : 0 ≤ dr) (d4 : dr < 4) (hD : D = 4 ∨ D = dr.toNat) (hI : sp_I G D (F a)) (hQ : ∀ F' : m_M, sp_f a F F' → F' a = sp_sn (F a) dr → Q (.inl none) (m_hS h (w, F'))) : m_W (p_P L xs) (d + 1) 218 k_218_0 [some (.ref 135), some (.ref a), some (.int (Int32.ofInt dr)), none] [] (m_hS h (w, F)) Q := by
  rw [k_218_0]
  simp (disch := first | omega | (simp (disch := omega) only [i_lt0, i_tn, i_nn, m_cat_n, m_cat_i, m_cat_r, m_cat_z, m_cat_rv, m_cat_l, m_o_n, m_o_i, m_o_r, m_o_z, m_o_rv, m_o_f, hs_n, hs_k, hs_l, f_k_135 I, n_135 I, Nat.reduceLeDiff, not_false_eq_true, or_true, true_or, or_false, false_or]; first | done | omega) | exact Or.inl rfl | exact Or.inr rfl) only [k_218_0, w_iconst, w_istore_3, m_o_n, m_o_i, m_o_r, m_o_z, m_o_rv, m_o_f, tg_218_2, tg_218_33, m_C_inl, Option.toList_some, Option.toList_none, List.cons_append, List.nil_append, w_icmp_eq, w_if_eq, hs_n, hs_k, hs_l, hs_R, hs_I, hs_L, hs_setI, hs_setL, hs_cpy, f_k_135 I, n_135 I, up_up, up_sw, up_sa, up_if, i_add, i_sub, i_mul, i_tn, i_nat, Int.reduceToNat, Int.reduceAdd, Int.reduceSub, Int.reduceMul, Int.reduceNeg, l_32, l_nat, l_c_lt, l_c_gt, l_c_eq, i_lt, i_eq, i_lt0, i_0lt, i_eq0, i_eq1, Int.reduceLT, Int.reduceEq, Int.reduceLE, Int.reduceNe, not_true_eq_false, not_false_eq_true, Nat.lt_irrefl, Int.lt_irrefl, eq_self, eq_self, Nat.reduceAdd, Nat.reduceMul, Nat.reduceSub, Nat.reduceDiv, Nat.reduceMod, Nat.reduceEqDiff, Nat.reduceLeDiff, Nat.reduceLT, Nat.zero_add, Nat.add_zero, Nat.zero_le, and_false, and_true, and_self, false_and, true_and, or_false, or_true, if_true, if_false, ite_true, ite_false, ↓reduceIte, Int.reduceToNat, Int.reduceAdd, Int.reduceSub, Int.reduceMul, Int.reduceNeg]
  exact vL_218 I ha d0 d4 hD hI hQ 4 F 0 sf_rf cpi_0.symm (by omega) (by omega) (by omega)
