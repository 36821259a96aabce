/-! rows of the reference -/
theorem c_s (j : Nat) : ((j + 1 : Nat) : Int) = (j : Int) + 1 := by omega
theorem c_t (j : Nat) : ((j : Int)).toNat = j := by omega
theorem c_a (i j : Nat) : ((i : Int) + (j : Int)).toNat = i + j := by omega
theorem lp_158 {L : Nat} {xs : Nat → Int32} {d : Nat} {h : m_H} {Q : Option Value ⊕ Nat → m_H → Prop} {a H : Nat} (h1 : a < m_n h) (h2 : m_k h a = 100) (h3 : m_n h ≤ m_X) (h4 : H + H ≤ m_l h a) (h5 : m_l h a ≤ 60000000) : ∀ n j : Nat, j + n = H → m_W (p_P L xs) d 158 k_158_7 [some (.ref a), some (.int (Int32.ofInt H)), some (.int (Int32.ofInt j))] [] (m_cpy h a H a 0 j) Q = Q (.inl none) (m_cpy h a H a 0 H) := by
  intro n
  induction n with
  | zero =>
    intro j hj
    have e : j = H := by omega
    subst e
    rw [k_158_7]
    simp (disch := first | omega | (simp (disch := first | omega | (simp only [h_n_setI, h_n_setL, h_n_setD, h_n_setR, h_n_cpy, h_n_fill, h_n_mk, h_n_bump]; omega)) only [i_lt0, i_tn, i_nn, m_cat_n, m_cat_i, m_cat_r, m_cat_z, m_cat_rv, m_cat_l, m_o_n, m_o_i, m_o_r, m_o_z, m_o_rv, m_o_f, h_n_setI, h_n_setL, h_n_setD, h_n_setR, h_n_cpy, h_n_fill, h_n_mk, h_n_bump, h_k_setI, h_k_setL, h_k_setD, h_k_setR, h_k_cpy, h_k_fill, h_k_bump, h_l_setI, h_l_setL, h_l_setD, h_l_setR, h_l_cpy, h_l_fill, h_l_bump, hk_old, hk_new, hl_old, hl_new, h2]; first | done | omega)) only [k_158_0, tg_158_7, k_158_26, tg_158_26, w_aload_0, w_aloadz_0, w_aloadv_0, w_len, w_slen, w_iconst, w_idiv, w_istore_1, m_o_n, m_o_i, m_o_r, m_o_z, m_o_rv, m_o_f, w_istore_2, w_iload_2, w_iload_1, w_icmp_ge, w_iadd, w_iaload, w_script, w_iastore, w_iinc_2, w_goto, w_vret, h_n_setI, h_n_setL, h_n_setD, h_n_setR, h_n_cpy, h_n_fill, h_n_mk, h_n_bump, i_add, i_sub, i_mul, i_tn, i_nat, Int.reduceToNat, Int.reduceAdd, Int.reduceSub, Int.reduceMul, Int.reduceNeg, i_lt, Int.lt_irrefl, ↓reduceIte]
  | succ n ih =>
    intro j hj
    have e : (j : Int) < (H : Int) := by omega
    refine Eq.trans ?_ (ih (j + 1) (by omega))
    conv => lhs; rw [k_158_7]
    simp (disch := first | omega | (simp (disch := first | omega | (simp only [h_n_setI, h_n_setL, h_n_setD, h_n_setR, h_n_cpy, h_n_fill, h_n_mk, h_n_bump]; omega)) only [i_lt0, i_tn, i_nn, m_cat_n, m_cat_i, m_cat_r, m_cat_z, m_cat_rv, m_cat_l, m_o_n, m_o_i, m_o_r, m_o_z, m_o_rv, m_o_f, h_n_setI, h_n_setL, h_n_setD, h_n_setR, h_n_cpy, h_n_fill, h_n_mk, h_n_bump, h_k_setI, h_k_setL, h_k_setD, h_k_setR, h_k_cpy, h_k_fill, h_k_bump, h_l_setI, h_l_setL, h_l_setD, h_l_setR, h_l_cpy, h_l_fill, h_l_bump, hk_old, hk_new, hl_old, hl_new, h2]; first | done | omega)) only [k_158_0, tg_158_7, k_158_26, tg_158_26, w_aload_0, w_aloadz_0, w_aloadv_0, w_len, w_slen, w_iconst, w_idiv, w_istore_1, m_o_n, m_o_i, m_o_r, m_o_z, m_o_rv, m_o_f, w_istore_2, w_iload_2, w_iload_1, w_icmp_ge, w_iadd, w_iaload, w_script, w_iastore, w_iinc_2, w_goto, w_vret, h_n_setI, h_n_setL, h_n_setD, h_n_setR, h_n_cpy, h_n_fill, h_n_mk, h_n_bump, i_add, i_sub, i_mul, i_tn, i_nat, Int.reduceToNat, Int.reduceAdd, Int.reduceSub, Int.reduceMul, Int.reduceNeg, i_lt, e, ↓reduceIte, c_t, c_a]
    rw [m_cpy_s (by omega) rfl (Or.inr (by omega)), c_s]
theorem ct_158 {L : Nat} {xs : Nat → Int32} {d : Nat} {h : m_H} {Q : Option Value ⊕ Nat → m_H → Prop} {a : Nat} (h1 : a < m_n h) (h2 : m_k h a = 100) (h3 : m_n h ≤ m_X) {H : Nat} (h4 : m_l h a = H + H) (h5 : m_l h a ≤ 60000000) : m_W (p_P L xs) d 158 k_158_0 [some (.ref a), none, none] [] h Q = Q (.inl none) (m_cpy h a H a 0 H) := by
  have e : Int32.ofInt ((H + H : Nat) : Int) / Int32.ofInt 2 = Int32.ofInt (H : Int) := by
    apply Int32.toInt_inj.mp
    rw [Int32.toInt_div_of_ne_right _ _ (by decide), i_to (by omega) (by omega), i_to (by omega) (by omega), i_to (by omega) (by omega), Int.tdiv_eq_ediv_of_nonneg (by omega)]
    omega
  have e2 : ¬ Int32.ofInt 2 = 0 := by decide
  simp (disch := first | omega | (simp (disch := first | omega | (simp only [h_n_setI, h_n_setL, h_n_setD, h_n_setR, h_n_cpy, h_n_fill, h_n_mk, h_n_bump]; omega)) only [i_lt0, i_tn, i_nn, m_cat_n, m_cat_i, m_cat_r, m_cat_z, m_cat_rv, m_cat_l, m_o_n, m_o_i, m_o_r, m_o_z, m_o_rv, m_o_f, h_n_setI, h_n_setL, h_n_setD, h_n_setR, h_n_cpy, h_n_fill, h_n_mk, h_n_bump, h_k_setI, h_k_setL, h_k_setD, h_k_setR, h_k_cpy, h_k_fill, h_k_bump, h_l_setI, h_l_setL, h_l_setD, h_l_setR, h_l_cpy, h_l_fill, h_l_bump, hk_old, hk_new, hl_old, hl_new, h2, h4, e2]; first | done | omega)) only [k_158_0, tg_158_7, k_158_26, tg_158_26, w_aload_0, w_aloadz_0, w_aloadv_0, w_len, w_slen, w_iconst, w_idiv, w_istore_1, m_o_n, m_o_i, m_o_r, m_o_z, m_o_rv, m_o_f, w_istore_2, w_iload_2, w_iload_1, w_icmp_ge, w_iadd, w_iaload, w_script, w_iastore, w_iinc_2, w_goto, w_vret, h_n_setI, h_n_setL, h_n_setD, h_n_setR, h_n_cpy, h_n_fill, h_n_mk, h_n_bump, i_add, i_sub, i_mul, i_tn, i_nat, Int.reduceToNat, Int.reduceAdd, Int.reduceSub, Int.reduceMul, Int.reduceNeg, h4, e]
  have k := lp_158 (L := L) (xs := xs) (d := d) (Q := Q) h1 h2 h3 (H := H) (by omega) h5 H 0 (by omega)
  rw [m_cpy_0] at k
  exact k
