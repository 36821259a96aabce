/-! what comes next, what is late, what begins, exactly -/
section NX
variable {G : tx_G} {D : Nat} {s : sp_R} {B dr q y p : Int}
theorem nl_b : ∀ (f : Nat) (i b : Int), -1 ≤ b → b < s 1 → 0 ≤ i → i + f ≤ s 1 → -1 ≤ sp_nl s dr f i b ∧ sp_nl s dr f i b < s 1
  | 0, i, b, h1, h2, _, _ => ⟨h1, h2⟩
  | f + 1, i, b, h1, h2, h3, h4 => by
    show -1 ≤ sp_nl s dr f (i + 1) (if sp_o s i 0 = dr ∧ sp_o s i 6 = 0 ∧ (b = -1 ∨ sp_o s b 3 < sp_o s i 3) then i else b) ∧ sp_nl s dr f (i + 1) (if sp_o s i 0 = dr ∧ sp_o s i 6 = 0 ∧ (b = -1 ∨ sp_o s b 3 < sp_o s i 3) then i else b) < s 1
    split
    · exact nl_b f (i + 1) i (by omega) (by omega) (by omega) (by omega)
    · exact nl_b f (i + 1) b h1 h2 (by omega) (by omega)
theorem nx_b (hI : sp_I G D s) (d0 : 0 ≤ dr) (d4 : dr < 4) : -1 ≤ sp_nx s dr ∧ sp_nx s dr < s 1 := by
  have hn := I_n hI
  have hd := I_d hI d0 d4
  unfold sp_nx
  split
  · exact nl_b _ 0 (-1) (by decide) (by omega) (by decide) (by omega)
  · exact hd.1
theorem I_ll : ∀ (f : Nat) (i : Int) (s : sp_R) (B : Int), 0 ≤ i → i + f ≤ s 1 → sp_I G D s → sp_B B s → sp_I G D (sp_ll dr f i s) ∧ sp_ll dr f i s 1 = s 1 ∧ sp_B (B + 2 * f) (sp_ll dr f i s)
  | 0, i, s, B, _, _, hI, hB => ⟨hI, rfl, B_m (by omega) hB⟩
  | f + 1, i, s, B, i0, i1, hI, hB => by
    show sp_I G D (sp_ll dr f (i + 1) (if sp_o s i 0 = dr ∧ sp_o s i 6 = 0 ∧ 0 < sp_o s i 4 ∧ sp_o s i 4 ≤ s 0 - sp_o s i 5 then sp_bad s i 1 else s)) ∧ sp_ll dr f (i + 1) (if sp_o s i 0 = dr ∧ sp_o s i 6 = 0 ∧ 0 < sp_o s i 4 ∧ sp_o s i 4 ≤ s 0 - sp_o s i 5 then sp_bad s i 1 else s) 1 = s 1 ∧ sp_B (B + 2 * (f + 1 : Nat)) (sp_ll dr f (i + 1) (if sp_o s i 0 = dr ∧ sp_o s i 6 = 0 ∧ 0 < sp_o s i 4 ∧ sp_o s i 4 ≤ s 0 - sp_o s i 5 then sp_bad s i 1 else s))
    split
    · have a := I_bad (y := 1) hI i0 (by omega)
      have b := B_bad (y := 1) hI i0 (by omega) (by decide) hB
      have c := I_ll f (i + 1) _ _ (by omega) (by rw [a.2]; omega) a.1 b
      exact ⟨c.1, c.2.1.trans a.2, B_m (by omega) c.2.2⟩
    · have c := I_ll f (i + 1) s B (by omega) (by omega) hI hB
      exact ⟨c.1, c.2.1, B_m (by omega) c.2.2⟩
theorem I_la (hI : sp_I G D s) (hB : sp_B B s) : sp_I G D (sp_la s dr) ∧ sp_la s dr 1 = s 1 ∧ sp_B (B + 200) (sp_la s dr) := by
  have hn := I_n hI
  have c := I_ll (dr := dr) (s 1).toNat 0 s B (by decide) (by omega) hI hB
  exact ⟨c.1, c.2.1, B_m (by omega) c.2.2⟩
theorem I_be (gd : q_gd G) (hI : sp_I G D s) (d0 : 0 ≤ dr) (d4 : dr < 4) (hB : sp_B B s) : sp_I G D (sp_be G s dr) ∧ sp_be G s dr 1 = s 1 ∧ sp_B (B + 2) (sp_be G s dr) := by
  have hn := I_n hI
  have h1 := hB.1
  have hx := nx_b hI d0 d4
  unfold sp_be
  obtain ⟨q, hq⟩ : ∃ q, q = sp_nx s dr := ⟨_, rfl⟩
  rw [← hq] at hx ⊢
  split
  · exact ⟨hI, rfl, B_m (by omega) hB⟩
  · have hqq := I_q (q := q) hI (by omega) hx.2
    have ht := (gd.1 (sp_o s q 1) hqq.2.1 hqq.2.2).2.1
    have a1 : sp_I G D (tx_u1 (tx_u1 (tx_u1 s (28 + dr).toNat (-1)) (32 + dr).toNat q) (36 + dr).toNat (sp_c G (sp_o s q 1) 2)) := I_nc (by unfold q_cr; omega) (I_fl (by omega) (by omega) (by omega) (by rw [u1_n (by omega)]; exact hx.2) (I_fl (by omega) (by omega) (by omega) (by omega) hI))
    have e1 : tx_u1 (tx_u1 (tx_u1 s (28 + dr).toNat (-1)) (32 + dr).toNat q) (36 + dr).toNat (sp_c G (sp_o s q 1) 2) 1 = s 1 := by rw [u1_n (by omega), u1_n (by omega), u1_n (by omega)]
    have a2 := I_u (q := q) (j := 6) (v := 1) a1 (by omega) (by rw [e1]; exact hx.2) (by decide) (by decide)
    have a3 := I_no (ev := 1) (dr := dr) (q := q) (by decide) (by decide) a2.1
    refine ⟨a3.1, a3.2.trans (a2.2.trans e1), B_no (ev := 1) (dr := dr) (q := q) a2.1 (by decide) (by decide) (by omega) (by omega) ?_⟩
    unfold sp_u
    exact B_u (by omega) (by omega) (B_u (by omega) (by omega) (B_u (by omega) (by omega) (B_u (by omega) (by omega) hB)))
theorem I_pd (hI : sp_I G D s) (q0 : 0 ≤ q) (q1 : q < s 1) (hB : sp_B B s) : sp_I G D (sp_pd s q) ∧ sp_pd s q 1 = s 1 ∧ sp_B (B + 1) (sp_pd s q) := by
  have hn := I_n hI
  have := B_j hB (j := (192 + 14 * q + 12).toNat) (by unfold sp_rp; omega)
  have a := I_u (j := 12) (v := sp_o s q 12 - 1) hI q0 q1 (by decide) (by decide)
  refine ⟨a.1, a.2, ?_⟩
  unfold sp_pd sp_u sp_o
  exact B_u (by omega) (by omega) (B_m (by omega) hB)
end NX
set_option maxHeartbeats 4000000 in
theorem vL_225 {L : Nat} {xs : Nat → Int32} {d : Nat} {h : m_H} {w : Int64} {F : m_M} {Q : Option Value ⊕ Nat → m_H → Prop} (I : RF h) {a : Nat} (ha : a = 147 ∨ a = 148) {G : tx_G} {dr : Int} (d0 : 0 ≤ dr) (d4 : dr < 4) (hI : sp_I G 4 (F a)) {B : Int} (hB : sp_B B (F a)) (B9 : B ≤ 1070000000) {R : Int} (hQ : Q (.inl (some (.int (Int32.ofInt R)))) (m_hS h (w, F))) : ∀ (n : Nat) (i b : Int), -1 ≤ b → b < F a 1 → 0 ≤ i → i + n = F a 1 → sp_nl (F a) dr n i b = R → m_W (p_P L xs) (d + 1) 225 k_225_22 [some (.ref 135), some (.ref a), some (.int (Int32.ofInt dr)), some (.int (Int32.ofInt b)), some (.int (Int32.ofInt i))] [] (m_hS h (w, F)) Q := by
  have hka := ra_k I ha
  have hla := ra_l I ha
  have hna := ra_n I ha
  have hxa := ra_x ha
  have ne135 : ¬ 135 = a := by omega
  have ne136 : ¬ 136 = a := by omega
  have ne144 : ¬ 144 = a := by omega
  have ne153 : ¬ 153 = a := by omega
  have na135 : ¬ a = 135 := by omega
  have na153 : ¬ a = 153 := by omega
  have hnn := I_n hI
  have hB1 := hB.1
  intro n
  induction n with
  | zero =>
    intro i b b0 b1 h0 h1 hR
    have e : ¬ i < F a 1 := by omega
    have hR : b = R := hR
    subst hR
    rw [k_225_22]
    simp (disch := first | omega | (simp (disch := omega) only [i_lt0, i_tn, i_nn, m_cat_n, m_cat_i, m_cat_r, m_cat_z, m_cat_rv, m_cat_l, m_o_n, m_o_i, m_o_r, m_o_z, m_o_rv, m_o_f, hs_n, hs_k, hs_l, f_k_135 I, n_135 I, Nat.reduceLeDiff, not_false_eq_true, or_true, true_or, or_false, false_or, hka, hla, hxa, hna]; first | done | omega) | exact Or.inl rfl | exact Or.inr rfl) only [k_225_22, k_225_82, w_iload_4, w_aload_1, w_aloadz_1, w_aloadv_1, w_iconst, w_iaload, w_script, w_icmp_ge, m_cat_n, m_cat_i, m_cat_r, m_cat_z, m_cat_rv, m_cat_l, Nat.zero_le, Nat.reduceLeDiff, Nat.reduceAdd, m_o_i, m_o_r, m_o_z, m_o_rv, m_C_inl, Option.toList_some, Option.toList_none, List.cons_append, List.nil_append, w_iload_2, w_icmp_ne, w_if_ne, w_iload_3, w_icmp_eq, w_icmp_le, w_iret, tg_225_17, tg_225_22, tg_225_73, tg_225_76, tg_225_82, w_if_eq, hs_n, hs_k, hs_l, hs_R, hs_I, hs_L, hs_setI, hs_setL, hs_cpy, f_k_135 I, n_135 I, up_up, up_sw, up_sa, i_add, i_sub, i_mul, i_tn, i_nat, Int.reduceToNat, Int.reduceAdd, Int.reduceSub, Int.reduceMul, Int.reduceNeg, l_32, l_nat, l_c_lt, l_c_gt, l_c_eq, i_lt, i_eq, i_lt0, i_0lt, i_eq0, i_eq1, Int.reduceLT, Int.reduceEq, Int.reduceLE, Int.reduceNe, not_true_eq_false, not_false_eq_true, Nat.lt_irrefl, Int.lt_irrefl, eq_self, eq_self, Nat.reduceAdd, Nat.reduceMul, Nat.reduceSub, Nat.reduceDiv, Nat.reduceMod, Nat.reduceEqDiff, Nat.reduceLeDiff, Nat.reduceLT, Nat.zero_add, Nat.add_zero, Nat.zero_le, and_false, and_true, and_self, false_and, true_and, or_false, or_true, if_true, if_false, ite_true, ite_false, ↓reduceIte, Int.reduceToNat, Int.reduceAdd, Int.reduceSub, Int.reduceMul, Int.reduceNeg, up_eq, up_na, up_nk, e]
    exact hQ
  | succ n ih =>
    intro i b b0 b1 h0 h1 hR
    have e : i < F a 1 := by omega
    have h4 := hnn.2.2.1
    have hqq := I_q (q := i) hI (by omega) e
    have hb6i := B_j hB (j := (192 + 14 * i + 6).toNat) (by unfold sp_rp; omega)
    have hb3i := B_j hB (j := (192 + 14 * i + 3).toNat) (by unfold sp_rp; omega)
    have hR : sp_nl (F a) dr n (i + 1) (if sp_o (F a) i 0 = dr ∧ sp_o (F a) i 6 = 0 ∧ (b = -1 ∨ sp_o (F a) b 3 < sp_o (F a) i 3) then i else b) = R := hR
    unfold sp_o at hR
    rw [k_225_22]
    by_cases cb : b = -1
    · (repeat' (first | (simp (disch := first | omega | (simp (disch := omega) only [i_lt0, i_tn, i_nn, m_cat_n, m_cat_i, m_cat_r, m_cat_z, m_cat_rv, m_cat_l, m_o_n, m_o_i, m_o_r, m_o_z, m_o_rv, m_o_f, hs_n, hs_k, hs_l, f_k_135 I, n_135 I, Nat.reduceLeDiff, not_false_eq_true, or_true, true_or, or_false, false_or, hka, hla, hxa, hna]; first | done | omega) | exact Or.inl rfl | exact Or.inr rfl) only [k_225_73, k_225_76, w_iload_4, w_aload_1, w_aloadz_1, w_aloadv_1, w_iconst, w_iaload, w_script, w_icmp_ge, m_cat_n, m_cat_i, m_cat_r, m_cat_z, m_cat_rv, m_cat_l, Nat.zero_le, Nat.reduceLeDiff, Nat.reduceAdd, cl_211, m_o_i, m_o_r, m_o_z, m_o_rv, m_C_inl, Option.toList_some, Option.toList_none, List.cons_append, List.nil_append, w_iload_2, w_icmp_ne, w_if_ne, w_iload_3, w_icmp_eq, w_icmp_le, w_istore_3, m_o_n, m_o_f, w_iinc_4, w_goto, tg_225_17, tg_225_22, tg_225_73, tg_225_76, tg_225_82, k_211_0, w_aload_0, w_aloadz_0, w_aloadv_0, w_iload_1, w_imul, w_iadd, w_iret, w_if_eq, hs_n, hs_k, hs_l, hs_R, hs_I, hs_L, hs_setI, hs_setL, hs_cpy, f_k_135 I, n_135 I, up_up, up_sw, up_sa, i_add, i_sub, i_mul, i_tn, i_nat, Int.reduceToNat, Int.reduceAdd, Int.reduceSub, Int.reduceMul, Int.reduceNeg, l_32, l_nat, l_c_lt, l_c_gt, l_c_eq, i_lt, i_eq, i_lt0, i_0lt, i_eq0, i_eq1, Int.reduceLT, Int.reduceEq, Int.reduceLE, Int.reduceNe, not_true_eq_false, not_false_eq_true, Nat.lt_irrefl, Int.lt_irrefl, eq_self, eq_self, Nat.reduceAdd, Nat.reduceMul, Nat.reduceSub, Nat.reduceDiv, Nat.reduceMod, Nat.reduceEqDiff, Nat.reduceLeDiff, Nat.reduceLT, Nat.zero_add, Nat.add_zero, Nat.zero_le, and_false, and_true, and_self, false_and, true_and, or_false, or_true, if_true, if_false, ite_true, ite_false, ↓reduceIte, Int.reduceToNat, Int.reduceAdd, Int.reduceSub, Int.reduceMul, Int.reduceNeg, up_eq, up_na, up_nk, e, cb]) | split))
      all_goals first
        | exact ih (i + 1) i (by omega) (by omega) (by omega) (by omega) (by rw [if_pos (by omega)] at hR; exact hR)
        | exact ih (i + 1) b b0 b1 (by omega) (by omega) (by rw [if_neg (by omega)] at hR; exact hR)
        | (rw [← cb]; exact ih (i + 1) b b0 b1 (by omega) (by omega) (by rw [if_neg (by omega)] at hR; exact hR))
        | (exfalso; omega)
    · have hb3b := B_j hB (j := (192 + 14 * b + 3).toNat) (by unfold sp_rp; omega)
      (repeat' (first | (simp (disch := first | omega | (simp (disch := omega) only [i_lt0, i_tn, i_nn, m_cat_n, m_cat_i, m_cat_r, m_cat_z, m_cat_rv, m_cat_l, m_o_n, m_o_i, m_o_r, m_o_z, m_o_rv, m_o_f, hs_n, hs_k, hs_l, f_k_135 I, n_135 I, Nat.reduceLeDiff, not_false_eq_true, or_true, true_or, or_false, false_or, hka, hla, hxa, hna]; first | done | omega) | exact Or.inl rfl | exact Or.inr rfl) only [k_225_73, k_225_76, w_iload_4, w_aload_1, w_aloadz_1, w_aloadv_1, w_iconst, w_iaload, w_script, w_icmp_ge, m_cat_n, m_cat_i, m_cat_r, m_cat_z, m_cat_rv, m_cat_l, Nat.zero_le, Nat.reduceLeDiff, Nat.reduceAdd, cl_211, m_o_i, m_o_r, m_o_z, m_o_rv, m_C_inl, Option.toList_some, Option.toList_none, List.cons_append, List.nil_append, w_iload_2, w_icmp_ne, w_if_ne, w_iload_3, w_icmp_eq, w_icmp_le, w_istore_3, m_o_n, m_o_f, w_iinc_4, w_goto, tg_225_17, tg_225_22, tg_225_73, tg_225_76, tg_225_82, k_211_0, w_aload_0, w_aloadz_0, w_aloadv_0, w_iload_1, w_imul, w_iadd, w_iret, w_if_eq, hs_n, hs_k, hs_l, hs_R, hs_I, hs_L, hs_setI, hs_setL, hs_cpy, f_k_135 I, n_135 I, up_up, up_sw, up_sa, i_add, i_sub, i_mul, i_tn, i_nat, Int.reduceToNat, Int.reduceAdd, Int.reduceSub, Int.reduceMul, Int.reduceNeg, l_32, l_nat, l_c_lt, l_c_gt, l_c_eq, i_lt, i_eq, i_lt0, i_0lt, i_eq0, i_eq1, Int.reduceLT, Int.reduceEq, Int.reduceLE, Int.reduceNe, not_true_eq_false, not_false_eq_true, Nat.lt_irrefl, Int.lt_irrefl, eq_self, eq_self, Nat.reduceAdd, Nat.reduceMul, Nat.reduceSub, Nat.reduceDiv, Nat.reduceMod, Nat.reduceEqDiff, Nat.reduceLeDiff, Nat.reduceLT, Nat.zero_add, Nat.add_zero, Nat.zero_le, and_false, and_true, and_self, false_and, true_and, or_false, or_true, if_true, if_false, ite_true, ite_false, ↓reduceIte, Int.reduceToNat, Int.reduceAdd, Int.reduceSub, Int.reduceMul, Int.reduceNeg, up_eq, up_na, up_nk, e, cb]) | split))
      all_goals first
        | exact ih (i + 1) i (by omega) (by omega) (by omega) (by omega) (by rw [if_pos (by omega)] at hR; exact hR)
        | exact ih (i + 1) b b0 b1 (by omega) (by omega) (by rw [if_neg (by omega)] at hR; exact hR)
        | (exfalso; omega)
set_option maxHeartbeats 4000000 in
/-- nextOf -/
theorem v_225 {L : Nat} {xs : Nat → Int32} {d : Nat} {h : m_H} {w : Int64} {F : m_M} {Q : Option Value ⊕ Nat → m_H → Prop} (I : RF h) {a : Nat} (ha : a = 147 ∨ a = 148) {G : tx_G} {dr : Int} (d0 : 0 ≤ dr) (d4 : dr < 4) (hI : sp_I G 4 (F a)) {B : Int} (hB : sp_B B (F a)) (B9 : B ≤ 1070000000) (hQ : Q (.inl (some (.int (Int32.ofInt (sp_nx (F a) dr))))) (m_hS h (w, F))) : m_W (p_P L xs) (d + 1) 225 k_225_0 [some (.ref 135), some (.ref a), some (.int (Int32.ofInt dr)), none, none] [] (m_hS h (w, F)) Q := by
  have hka := ra_k I ha
  have hla := ra_l I ha
  have hna := ra_n I ha
  have hxa := ra_x ha
  have ne135 : ¬ 135 = a := by omega
  have ne136 : ¬ 136 = a := by omega
  have ne144 : ¬ 144 = a := by omega
  have ne153 : ¬ 153 = a := by omega
  have na135 : ¬ a = 135 := by omega
  have na153 : ¬ a = 153 := by omega
  have hnn := I_n hI
  have hd := I_d hI d0 d4
  unfold sp_nx at hQ
  rw [k_225_0]
  by_cases c : F a (28 + dr).toNat = -1
  · rw [if_pos c] at hQ
    simp (disch := first | omega | (simp (disch := omega) only [i_lt0, i_tn, i_nn, m_cat_n, m_cat_i, m_cat_r, m_cat_z, m_cat_rv, m_cat_l, m_o_n, m_o_i, m_o_r, m_o_z, m_o_rv, m_o_f, hs_n, hs_k, hs_l, f_k_135 I, n_135 I, Nat.reduceLeDiff, not_false_eq_true, or_true, true_or, or_false, false_or, hka, hla, hxa, hna]; first | done | omega) | exact Or.inl rfl | exact Or.inr rfl) only [k_225_0, k_225_17, w_aload_1, w_aloadz_1, w_aloadv_1, w_iconst, w_iload_2, w_iadd, w_iaload, w_script, w_icmp_eq, w_iret, w_istore_3, m_o_n, m_o_i, m_o_r, m_o_z, m_o_rv, m_o_f, w_istore_4, tg_225_17, tg_225_22, tg_225_73, tg_225_76, tg_225_82, m_C_inl, Option.toList_some, Option.toList_none, List.cons_append, List.nil_append, w_if_eq, hs_n, hs_k, hs_l, hs_R, hs_I, hs_L, hs_setI, hs_setL, hs_cpy, f_k_135 I, n_135 I, up_up, up_sw, up_sa, i_add, i_sub, i_mul, i_tn, i_nat, Int.reduceToNat, Int.reduceAdd, Int.reduceSub, Int.reduceMul, Int.reduceNeg, l_32, l_nat, l_c_lt, l_c_gt, l_c_eq, i_lt, i_eq, i_lt0, i_0lt, i_eq0, i_eq1, Int.reduceLT, Int.reduceEq, Int.reduceLE, Int.reduceNe, not_true_eq_false, not_false_eq_true, Nat.lt_irrefl, Int.lt_irrefl, eq_self, eq_self, Nat.reduceAdd, Nat.reduceMul, Nat.reduceSub, Nat.reduceDiv, Nat.reduceMod, Nat.reduceEqDiff, Nat.reduceLeDiff, Nat.reduceLT, Nat.zero_add, Nat.add_zero, Nat.zero_le, and_false, and_true, and_self, false_and, true_and, or_false, or_true, if_true, if_false, ite_true, ite_false, ↓reduceIte, Int.reduceToNat, Int.reduceAdd, Int.reduceSub, Int.reduceMul, Int.reduceNeg, up_eq, up_na, up_nk, c]
    exact vL_225 I ha d0 d4 hI hB B9 hQ (F a 1).toNat 0 (-1) (by decide) (by omega) (by decide) (by omega) rfl
  · rw [if_neg c] at hQ
    simp (disch := first | omega | (simp (disch := omega) only [i_lt0, i_tn, i_nn, m_cat_n, m_cat_i, m_cat_r, m_cat_z, m_cat_rv, m_cat_l, m_o_n, m_o_i, m_o_r, m_o_z, m_o_rv, m_o_f, hs_n, hs_k, hs_l, f_k_135 I, n_135 I, Nat.reduceLeDiff, not_false_eq_true, or_true, true_or, or_false, false_or, hka, hla, hxa, hna]; first | done | omega) | exact Or.inl rfl | exact Or.inr rfl) only [k_225_0, w_aload_1, w_aloadz_1, w_aloadv_1, w_iconst, w_iload_2, w_iadd, w_iaload, w_script, w_icmp_eq, w_iret, tg_225_17, tg_225_22, tg_225_73, tg_225_76, tg_225_82, m_C_inl, Option.toList_some, Option.toList_none, List.cons_append, List.nil_append, w_if_eq, hs_n, hs_k, hs_l, hs_R, hs_I, hs_L, hs_setI, hs_setL, hs_cpy, f_k_135 I, n_135 I, up_up, up_sw, up_sa, i_add, i_sub, i_mul, i_tn, i_nat, Int.reduceToNat, Int.reduceAdd, Int.reduceSub, Int.reduceMul, Int.reduceNeg, l_32, l_nat, l_c_lt, l_c_gt, l_c_eq, i_lt, i_eq, i_lt0, i_0lt, i_eq0, i_eq1, Int.reduceLT, Int.reduceEq, Int.reduceLE, Int.reduceNe, not_true_eq_false, not_false_eq_true, Nat.lt_irrefl, Int.lt_irrefl, eq_self, eq_self, Nat.reduceAdd, Nat.reduceMul, Nat.reduceSub, Nat.reduceDiv, Nat.reduceMod, Nat.reduceEqDiff, Nat.reduceLeDiff, Nat.reduceLT, Nat.zero_add, Nat.add_zero, Nat.zero_le, and_false, and_true, and_self, false_and, true_and, or_false, or_true, if_true, if_false, ite_true, ite_false, ↓reduceIte, Int.reduceToNat, Int.reduceAdd, Int.reduceSub, Int.reduceMul, Int.reduceNeg, up_eq, up_na, up_nk, c]
    exact hQ
set_option maxHeartbeats 8000000 in
theorem vL_226 {L : Nat} {xs : Nat → Int32} {d : Nat} {h : m_H} {w : Int64} {F0 : m_M} {Q : Option Value ⊕ Nat → m_H → Prop} (I : RF h) {a : Nat} (ha : a = 147 ∨ a = 148) {G : tx_G} {dr : Int} (d0 : 0 ≤ dr) (d4 : dr < 4) {R : sp_R} (hQ : ∀ F' : m_M, sp_f a F0 F' → F' a = R → Q (.inl none) (m_hS h (w, F'))) : ∀ (n : Nat) (F : m_M) (i B : Int) (l4 : Option Value), m_o l4 = true → sp_f a F0 F → sp_I G 4 (F a) → sp_B B (F a) → B + 2 * n ≤ 1070000000 → 0 ≤ i → i + n = F a 1 → sp_ll dr n i (F a) = R → m_W (p_P L xs) (d + 2) 226 k_226_2 [some (.ref 135), some (.ref a), some (.int (Int32.ofInt dr)), some (.int (Int32.ofInt i)), l4] [] (m_hS h (w, F)) Q := by
  have hka := ra_k I ha
  have hla := ra_l I ha
  have hna := ra_n I ha
  have hxa := ra_x ha
  have ne135 : ¬ 135 = a := by omega
  have ne136 : ¬ 136 = a := by omega
  have ne144 : ¬ 144 = a := by omega
  have ne153 : ¬ 153 = a := by omega
  have na135 : ¬ a = 135 := by omega
  have na153 : ¬ a = 153 := by omega
  intro n
  induction n with
  | zero =>
    intro F i B l4 hl4 f0 hI hB B9 h0 h1 hR
    have hnn := I_n hI
    have e : ¬ i < F a 1 := by omega
    rw [k_226_2]
    simp (disch := first | omega | (simp (disch := omega) only [i_lt0, i_tn, i_nn, m_cat_n, m_cat_i, m_cat_r, m_cat_z, m_cat_rv, m_cat_l, m_o_n, m_o_i, m_o_r, m_o_z, m_o_rv, m_o_f, hs_n, hs_k, hs_l, f_k_135 I, n_135 I, Nat.reduceLeDiff, not_false_eq_true, or_true, true_or, or_false, false_or, hka, hla, hxa, hna]; first | done | omega) | exact Or.inl rfl | exact Or.inr rfl) only [k_226_2, k_226_82, w_iload_3, w_aload_1, w_aloadz_1, w_aloadv_1, w_iconst, w_iaload, w_script, w_icmp_ge, m_cat_n, m_cat_i, m_cat_r, m_cat_z, m_cat_rv, m_cat_l, Nat.zero_le, Nat.reduceLeDiff, Nat.reduceAdd, m_o_i, m_o_r, m_o_z, m_o_rv, m_C_inl, Option.toList_some, Option.toList_none, List.cons_append, List.nil_append, w_iload_2, w_icmp_ne, w_if_ne, w_if_le, w_goto, w_vret, tg_226_2, tg_226_42, tg_226_43, tg_226_76, tg_226_82, w_icmp_eq, w_if_eq, hs_n, hs_k, hs_l, hs_R, hs_I, hs_L, hs_setI, hs_setL, hs_cpy, f_k_135 I, n_135 I, up_up, up_sw, up_sa, i_add, i_sub, i_mul, i_tn, i_nat, Int.reduceToNat, Int.reduceAdd, Int.reduceSub, Int.reduceMul, Int.reduceNeg, l_32, l_nat, l_c_lt, l_c_gt, l_c_eq, i_lt, i_eq, i_lt0, i_0lt, i_eq0, i_eq1, Int.reduceLT, Int.reduceEq, Int.reduceLE, Int.reduceNe, not_true_eq_false, not_false_eq_true, Nat.lt_irrefl, Int.lt_irrefl, eq_self, eq_self, Nat.reduceAdd, Nat.reduceMul, Nat.reduceSub, Nat.reduceDiv, Nat.reduceMod, Nat.reduceEqDiff, Nat.reduceLeDiff, Nat.reduceLT, Nat.zero_add, Nat.add_zero, Nat.zero_le, and_false, and_true, and_self, false_and, true_and, or_false, or_true, if_true, if_false, ite_true, ite_false, ↓reduceIte, Int.reduceToNat, Int.reduceAdd, Int.reduceSub, Int.reduceMul, Int.reduceNeg, up_eq, up_na, up_nk, e]
    exact hQ F f0 hR
  | succ n ih =>
    intro F i B l4 hl4 f0 hI hB B9 h0 h1 hR
    have hnn := I_n hI
    have e : i < F a 1 := by omega
    have h4 := hnn.2.2.1
    have hqq := I_q (q := i) hI (by omega) e
    have hB1 := hB.1
    have hB2 := hB.2.1
    have hb4i := B_j hB (j := (192 + 14 * i + 4).toNat) (by unfold sp_rp; omega)
    have hb5i := B_j hB (j := (192 + 14 * i + 5).toNat) (by unfold sp_rp; omega)
    have hb6i := B_j hB (j := (192 + 14 * i + 6).toNat) (by unfold sp_rp; omega)
    have hR : sp_ll dr n (i + 1) (if sp_o (F a) i 0 = dr ∧ sp_o (F a) i 6 = 0 ∧ 0 < sp_o (F a) i 4 ∧ sp_o (F a) i 4 ≤ F a 0 - sp_o (F a) i 5 then sp_bad (F a) i 1 else F a) = R := hR
    unfold sp_o at hR
    rw [k_226_2]
    by_cases c : F a (192 + 14 * i + 0).toNat = dr ∧ F a (192 + 14 * i + 6).toNat = 0 ∧ 0 < F a (192 + 14 * i + 4).toNat ∧ F a (192 + 14 * i + 4).toNat ≤ F a 0 - F a (192 + 14 * i + 5).toNat
    · rw [if_pos c] at hR
      obtain ⟨ca, cb, cc, cd⟩ := c
      have cd2 : ¬ F a 0 - F a (192 + 14 * i + 5).toNat < F a (192 + 14 * i + 4).toNat := by omega
      (repeat' (first | (simp (disch := first | omega | (simp (disch := omega) only [i_lt0, i_tn, i_nn, m_cat_n, m_cat_i, m_cat_r, m_cat_z, m_cat_rv, m_cat_l, m_o_n, m_o_i, m_o_r, m_o_z, m_o_rv, m_o_f, hs_n, hs_k, hs_l, f_k_135 I, n_135 I, Nat.reduceLeDiff, not_false_eq_true, or_true, true_or, or_false, false_or, hka, hla, hxa, hna, hl4]; first | done | omega) | exact Or.inl rfl | exact Or.inr rfl) only [k_226_42, k_226_43, w_iload_3, w_aload_1, w_aloadz_1, w_aloadv_1, w_iconst, w_iaload, w_script, w_icmp_ge, m_cat_n, m_cat_i, m_cat_r, m_cat_z, m_cat_rv, m_cat_l, Nat.zero_le, Nat.reduceLeDiff, Nat.reduceAdd, cl_211, m_o_i, m_o_r, m_o_z, m_o_rv, m_C_inl, Option.toList_some, Option.toList_none, List.cons_append, List.nil_append, w_iload_2, w_icmp_ne, w_if_ne, w_if_le, w_goto, w_istore_4, m_o_n, m_o_f, w_iload_4, w_if_eq, w_isub, w_icmp_lt, w_aload_0, w_aloadz_0, w_aloadv_0, tg_226_2, tg_226_42, tg_226_43, tg_226_76, tg_226_82, k_211_0, w_iload_1, w_imul, w_iadd, w_iret, w_icmp_eq, hs_n, hs_k, hs_l, hs_R, hs_I, hs_L, hs_setI, hs_setL, hs_cpy, f_k_135 I, n_135 I, up_up, up_sw, up_sa, i_add, i_sub, i_mul, i_tn, i_nat, Int.reduceToNat, Int.reduceAdd, Int.reduceSub, Int.reduceMul, Int.reduceNeg, l_32, l_nat, l_c_lt, l_c_gt, l_c_eq, i_lt, i_eq, i_lt0, i_0lt, i_eq0, i_eq1, Int.reduceLT, Int.reduceEq, Int.reduceLE, Int.reduceNe, not_true_eq_false, not_false_eq_true, Nat.lt_irrefl, Int.lt_irrefl, eq_self, eq_self, Nat.reduceAdd, Nat.reduceMul, Nat.reduceSub, Nat.reduceDiv, Nat.reduceMod, Nat.reduceEqDiff, Nat.reduceLeDiff, Nat.reduceLT, Nat.zero_add, Nat.add_zero, Nat.zero_le, and_false, and_true, and_self, false_and, true_and, or_false, or_true, if_true, if_false, ite_true, ite_false, ↓reduceIte, Int.reduceToNat, Int.reduceAdd, Int.reduceSub, Int.reduceMul, Int.reduceNeg, up_eq, up_na, up_nk, e, ca, cb, cc, cd2]) | split))
      simp (disch := first | omega | (simp (disch := omega) only [i_lt0, i_tn, i_nn, m_cat_n, m_cat_i, m_cat_r, m_cat_z, m_cat_rv, m_cat_l, m_o_n, m_o_i, m_o_r, m_o_z, m_o_rv, m_o_f, hs_n, hs_k, hs_l, f_k_135 I, n_135 I, Nat.reduceLeDiff, not_false_eq_true, or_true, true_or, or_false, false_or]; first | done | omega) | exact Or.inl rfl | exact Or.inr rfl) only [cl_217, m_cat_n, m_cat_i, m_cat_r, m_cat_z, m_cat_rv, m_cat_l, Nat.zero_le, Nat.reduceLeDiff, Nat.reduceAdd, m_o_i, m_o_r, m_o_z, m_o_rv, hs_n, hs_k, f_k_135 I, n_135 I, hna, hka]
      refine v_217 (G := G) (D := 4) I ha hI h0 e (fun F1 f1 r1 => ?_)
      simp (disch := first | omega | (simp (disch := omega) only [i_lt0, i_tn, i_nn, m_cat_n, m_cat_i, m_cat_r, m_cat_z, m_cat_rv, m_cat_l, m_o_n, m_o_i, m_o_r, m_o_z, m_o_rv, m_o_f, hs_n, hs_k, hs_l, f_k_135 I, n_135 I, Nat.reduceLeDiff, not_false_eq_true, or_true, true_or, or_false, false_or, hka, hla, hxa, hna]; first | done | omega) | exact Or.inl rfl | exact Or.inr rfl) only [k_226_76, w_istore_4, m_o_n, m_o_i, m_o_r, m_o_z, m_o_rv, m_o_f, w_iload_4, w_if_eq, w_aload_1, w_aloadz_1, w_aloadv_1, w_iconst, w_iaload, w_script, w_iload_3, m_cat_n, m_cat_i, m_cat_r, m_cat_z, m_cat_rv, m_cat_l, Nat.zero_le, Nat.reduceLeDiff, Nat.reduceAdd, m_C_inl, Option.toList_some, Option.toList_none, List.cons_append, List.nil_append, w_isub, w_icmp_lt, w_aload_0, w_aloadz_0, w_aloadv_0, w_iinc_3, w_goto, tg_226_2, tg_226_42, tg_226_43, tg_226_76, tg_226_82, w_icmp_eq, hs_n, hs_k, hs_l, hs_R, hs_I, hs_L, hs_setI, hs_setL, hs_cpy, f_k_135 I, n_135 I, up_up, up_sw, up_sa, i_add, i_sub, i_mul, i_tn, i_nat, Int.reduceToNat, Int.reduceAdd, Int.reduceSub, Int.reduceMul, Int.reduceNeg, l_32, l_nat, l_c_lt, l_c_gt, l_c_eq, i_lt, i_eq, i_lt0, i_0lt, i_eq0, i_eq1, Int.reduceLT, Int.reduceEq, Int.reduceLE, Int.reduceNe, not_true_eq_false, not_false_eq_true, Nat.lt_irrefl, Int.lt_irrefl, eq_self, eq_self, Nat.reduceAdd, Nat.reduceMul, Nat.reduceSub, Nat.reduceDiv, Nat.reduceMod, Nat.reduceEqDiff, Nat.reduceLeDiff, Nat.reduceLT, Nat.zero_add, Nat.add_zero, Nat.zero_le, and_false, and_true, and_self, false_and, true_and, or_false, or_true, if_true, if_false, ite_true, ite_false, ↓reduceIte, Int.reduceToNat, Int.reduceAdd, Int.reduceSub, Int.reduceMul, Int.reduceNeg, up_eq, up_na, up_nk]
      have a1 := I_bad (y := 1) hI h0 e
      have b1 := B_bad (y := 1) hI h0 e (by decide) hB
      rw [← r1] at a1 b1 hR
      exact ih F1 (i + 1) (B + 2) _ rfl (sf_tr f0 f1) a1.1 b1 (by omega) (by omega) (by rw [a1.2]; omega) hR
    · rw [if_neg c] at hR
      (repeat' (first | (simp (disch := first | omega | (simp (disch := omega) only [i_lt0, i_tn, i_nn, m_cat_n, m_cat_i, m_cat_r, m_cat_z, m_cat_rv, m_cat_l, m_o_n, m_o_i, m_o_r, m_o_z, m_o_rv, m_o_f, hs_n, hs_k, hs_l, f_k_135 I, n_135 I, Nat.reduceLeDiff, not_false_eq_true, or_true, true_or, or_false, false_or, hka, hla, hxa, hna, hl4]; first | done | omega) | exact Or.inl rfl | exact Or.inr rfl) only [k_226_42, k_226_43, k_226_76, w_iload_3, w_aload_1, w_aloadz_1, w_aloadv_1, w_iconst, w_iaload, w_script, w_icmp_ge, m_cat_n, m_cat_i, m_cat_r, m_cat_z, m_cat_rv, m_cat_l, Nat.zero_le, Nat.reduceLeDiff, Nat.reduceAdd, cl_211, m_o_i, m_o_r, m_o_z, m_o_rv, m_C_inl, Option.toList_some, Option.toList_none, List.cons_append, List.nil_append, w_iload_2, w_icmp_ne, w_if_ne, w_if_le, w_goto, w_istore_4, m_o_n, m_o_f, w_iload_4, w_if_eq, w_isub, w_icmp_lt, w_aload_0, w_aloadz_0, w_aloadv_0, w_iinc_3, tg_226_2, tg_226_42, tg_226_43, tg_226_76, tg_226_82, k_211_0, w_iload_1, w_imul, w_iadd, w_iret, w_icmp_eq, hs_n, hs_k, hs_l, hs_R, hs_I, hs_L, hs_setI, hs_setL, hs_cpy, f_k_135 I, n_135 I, up_up, up_sw, up_sa, i_add, i_sub, i_mul, i_tn, i_nat, Int.reduceToNat, Int.reduceAdd, Int.reduceSub, Int.reduceMul, Int.reduceNeg, l_32, l_nat, l_c_lt, l_c_gt, l_c_eq, i_lt, i_eq, i_lt0, i_0lt, i_eq0, i_eq1, Int.reduceLT, Int.reduceEq, Int.reduceLE, Int.reduceNe, not_true_eq_false, not_false_eq_true, Nat.lt_irrefl, Int.lt_irrefl, eq_self, eq_self, Nat.reduceAdd, Nat.reduceMul, Nat.reduceSub, Nat.reduceDiv, Nat.reduceMod, Nat.reduceEqDiff, Nat.reduceLeDiff, Nat.reduceLT, Nat.zero_add, Nat.add_zero, Nat.zero_le, and_false, and_true, and_self, false_and, true_and, or_false, or_true, if_true, if_false, ite_true, ite_false, ↓reduceIte, Int.reduceToNat, Int.reduceAdd, Int.reduceSub, Int.reduceMul, Int.reduceNeg, up_eq, up_na, up_nk, e]) | split))
      all_goals first
        | exact ih F (i + 1) B _ rfl f0 hI hB (by omega) (by omega) (by omega) hR
        | (exfalso; omega)
/-- dropsLate -/
theorem v_226 {L : Nat} {xs : Nat → Int32} {d : Nat} {h : m_H} {w : Int64} {F : m_M} {Q : Option Value ⊕ Nat → m_H → Prop} (I : RF h) {a : Nat} (ha : a = 147 ∨ a = 148) {G : tx_G} {dr : Int} (d0 : 0 ≤ dr) (d4 : dr < 4) (hI : sp_I G 4 (F a)) {B : Int} (hB : sp_B B (F a)) (B9 : B ≤ 1060000000) (hQ : ∀ F' : m_M, sp_f a F F' → F' a = sp_la (F a) dr → Q (.inl none) (m_hS h (w, F'))) : m_W (p_P L xs) (d + 2) 226 k_226_0 [some (.ref 135), some (.ref a), some (.int (Int32.ofInt dr)), none, none] [] (m_hS h (w, F)) Q := by
  have hka := ra_k I ha
  have hla := ra_l I ha
  have hna := ra_n I ha
  have hxa := ra_x ha
  have ne135 : ¬ 135 = a := by omega
  have ne136 : ¬ 136 = a := by omega
  have ne144 : ¬ 144 = a := by omega
  have ne153 : ¬ 153 = a := by omega
  have na135 : ¬ a = 135 := by omega
  have na153 : ¬ a = 153 := by omega
  have hnn := I_n hI
  rw [k_226_0]
  simp (disch := first | omega | (simp (disch := omega) only [i_lt0, i_tn, i_nn, m_cat_n, m_cat_i, m_cat_r, m_cat_z, m_cat_rv, m_cat_l, m_o_n, m_o_i, m_o_r, m_o_z, m_o_rv, m_o_f, hs_n, hs_k, hs_l, f_k_135 I, n_135 I, Nat.reduceLeDiff, not_false_eq_true, or_true, true_or, or_false, false_or]; first | done | omega) | exact Or.inl rfl | exact Or.inr rfl) only [k_226_0, w_iconst, w_istore_3, m_o_n, m_o_i, m_o_r, m_o_z, m_o_rv, m_o_f, tg_226_2, tg_226_42, tg_226_43, tg_226_76, tg_226_82, m_C_inl, Option.toList_some, Option.toList_none, List.cons_append, List.nil_append, w_icmp_eq, w_if_eq, hs_n, hs_k, hs_l, hs_R, hs_I, hs_L, hs_setI, hs_setL, hs_cpy, f_k_135 I, n_135 I, up_up, up_sw, up_sa, up_if, i_add, i_sub, i_mul, i_tn, i_nat, Int.reduceToNat, Int.reduceAdd, Int.reduceSub, Int.reduceMul, Int.reduceNeg, l_32, l_nat, l_c_lt, l_c_gt, l_c_eq, i_lt, i_eq, i_lt0, i_0lt, i_eq0, i_eq1, Int.reduceLT, Int.reduceEq, Int.reduceLE, Int.reduceNe, not_true_eq_false, not_false_eq_true, Nat.lt_irrefl, Int.lt_irrefl, eq_self, eq_self, Nat.reduceAdd, Nat.reduceMul, Nat.reduceSub, Nat.reduceDiv, Nat.reduceMod, Nat.reduceEqDiff, Nat.reduceLeDiff, Nat.reduceLT, Nat.zero_add, Nat.add_zero, Nat.zero_le, and_false, and_true, and_self, false_and, true_and, or_false, or_true, if_true, if_false, ite_true, ite_false, ↓reduceIte, Int.reduceToNat, Int.reduceAdd, Int.reduceSub, Int.reduceMul, Int.reduceNeg]
  exact vL_226 (F0 := F) I ha d0 d4 hQ (F a 1).toNat F 0 B none rfl sf_rf hI hB (by omega) (by decide) (by omega) rfl
set_option maxHeartbeats 4000000 in
/-- begins -/
theorem v_227 {L : Nat} {xs : Nat → Int32} {d : Nat} {h : m_H} {w : Int64} {F : m_M} {Q : Option Value ⊕ Nat → m_H → Prop} (I : RF h) {a : Nat} (ha : a = 147 ∨ a = 148) {G : tx_G} (P : q_pR F G) (gd : q_gd G) {dr : Int} (d0 : 0 ≤ dr) (d4 : dr < 4) (hI : sp_I G 4 (F a)) {B : Int} (hB : sp_B B (F a)) (B9 : B ≤ 1070000000) (hQ : ∀ F' : m_M, sp_f a F F' → F' a = sp_be G (F a) dr → Q (.inl none) (m_hS h (w, F'))) : m_W (p_P L xs) (d + 2) 227 k_227_0 [some (.ref 135), some (.ref a), some (.int (Int32.ofInt dr)), none] [] (m_hS h (w, F)) Q := by
  have hka := ra_k I ha
  have hla := ra_l I ha
  have hna := ra_n I ha
  have hxa := ra_x ha
  have ne135 : ¬ 135 = a := by omega
  have ne136 : ¬ 136 = a := by omega
  have ne144 : ¬ 144 = a := by omega
  have ne153 : ¬ 153 = a := by omega
  have na135 : ¬ a = 135 := by omega
  have na153 : ¬ a = 153 := by omega
  have hnn := I_n hI
  have hx := nx_b hI d0 d4
  rw [k_227_0]
  simp (disch := first | omega | (simp (disch := omega) only [i_lt0, i_tn, i_nn, m_cat_n, m_cat_i, m_cat_r, m_cat_z, m_cat_rv, m_cat_l, m_o_n, m_o_i, m_o_r, m_o_z, m_o_rv, m_o_f, hs_n, hs_k, hs_l, f_k_135 I, n_135 I, f_R_135_3 I, f_k_138 I, f_l_138 I, n_138 I, x_138, Nat.reduceLeDiff, not_false_eq_true, or_true, true_or, or_false, false_or, hka, hla, hxa, hna]; first | done | omega) | exact Or.inl rfl | exact Or.inr rfl) only [k_227_0, w_aload_0, w_aloadz_0, w_aloadv_0, w_aload_1, w_aloadz_1, w_aloadv_1, w_iload_2, m_cat_n, m_cat_i, m_cat_r, m_cat_z, m_cat_rv, m_cat_l, Nat.zero_le, Nat.reduceLeDiff, Nat.reduceAdd, m_o_i, m_o_r, m_o_z, m_o_rv, m_C_inl, Option.toList_some, Option.toList_none, List.cons_append, List.nil_append, w_istore_3, m_o_n, m_o_f, w_iload_3, w_iconst, w_icmp_ne, w_vret, tg_227_13, w_icmp_eq, w_if_eq, hs_n, hs_k, hs_l, hs_R, hs_I, hs_L, hs_setI, hs_setL, hs_cpy, f_k_135 I, n_135 I, f_R_135_3 I, f_k_138 I, f_l_138 I, n_138 I, x_138, up_up, up_sw, up_sa, i_add, i_sub, i_mul, i_tn, i_nat, Int.reduceToNat, Int.reduceAdd, Int.reduceSub, Int.reduceMul, Int.reduceNeg, l_32, l_nat, l_c_lt, l_c_gt, l_c_eq, i_lt, i_eq, i_lt0, i_0lt, i_eq0, i_eq1, Int.reduceLT, Int.reduceEq, Int.reduceLE, Int.reduceNe, not_true_eq_false, not_false_eq_true, Nat.lt_irrefl, Int.lt_irrefl, eq_self, eq_self, Nat.reduceAdd, Nat.reduceMul, Nat.reduceSub, Nat.reduceDiv, Nat.reduceMod, Nat.reduceEqDiff, Nat.reduceLeDiff, Nat.reduceLT, Nat.zero_add, Nat.add_zero, Nat.zero_le, and_false, and_true, and_self, false_and, true_and, or_false, or_true, if_true, if_false, ite_true, ite_false, ↓reduceIte, Int.reduceToNat, Int.reduceAdd, Int.reduceSub, Int.reduceMul, Int.reduceNeg, up_eq, up_na, up_nk]
  simp (disch := first | omega | (simp (disch := omega) only [i_lt0, i_tn, i_nn, m_cat_n, m_cat_i, m_cat_r, m_cat_z, m_cat_rv, m_cat_l, m_o_n, m_o_i, m_o_r, m_o_z, m_o_rv, m_o_f, hs_n, hs_k, hs_l, f_k_135 I, n_135 I, Nat.reduceLeDiff, not_false_eq_true, or_true, true_or, or_false, false_or]; first | done | omega) | exact Or.inl rfl | exact Or.inr rfl) only [cl_225, m_cat_n, m_cat_i, m_cat_r, m_cat_z, m_cat_rv, m_cat_l, Nat.zero_le, Nat.reduceLeDiff, Nat.reduceAdd, m_o_i, m_o_r, m_o_z, m_o_rv, hs_n, hs_k, f_k_135 I, n_135 I, hna, hka]
  refine v_225 I ha d0 d4 hI hB B9 ?_
  unfold sp_be at hQ
  obtain ⟨q, hq⟩ : ∃ q, q = sp_nx (F a) dr := ⟨_, rfl⟩
  rw [← hq] at hx hQ ⊢
  by_cases z : q = -1
  · rw [if_pos z] at hQ
    simp (disch := first | omega | (simp (disch := omega) only [i_lt0, i_tn, i_nn, m_cat_n, m_cat_i, m_cat_r, m_cat_z, m_cat_rv, m_cat_l, m_o_n, m_o_i, m_o_r, m_o_z, m_o_rv, m_o_f, hs_n, hs_k, hs_l, f_k_135 I, n_135 I, f_R_135_3 I, f_k_138 I, f_l_138 I, n_138 I, x_138, Nat.reduceLeDiff, not_false_eq_true, or_true, true_or, or_false, false_or, hka, hla, hxa, hna]; first | done | omega) | exact Or.inl rfl | exact Or.inr rfl) only [w_aload_0, w_aloadz_0, w_aloadv_0, w_aload_1, w_aloadz_1, w_aloadv_1, w_iload_2, m_cat_n, m_cat_i, m_cat_r, m_cat_z, m_cat_rv, m_cat_l, Nat.zero_le, Nat.reduceLeDiff, Nat.reduceAdd, m_o_i, m_o_r, m_o_z, m_o_rv, m_C_inl, Option.toList_some, Option.toList_none, List.cons_append, List.nil_append, w_istore_3, m_o_n, m_o_f, w_iload_3, w_iconst, w_icmp_ne, w_vret, tg_227_13, w_icmp_eq, w_if_eq, hs_n, hs_k, hs_l, hs_R, hs_I, hs_L, hs_setI, hs_setL, hs_cpy, f_k_135 I, n_135 I, f_R_135_3 I, f_k_138 I, f_l_138 I, n_138 I, x_138, up_up, up_sw, up_sa, i_add, i_sub, i_mul, i_tn, i_nat, Int.reduceToNat, Int.reduceAdd, Int.reduceSub, Int.reduceMul, Int.reduceNeg, l_32, l_nat, l_c_lt, l_c_gt, l_c_eq, i_lt, i_eq, i_lt0, i_0lt, i_eq0, i_eq1, Int.reduceLT, Int.reduceEq, Int.reduceLE, Int.reduceNe, not_true_eq_false, not_false_eq_true, Nat.lt_irrefl, Int.lt_irrefl, eq_self, eq_self, Nat.reduceAdd, Nat.reduceMul, Nat.reduceSub, Nat.reduceDiv, Nat.reduceMod, Nat.reduceEqDiff, Nat.reduceLeDiff, Nat.reduceLT, Nat.zero_add, Nat.add_zero, Nat.zero_le, and_false, and_true, and_self, false_and, true_and, or_false, or_true, if_true, if_false, ite_true, ite_false, ↓reduceIte, Int.reduceToNat, Int.reduceAdd, Int.reduceSub, Int.reduceMul, Int.reduceNeg, up_eq, up_na, up_nk, z]
    exact hQ F sf_rf rfl
  · rw [if_neg z] at hQ
    have q0 : 0 ≤ q := by omega
    have q1 := hx.2
    have hqq := I_q hI q0 q1
    obtain ⟨c, hc⟩ : ∃ c, c = F a (192 + 14 * q + 1).toNat := ⟨_, rfl⟩
    rw [← hc] at hqq
    have hgl := gd.2.1
    obtain ⟨p1, p2, p3, p4, p5, p6, p7⟩ := pR_c P hqq.2.1 hqq.2.2
    have eo : sp_o (F a) q 1 = c := hc.symm
    have ht := (gd.1 c hqq.2.1 hqq.2.2).2.1
    rw [eo] at hQ
    unfold sp_u at hQ
    (repeat' (first | (simp (disch := first | omega | (simp (disch := omega) only [i_lt0, i_tn, i_nn, m_cat_n, m_cat_i, m_cat_r, m_cat_z, m_cat_rv, m_cat_l, m_o_n, m_o_i, m_o_r, m_o_z, m_o_rv, m_o_f, hs_n, hs_k, hs_l, f_k_135 I, n_135 I, f_R_135_3 I, f_k_138 I, f_l_138 I, n_138 I, x_138, Nat.reduceLeDiff, not_false_eq_true, or_true, true_or, or_false, false_or, hka, hla, hxa, hna]; first | done | omega) | exact Or.inl rfl | exact Or.inr rfl) only [k_227_13, w_aload_0, w_aloadz_0, w_aloadv_0, w_aload_1, w_aloadz_1, w_aloadv_1, w_iload_2, m_cat_n, m_cat_i, m_cat_r, m_cat_z, m_cat_rv, m_cat_l, Nat.zero_le, Nat.reduceLeDiff, Nat.reduceAdd, m_o_i, m_o_r, m_o_z, m_o_rv, m_C_inl, Option.toList_some, Option.toList_none, List.cons_append, List.nil_append, w_istore_3, m_o_n, m_o_f, w_iload_3, w_iconst, w_icmp_ne, w_vret, w_iadd, w_iastore, gf_771, m_rv_s, m_rv_n, cl_211, w_iaload, w_script, cl_212, tg_227_13, k_211_0, w_iload_1, w_imul, w_iret, k_212_0, w_icmp_eq, w_if_eq, hs_n, hs_k, hs_l, hs_R, hs_I, hs_L, hs_setI, hs_setL, hs_cpy, f_k_135 I, n_135 I, f_R_135_3 I, f_k_138 I, f_l_138 I, n_138 I, x_138, up_up, up_sw, up_sa, i_add, i_sub, i_mul, i_tn, i_nat, Int.reduceToNat, Int.reduceAdd, Int.reduceSub, Int.reduceMul, Int.reduceNeg, l_32, l_nat, l_c_lt, l_c_gt, l_c_eq, i_lt, i_eq, i_lt0, i_0lt, i_eq0, i_eq1, Int.reduceLT, Int.reduceEq, Int.reduceLE, Int.reduceNe, not_true_eq_false, not_false_eq_true, Nat.lt_irrefl, Int.lt_irrefl, eq_self, eq_self, Nat.reduceAdd, Nat.reduceMul, Nat.reduceSub, Nat.reduceDiv, Nat.reduceMod, Nat.reduceEqDiff, Nat.reduceLeDiff, Nat.reduceLT, Nat.zero_add, Nat.add_zero, Nat.zero_le, and_false, and_true, and_self, false_and, true_and, or_false, or_true, if_true, if_false, ite_true, ite_false, ↓reduceIte, Int.reduceToNat, Int.reduceAdd, Int.reduceSub, Int.reduceMul, Int.reduceNeg, up_eq, up_na, up_nk, z, ← hc, p2]) | split | (simp (disch := first | omega | (simp (disch := omega) only [i_lt0, i_tn, i_nn, m_cat_n, m_cat_i, m_cat_r, m_cat_z, m_cat_rv, m_cat_l, m_o_n, m_o_i, m_o_r, m_o_z, m_o_rv, m_o_f, hs_n, hs_k, hs_l, f_k_135 I, n_135 I, Nat.reduceLeDiff, not_false_eq_true, or_true, true_or, or_false, false_or]; first | done | omega) | exact Or.inl rfl | exact Or.inr rfl) only [cl_216, m_cat_n, m_cat_i, m_cat_r, m_cat_z, m_cat_rv, m_cat_l, Nat.zero_le, Nat.reduceLeDiff, Nat.reduceAdd, m_o_i, m_o_r, m_o_z, m_o_rv, hs_n, hs_k, f_k_135 I, n_135 I, hna, hka]; refine v_216 (G := G) (D := 4) I ha (by omega) (by omega) (by (try simp (disch := omega) only [up_row, up_ro, u1_n, u1_e, u1_uu, u1_sw, if_pos, if_neg, and_true, true_and, and_self, if_true, if_false]); (repeat (first | exact hI | assumption | refine I_nc (by unfold q_cr; omega) ?_ | refine I_fl (by omega) (by omega) (by omega) (by first | omega | (simp (disch := omega) only [u1_n]; omega)) ?_))) ?_; intro F1 f1 r1)))
    refine hQ F1 (sf_tr (by intro x y z1 z2 z3; simp (disch := omega) only [up_na, up_no]) f1) ?_
    rw [r1]
    simp (disch := omega) only [up_row, up_ro, u1_n, u1_e, u1_uu, u1_sw, if_pos, if_neg, and_true, true_and, and_self, if_true, if_false]
set_option maxHeartbeats 4000000 in
/-- isPlanned -/
theorem v_228 {L : Nat} {xs : Nat → Int32} {d : Nat} {h : m_H} {w : Int64} {F : m_M} {Q : Option Value ⊕ Nat → m_H → Prop} (I : RF h) {a : Nat} (ha : a = 147 ∨ a = 148) {G : tx_G} (hI : sp_I G 4 (F a)) {B : Int} (hB : sp_B B (F a)) (B9 : B ≤ 1070000000) {q : Int} (q0 : 0 ≤ q) (q1 : q < F a 1) {p : Int} (p0 : 1 ≤ p) (p2 : p ≤ 2) (hy : sp_pl (F a) q p → ∀ F' : m_M, sp_f a F F' → F' a = sp_pd (F a) q → Q (.inl (some (.int (Int32.ofInt 1)))) (m_hS h (w, F'))) (hn : ¬ sp_pl (F a) q p → Q (.inl (some (.int (Int32.ofInt 0)))) (m_hS h (w, F))) : m_W (p_P L xs) (d + 1) 228 k_228_0 [some (.ref a), some (.int (Int32.ofInt q)), some (.int (Int32.ofInt p))] [] (m_hS h (w, F)) Q := by
  have hka := ra_k I ha
  have hla := ra_l I ha
  have hna := ra_n I ha
  have hxa := ra_x ha
  have ne135 : ¬ 135 = a := by omega
  have ne136 : ¬ 136 = a := by omega
  have ne144 : ¬ 144 = a := by omega
  have ne153 : ¬ 153 = a := by omega
  have na135 : ¬ a = 135 := by omega
  have na153 : ¬ a = 153 := by omega
  have hnn := I_n hI
  have hB1 := hB.1
  have hb11q := B_j hB (j := (192 + 14 * q + 11).toNat) (by unfold sp_rp; omega)
  have hb12q := B_j hB (j := (192 + 14 * q + 12).toNat) (by unfold sp_rp; omega)
  unfold sp_pl sp_pd sp_u sp_o at *
  rw [k_228_0]
  (repeat' (first | (simp (disch := first | omega | (simp (disch := omega) only [i_lt0, i_tn, i_nn, m_cat_n, m_cat_i, m_cat_r, m_cat_z, m_cat_rv, m_cat_l, m_o_n, m_o_i, m_o_r, m_o_z, m_o_rv, m_o_f, hs_n, hs_k, hs_l, f_k_135 I, n_135 I, Nat.reduceLeDiff, not_false_eq_true, or_true, true_or, or_false, false_or, hka, hla, hxa, hna]; first | done | omega) | exact Or.inl rfl | exact Or.inr rfl) only [k_228_0, k_228_21, k_228_23, w_aload_0, w_aloadz_0, w_aloadv_0, w_iload_1, w_iconst, m_cat_n, m_cat_i, m_cat_r, m_cat_z, m_cat_rv, m_cat_l, Nat.zero_le, Nat.reduceLeDiff, Nat.reduceAdd, cl_211, m_o_i, m_o_r, m_o_z, m_o_rv, m_C_inl, Option.toList_some, Option.toList_none, List.cons_append, List.nil_append, w_iload_2, w_icmp_ne, w_if_ne, w_zret, w_isub, cl_212, tg_228_21, tg_228_23, k_211_0, w_imul, w_iadd, w_iaload, w_script, w_iret, k_212_0, w_iload_3, w_iastore, w_vret, w_icmp_eq, w_if_eq, hs_n, hs_k, hs_l, hs_R, hs_I, hs_L, hs_setI, hs_setL, hs_cpy, f_k_135 I, n_135 I, up_up, up_sw, up_sa, i_add, i_sub, i_mul, i_tn, i_nat, Int.reduceToNat, Int.reduceAdd, Int.reduceSub, Int.reduceMul, Int.reduceNeg, l_32, l_nat, l_c_lt, l_c_gt, l_c_eq, i_lt, i_eq, i_lt0, i_0lt, i_eq0, i_eq1, Int.reduceLT, Int.reduceEq, Int.reduceLE, Int.reduceNe, not_true_eq_false, not_false_eq_true, Nat.lt_irrefl, Int.lt_irrefl, eq_self, eq_self, Nat.reduceAdd, Nat.reduceMul, Nat.reduceSub, Nat.reduceDiv, Nat.reduceMod, Nat.reduceEqDiff, Nat.reduceLeDiff, Nat.reduceLT, Nat.zero_add, Nat.add_zero, Nat.zero_le, and_false, and_true, and_self, false_and, true_and, or_false, or_true, if_true, if_false, ite_true, ite_false, ↓reduceIte, Int.reduceToNat, Int.reduceAdd, Int.reduceSub, Int.reduceMul, Int.reduceNeg, up_eq, up_na, up_nk]) | split))
  all_goals first
    | exact hn (by omega)
    | (refine hy (by omega) _ (by intro x y z1 z2 z3; simp (disch := omega) only [up_na, up_no]) ?_
       simp (disch := omega) only [up_row, up_ro, u1_n, u1_e, u1_uu, u1_sw, if_pos, if_neg, and_true, true_and, and_self, if_true, if_false])
    | (exfalso; omega)
