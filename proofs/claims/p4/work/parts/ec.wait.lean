/-! the reference: what waits -/
section XW
variable {a : Bool} {F G : m_M} {w w' : Int64} {b : Nat → Int} {n p : Nat} {s s' : tx_St} {cs W W' : List Int} {o o' x : Int}
theorem getD_app {U : List Int} {x : Int} (k : Nat) (hk : k < U.length) : (U ++ [x]).getD k 0 = U.getD k 0 := by
  rw [List.getD_eq_getElem?_getD, List.getElem?_append_left hk, ← List.getD_eq_getElem?_getD]
theorem getD_end {U : List Int} {x : Int} : (U ++ [x]).getD U.length 0 = x := by
  rw [List.getD_eq_getElem?_getD, List.getElem?_append_right (Nat.le_refl _), Nat.sub_self]
  rfl
theorem X_mv (X : q_X a F w b n (0, p) cs W o) (V : q_V G w' b n s') (fr : ∀ x y, ¬ (x = 135 ∧ ((21 ≤ y ∧ y ≤ 24) ∨ y = 26 ∨ y = 27 ∨ y = 32 ∨ y = 33)) → ¬ x = 152 → G x y = F x y) (hg : s'.1 = 0 → (G 135 32 = ((W'.length : Nat) : Int) ∧ ∀ k, k < W'.length → G 152 k = W'.getD k 0) ∧ G 135 33 = o' ∧ cs.length + W'.length ≤ s'.2 ∧ 0 ≤ o' ∧ o' ≤ 6) : q_X a G w' b n s' cs W' o' ∧ q_g a F G := by
  obtain ⟨-, x2, x3, x4⟩ := X
  have hc := x_ca2 (a := a)
  obtain ⟨⟨c1, c2⟩, -⟩ := x4 rfl
  refine ⟨⟨V, (fr _ _ (by omega) (by omega)).trans x2, x3, fun z => ?_⟩, fun x y x1 x2 x3 => fr x y (by omega) x3, fun k _ => fr _ _ (by omega) (by omega)⟩
  exact ⟨⟨(fr _ _ (by omega) (by omega)).trans c1, fun k hk => (fr _ _ (by omega) (by omega)).trans (c2 k hk)⟩, hg z⟩
/-- what waits on top is done: a code more -/
def x_pp (a : Bool) (F : m_M) : m_M := m_up (m_up (m_up F 135 31 (F 135 31 + 1)) 135 32 (F 135 32 - 1)) (x_ca a) (F 135 31).toNat (F 152 (F 135 32 - 1).toNat)
theorem X_top (X : q_X a F w b n (0, p) cs (W ++ [x]) o) : F 135 32 = ((W.length + 1 : Nat) : Int) ∧ F 152 (F 135 32 - 1).toNat = x := by
  obtain ⟨-, x2, x3, x4⟩ := X
  obtain ⟨-, ⟨w1, w2⟩, -⟩ := x4 rfl
  rw [List.length_append, List.length_singleton] at w1 w2
  refine ⟨w1, ?_⟩
  rw [show (F 135 32 - 1).toNat = W.length by omega, w2 _ (by omega)]
  exact getD_end
theorem X_pp (X : q_X a F w b n (0, p) cs (W ++ [x]) o) : q_X a (x_pp a F) w b n (0, p) (cs ++ [x]) W o ∧ q_g a F (x_pp a F) := by
  obtain ⟨t1, t2⟩ := X_top X
  obtain ⟨V, x2, x3, x4⟩ := X
  have hc := x_ca2 (a := a)
  obtain ⟨⟨c1, c2⟩, ⟨w1, w2⟩, o1, l1, o2⟩ := x4 rfl
  rw [List.length_append, List.length_singleton] at l1 w2
  have e : (F 135 31).toNat = x_s0 a + cs.length := by omega
  unfold x_pp
  rw [e, t2]
  refine ⟨⟨V_cg V (fun x y hx => by rw [up_no (by omega), up_no (by omega), up_no (by omega)]), by rw [up_no (by omega), up_no (by omega), up_no (by omega)]; exact x2, x3, fun z => ⟨⟨?_, fun k hk => ?_⟩, ⟨?_, fun k hk => ?_⟩, ?_, ?_, o2⟩⟩, ⟨fun x y x1 x2 x3 => by rw [up_no (by omega), up_no (by omega), up_no (by omega)], fun k hk => by rw [up_no (by omega), up_no (by omega), up_no (by omega)]⟩⟩
  · rw [up_no (by omega), up_no (by omega), up_eq rfl rfl, c1, List.length_append, List.length_singleton]
    omega
  · rw [List.length_append, List.length_singleton] at hk
    by_cases q : k = cs.length
    · subst q
      rw [up_eq rfl rfl]
      exact getD_end.symm
    · rw [up_no (by omega), up_no (by omega), up_no (by omega), getD_app k (by omega)]
      exact c2 k (by omega)
  · rw [up_no (by omega), up_eq rfl rfl, t1]
    omega
  · rw [up_no (by omega), up_no (by omega), up_no (by omega), w2 k (by omega)]
    exact getD_app k hk
  · rw [up_no (by omega), up_no (by omega), up_no (by omega)]
    exact o1
  · rw [List.length_append, List.length_singleton]
    omega
end XW
set_option maxHeartbeats 8000000 in
theorem v_188 {L : Nat} {xs : Nat → Int32} {d : Nat} {h : m_H} {w : Int64} {Q : Option Value ⊕ Nat → m_H → Prop} (I : RF h) {b : Nat → Int} {n p : Nat} {W : List Int} {o : Int} {ba : Nat} {lo y : Int} (l1 : lo = 2 ∨ lo = 3) (hb : ba ≤ W.length) (hy : W.length = ba ∨ (∃ W0, W = W0 ++ [y] ∧ 0 ≤ y ∧ y ≤ 100 ∧ ¬ y = 28 ∧ (lo = 2 → ¬ y = 26 ∧ ¬ y = 27))) : ∀ (P : List Int) (F : m_M) (cs : List Int), q_X false F w b n (0, p) cs (W ++ P.reverse) o → (∀ x, x ∈ P → x = 28 ∨ (lo = 2 ∧ (x = 26 ∨ x = 27))) → (∀ (F' : m_M), q_g false F F' → q_X false F' w b n (0, p) (cs ++ P) W o → Q (.inl none) (m_hS h (w, F'))) → m_W (p_P L xs) (d + 2) 188 k_188_0 [some (.ref 135), some (.int (Int32.ofInt (ba : Int))), some (.int (Int32.ofInt lo))] [] (m_hS h (w, F)) Q := by
  intro P
  induction P with
  | nil =>
    intro F cs X hP hQ
    rw [List.reverse_nil, List.append_nil] at X
    have h9 := V_n X.1
    obtain ⟨⟨c1, c2⟩, ⟨w1, w2⟩, o1, ln, o2⟩ := X.2.2.2 rfl
    have h35 : F 135 35 = 0 := X.2.1
    have r3 := (V_0 X.1).2.2.1
    dsimp only at ln
    have hK := hQ F g_rf (by rw [List.append_nil]; exact X)
    rcases hy with hy | ⟨W0, rfl, y0, y1, y2, y3⟩
    · have c : ¬ (ba : Int) < F 135 32 := by omega
      rw [k_188_0]
      simp (disch := first | omega | (simp (disch := omega) only [i_lt0, i_tn, i_nn, m_cat_n, m_cat_i, m_cat_r, m_cat_z, m_cat_rv, m_cat_l, m_o_n, m_o_i, m_o_r, m_o_z, m_o_rv, m_o_f, hs_n, hs_k, hs_l, f_k_135 I, n_135 I, f_R_135_9 I, f_k_144 I, f_l_144 I, n_144 I, x_144, f_R_135_28 I, f_k_152 I, f_l_152 I, n_152 I, x_152, f_R_135_30 I, f_k_154 I, f_l_154 I, n_154 I, x_154, Nat.reduceLeDiff, not_false_eq_true, or_true, true_or, or_false, false_or]; first | done | omega) | exact Or.inl rfl | exact Or.inr rfl) only [k_188_52, w_aload_0, w_aloadz_0, w_aloadv_0, gf_800, m_rv_s, m_rv_n, w_iload_1, w_icmp_le, gf_796, w_iconst, w_isub, w_iaload, w_script, m_cat_n, m_cat_i, m_cat_r, m_cat_z, m_cat_rv, m_cat_l, Nat.zero_le, Nat.reduceLeDiff, Nat.reduceAdd, cl_187, m_o_i, m_o_r, m_o_z, m_o_rv, m_C_inl, Option.toList_some, Option.toList_none, List.cons_append, List.nil_append, w_iload_2, w_icmp_lt, w_dup_i, w_dup_r, w_dup_z, w_dup_v, pf_800, cl_184, w_goto, w_vret, tg_188_0, tg_188_52, k_187_0, k_187_10, tg_187_10, k_187_22, tg_187_22, k_187_26, tg_187_26, k_187_27, tg_187_27, w_iload_0, w_icmp_ne, w_icmp_eq, w_iret, k_184_0, k_184_20, tg_184_20, k_184_30, tg_184_30, gf_803, w_if_eq, gf_798, gf_799, w_iastore, gf_777, w_iadd, pf_799, hs_n, hs_k, hs_l, hs_R, hs_I, hs_L, hs_setI, hs_setL, hs_cpy, f_k_135 I, n_135 I, f_R_135_9 I, f_k_144 I, f_l_144 I, n_144 I, x_144, f_R_135_28 I, f_k_152 I, f_l_152 I, n_152 I, x_152, f_R_135_30 I, f_k_154 I, f_l_154 I, n_154 I, x_154, up_up, up_sw, up_sa, up_if, i_add, i_sub, i_mul, i_tn, i_nat, Int.reduceToNat, Int.reduceAdd, Int.reduceSub, Int.reduceMul, Int.reduceNeg, l_32, l_nat, l_c_lt, l_c_gt, l_c_eq, i_lt, i_eq, i_lt0, i_0lt, i_eq0, i_eq1, Int.reduceLT, Int.reduceEq, Int.reduceLE, Int.reduceNe, not_true_eq_false, not_false_eq_true, Nat.lt_irrefl, Int.lt_irrefl, eq_self, eq_self, Nat.reduceAdd, Nat.reduceMul, Nat.reduceSub, Nat.reduceDiv, Nat.reduceMod, Nat.reduceEqDiff, Nat.reduceLeDiff, Nat.reduceLT, Nat.zero_add, Nat.add_zero, Nat.zero_le, and_false, and_true, and_self, false_and, true_and, or_false, or_true, if_true, if_false, ite_true, ite_false, ↓reduceIte, Int.reduceToNat, Int.reduceAdd, Int.reduceSub, Int.reduceMul, Int.reduceNeg, c]
      exact hK
    · obtain ⟨t1, t2⟩ := X_top X
      rw [List.length_append, List.length_singleton] at hb ln
      rw [k_188_0]
      rcases l1 with rfl | rfl
      all_goals
        (repeat' (first | (simp (disch := first | omega | (simp (disch := omega) only [i_lt0, i_tn, i_nn, m_cat_n, m_cat_i, m_cat_r, m_cat_z, m_cat_rv, m_cat_l, m_o_n, m_o_i, m_o_r, m_o_z, m_o_rv, m_o_f, hs_n, hs_k, hs_l, f_k_135 I, n_135 I, f_R_135_9 I, f_k_144 I, f_l_144 I, n_144 I, x_144, f_R_135_28 I, f_k_152 I, f_l_152 I, n_152 I, x_152, f_R_135_30 I, f_k_154 I, f_l_154 I, n_154 I, x_154, Nat.reduceLeDiff, not_false_eq_true, or_true, true_or, or_false, false_or]; first | done | omega) | exact Or.inl rfl | exact Or.inr rfl) only [k_188_52, w_aload_0, w_aloadz_0, w_aloadv_0, gf_800, m_rv_s, m_rv_n, w_iload_1, w_icmp_le, gf_796, w_iconst, w_isub, w_iaload, w_script, m_cat_n, m_cat_i, m_cat_r, m_cat_z, m_cat_rv, m_cat_l, Nat.zero_le, Nat.reduceLeDiff, Nat.reduceAdd, cl_187, m_o_i, m_o_r, m_o_z, m_o_rv, m_C_inl, Option.toList_some, Option.toList_none, List.cons_append, List.nil_append, w_iload_2, w_icmp_lt, w_dup_i, w_dup_r, w_dup_z, w_dup_v, pf_800, cl_184, w_goto, w_vret, tg_188_0, tg_188_52, k_187_0, k_187_10, tg_187_10, k_187_22, tg_187_22, k_187_26, tg_187_26, k_187_27, tg_187_27, w_iload_0, w_icmp_ne, w_icmp_eq, w_iret, k_184_0, k_184_20, tg_184_20, k_184_30, tg_184_30, gf_803, w_if_eq, gf_798, gf_799, w_iastore, gf_777, w_iadd, pf_799, hs_n, hs_k, hs_l, hs_R, hs_I, hs_L, hs_setI, hs_setL, hs_cpy, f_k_135 I, n_135 I, f_R_135_9 I, f_k_144 I, f_l_144 I, n_144 I, x_144, f_R_135_28 I, f_k_152 I, f_l_152 I, n_152 I, x_152, f_R_135_30 I, f_k_154 I, f_l_154 I, n_154 I, x_154, up_up, up_sw, up_sa, up_if, i_add, i_sub, i_mul, i_tn, i_nat, Int.reduceToNat, Int.reduceAdd, Int.reduceSub, Int.reduceMul, Int.reduceNeg, l_32, l_nat, l_c_lt, l_c_gt, l_c_eq, i_lt, i_eq, i_lt0, i_0lt, i_eq0, i_eq1, Int.reduceLT, Int.reduceEq, Int.reduceLE, Int.reduceNe, not_true_eq_false, not_false_eq_true, Nat.lt_irrefl, Int.lt_irrefl, eq_self, eq_self, Nat.reduceAdd, Nat.reduceMul, Nat.reduceSub, Nat.reduceDiv, Nat.reduceMod, Nat.reduceEqDiff, Nat.reduceLeDiff, Nat.reduceLT, Nat.zero_add, Nat.add_zero, Nat.zero_le, and_false, and_true, and_self, false_and, true_and, or_false, or_true, if_true, if_false, ite_true, ite_false, ↓reduceIte, Int.reduceToNat, Int.reduceAdd, Int.reduceSub, Int.reduceMul, Int.reduceNeg, t2, h35]) | split))
        all_goals first
          | (exfalso; omega)
          | exact hK
  | cons x P ih =>
    intro F cs X hP hQ
    rw [List.reverse_cons, ← List.append_assoc] at X
    obtain ⟨t1, t2⟩ := X_top X
    have h9 := V_n X.1
    obtain ⟨⟨c1, c2⟩, ⟨w1, w2⟩, o1, ln, o2⟩ := X.2.2.2 rfl
    have h35 : F 135 35 = 0 := X.2.1
    have c1 : F 135 31 = ((1200 + cs.length : Nat) : Int) := c1
    have r3 := (V_0 X.1).2.2.1
    dsimp only at ln
    rw [List.length_append, List.length_singleton, List.length_append] at ln
    rw [List.length_append] at t1
    have hx := hP x (List.mem_cons_self ..)
    obtain ⟨XP, gP⟩ := X_pp X
    unfold x_pp at XP gP
    rw [t2] at XP gP
    have ih := ih _ _ XP (fun x hx => hP x (List.mem_cons_of_mem _ hx)) (fun F' g1 X1 => hQ F' (g_tr gP g1) (by rw [List.append_assoc] at X1; exact X1))
    rw [show x_ca false = 144 from rfl] at ih
    rw [k_188_0]
    rcases l1 with rfl | rfl
    all_goals
      (repeat' (first | (simp (disch := first | omega | (simp (disch := omega) only [i_lt0, i_tn, i_nn, m_cat_n, m_cat_i, m_cat_r, m_cat_z, m_cat_rv, m_cat_l, m_o_n, m_o_i, m_o_r, m_o_z, m_o_rv, m_o_f, hs_n, hs_k, hs_l, f_k_135 I, n_135 I, f_R_135_9 I, f_k_144 I, f_l_144 I, n_144 I, x_144, f_R_135_28 I, f_k_152 I, f_l_152 I, n_152 I, x_152, f_R_135_30 I, f_k_154 I, f_l_154 I, n_154 I, x_154, Nat.reduceLeDiff, not_false_eq_true, or_true, true_or, or_false, false_or]; first | done | omega) | exact Or.inl rfl | exact Or.inr rfl) only [k_188_52, w_aload_0, w_aloadz_0, w_aloadv_0, gf_800, m_rv_s, m_rv_n, w_iload_1, w_icmp_le, gf_796, w_iconst, w_isub, w_iaload, w_script, m_cat_n, m_cat_i, m_cat_r, m_cat_z, m_cat_rv, m_cat_l, Nat.zero_le, Nat.reduceLeDiff, Nat.reduceAdd, cl_187, m_o_i, m_o_r, m_o_z, m_o_rv, m_C_inl, Option.toList_some, Option.toList_none, List.cons_append, List.nil_append, w_iload_2, w_icmp_lt, w_dup_i, w_dup_r, w_dup_z, w_dup_v, pf_800, cl_184, w_goto, w_vret, tg_188_0, tg_188_52, k_187_0, k_187_10, tg_187_10, k_187_22, tg_187_22, k_187_26, tg_187_26, k_187_27, tg_187_27, w_iload_0, w_icmp_ne, w_icmp_eq, w_iret, k_184_0, k_184_20, tg_184_20, k_184_30, tg_184_30, gf_803, w_if_eq, gf_798, gf_799, w_iastore, gf_777, w_iadd, pf_799, hs_n, hs_k, hs_l, hs_R, hs_I, hs_L, hs_setI, hs_setL, hs_cpy, f_k_135 I, n_135 I, f_R_135_9 I, f_k_144 I, f_l_144 I, n_144 I, x_144, f_R_135_28 I, f_k_152 I, f_l_152 I, n_152 I, x_152, f_R_135_30 I, f_k_154 I, f_l_154 I, n_154 I, x_154, up_up, up_sw, up_sa, up_if, i_add, i_sub, i_mul, i_tn, i_nat, Int.reduceToNat, Int.reduceAdd, Int.reduceSub, Int.reduceMul, Int.reduceNeg, l_32, l_nat, l_c_lt, l_c_gt, l_c_eq, i_lt, i_eq, i_lt0, i_0lt, i_eq0, i_eq1, Int.reduceLT, Int.reduceEq, Int.reduceLE, Int.reduceNe, not_true_eq_false, not_false_eq_true, Nat.lt_irrefl, Int.lt_irrefl, eq_self, eq_self, Nat.reduceAdd, Nat.reduceMul, Nat.reduceSub, Nat.reduceDiv, Nat.reduceMod, Nat.reduceEqDiff, Nat.reduceLeDiff, Nat.reduceLT, Nat.zero_add, Nat.add_zero, Nat.zero_le, and_false, and_true, and_self, false_and, true_and, or_false, or_true, if_true, if_false, ite_true, ite_false, ↓reduceIte, Int.reduceToNat, Int.reduceAdd, Int.reduceSub, Int.reduceMul, Int.reduceNeg, t2, h35]) | split))
      all_goals first
        | (exfalso; omega)
        | exact ih
set_option maxHeartbeats 4000000 in
theorem v_185 {L : Nat} {xs : Nat → Int32} {d : Nat} {h : m_H} {w : Int64} {F : m_M} {Q : Option Value ⊕ Nat → m_H → Prop} (I : RF h) {a : Bool} {b : Nat → Int} {n p : Nat} {cs W : List Int} {o : Int} (X : q_X a F w b n (0, p) cs W o) (hp : p < n) {kd : Int} (k0 : 0 ≤ kd) (k1 : kd ≤ 100) (hQ0 : ¬ o < 6 → ∀ (F' : m_M), q_g a F F' → q_X a F' w b n (3, p) cs W o → Q (.inl (some (.int (Int32.ofInt 0)))) (m_hS h (w, F'))) (hQ1 : o < 6 → ∀ (w' : Int64) (F' : m_M), q_g a F F' → q_X a F' w' b n (0, tx_nx b n p) cs (W ++ [kd]) (o + 1) → Q (.inl (some (.int (Int32.ofInt 1)))) (m_hS h (w', F'))) : m_W (p_P L xs) (d + 3) 185 k_185_0 [some (.ref 135), some (.int (Int32.ofInt kd))] [] (m_hS h (w, F)) Q := by
  have V := X.1
  have h9 := V_n V
  obtain ⟨r1, r2, r3, r4, r5, r6, r7⟩ := V_0 V
  obtain ⟨⟨c1, c2⟩, ⟨w1, w2⟩, o1, ln, o2⟩ := X.2.2.2 rfl
  dsimp only at ln
  have gt := tx_nx_gt (b := b) hp
  by_cases c : o < 6
  · have hQ1 := hQ1 c
    (repeat' (first | (simp (disch := first | omega | (simp (disch := omega) only [i_lt0, i_tn, i_nn, m_cat_n, m_cat_i, m_cat_r, m_cat_z, m_cat_rv, m_cat_l, m_o_n, m_o_i, m_o_r, m_o_z, m_o_rv, m_o_f, hs_n, hs_k, hs_l, f_k_135 I, n_135 I, f_R_135_28 I, f_k_152 I, f_l_152 I, n_152 I, x_152, Nat.reduceLeDiff, not_false_eq_true, or_true, true_or, or_false, false_or]; first | done | omega) | exact Or.inl rfl | exact Or.inr rfl) only [k_185_0, k_185_15, w_aload_0, w_aloadz_0, w_aloadv_0, gf_801, m_rv_s, m_rv_n, w_iconst, w_icmp_ne, m_cat_n, m_cat_i, m_cat_r, m_cat_z, m_cat_rv, m_cat_l, Nat.zero_le, Nat.reduceLeDiff, Nat.reduceAdd, cl_170, m_o_i, m_o_r, m_o_z, m_o_rv, m_C_inl, Option.toList_some, Option.toList_none, List.cons_append, List.nil_append, w_zret, w_dup_i, w_dup_r, w_dup_z, w_dup_v, w_iadd, pf_801, gf_796, gf_800, w_iload_1, w_iastore, pf_800, tg_185_15, k_171_0, k_171_11, tg_171_11, k_171_12, tg_171_12, gf_794, w_if_ne, w_goto, k_170_0, k_170_20, tg_170_20, pf_794, gf_790, pf_795, w_icmp_eq, w_if_eq, hs_n, hs_k, hs_l, hs_R, hs_I, hs_L, hs_setI, hs_setL, hs_cpy, f_k_135 I, n_135 I, f_R_135_28 I, f_k_152 I, f_l_152 I, n_152 I, x_152, up_up, up_sw, up_sa, up_if, i_add, i_sub, i_mul, i_tn, i_nat, Int.reduceToNat, Int.reduceAdd, Int.reduceSub, Int.reduceMul, Int.reduceNeg, l_32, l_nat, l_c_lt, l_c_gt, l_c_eq, i_lt, i_eq, i_lt0, i_0lt, i_eq0, i_eq1, Int.reduceLT, Int.reduceEq, Int.reduceLE, Int.reduceNe, not_true_eq_false, not_false_eq_true, Nat.lt_irrefl, Int.lt_irrefl, eq_self, eq_self, Nat.reduceAdd, Nat.reduceMul, Nat.reduceSub, Nat.reduceDiv, Nat.reduceMod, Nat.reduceEqDiff, Nat.reduceLeDiff, Nat.reduceLT, Nat.zero_add, Nat.add_zero, Nat.zero_le, and_false, and_true, and_self, false_and, true_and, or_false, or_true, if_true, if_false, ite_true, ite_false, ↓reduceIte, Int.reduceToNat, Int.reduceAdd, Int.reduceSub, Int.reduceMul, Int.reduceNeg, r1, o1, w1, Int.toNat_natCast]) | split))
    all_goals first
      | (exfalso; omega)
      | (simp (disch := first | omega | (simp (disch := omega) only [i_lt0, i_tn, i_nn, m_cat_n, m_cat_i, m_cat_r, m_cat_z, m_cat_rv, m_cat_l, m_o_n, m_o_i, m_o_r, m_o_z, m_o_rv, m_o_f, hs_n, hs_k, hs_l, f_k_135 I, n_135 I, Nat.reduceLeDiff, not_false_eq_true, or_true, true_or, or_false, false_or]; first | done | omega) | exact Or.inl rfl | exact Or.inr rfl) only [cl_168, m_cat_n, m_cat_i, m_cat_r, m_cat_z, m_cat_rv, m_cat_l, Nat.zero_le, Nat.reduceLeDiff, Nat.reduceAdd, m_o_i, m_o_r, m_o_z, m_o_rv, hs_n, hs_k, f_k_135 I, n_135 I]
         refine v_168 I (V_cg V (fun x y hx => by rw [up_no (by omega), up_no (by omega), up_no (by omega)])) hp (fun w1 F1 g1 V1 => ?_)
         have XM := X_mv (W' := W ++ [kd]) (o' := o + 1) X V1 (fun x y x1 x2 => by rw [g1 _ _ (by omega), up_no (by omega), up_no (by omega), up_no (by omega)]) (fun _ => ?_)
         · simp (disch := first | omega | (simp (disch := omega) only [i_lt0, i_tn, i_nn, m_cat_n, m_cat_i, m_cat_r, m_cat_z, m_cat_rv, m_cat_l, m_o_n, m_o_i, m_o_r, m_o_z, m_o_rv, m_o_f, hs_n, hs_k, hs_l, f_k_135 I, n_135 I, f_R_135_28 I, f_k_152 I, f_l_152 I, n_152 I, x_152, Nat.reduceLeDiff, not_false_eq_true, or_true, true_or, or_false, false_or]; first | done | omega) | exact Or.inl rfl | exact Or.inr rfl) only [k_185_0, k_185_15, w_aload_0, w_aloadz_0, w_aloadv_0, gf_801, m_rv_s, m_rv_n, w_iconst, w_icmp_ne, m_cat_n, m_cat_i, m_cat_r, m_cat_z, m_cat_rv, m_cat_l, Nat.zero_le, Nat.reduceLeDiff, Nat.reduceAdd, m_o_i, m_o_r, m_o_z, m_o_rv, m_C_inl, Option.toList_some, Option.toList_none, List.cons_append, List.nil_append, w_zret, w_dup_i, w_dup_r, w_dup_z, w_dup_v, w_iadd, pf_801, gf_796, gf_800, w_iload_1, w_iastore, pf_800, tg_185_15, w_icmp_eq, w_if_eq, hs_n, hs_k, hs_l, hs_R, hs_I, hs_L, hs_setI, hs_setL, hs_cpy, f_k_135 I, n_135 I, f_R_135_28 I, f_k_152 I, f_l_152 I, n_152 I, x_152, up_up, up_sw, up_sa, up_if, i_add, i_sub, i_mul, i_tn, i_nat, Int.reduceToNat, Int.reduceAdd, Int.reduceSub, Int.reduceMul, Int.reduceNeg, l_32, l_nat, l_c_lt, l_c_gt, l_c_eq, i_lt, i_eq, i_lt0, i_0lt, i_eq0, i_eq1, Int.reduceLT, Int.reduceEq, Int.reduceLE, Int.reduceNe, not_true_eq_false, not_false_eq_true, Nat.lt_irrefl, Int.lt_irrefl, eq_self, eq_self, Nat.reduceAdd, Nat.reduceMul, Nat.reduceSub, Nat.reduceDiv, Nat.reduceMod, Nat.reduceEqDiff, Nat.reduceLeDiff, Nat.reduceLT, Nat.zero_add, Nat.add_zero, Nat.zero_le, and_false, and_true, and_self, false_and, true_and, or_false, or_true, if_true, if_false, ite_true, ite_false, ↓reduceIte, Int.reduceToNat, Int.reduceAdd, Int.reduceSub, Int.reduceMul, Int.reduceNeg, r1]
           exact hQ1 _ _ XM.2 XM.1
         · refine ⟨⟨?_, fun k hk => ?_⟩, ?_, ?_, by omega, by omega⟩
           · rw [g1 _ _ (by omega), List.length_append, List.length_singleton, up_no (by omega)]
             simp only [up_if, eq_self, Nat.reduceEqDiff, and_false, and_true, and_self, if_true, if_false]
             omega
           · rw [List.length_append, List.length_singleton] at hk
             rw [g1 _ _ (by omega)]
             by_cases q : k = W.length
             · subst q
               rw [up_eq rfl rfl]
               exact getD_end.symm
             · rw [up_no (by omega), up_no (by omega), up_no (by omega), getD_app k (by omega)]
               exact w2 k (by omega)
           · rw [g1 _ _ (by omega), up_no (by omega)]
             simp only [up_if, eq_self, Nat.reduceEqDiff, and_false, and_true, and_self, if_true, if_false]
           · rw [List.length_append, List.length_singleton]
             dsimp only
             omega)
  · (repeat' (first | (simp (disch := first | omega | (simp (disch := omega) only [i_lt0, i_tn, i_nn, m_cat_n, m_cat_i, m_cat_r, m_cat_z, m_cat_rv, m_cat_l, m_o_n, m_o_i, m_o_r, m_o_z, m_o_rv, m_o_f, hs_n, hs_k, hs_l, f_k_135 I, n_135 I, f_R_135_28 I, f_k_152 I, f_l_152 I, n_152 I, x_152, Nat.reduceLeDiff, not_false_eq_true, or_true, true_or, or_false, false_or]; first | done | omega) | exact Or.inl rfl | exact Or.inr rfl) only [k_185_0, k_185_15, w_aload_0, w_aloadz_0, w_aloadv_0, gf_801, m_rv_s, m_rv_n, w_iconst, w_icmp_ne, m_cat_n, m_cat_i, m_cat_r, m_cat_z, m_cat_rv, m_cat_l, Nat.zero_le, Nat.reduceLeDiff, Nat.reduceAdd, cl_170, m_o_i, m_o_r, m_o_z, m_o_rv, m_C_inl, Option.toList_some, Option.toList_none, List.cons_append, List.nil_append, w_zret, w_dup_i, w_dup_r, w_dup_z, w_dup_v, w_iadd, pf_801, gf_796, gf_800, w_iload_1, w_iastore, pf_800, tg_185_15, k_171_0, k_171_11, tg_171_11, k_171_12, tg_171_12, gf_794, w_if_ne, w_goto, k_170_0, k_170_20, tg_170_20, pf_794, gf_790, pf_795, w_icmp_eq, w_if_eq, hs_n, hs_k, hs_l, hs_R, hs_I, hs_L, hs_setI, hs_setL, hs_cpy, f_k_135 I, n_135 I, f_R_135_28 I, f_k_152 I, f_l_152 I, n_152 I, x_152, up_up, up_sw, up_sa, up_if, i_add, i_sub, i_mul, i_tn, i_nat, Int.reduceToNat, Int.reduceAdd, Int.reduceSub, Int.reduceMul, Int.reduceNeg, l_32, l_nat, l_c_lt, l_c_gt, l_c_eq, i_lt, i_eq, i_lt0, i_0lt, i_eq0, i_eq1, Int.reduceLT, Int.reduceEq, Int.reduceLE, Int.reduceNe, not_true_eq_false, not_false_eq_true, Nat.lt_irrefl, Int.lt_irrefl, eq_self, eq_self, Nat.reduceAdd, Nat.reduceMul, Nat.reduceSub, Nat.reduceDiv, Nat.reduceMod, Nat.reduceEqDiff, Nat.reduceLeDiff, Nat.reduceLT, Nat.zero_add, Nat.add_zero, Nat.zero_le, and_false, and_true, and_self, false_and, true_and, or_false, or_true, if_true, if_false, ite_true, ite_false, ↓reduceIte, Int.reduceToNat, Int.reduceAdd, Int.reduceSub, Int.reduceMul, Int.reduceNeg, r1, o1]) | split))
    all_goals first
      | (exfalso; omega)
      | exact hQ0 c _ (g_f1 f1_wr) (X_f1 X f1_wr (V_wr V (v := 3) (by decide) (by decide)) (fun z9 => absurd z9 (show ¬ (3 : Int) = 0 by decide)))
set_option maxHeartbeats 4000000 in
theorem lx_189 {L : Nat} {xs : Nat → Int32} {d : Nat} {h : m_H} {w : Int64} {F : m_M} {Q : Option Value ⊕ Nat → m_H → Prop} (I : RF h) {a : Bool} {b : Nat → Int} {n p : Nat} {cs W : List Int} {o : Int} (X : q_X a F w b n (0, p) cs W o) (hW : ∀ k, k < W.length → 0 ≤ W.getD k 0 ∧ W.getD k 0 ≤ 100) {ba : Nat} : ∀ (m i : Nat), i ≤ W.length → W.length - i ≤ m → ((∃ k, i ≤ k ∧ k < W.length ∧ W.getD k 0 = 2) → Q (.inl (some (.int (Int32.ofInt 1)))) (m_hS h (w, F))) → ((∀ k, i ≤ k → k < W.length → ¬ W.getD k 0 = 2) → Q (.inl (some (.int (Int32.ofInt 0)))) (m_hS h (w, F))) → m_W (p_P L xs) (d + 1) 189 k_189_2 [some (.ref 135), some (.int (Int32.ofInt (ba : Int))), some (.int (Int32.ofInt (i : Int)))] [] (m_hS h (w, F)) Q := by
  have h9 := V_n X.1
  obtain ⟨r1, r2, r3, r4, r5, r6, r7⟩ := V_0 X.1
  obtain ⟨⟨c1, c2⟩, ⟨w1, w2⟩, o1, ln, o2⟩ := X.2.2.2 rfl
  dsimp only at ln
  intro m
  induction m with
  | zero =>
    intro i h0 h1 hQ1 hQ0
    have e : ¬ (i : Int) < ((W.length : Nat) : Int) := by omega
    rw [k_189_2]
    simp (disch := first | omega | (simp (disch := omega) only [i_lt0, i_tn, i_nn, m_cat_n, m_cat_i, m_cat_r, m_cat_z, m_cat_rv, m_cat_l, m_o_n, m_o_i, m_o_r, m_o_z, m_o_rv, m_o_f, hs_n, hs_k, hs_l, f_k_135 I, n_135 I, f_R_135_28 I, f_k_152 I, f_l_152 I, n_152 I, x_152, Nat.reduceLeDiff, not_false_eq_true, or_true, true_or, or_false, false_or]; first | done | omega) | exact Or.inl rfl | exact Or.inr rfl) only [k_189_0, k_189_22, k_189_28, w_iload_1, w_istore_2, m_o_n, m_o_i, m_o_r, m_o_z, m_o_rv, m_o_f, w_iload_2, w_aload_0, w_aloadz_0, w_aloadv_0, gf_800, m_rv_s, m_rv_n, w_icmp_ge, gf_796, w_iaload, w_script, w_iconst, w_icmp_ne, w_zret, w_iinc_2, w_goto, tg_189_2, tg_189_22, tg_189_28, m_C_inl, Option.toList_some, Option.toList_none, List.cons_append, List.nil_append, w_icmp_eq, w_if_eq, hs_n, hs_k, hs_l, hs_R, hs_I, hs_L, hs_setI, hs_setL, hs_cpy, f_k_135 I, n_135 I, f_R_135_28 I, f_k_152 I, f_l_152 I, n_152 I, x_152, up_up, up_sw, up_sa, up_if, i_add, i_sub, i_mul, i_tn, i_nat, Int.reduceToNat, Int.reduceAdd, Int.reduceSub, Int.reduceMul, Int.reduceNeg, l_32, l_nat, l_c_lt, l_c_gt, l_c_eq, i_lt, i_eq, i_lt0, i_0lt, i_eq0, i_eq1, Int.reduceLT, Int.reduceEq, Int.reduceLE, Int.reduceNe, not_true_eq_false, not_false_eq_true, Nat.lt_irrefl, Int.lt_irrefl, eq_self, eq_self, Nat.reduceAdd, Nat.reduceMul, Nat.reduceSub, Nat.reduceDiv, Nat.reduceMod, Nat.reduceEqDiff, Nat.reduceLeDiff, Nat.reduceLT, Nat.zero_add, Nat.add_zero, Nat.zero_le, and_false, and_true, and_self, false_and, true_and, or_false, or_true, if_true, if_false, ite_true, ite_false, ↓reduceIte, Int.reduceToNat, Int.reduceAdd, Int.reduceSub, Int.reduceMul, Int.reduceNeg, w1, e]
    exact hQ0 (fun k k1 k2 => by omega)
  | succ m ih =>
    intro i h0 h1 hQ1 hQ0
    by_cases e : i < W.length
    · have wi := w2 i e
      have hwi := hW i e
      have e0 : (i : Int) < ((W.length : Nat) : Int) := by omega
      have e5 : (i : Int) + 1 = ((i + 1 : Nat) : Int) := by omega
      by_cases c : W.getD i 0 = 2
      · rw [c] at wi
        rw [k_189_2]
        (repeat' (first | (simp (disch := first | omega | (simp (disch := omega) only [i_lt0, i_tn, i_nn, m_cat_n, m_cat_i, m_cat_r, m_cat_z, m_cat_rv, m_cat_l, m_o_n, m_o_i, m_o_r, m_o_z, m_o_rv, m_o_f, hs_n, hs_k, hs_l, f_k_135 I, n_135 I, f_R_135_28 I, f_k_152 I, f_l_152 I, n_152 I, x_152, Nat.reduceLeDiff, not_false_eq_true, or_true, true_or, or_false, false_or]; first | done | omega) | exact Or.inl rfl | exact Or.inr rfl) only [k_189_0, k_189_22, k_189_28, w_iload_1, w_istore_2, m_o_n, m_o_i, m_o_r, m_o_z, m_o_rv, m_o_f, w_iload_2, w_aload_0, w_aloadz_0, w_aloadv_0, gf_800, m_rv_s, m_rv_n, w_icmp_ge, gf_796, w_iaload, w_script, w_iconst, w_icmp_ne, w_zret, w_iinc_2, w_goto, tg_189_2, tg_189_22, tg_189_28, m_C_inl, Option.toList_some, Option.toList_none, List.cons_append, List.nil_append, w_icmp_eq, w_if_eq, hs_n, hs_k, hs_l, hs_R, hs_I, hs_L, hs_setI, hs_setL, hs_cpy, f_k_135 I, n_135 I, f_R_135_28 I, f_k_152 I, f_l_152 I, n_152 I, x_152, up_up, up_sw, up_sa, up_if, i_add, i_sub, i_mul, i_tn, i_nat, Int.reduceToNat, Int.reduceAdd, Int.reduceSub, Int.reduceMul, Int.reduceNeg, l_32, l_nat, l_c_lt, l_c_gt, l_c_eq, i_lt, i_eq, i_lt0, i_0lt, i_eq0, i_eq1, Int.reduceLT, Int.reduceEq, Int.reduceLE, Int.reduceNe, not_true_eq_false, not_false_eq_true, Nat.lt_irrefl, Int.lt_irrefl, eq_self, eq_self, Nat.reduceAdd, Nat.reduceMul, Nat.reduceSub, Nat.reduceDiv, Nat.reduceMod, Nat.reduceEqDiff, Nat.reduceLeDiff, Nat.reduceLT, Nat.zero_add, Nat.add_zero, Nat.zero_le, and_false, and_true, and_self, false_and, true_and, or_false, or_true, if_true, if_false, ite_true, ite_false, ↓reduceIte, Int.reduceToNat, Int.reduceAdd, Int.reduceSub, Int.reduceMul, Int.reduceNeg, w1, e0, wi, Int.toNat_natCast]) | split))
        all_goals first
          | (exfalso; omega)
          | exact hQ1 ⟨i, Nat.le_refl _, e, c⟩
      · have ih := ih (i + 1) (by omega) (by omega) (fun ⟨k, k1, k2, k3⟩ => hQ1 ⟨k, by omega, k2, k3⟩) (fun hk => hQ0 (fun k k1 k2 => by
          by_cases q : k = i
          · rw [q]; exact c
          · exact hk k (by omega) k2))
        rw [k_189_2]
        (repeat' (first | (simp (disch := first | omega | (simp (disch := omega) only [i_lt0, i_tn, i_nn, m_cat_n, m_cat_i, m_cat_r, m_cat_z, m_cat_rv, m_cat_l, m_o_n, m_o_i, m_o_r, m_o_z, m_o_rv, m_o_f, hs_n, hs_k, hs_l, f_k_135 I, n_135 I, f_R_135_28 I, f_k_152 I, f_l_152 I, n_152 I, x_152, Nat.reduceLeDiff, not_false_eq_true, or_true, true_or, or_false, false_or]; first | done | omega) | exact Or.inl rfl | exact Or.inr rfl) only [k_189_0, k_189_22, k_189_28, w_iload_1, w_istore_2, m_o_n, m_o_i, m_o_r, m_o_z, m_o_rv, m_o_f, w_iload_2, w_aload_0, w_aloadz_0, w_aloadv_0, gf_800, m_rv_s, m_rv_n, w_icmp_ge, gf_796, w_iaload, w_script, w_iconst, w_icmp_ne, w_zret, w_iinc_2, w_goto, tg_189_2, tg_189_22, tg_189_28, m_C_inl, Option.toList_some, Option.toList_none, List.cons_append, List.nil_append, w_icmp_eq, w_if_eq, hs_n, hs_k, hs_l, hs_R, hs_I, hs_L, hs_setI, hs_setL, hs_cpy, f_k_135 I, n_135 I, f_R_135_28 I, f_k_152 I, f_l_152 I, n_152 I, x_152, up_up, up_sw, up_sa, up_if, i_add, i_sub, i_mul, i_tn, i_nat, Int.reduceToNat, Int.reduceAdd, Int.reduceSub, Int.reduceMul, Int.reduceNeg, l_32, l_nat, l_c_lt, l_c_gt, l_c_eq, i_lt, i_eq, i_lt0, i_0lt, i_eq0, i_eq1, Int.reduceLT, Int.reduceEq, Int.reduceLE, Int.reduceNe, not_true_eq_false, not_false_eq_true, Nat.lt_irrefl, Int.lt_irrefl, eq_self, eq_self, Nat.reduceAdd, Nat.reduceMul, Nat.reduceSub, Nat.reduceDiv, Nat.reduceMod, Nat.reduceEqDiff, Nat.reduceLeDiff, Nat.reduceLT, Nat.zero_add, Nat.add_zero, Nat.zero_le, and_false, and_true, and_self, false_and, true_and, or_false, or_true, if_true, if_false, ite_true, ite_false, ↓reduceIte, Int.reduceToNat, Int.reduceAdd, Int.reduceSub, Int.reduceMul, Int.reduceNeg, w1, e0, wi, e5, Int.toNat_natCast]) | split))
        all_goals first
          | (exfalso; omega)
          | exact ih
    · have e0 : ¬ (i : Int) < ((W.length : Nat) : Int) := by omega
      rw [k_189_2]
      simp (disch := first | omega | (simp (disch := omega) only [i_lt0, i_tn, i_nn, m_cat_n, m_cat_i, m_cat_r, m_cat_z, m_cat_rv, m_cat_l, m_o_n, m_o_i, m_o_r, m_o_z, m_o_rv, m_o_f, hs_n, hs_k, hs_l, f_k_135 I, n_135 I, f_R_135_28 I, f_k_152 I, f_l_152 I, n_152 I, x_152, Nat.reduceLeDiff, not_false_eq_true, or_true, true_or, or_false, false_or]; first | done | omega) | exact Or.inl rfl | exact Or.inr rfl) only [k_189_0, k_189_22, k_189_28, w_iload_1, w_istore_2, m_o_n, m_o_i, m_o_r, m_o_z, m_o_rv, m_o_f, w_iload_2, w_aload_0, w_aloadz_0, w_aloadv_0, gf_800, m_rv_s, m_rv_n, w_icmp_ge, gf_796, w_iaload, w_script, w_iconst, w_icmp_ne, w_zret, w_iinc_2, w_goto, tg_189_2, tg_189_22, tg_189_28, m_C_inl, Option.toList_some, Option.toList_none, List.cons_append, List.nil_append, w_icmp_eq, w_if_eq, hs_n, hs_k, hs_l, hs_R, hs_I, hs_L, hs_setI, hs_setL, hs_cpy, f_k_135 I, n_135 I, f_R_135_28 I, f_k_152 I, f_l_152 I, n_152 I, x_152, up_up, up_sw, up_sa, up_if, i_add, i_sub, i_mul, i_tn, i_nat, Int.reduceToNat, Int.reduceAdd, Int.reduceSub, Int.reduceMul, Int.reduceNeg, l_32, l_nat, l_c_lt, l_c_gt, l_c_eq, i_lt, i_eq, i_lt0, i_0lt, i_eq0, i_eq1, Int.reduceLT, Int.reduceEq, Int.reduceLE, Int.reduceNe, not_true_eq_false, not_false_eq_true, Nat.lt_irrefl, Int.lt_irrefl, eq_self, eq_self, Nat.reduceAdd, Nat.reduceMul, Nat.reduceSub, Nat.reduceDiv, Nat.reduceMod, Nat.reduceEqDiff, Nat.reduceLeDiff, Nat.reduceLT, Nat.zero_add, Nat.add_zero, Nat.zero_le, and_false, and_true, and_self, false_and, true_and, or_false, or_true, if_true, if_false, ite_true, ite_false, ↓reduceIte, Int.reduceToNat, Int.reduceAdd, Int.reduceSub, Int.reduceMul, Int.reduceNeg, w1, e0]
      exact hQ0 (fun k k1 k2 => by omega)
theorem v_189 {L : Nat} {xs : Nat → Int32} {d : Nat} {h : m_H} {w : Int64} {F : m_M} {Q : Option Value ⊕ Nat → m_H → Prop} (I : RF h) {a : Bool} {b : Nat → Int} {n p : Nat} {cs W : List Int} {o : Int} (X : q_X a F w b n (0, p) cs W o) (hW : ∀ k, k < W.length → 0 ≤ W.getD k 0 ∧ W.getD k 0 ≤ 100) {ba : Nat} (hb : ba ≤ W.length) (hQ1 : (∃ k, ba ≤ k ∧ k < W.length ∧ W.getD k 0 = 2) → Q (.inl (some (.int (Int32.ofInt 1)))) (m_hS h (w, F))) (hQ0 : (∀ k, ba ≤ k → k < W.length → ¬ W.getD k 0 = 2) → Q (.inl (some (.int (Int32.ofInt 0)))) (m_hS h (w, F))) : m_W (p_P L xs) (d + 1) 189 k_189_0 [some (.ref 135), some (.int (Int32.ofInt (ba : Int))), none] [] (m_hS h (w, F)) Q := by
  rw [k_189_0]
  simp (disch := first | omega | (simp (disch := omega) only [i_lt0, i_tn, i_nn, m_cat_n, m_cat_i, m_cat_r, m_cat_z, m_cat_rv, m_cat_l, m_o_n, m_o_i, m_o_r, m_o_z, m_o_rv, m_o_f, hs_n, hs_k, hs_l, f_k_135 I, n_135 I, f_R_135_28 I, f_k_152 I, f_l_152 I, n_152 I, x_152, Nat.reduceLeDiff, not_false_eq_true, or_true, true_or, or_false, false_or]; first | done | omega) | exact Or.inl rfl | exact Or.inr rfl) only [k_189_0, k_189_22, k_189_28, w_iload_1, w_istore_2, m_o_n, m_o_i, m_o_r, m_o_z, m_o_rv, m_o_f, w_iload_2, w_aload_0, w_aloadz_0, w_aloadv_0, gf_800, m_rv_s, m_rv_n, w_icmp_ge, gf_796, w_iaload, w_script, w_iconst, w_icmp_ne, w_zret, w_iinc_2, w_goto, tg_189_2, tg_189_22, tg_189_28, m_C_inl, Option.toList_some, Option.toList_none, List.cons_append, List.nil_append, w_icmp_eq, w_if_eq, hs_n, hs_k, hs_l, hs_R, hs_I, hs_L, hs_setI, hs_setL, hs_cpy, f_k_135 I, n_135 I, f_R_135_28 I, f_k_152 I, f_l_152 I, n_152 I, x_152, up_up, up_sw, up_sa, up_if, i_add, i_sub, i_mul, i_tn, i_nat, Int.reduceToNat, Int.reduceAdd, Int.reduceSub, Int.reduceMul, Int.reduceNeg, l_32, l_nat, l_c_lt, l_c_gt, l_c_eq, i_lt, i_eq, i_lt0, i_0lt, i_eq0, i_eq1, Int.reduceLT, Int.reduceEq, Int.reduceLE, Int.reduceNe, not_true_eq_false, not_false_eq_true, Nat.lt_irrefl, Int.lt_irrefl, eq_self, eq_self, Nat.reduceAdd, Nat.reduceMul, Nat.reduceSub, Nat.reduceDiv, Nat.reduceMod, Nat.reduceEqDiff, Nat.reduceLeDiff, Nat.reduceLT, Nat.zero_add, Nat.add_zero, Nat.zero_le, and_false, and_true, and_self, false_and, true_and, or_false, or_true, if_true, if_false, ite_true, ite_false, ↓reduceIte, Int.reduceToNat, Int.reduceAdd, Int.reduceSub, Int.reduceMul, Int.reduceNeg]
  exact lx_189 I X hW W.length ba hb (by omega) hQ1 hQ0
