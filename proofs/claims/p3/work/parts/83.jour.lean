/-! changes of a World's ints -/
section VW
variable {u b s j : Nat} {nd nc v : Int} {F0 F F' : m_M}
theorem v_j5 (hu : u < b) (h0 : 0 ≤ v) (h1 : v < 200) (hV : q_v u b s nd nc F0 F) : q_v u b s nd nc F0 (m_up F (b + 2) 5 v) := by
  obtain ⟨f, ⟨b1, b2, b3, b4, b5, b6⟩, e⟩ := hV
  have g : ∀ x y, ¬ (x = b + 2 ∧ y = 5) → m_up F (b + 2) 5 v x y = F x y := fun x y hxy => by rw [up_if, if_neg hxy]
  refine ⟨fun x y x1 x2 x3 => (g x y (by omega)).trans (f x y x1 x2 x3), ⟨?_, ?_, fun d hd => ?_, fun d k hd hk => ?_, fun q hq => ?_, fun q hq => ?_⟩, (g u 2 (by omega)).trans e⟩
  · rw [g u 2 (by omega)]; exact b1
  · rw [up_eq rfl rfl, g (b + 2) 6 (by omega)]; omega
  · rw [g u 2 (by omega), g (b + 8 + 4 * d) 0 (by omega), g (b + 8 + 4 * d) 9 (by omega), g (b + 8 + 4 * d) 10 (by omega), g (b + 8 + 4 * d) 8 (by omega)]; exact b3 d hd
  · rw [g (b + 8 + 4 * d) 8 (by omega)] at hk
    rw [g u 2 (by omega), g (b + 11 + 4 * d) k (by omega)]; exact b4 d k hd hk
  · rw [g (b + 24 + q) 0 (by omega)]; exact b5 q hq
  · rw [g u 2 (by omega)] at hq
    rw [g (b + 24 + q) 1 (by omega), g (b + 24 + q) 2 (by omega)]; exact b6 q hq
theorem v_j6 (hu : u < b) (h0 : 0 ≤ v) (h1 : v ≤ 200) (hV : q_v u b s nd nc F0 F) : q_v u b s nd nc F0 (m_up F (b + 2) 6 v) := by
  obtain ⟨f, ⟨b1, b2, b3, b4, b5, b6⟩, e⟩ := hV
  have g : ∀ x y, ¬ (x = b + 2 ∧ y = 6) → m_up F (b + 2) 6 v x y = F x y := fun x y hxy => by rw [up_if, if_neg hxy]
  refine ⟨fun x y x1 x2 x3 => (g x y (by omega)).trans (f x y x1 x2 x3), ⟨?_, ?_, fun d hd => ?_, fun d k hd hk => ?_, fun q hq => ?_, fun q hq => ?_⟩, (g u 2 (by omega)).trans e⟩
  · rw [g u 2 (by omega)]; exact b1
  · rw [up_eq rfl rfl, g (b + 2) 5 (by omega)]; omega
  · rw [g u 2 (by omega), g (b + 8 + 4 * d) 0 (by omega), g (b + 8 + 4 * d) 9 (by omega), g (b + 8 + 4 * d) 10 (by omega), g (b + 8 + 4 * d) 8 (by omega)]; exact b3 d hd
  · rw [g (b + 8 + 4 * d) 8 (by omega)] at hk
    rw [g u 2 (by omega), g (b + 11 + 4 * d) k (by omega)]; exact b4 d k hd hk
  · rw [g (b + 24 + q) 0 (by omega)]; exact b5 q hq
  · rw [g u 2 (by omega)] at hq
    rw [g (b + 24 + q) 1 (by omega), g (b + 24 + q) 2 (by omega)]; exact b6 q hq
/-- inFlight, returned -/
theorem v_fl {y : Nat} (hu : u < b) (hj : j < 4) (hy : y = 9 ∨ y = 10) (h0 : -1 ≤ v) (h1 : v < F0 u 2) (hV : q_v u b s nd nc F0 F) : q_v u b s nd nc F0 (m_up F (b + 8 + 4 * j) y v) := by
  obtain ⟨f, ⟨b1, b2, b3, b4, b5, b6⟩, e⟩ := hV
  have g : ∀ x z, ¬ (x = b + 8 + 4 * j ∧ z = y) → m_up F (b + 8 + 4 * j) y v x z = F x z := fun x z hxz => by rw [up_if, if_neg hxz]
  refine ⟨fun x z x1 x2 x3 => (g x z (by omega)).trans (f x z x1 x2 x3), ⟨?_, ?_, fun d hd => ?_, fun d k hd hk => ?_, fun q hq => ?_, fun q hq => ?_⟩, (g u 2 (by omega)).trans e⟩
  · rw [g u 2 (by omega)]; exact b1
  · rw [g (b + 2) 5 (by omega), g (b + 2) 6 (by omega)]; exact b2
  · have := b3 d hd
    rw [g u 2 (by omega), g (b + 8 + 4 * d) 0 (by omega), g (b + 8 + 4 * d) 8 (by omega), up_if, up_if]
    split <;> split <;> omega
  · rw [g (b + 8 + 4 * d) 8 (by omega)] at hk
    rw [g u 2 (by omega), g (b + 11 + 4 * d) k (by omega)]; exact b4 d k hd hk
  · rw [g (b + 24 + q) 0 (by omega)]; exact b5 q hq
  · rw [g u 2 (by omega)] at hq
    rw [g (b + 24 + q) 1 (by omega), g (b + 24 + q) 2 (by omega)]; exact b6 q hq
/-- a log made empty -/
theorem v_l0 (hu : u < b) (hj : j < 4) (hV : q_v u b s nd nc F0 F) : q_v u b s nd nc F0 (m_up F (b + 8 + 4 * j) 8 0) := by
  obtain ⟨f, ⟨b1, b2, b3, b4, b5, b6⟩, e⟩ := hV
  have g : ∀ x z, ¬ (x = b + 8 + 4 * j ∧ z = 8) → m_up F (b + 8 + 4 * j) 8 0 x z = F x z := fun x z hxz => by rw [up_if, if_neg hxz]
  refine ⟨fun x z x1 x2 x3 => (g x z (by omega)).trans (f x z x1 x2 x3), ⟨?_, ?_, fun d hd => ?_, fun d k hd hk => ?_, fun q hq => ?_, fun q hq => ?_⟩, (g u 2 (by omega)).trans e⟩
  · rw [g u 2 (by omega)]; exact b1
  · rw [g (b + 2) 5 (by omega), g (b + 2) 6 (by omega)]; exact b2
  · have := b3 d hd
    rw [g u 2 (by omega), g (b + 8 + 4 * d) 0 (by omega), g (b + 8 + 4 * d) 9 (by omega), g (b + 8 + 4 * d) 10 (by omega), up_if]
    split <;> omega
  · rw [up_if] at hk
    rw [g u 2 (by omega), g (b + 11 + 4 * d) k (by omega)]
    refine b4 d k hd ?_
    have := (b3 d hd).2.2.2
    split at hk <;> omega
  · rw [g (b + 24 + q) 0 (by omega)]; exact b5 q hq
  · rw [g u 2 (by omega)] at hq
    rw [g (b + 24 + q) 1 (by omega), g (b + 24 + q) 2 (by omega)]; exact b6 q hq
/-- one log entry more -/
theorem v_lg (hu : u < b) (hj : j < 4) (h20 : F (b + 8 + 4 * j) 8 < 20) (h0 : 0 ≤ v) (h1 : v < F0 u 2) (hV : q_v u b s nd nc F0 F) : q_v u b s nd nc F0 (m_up (m_up F (b + 8 + 4 * j) 8 (F (b + 8 + 4 * j) 8 + 1)) (b + 11 + 4 * j) (F (b + 8 + 4 * j) 8).toNat v) := by
  obtain ⟨f, ⟨b1, b2, b3, b4, b5, b6⟩, e⟩ := hV
  have bj := (b3 j hj).2.2.2
  have g : ∀ x z, ¬ (x = b + 8 + 4 * j ∧ z = 8) → ¬ (x = b + 11 + 4 * j ∧ z = (F (b + 8 + 4 * j) 8).toNat) → m_up (m_up F (b + 8 + 4 * j) 8 (F (b + 8 + 4 * j) 8 + 1)) (b + 11 + 4 * j) (F (b + 8 + 4 * j) 8).toNat v x z = F x z := fun x z h1 h2 => by rw [up_if, if_neg h2, up_if, if_neg h1]
  refine ⟨fun x z x1 x2 x3 => (g x z (by omega) (by omega)).trans (f x z x1 x2 x3), ⟨?_, ?_, fun d hd => ?_, fun d k hd hk => ?_, fun q hq => ?_, fun q hq => ?_⟩, (g u 2 (by omega) (by omega)).trans e⟩
  · rw [g u 2 (by omega) (by omega)]; exact b1
  · rw [g (b + 2) 5 (by omega) (by omega), g (b + 2) 6 (by omega) (by omega)]; exact b2
  · have := b3 d hd
    rw [g u 2 (by omega) (by omega), g (b + 8 + 4 * d) 0 (by omega) (by omega), g (b + 8 + 4 * d) 9 (by omega) (by omega), g (b + 8 + 4 * d) 10 (by omega) (by omega), up_na (by omega), up_if]
    split <;> omega
  · rw [g u 2 (by omega) (by omega)]
    by_cases c1 : d = j
    · subst c1
      rw [up_na (by omega), up_eq rfl rfl] at hk
      by_cases c2 : k = (F (b + 8 + 4 * d) 8).toNat
      · rw [up_eq rfl c2]; omega
      · rw [up_nk c2, up_na (by omega)]
        exact b4 d k hd (by omega)
    · rw [g (b + 8 + 4 * d) 8 (by omega) (by omega)] at hk
      rw [g (b + 11 + 4 * d) k (by omega) (by omega)]
      exact b4 d k hd hk
  · rw [g (b + 24 + q) 0 (by omega) (by omega)]; exact b5 q hq
  · rw [g u 2 (by omega) (by omega)] at hq
    rw [g (b + 24 + q) 1 (by omega) (by omega), g (b + 24 + q) 2 (by omega) (by omega)]; exact b6 q hq
end VW
set_option maxHeartbeats 4000000 in
/-- Journal.add -/
theorem t_25 {L : Nat} {xs : Nat → Int32} {d : Nat} {h : m_H} {w : Int64} {F F0 : m_M} {Q : Option Value ⊕ Nat → m_H → Prop} {u b s : Nat} {nd nc : Int} (W : CW h u b) (hV : q_v u b s nd nc F0 F) {c e dn q : Int} (e0 : 0 ≤ e) (e8 : e ≤ 8) (hQ : ∀ (F' : m_M), q_v u b s nd nc F0 F' → Q (.inl none) (m_hS h (w, F'))) : m_W (p_P L xs) d 25 k_25_0 [some (.ref (b + 2)), some (.int (Int32.ofInt c)), some (.int (Int32.ofInt e)), some (.int (Int32.ofInt dn)), some (.int (Int32.ofInt q)), none] [] (m_hS h (w, F)) Q := by
  have wb1 := CW_un W
  have wb2 := CW_bn W
  have wb3 := CW_X W
  have wb4 := CW_ub W
  have hj := hV.2.1.2.1
  rw [k_25_0]
  (repeat' (first | (simp (disch := first | omega | (simp (disch := omega) only [i_lt0, i_tn, i_nn, m_cat_n, m_cat_i, m_cat_r, m_cat_z, m_cat_rv, m_cat_l, m_o_n, m_o_i, m_o_r, m_o_z, m_o_rv, m_o_f, hs_n, hs_k, hs_l, Nat.reduceLeDiff, not_false_eq_true, or_true, true_or, or_false, false_or, CW_uk W, CW_u4 W, CW_u5 W, CW_u6 W, CW_dk W, CW_dl W, CW_qk W, CW_ql W, CW_jk W, CW_j0 W, CW_jk0 W, CW_jl0 W, CW_j1 W, CW_jk1 W, CW_jl1 W, CW_j2 W, CW_jk2 W, CW_jl2 W, CW_j3 W, CW_jk3 W, CW_jl3 W, CW_j4 W, CW_jk4 W, CW_jl4 W]; first | done | omega) | exact Or.inl rfl | exact Or.inr rfl) only [w_aload_0, w_aloadz_0, w_aloadv_0, gf_261, m_rv_s, m_rv_n, gf_262, w_iadd, w_iconst, w_irem2, w_istore_5, m_o_n, m_o_i, m_o_r, m_o_z, m_o_rv, m_o_f, gf_256, w_iload_5, w_iload_1, w_iastore, gf_257, w_iload_2, gf_258, w_iload_3, gf_259, w_iload_4, w_icmp_ge, w_dup_i, w_dup_r, w_dup_z, w_dup_v, pf_262, w_goto, tg_25_71, tg_25_85, tg_25_108, m_C_inl, Option.toList_some, Option.toList_none, List.cons_append, List.nil_append, w_icmp_eq, w_if_eq, hs_n, hs_k, hs_l, hs_R, hs_I, hs_L, hs_setI, hs_setL, hs_cpy, CW_uk W, CW_u4 W, CW_u5 W, CW_u6 W, CW_dk W, CW_dl W, CW_qk W, CW_ql W, CW_jk W, CW_j0 W, CW_jk0 W, CW_jl0 W, CW_j1 W, CW_jk1 W, CW_jl1 W, CW_j2 W, CW_jk2 W, CW_jl2 W, CW_j3 W, CW_jk3 W, CW_jl3 W, CW_j4 W, CW_jk4 W, CW_jl4 W, up_up, up_sw, up_sa, up_eq, up_na, up_nk, i_add, i_sub, i_mul, i_tn, i_nat, Int.reduceToNat, Int.reduceAdd, Int.reduceSub, Int.reduceMul, Int.reduceNeg, l_32, l_nat, l_c_lt, l_c_gt, l_c_eq, i_lt, i_eq, i_lt0, i_0lt, i_eq0, i_eq1, Int.reduceLT, Int.reduceEq, Int.reduceLE, Int.reduceNe, not_true_eq_false, not_false_eq_true, Nat.lt_irrefl, Int.lt_irrefl, eq_self, eq_self, Nat.reduceAdd, Nat.reduceMul, Nat.reduceSub, Nat.reduceDiv, Nat.reduceMod, Nat.reduceEqDiff, Nat.reduceLeDiff, Nat.reduceLT, Nat.zero_add, Nat.add_zero, Nat.zero_le, and_false, and_true, and_self, false_and, true_and, or_false, or_true, if_true, if_false, ite_true, ite_false, ↓reduceIte, Int.reduceToNat, Int.reduceAdd, Int.reduceSub, Int.reduceMul, Int.reduceNeg]) | split | (simp (disch := first | omega | (simp (disch := omega) only [i_lt0, i_tn, i_nn, m_cat_n, m_cat_i, m_cat_r, m_cat_z, m_cat_rv, m_cat_l, m_o_n, m_o_i, m_o_r, m_o_z, m_o_rv, m_o_f, hs_n, hs_k, hs_l, Nat.reduceLeDiff, not_false_eq_true, or_true, true_or, or_false, false_or, CW_uk W, CW_u4 W, CW_u5 W, CW_u6 W, CW_dk W, CW_dl W, CW_qk W, CW_ql W, CW_jk W, CW_j0 W, CW_jk0 W, CW_jl0 W, CW_j1 W, CW_jk1 W, CW_jl1 W, CW_j2 W, CW_jk2 W, CW_jl2 W, CW_j3 W, CW_jk3 W, CW_jl3 W, CW_j4 W, CW_jk4 W, CW_jl4 W]; first | done | omega) | exact Or.inl rfl | exact Or.inr rfl) only [k_25_71, w_aload_0, w_aloadz_0, w_aloadv_0, gf_261, m_rv_s, m_rv_n, w_iconst, w_iadd, w_irem2, pf_261, tg_25_71, tg_25_85, tg_25_108, m_C_inl, Option.toList_some, Option.toList_none, List.cons_append, List.nil_append, w_icmp_eq, w_if_eq, hs_n, hs_k, hs_l, hs_R, hs_I, hs_L, hs_setI, hs_setL, hs_cpy, CW_uk W, CW_u4 W, CW_u5 W, CW_u6 W, CW_dk W, CW_dl W, CW_qk W, CW_ql W, CW_jk W, CW_j0 W, CW_jk0 W, CW_jl0 W, CW_j1 W, CW_jk1 W, CW_jl1 W, CW_j2 W, CW_jk2 W, CW_jl2 W, CW_j3 W, CW_jk3 W, CW_jl3 W, CW_j4 W, CW_jk4 W, CW_jl4 W, up_up, up_sw, up_sa, up_eq, up_na, up_nk, i_add, i_sub, i_mul, i_tn, i_nat, Int.reduceToNat, Int.reduceAdd, Int.reduceSub, Int.reduceMul, Int.reduceNeg, l_32, l_nat, l_c_lt, l_c_gt, l_c_eq, i_lt, i_eq, i_lt0, i_0lt, i_eq0, i_eq1, Int.reduceLT, Int.reduceEq, Int.reduceLE, Int.reduceNe, not_true_eq_false, not_false_eq_true, Nat.lt_irrefl, Int.lt_irrefl, eq_self, eq_self, Nat.reduceAdd, Nat.reduceMul, Nat.reduceSub, Nat.reduceDiv, Nat.reduceMod, Nat.reduceEqDiff, Nat.reduceLeDiff, Nat.reduceLT, Nat.zero_add, Nat.add_zero, Nat.zero_le, and_false, and_true, and_self, false_and, true_and, or_false, or_true, if_true, if_false, ite_true, ite_false, ↓reduceIte, Int.reduceToNat, Int.reduceAdd, Int.reduceSub, Int.reduceMul, Int.reduceNeg]) | (simp (disch := first | omega | (simp (disch := omega) only [i_lt0, i_tn, i_nn, m_cat_n, m_cat_i, m_cat_r, m_cat_z, m_cat_rv, m_cat_l, m_o_n, m_o_i, m_o_r, m_o_z, m_o_rv, m_o_f, hs_n, hs_k, hs_l, Nat.reduceLeDiff, not_false_eq_true, or_true, true_or, or_false, false_or, CW_uk W, CW_u4 W, CW_u5 W, CW_u6 W, CW_dk W, CW_dl W, CW_qk W, CW_ql W, CW_jk W, CW_j0 W, CW_jk0 W, CW_jl0 W, CW_j1 W, CW_jk1 W, CW_jl1 W, CW_j2 W, CW_jk2 W, CW_jl2 W, CW_j3 W, CW_jk3 W, CW_jl3 W, CW_j4 W, CW_jk4 W, CW_jl4 W]; first | done | omega) | exact Or.inl rfl | exact Or.inr rfl) only [k_25_85, w_iload_2, w_if_lt, w_aload_0, w_aloadz_0, w_aloadv_0, gf_260, m_rv_s, m_rv_n, w_len, w_slen, w_icmp_ge, w_dup2, w_iaload, w_script, w_iconst, w_iadd, w_iastore, tg_25_71, tg_25_85, tg_25_108, m_C_inl, Option.toList_some, Option.toList_none, List.cons_append, List.nil_append, w_icmp_eq, w_if_eq, hs_n, hs_k, hs_l, hs_R, hs_I, hs_L, hs_setI, hs_setL, hs_cpy, CW_uk W, CW_u4 W, CW_u5 W, CW_u6 W, CW_dk W, CW_dl W, CW_qk W, CW_ql W, CW_jk W, CW_j0 W, CW_jk0 W, CW_jl0 W, CW_j1 W, CW_jk1 W, CW_jl1 W, CW_j2 W, CW_jk2 W, CW_jl2 W, CW_j3 W, CW_jk3 W, CW_jl3 W, CW_j4 W, CW_jk4 W, CW_jl4 W, up_up, up_sw, up_sa, up_eq, up_na, up_nk, i_add, i_sub, i_mul, i_tn, i_nat, Int.reduceToNat, Int.reduceAdd, Int.reduceSub, Int.reduceMul, Int.reduceNeg, l_32, l_nat, l_c_lt, l_c_gt, l_c_eq, i_lt, i_eq, i_lt0, i_0lt, i_eq0, i_eq1, Int.reduceLT, Int.reduceEq, Int.reduceLE, Int.reduceNe, not_true_eq_false, not_false_eq_true, Nat.lt_irrefl, Int.lt_irrefl, eq_self, eq_self, Nat.reduceAdd, Nat.reduceMul, Nat.reduceSub, Nat.reduceDiv, Nat.reduceMod, Nat.reduceEqDiff, Nat.reduceLeDiff, Nat.reduceLT, Nat.zero_add, Nat.add_zero, Nat.zero_le, and_false, and_true, and_self, false_and, true_and, or_false, or_true, if_true, if_false, ite_true, ite_false, ↓reduceIte, Int.reduceToNat, Int.reduceAdd, Int.reduceSub, Int.reduceMul, Int.reduceNeg]) | (simp (disch := first | omega | (simp (disch := omega) only [i_lt0, i_tn, i_nn, m_cat_n, m_cat_i, m_cat_r, m_cat_z, m_cat_rv, m_cat_l, m_o_n, m_o_i, m_o_r, m_o_z, m_o_rv, m_o_f, hs_n, hs_k, hs_l, Nat.reduceLeDiff, not_false_eq_true, or_true, true_or, or_false, false_or, CW_uk W, CW_u4 W, CW_u5 W, CW_u6 W, CW_dk W, CW_dl W, CW_qk W, CW_ql W, CW_jk W, CW_j0 W, CW_jk0 W, CW_jl0 W, CW_j1 W, CW_jk1 W, CW_jl1 W, CW_j2 W, CW_jk2 W, CW_jl2 W, CW_j3 W, CW_jk3 W, CW_jl3 W, CW_j4 W, CW_jk4 W, CW_jl4 W]; first | done | omega) | exact Or.inl rfl | exact Or.inr rfl) only [k_25_108, w_vret, tg_25_71, tg_25_85, tg_25_108, m_C_inl, Option.toList_some, Option.toList_none, List.cons_append, List.nil_append, w_icmp_eq, w_if_eq, hs_n, hs_k, hs_l, hs_R, hs_I, hs_L, hs_setI, hs_setL, hs_cpy, CW_uk W, CW_u4 W, CW_u5 W, CW_u6 W, CW_dk W, CW_dl W, CW_qk W, CW_ql W, CW_jk W, CW_j0 W, CW_jk0 W, CW_jl0 W, CW_j1 W, CW_jk1 W, CW_jl1 W, CW_j2 W, CW_jk2 W, CW_jl2 W, CW_j3 W, CW_jk3 W, CW_jl3 W, CW_j4 W, CW_jk4 W, CW_jl4 W, up_up, up_sw, up_sa, up_eq, up_na, up_nk, i_add, i_sub, i_mul, i_tn, i_nat, Int.reduceToNat, Int.reduceAdd, Int.reduceSub, Int.reduceMul, Int.reduceNeg, l_32, l_nat, l_c_lt, l_c_gt, l_c_eq, i_lt, i_eq, i_lt0, i_0lt, i_eq0, i_eq1, Int.reduceLT, Int.reduceEq, Int.reduceLE, Int.reduceNe, not_true_eq_false, not_false_eq_true, Nat.lt_irrefl, Int.lt_irrefl, eq_self, eq_self, Nat.reduceAdd, Nat.reduceMul, Nat.reduceSub, Nat.reduceDiv, Nat.reduceMod, Nat.reduceEqDiff, Nat.reduceLeDiff, Nat.reduceLT, Nat.zero_add, Nat.add_zero, Nat.zero_le, and_false, and_true, and_self, false_and, true_and, or_false, or_true, if_true, if_false, ite_true, ite_false, ↓reduceIte, Int.reduceToNat, Int.reduceAdd, Int.reduceSub, Int.reduceMul, Int.reduceNeg])))
  all_goals first
    | (exfalso; omega)
    | exact hQ _ (by (repeat (first | exact hV | assumption | refine v_nc (by omega) (by unfold q_uc; omega) ?_ | refine v_fl (by omega) (by omega) (by omega) (by omega) (by omega) ?_ | refine v_j5 (by omega) (by omega) (by omega) ?_ | refine v_j6 (by omega) (by omega) (by omega) ?_)))
