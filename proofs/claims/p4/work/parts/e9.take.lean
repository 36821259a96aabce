/-! the reference: words, signs, numbers -/
theorem h_lt {f : Nat → Int} : ∀ k, k ≤ 10 → (∀ i, i < k → 1 ≤ f i ∧ f i ≤ 26) → 0 ≤ tx_h f k ∧ tx_h f k < 27 ^ k
  | 0, _, _ => ⟨by show (0 : Int) ≤ 0; omega, by show (0 : Int) < 1; omega⟩
  | k + 1, hk, h => by
    obtain ⟨h1, h2⟩ := h_lt k (by omega) (fun i hi => h i (by omega))
    have c := h k (Nat.lt_succ_self k)
    have e : (27 : Int) ^ (k + 1) = 27 ^ k * 27 := Int.pow_succ 27 k
    show 0 ≤ 27 * tx_h f k + f k ∧ 27 * tx_h f k + f k < 27 ^ (k + 1)
    rw [e]
    omega
theorem h_10 {f : Nat → Int} {k : Nat} (hk : k ≤ 10) (h : ∀ i, i < k → 1 ≤ f i ∧ f i ≤ 26) : 0 ≤ tx_h f k ∧ tx_h f k ≤ 205891132094649 := by
  obtain ⟨h1, h2⟩ := h_lt k hk h
  refine ⟨h1, ?_⟩
  have h3 : ∀ k, k ≤ 10 → (27 : Int) ^ k ≤ 205891132094649 := by decide
  have := h3 k hk
  omega
theorem cw_r : ∀ j, j < 35 → 0 ≤ tx_cw.getD j 0 ∧ tx_cw.getD j 0 ≤ 205891132094649 := by decide
theorem V_n {F : m_M} {w : Int64} {b : Nat → Int} {n : Nat} {s : tx_St} (V : q_V F w b n s) : n ≤ 900 := V.2.1.2.1
theorem V_0 {F : m_M} {w : Int64} {b : Nat → Int} {n p : Nat} (V : q_V F w b n (0, p)) : F 135 26 = 0 ∧ F 135 22 = p ∧ p ≤ n ∧ F 135 23 = tx_k b n p ∧ F 135 21 = ((if p < n then tx_te b n p else p : Nat) : Int) ∧ (tx_k b n p = 2 → F 135 24 = tx_nv b n p) ∧ (tx_k b n p = 1 → tx_te b n p - p ≤ 10 → w = Int64.ofInt (tx_h (fun i => b (p + i) - 96) (tx_te b n p - p))) := V.2.2.1 rfl
theorem V_e {F : m_M} {w : Int64} {b : Nat → Int} {n p : Nat} {e : Int} (V : q_V F w b n (e, p)) (z : ¬ e = 0) : F 135 26 = e ∧ F 135 27 = p := V.2.2.2.1 z
theorem V_27 {F : m_M} {w : Int64} {b : Nat → Int} {n p : Nat} (V : q_V F w b n (0, p)) : F 135 27 = -1 := V.2.2.2.2 rfl
/-- a token read -/
theorem V_nx {F : m_M} {w w' : Int64} {b : Nat → Int} {n P : Nat} {a t : Int} {s : tx_St} (V : q_V F w b n s) (h26 : F 135 26 = 0) (hP : P ≤ n) (ha : a = ((if P < n then tx_te b n P else P : Nat) : Int)) (ht : tx_k b n P = 2 → t = tx_nv b n P) (t0 : 0 ≤ t) (t1 : t ≤ 1000000) (hw : tx_k b n P = 1 → w' = Int64.ofInt (tx_h (fun i => b (P + i) - 96) (tx_mn (tx_te b n P - P)))) : q_V (q_nx F a (P : Nat) (tx_k b n P) t) w' b n (0, P) := by
  obtain ⟨⟨⟨a1, a2, a3, a4⟩, ⟨b1, b2, b3, b4⟩, ⟨c1, c2, c3, c4⟩, hb⟩, ⟨d1, d2, d3, d4, d5⟩, r⟩ := V
  have kr := tx_kr (b := b) (n := n) (p := P)
  have k0 : tx_k b n P = 0 → n ≤ P := tx_k0
  have kn : ¬ tx_k b n P = 0 → P < n := fun z => by
    by_cases c : P < n
    · exact c
    · exact absurd (k_e (by omega)) z
  have ha2 : (P < n → (P : Int) < a ∧ a ≤ n) ∧ (¬ P < n → a = P) := ⟨fun c => by
    rw [if_pos c] at ha
    have g1 := tx_te_gt (b := b) c
    have g2 := tx_te_le (b := b) c
    omega, fun c => by rw [if_neg c] at ha; exact ha⟩
  have ha3 : (P : Int) ≤ a ∧ a ≤ n := by
    by_cases c : P < n
    · have := ha2.1 c; omega
    · have := ha2.2 c; omega
  have h27 : F 135 27 = -1 := by
    by_cases z : s.1 = 0
    · exact r.2.2 z
    · exact absurd ((r.2.1 z).1.symm.trans h26) z
  unfold q_V q_sc q_tb q_R q_nx
  simp only [up_if, eq_self, Nat.reduceEqDiff, and_false, false_and, and_true, and_self, if_true, if_false]
  refine ⟨⟨⟨by omega, by omega, by omega, a4⟩, ⟨by omega, by omega, fun z => by have := k0 z; omega, fun z => (ha2.1 (kn z)).1⟩, ⟨t0, t1, c3, c4⟩, hb⟩, ⟨d1, d2, d3, d4, t0, t1⟩, fun _ => ⟨h26, trivial, hP, trivial, ha, ht, fun k1 l10 => ?_⟩, fun z => absurd trivial z, fun _ => h27⟩
  rw [hw k1, mn_le l10]
/-- an error told -/
theorem V_wr {F : m_M} {w : Int64} {b : Nat → Int} {n p : Nat} {v : Int} (V : q_V F w b n (0, p)) (h1 : 1 ≤ v) (h2 : v ≤ 4) : q_V (q_wr F v) w b n (v, p) := by
  obtain ⟨r1, r2, r3, r4, r5, r6, r7⟩ := V_0 V
  obtain ⟨S, ⟨d1, d2, d3, d4, d5⟩, r⟩ := V
  refine ⟨q_sc_wr S (by omega) h2, ?_, ?_⟩
  · unfold q_tb q_wr
    simp only [up_if, eq_self, Nat.reduceEqDiff, and_false, false_and, and_true, and_self, if_true, if_false]
    exact ⟨d1, d2, d3, d4, d5⟩
  · unfold q_R q_wr
    simp only [up_if, eq_self, Nat.reduceEqDiff, and_false, false_and, and_true, and_self, if_true, if_false]
    exact ⟨fun z => absurd z (by omega), fun _ => ⟨trivial, r2⟩, fun z => absurd z (by omega)⟩
theorem f1_nx {F : m_M} {a b k t : Int} : q_f1 F (q_nx F a b k t) := fun x y h => by
  unfold q_nx
  rw [up_no (by omega), up_no (by omega), up_no (by omega), up_no (by omega)]
theorem f1_wr {F : m_M} {v : Int} : q_f1 F (q_wr F v) := fun x y h => by
  unfold q_wr
  rw [up_no (by omega), up_no (by omega)]
theorem v_168 {L : Nat} {xs : Nat → Int32} {d : Nat} {h : m_H} {w : Int64} {F : m_M} {Q : Option Value ⊕ Nat → m_H → Prop} (I : RF h) {b : Nat → Int} {n : Nat} {p : Nat} (V : q_V F w b n (0, p)) (hp : p < n) (hQ : ∀ (w' : Int64) (F' : m_M), q_f1 F F' → q_V F' w' b n (0, tx_nx b n p) → Q (.inl none) (m_hS h (w', F'))) : m_W (p_P L xs) (d + 2) 168 k_168_0 [some (.ref 135)] [] (m_hS h (w, F)) Q := by
  obtain ⟨r1, r2, r3, r4, r5, r6, r7⟩ := V_0 V
  have V0 := V
  obtain ⟨S, ⟨d1, d2, d3, d4, d5, d6⟩, r⟩ := V
  rw [if_pos hp] at r5
  refine x_168 I d1 d2 d3 d4 d5 d6 r5 (tx_te_le hp) (fun w' a t ha ht t0 t1 hw => ?_)
  exact hQ _ _ f1_nx (V_nx V0 r1 (tx_nx_le hp) ha ht t0 t1 hw)
set_option maxHeartbeats 4000000 in
theorem v_172 {L : Nat} {xs : Nat → Int32} {d : Nat} {h : m_H} {w : Int64} {F : m_M} {Q : Option Value ⊕ Nat → m_H → Prop} (I : RF h) {b : Nat → Int} {n : Nat} {e : Int} {p : Nat} (V : q_V F w b n (e, p)) {j : Nat} (hj : j < 35) {x : Int64} (hx : x = Int64.ofInt (tx_cw.getD j 0)) (hQ1 : e = 0 → tx_wd b n p = some (m_X + 1 + j) → Q (.inl (some (.int (Int32.ofInt 1)))) (m_hS h (w, F))) (hQ0 : (e = 0 → ¬ tx_wd b n p = some (m_X + 1 + j)) → Q (.inl (some (.int (Int32.ofInt 0)))) (m_hS h (w, F))) : m_W (p_P L xs) (d + 2) 172 k_172_0 [some (.ref 135), some (.long x), none] [] (m_hS h (w, F)) Q := by
  subst hx
  have hC := cw_r j hj
  by_cases z : e = 0
  · subst z
    obtain ⟨r1, r2, r3, r4, r5, r6, r7⟩ := V_0 V
    have h9 := V_n V
    have kr := tx_kr (b := b) (n := n) (p := p)
    by_cases k1 : tx_k b n p = 1
    · have hp := (tx_k1.mp k1).1
      rw [if_pos hp] at r5
      rw [k1] at r4
      have g1 := tx_te_gt (b := b) hp
      have g2 := tx_te_le (b := b) hp
      have iff := tx_wd_iff (b := b) k1 h9 hj
      by_cases l10 : tx_te b n p - p ≤ 10
      · have hw := r7 k1 l10
        subst hw
        have hH := h_10 (f := (fun i => b (p + i) - 96)) l10 (fun i hi => by have := tx_te_in k1 (p + i) (by omega) (by omega); omega)
        rw [k_172_0]
        (repeat' (first | (simp (disch := first | omega | (simp (disch := omega) only [i_lt0, i_tn, i_nn, m_cat_n, m_cat_i, m_cat_r, m_cat_z, m_cat_rv, m_cat_l, m_o_n, m_o_i, m_o_r, m_o_z, m_o_rv, m_o_f, hs_n, hs_k, hs_l, f_k_135 I, n_135 I, Nat.reduceLeDiff, not_false_eq_true, or_true, true_or, or_false, false_or]; first | done | omega) | exact Or.inl rfl | exact Or.inr rfl) only [k_172_0, k_172_42, k_172_43, w_aload_0, w_aloadz_0, w_aloadv_0, m_cat_n, m_cat_i, m_cat_r, m_cat_z, m_cat_rv, m_cat_l, Nat.zero_le, Nat.reduceLeDiff, Nat.reduceAdd, cl_171, m_o_i, m_o_r, m_o_z, m_o_rv, m_C_inl, Option.toList_some, Option.toList_none, List.cons_append, List.nil_append, w_if_eq, gf_791, m_rv_s, m_rv_n, w_iconst, w_icmp_ne, gf_789, gf_790, w_isub, w_icmp_gt, gf_793, w_lload_1, w_lcmp, w_if_ne, w_goto, w_zret, tg_172_42, tg_172_43, k_171_0, k_171_11, tg_171_11, k_171_12, tg_171_12, gf_794, w_icmp_eq, hs_n, hs_k, hs_l, hs_R, hs_I, hs_L, hs_setI, hs_setL, hs_cpy, f_k_135 I, n_135 I, up_up, up_sw, up_sa, up_if, i_add, i_sub, i_mul, i_tn, i_nat, Int.reduceToNat, Int.reduceAdd, Int.reduceSub, Int.reduceMul, Int.reduceNeg, l_32, l_nat, l_c_lt, l_c_gt, l_c_eq, i_lt, i_eq, i_lt0, i_0lt, i_eq0, i_eq1, Int.reduceLT, Int.reduceEq, Int.reduceLE, Int.reduceNe, not_true_eq_false, not_false_eq_true, Nat.lt_irrefl, Int.lt_irrefl, eq_self, eq_self, Nat.reduceAdd, Nat.reduceMul, Nat.reduceSub, Nat.reduceDiv, Nat.reduceMod, Nat.reduceEqDiff, Nat.reduceLeDiff, Nat.reduceLT, Nat.zero_add, Nat.add_zero, Nat.zero_le, and_false, and_true, and_self, false_and, true_and, or_false, or_true, if_true, if_false, ite_true, ite_false, ↓reduceIte, Int.reduceToNat, Int.reduceAdd, Int.reduceSub, Int.reduceMul, Int.reduceNeg, r1, r2, r4, r5]) | split))
        all_goals first
          | (exfalso; omega)
          | exact hQ1 rfl (iff.mpr ⟨l10, by assumption⟩)
          | exact hQ0 (fun _ y => absurd (iff.mp y).2 (by assumption))
      · rw [k_172_0]
        (repeat' (first | (simp (disch := first | omega | (simp (disch := omega) only [i_lt0, i_tn, i_nn, m_cat_n, m_cat_i, m_cat_r, m_cat_z, m_cat_rv, m_cat_l, m_o_n, m_o_i, m_o_r, m_o_z, m_o_rv, m_o_f, hs_n, hs_k, hs_l, f_k_135 I, n_135 I, Nat.reduceLeDiff, not_false_eq_true, or_true, true_or, or_false, false_or]; first | done | omega) | exact Or.inl rfl | exact Or.inr rfl) only [k_172_0, k_172_42, k_172_43, w_aload_0, w_aloadz_0, w_aloadv_0, m_cat_n, m_cat_i, m_cat_r, m_cat_z, m_cat_rv, m_cat_l, Nat.zero_le, Nat.reduceLeDiff, Nat.reduceAdd, cl_171, m_o_i, m_o_r, m_o_z, m_o_rv, m_C_inl, Option.toList_some, Option.toList_none, List.cons_append, List.nil_append, w_if_eq, gf_791, m_rv_s, m_rv_n, w_iconst, w_icmp_ne, gf_789, gf_790, w_isub, w_icmp_gt, gf_793, w_lload_1, w_lcmp, w_if_ne, w_goto, w_zret, tg_172_42, tg_172_43, k_171_0, k_171_11, tg_171_11, k_171_12, tg_171_12, gf_794, w_icmp_eq, hs_n, hs_k, hs_l, hs_R, hs_I, hs_L, hs_setI, hs_setL, hs_cpy, f_k_135 I, n_135 I, up_up, up_sw, up_sa, up_if, i_add, i_sub, i_mul, i_tn, i_nat, Int.reduceToNat, Int.reduceAdd, Int.reduceSub, Int.reduceMul, Int.reduceNeg, l_32, l_nat, l_c_lt, l_c_gt, l_c_eq, i_lt, i_eq, i_lt0, i_0lt, i_eq0, i_eq1, Int.reduceLT, Int.reduceEq, Int.reduceLE, Int.reduceNe, not_true_eq_false, not_false_eq_true, Nat.lt_irrefl, Int.lt_irrefl, eq_self, eq_self, Nat.reduceAdd, Nat.reduceMul, Nat.reduceSub, Nat.reduceDiv, Nat.reduceMod, Nat.reduceEqDiff, Nat.reduceLeDiff, Nat.reduceLT, Nat.zero_add, Nat.add_zero, Nat.zero_le, and_false, and_true, and_self, false_and, true_and, or_false, or_true, if_true, if_false, ite_true, ite_false, ↓reduceIte, Int.reduceToNat, Int.reduceAdd, Int.reduceSub, Int.reduceMul, Int.reduceNeg, r1, r2, r4, r5]) | split))
        all_goals first
          | (exfalso; omega)
          | exact hQ0 (fun _ y => l10 (iff.mp y).1)
    · have nw : ¬ tx_wd b n p = some (m_X + 1 + j) := fun y => k1 (tx_wk (T := (b, n)) y)
      have r4' : ¬ F 135 23 = 1 := by rw [r4]; exact k1
      rw [k_172_0]
      (repeat' (first | (simp (disch := first | omega | (simp (disch := omega) only [i_lt0, i_tn, i_nn, m_cat_n, m_cat_i, m_cat_r, m_cat_z, m_cat_rv, m_cat_l, m_o_n, m_o_i, m_o_r, m_o_z, m_o_rv, m_o_f, hs_n, hs_k, hs_l, f_k_135 I, n_135 I, Nat.reduceLeDiff, not_false_eq_true, or_true, true_or, or_false, false_or]; first | done | omega) | exact Or.inl rfl | exact Or.inr rfl) only [k_172_0, k_172_42, k_172_43, w_aload_0, w_aloadz_0, w_aloadv_0, m_cat_n, m_cat_i, m_cat_r, m_cat_z, m_cat_rv, m_cat_l, Nat.zero_le, Nat.reduceLeDiff, Nat.reduceAdd, cl_171, m_o_i, m_o_r, m_o_z, m_o_rv, m_C_inl, Option.toList_some, Option.toList_none, List.cons_append, List.nil_append, w_if_eq, gf_791, m_rv_s, m_rv_n, w_iconst, w_icmp_ne, gf_789, gf_790, w_isub, w_icmp_gt, gf_793, w_lload_1, w_lcmp, w_if_ne, w_goto, w_zret, tg_172_42, tg_172_43, k_171_0, k_171_11, tg_171_11, k_171_12, tg_171_12, gf_794, w_icmp_eq, hs_n, hs_k, hs_l, hs_R, hs_I, hs_L, hs_setI, hs_setL, hs_cpy, f_k_135 I, n_135 I, up_up, up_sw, up_sa, up_if, i_add, i_sub, i_mul, i_tn, i_nat, Int.reduceToNat, Int.reduceAdd, Int.reduceSub, Int.reduceMul, Int.reduceNeg, l_32, l_nat, l_c_lt, l_c_gt, l_c_eq, i_lt, i_eq, i_lt0, i_0lt, i_eq0, i_eq1, Int.reduceLT, Int.reduceEq, Int.reduceLE, Int.reduceNe, not_true_eq_false, not_false_eq_true, Nat.lt_irrefl, Int.lt_irrefl, eq_self, eq_self, Nat.reduceAdd, Nat.reduceMul, Nat.reduceSub, Nat.reduceDiv, Nat.reduceMod, Nat.reduceEqDiff, Nat.reduceLeDiff, Nat.reduceLT, Nat.zero_add, Nat.add_zero, Nat.zero_le, and_false, and_true, and_self, false_and, true_and, or_false, or_true, if_true, if_false, ite_true, ite_false, ↓reduceIte, Int.reduceToNat, Int.reduceAdd, Int.reduceSub, Int.reduceMul, Int.reduceNeg, r1]) | split))
      all_goals first
        | (exfalso; omega)
        | exact hQ0 (fun _ => nw)
  · obtain ⟨r1, r2⟩ := V_e V z
    have hs := V.1.2.2.1
    have r0 : ¬ F 135 26 = 0 := by omega
    rw [k_172_0]
    (repeat' (first | (simp (disch := first | omega | (simp (disch := omega) only [i_lt0, i_tn, i_nn, m_cat_n, m_cat_i, m_cat_r, m_cat_z, m_cat_rv, m_cat_l, m_o_n, m_o_i, m_o_r, m_o_z, m_o_rv, m_o_f, hs_n, hs_k, hs_l, f_k_135 I, n_135 I, Nat.reduceLeDiff, not_false_eq_true, or_true, true_or, or_false, false_or]; first | done | omega) | exact Or.inl rfl | exact Or.inr rfl) only [k_172_0, k_172_42, k_172_43, w_aload_0, w_aloadz_0, w_aloadv_0, m_cat_n, m_cat_i, m_cat_r, m_cat_z, m_cat_rv, m_cat_l, Nat.zero_le, Nat.reduceLeDiff, Nat.reduceAdd, cl_171, m_o_i, m_o_r, m_o_z, m_o_rv, m_C_inl, Option.toList_some, Option.toList_none, List.cons_append, List.nil_append, w_if_eq, gf_791, m_rv_s, m_rv_n, w_iconst, w_icmp_ne, gf_789, gf_790, w_isub, w_icmp_gt, gf_793, w_lload_1, w_lcmp, w_if_ne, w_goto, w_zret, tg_172_42, tg_172_43, k_171_0, k_171_11, tg_171_11, k_171_12, tg_171_12, gf_794, w_icmp_eq, hs_n, hs_k, hs_l, hs_R, hs_I, hs_L, hs_setI, hs_setL, hs_cpy, f_k_135 I, n_135 I, up_up, up_sw, up_sa, up_if, i_add, i_sub, i_mul, i_tn, i_nat, Int.reduceToNat, Int.reduceAdd, Int.reduceSub, Int.reduceMul, Int.reduceNeg, l_32, l_nat, l_c_lt, l_c_gt, l_c_eq, i_lt, i_eq, i_lt0, i_0lt, i_eq0, i_eq1, Int.reduceLT, Int.reduceEq, Int.reduceLE, Int.reduceNe, not_true_eq_false, not_false_eq_true, Nat.lt_irrefl, Int.lt_irrefl, eq_self, eq_self, Nat.reduceAdd, Nat.reduceMul, Nat.reduceSub, Nat.reduceDiv, Nat.reduceMod, Nat.reduceEqDiff, Nat.reduceLeDiff, Nat.reduceLT, Nat.zero_add, Nat.add_zero, Nat.zero_le, and_false, and_true, and_self, false_and, true_and, or_false, or_true, if_true, if_false, ite_true, ite_false, ↓reduceIte, Int.reduceToNat, Int.reduceAdd, Int.reduceSub, Int.reduceMul, Int.reduceNeg, r0]) | split))
    all_goals first
      | (exfalso; omega)
      | exact hQ0 (fun y => absurd y z)
set_option maxHeartbeats 4000000 in
theorem v_173 {L : Nat} {xs : Nat → Int32} {d : Nat} {h : m_H} {w : Int64} {F : m_M} {Q : Option Value ⊕ Nat → m_H → Prop} (I : RF h) {b : Nat → Int} {n : Nat} {e : Int} {p : Nat} (V : q_V F w b n (e, p)) {j : Nat} (hj : j < 35) {x : Int64} (hx : x = Int64.ofInt (tx_cw.getD j 0)) (hQ1 : e = 0 → tx_wd b n p = some (m_X + 1 + j) → ∀ (w' : Int64) (F' : m_M), q_f1 F F' → q_V F' w' b n (0, tx_nx b n p) → Q (.inl (some (.int (Int32.ofInt 1)))) (m_hS h (w', F'))) (hQ0 : (e = 0 → ¬ tx_wd b n p = some (m_X + 1 + j)) → Q (.inl (some (.int (Int32.ofInt 0)))) (m_hS h (w, F))) : m_W (p_P L xs) (d + 3) 173 k_173_0 [some (.ref 135), some (.long x), none] [] (m_hS h (w, F)) Q := by
  rw [k_173_0]
  (repeat' (first | (simp (disch := first | omega | (simp (disch := omega) only [i_lt0, i_tn, i_nn, m_cat_n, m_cat_i, m_cat_r, m_cat_z, m_cat_rv, m_cat_l, m_o_n, m_o_i, m_o_r, m_o_z, m_o_rv, m_o_f, hs_n, hs_k, hs_l, f_k_135 I, n_135 I, Nat.reduceLeDiff, not_false_eq_true, or_true, true_or, or_false, false_or]; first | done | omega) | exact Or.inl rfl | exact Or.inr rfl) only [k_173_0, k_173_10, w_aload_0, w_aloadz_0, w_aloadv_0, w_lload_1, m_cat_n, m_cat_i, m_cat_r, m_cat_z, m_cat_rv, m_cat_l, Nat.zero_le, Nat.reduceLeDiff, Nat.reduceAdd, m_o_i, m_o_r, m_o_z, m_o_rv, m_C_inl, Option.toList_some, Option.toList_none, List.cons_append, List.nil_append, w_if_ne, w_iconst, w_zret, tg_173_10, w_icmp_eq, w_if_eq, hs_n, hs_k, hs_l, hs_R, hs_I, hs_L, hs_setI, hs_setL, hs_cpy, f_k_135 I, n_135 I, up_up, up_sw, up_sa, up_if, i_add, i_sub, i_mul, i_tn, i_nat, Int.reduceToNat, Int.reduceAdd, Int.reduceSub, Int.reduceMul, Int.reduceNeg, l_32, l_nat, l_c_lt, l_c_gt, l_c_eq, i_lt, i_eq, i_lt0, i_0lt, i_eq0, i_eq1, Int.reduceLT, Int.reduceEq, Int.reduceLE, Int.reduceNe, not_true_eq_false, not_false_eq_true, Nat.lt_irrefl, Int.lt_irrefl, eq_self, eq_self, Nat.reduceAdd, Nat.reduceMul, Nat.reduceSub, Nat.reduceDiv, Nat.reduceMod, Nat.reduceEqDiff, Nat.reduceLeDiff, Nat.reduceLT, Nat.zero_add, Nat.add_zero, Nat.zero_le, and_false, and_true, and_self, false_and, true_and, or_false, or_true, if_true, if_false, ite_true, ite_false, ↓reduceIte, Int.reduceToNat, Int.reduceAdd, Int.reduceSub, Int.reduceMul, Int.reduceNeg]) | split | (simp (disch := first | omega | (simp (disch := omega) only [i_lt0, i_tn, i_nn, m_cat_n, m_cat_i, m_cat_r, m_cat_z, m_cat_rv, m_cat_l, m_o_n, m_o_i, m_o_r, m_o_z, m_o_rv, m_o_f, hs_n, hs_k, hs_l, f_k_135 I, n_135 I, Nat.reduceLeDiff, not_false_eq_true, or_true, true_or, or_false, false_or]; first | done | omega) | exact Or.inl rfl | exact Or.inr rfl) only [cl_172, m_cat_n, m_cat_i, m_cat_r, m_cat_z, m_cat_rv, m_cat_l, Nat.zero_le, Nat.reduceLeDiff, Nat.reduceAdd, m_o_i, m_o_r, m_o_z, m_o_rv, hs_n, hs_k, f_k_135 I, n_135 I]; refine v_172 I V hj hx ?_ ?_; all_goals first | (intro q1 q2) | (intro q0))))
  all_goals first
    | (exfalso; omega)
    | exact hQ0 (by assumption)
    | (subst q1
       have hp := (tx_k1.mp (tx_wk (T := (b, n)) q2)).1
       simp (disch := first | omega | (simp (disch := omega) only [i_lt0, i_tn, i_nn, m_cat_n, m_cat_i, m_cat_r, m_cat_z, m_cat_rv, m_cat_l, m_o_n, m_o_i, m_o_r, m_o_z, m_o_rv, m_o_f, hs_n, hs_k, hs_l, f_k_135 I, n_135 I, Nat.reduceLeDiff, not_false_eq_true, or_true, true_or, or_false, false_or]; first | done | omega) | exact Or.inl rfl | exact Or.inr rfl) only [cl_168, m_cat_n, m_cat_i, m_cat_r, m_cat_z, m_cat_rv, m_cat_l, Nat.zero_le, Nat.reduceLeDiff, Nat.reduceAdd, m_o_i, m_o_r, m_o_z, m_o_rv, hs_n, hs_k, f_k_135 I, n_135 I]
       refine v_168 I V hp (fun w1 F1 g1 V1 => ?_)
       simp (disch := first | omega | (simp (disch := omega) only [i_lt0, i_tn, i_nn, m_cat_n, m_cat_i, m_cat_r, m_cat_z, m_cat_rv, m_cat_l, m_o_n, m_o_i, m_o_r, m_o_z, m_o_rv, m_o_f, hs_n, hs_k, hs_l, f_k_135 I, n_135 I, Nat.reduceLeDiff, not_false_eq_true, or_true, true_or, or_false, false_or]; first | done | omega) | exact Or.inl rfl | exact Or.inr rfl) only [k_173_0, k_173_10, w_aload_0, w_aloadz_0, w_aloadv_0, w_lload_1, m_cat_n, m_cat_i, m_cat_r, m_cat_z, m_cat_rv, m_cat_l, Nat.zero_le, Nat.reduceLeDiff, Nat.reduceAdd, m_o_i, m_o_r, m_o_z, m_o_rv, m_C_inl, Option.toList_some, Option.toList_none, List.cons_append, List.nil_append, w_if_ne, w_iconst, w_zret, tg_173_10, w_icmp_eq, w_if_eq, hs_n, hs_k, hs_l, hs_R, hs_I, hs_L, hs_setI, hs_setL, hs_cpy, f_k_135 I, n_135 I, up_up, up_sw, up_sa, up_if, i_add, i_sub, i_mul, i_tn, i_nat, Int.reduceToNat, Int.reduceAdd, Int.reduceSub, Int.reduceMul, Int.reduceNeg, l_32, l_nat, l_c_lt, l_c_gt, l_c_eq, i_lt, i_eq, i_lt0, i_0lt, i_eq0, i_eq1, Int.reduceLT, Int.reduceEq, Int.reduceLE, Int.reduceNe, not_true_eq_false, not_false_eq_true, Nat.lt_irrefl, Int.lt_irrefl, eq_self, eq_self, Nat.reduceAdd, Nat.reduceMul, Nat.reduceSub, Nat.reduceDiv, Nat.reduceMod, Nat.reduceEqDiff, Nat.reduceLeDiff, Nat.reduceLT, Nat.zero_add, Nat.add_zero, Nat.zero_le, and_false, and_true, and_self, false_and, true_and, or_false, or_true, if_true, if_false, ite_true, ite_false, ↓reduceIte, Int.reduceToNat, Int.reduceAdd, Int.reduceSub, Int.reduceMul, Int.reduceNeg]
       exact hQ1 rfl q2 _ _ g1 V1)
set_option maxHeartbeats 4000000 in
theorem v_174 {L : Nat} {xs : Nat → Int32} {d : Nat} {h : m_H} {w : Int64} {F : m_M} {Q : Option Value ⊕ Nat → m_H → Prop} (I : RF h) {b : Nat → Int} {n : Nat} {e : Int} {p : Nat} (V : q_V F w b n (e, p)) {y : Int} (y0 : 0 ≤ y) (y1 : y < 128) (yL : tx_L y = false) (yD : tx_D y = false) (hQ1 : e = 0 → tx_g b n p y = true → Q (.inl (some (.int (Int32.ofInt 1)))) (m_hS h (w, F))) (hQ0 : (e = 0 → ¬ tx_g b n p y = true) → Q (.inl (some (.int (Int32.ofInt 0)))) (m_hS h (w, F))) : m_W (p_P L xs) (d + 2) 174 k_174_0 [some (.ref 135), some (.int (Int32.ofInt y))] [] (m_hS h (w, F)) Q := by
  by_cases z : e = 0
  · subst z
    obtain ⟨r1, r2, r3, r4, r5, r6, r7⟩ := V_0 V
    have h9 := V_n V
    have kr := tx_kr (b := b) (n := n) (p := p)
    by_cases k3 : tx_k b n p = 3
    · have hp : p < n := by
        by_cases c : p < n
        · exact c
        · exact absurd k3 (by rw [k_e (by omega)]; decide)
      have hbi : F 151 p = b p := V.2.1.2.2.1 p hp
      have hbb := V.2.1.2.2.2.1 p (by omega)
      rw [k3] at r4
      rw [k_174_0]
      (repeat' (first | (simp (disch := first | omega | (simp (disch := omega) only [i_lt0, i_tn, i_nn, m_cat_n, m_cat_i, m_cat_r, m_cat_z, m_cat_rv, m_cat_l, m_o_n, m_o_i, m_o_r, m_o_z, m_o_rv, m_o_f, hs_n, hs_k, hs_l, f_k_135 I, n_135 I, f_R_135_18 I, f_k_151 I, f_l_151 I, n_151 I, x_151, Nat.reduceLeDiff, not_false_eq_true, or_true, true_or, or_false, false_or]; first | done | omega) | exact Or.inl rfl | exact Or.inr rfl) only [k_174_0, k_174_32, k_174_33, w_aload_0, w_aloadz_0, w_aloadv_0, m_cat_n, m_cat_i, m_cat_r, m_cat_z, m_cat_rv, m_cat_l, Nat.zero_le, Nat.reduceLeDiff, Nat.reduceAdd, cl_171, m_o_i, m_o_r, m_o_z, m_o_rv, m_C_inl, Option.toList_some, Option.toList_none, List.cons_append, List.nil_append, w_if_eq, gf_791, m_rv_s, m_rv_n, w_iconst, w_icmp_ne, gf_786, gf_790, w_iaload, w_script, w_iload_1, w_goto, w_zret, tg_174_32, tg_174_33, k_171_0, k_171_11, tg_171_11, k_171_12, tg_171_12, gf_794, w_if_ne, w_icmp_eq, hs_n, hs_k, hs_l, hs_R, hs_I, hs_L, hs_setI, hs_setL, hs_cpy, f_k_135 I, n_135 I, f_R_135_18 I, f_k_151 I, f_l_151 I, n_151 I, x_151, up_up, up_sw, up_sa, up_if, i_add, i_sub, i_mul, i_tn, i_nat, Int.reduceToNat, Int.reduceAdd, Int.reduceSub, Int.reduceMul, Int.reduceNeg, l_32, l_nat, l_c_lt, l_c_gt, l_c_eq, i_lt, i_eq, i_lt0, i_0lt, i_eq0, i_eq1, Int.reduceLT, Int.reduceEq, Int.reduceLE, Int.reduceNe, not_true_eq_false, not_false_eq_true, Nat.lt_irrefl, Int.lt_irrefl, eq_self, eq_self, Nat.reduceAdd, Nat.reduceMul, Nat.reduceSub, Nat.reduceDiv, Nat.reduceMod, Nat.reduceEqDiff, Nat.reduceLeDiff, Nat.reduceLT, Nat.zero_add, Nat.add_zero, Nat.zero_le, and_false, and_true, and_self, false_and, true_and, or_false, or_true, if_true, if_false, ite_true, ite_false, ↓reduceIte, Int.reduceToNat, Int.reduceAdd, Int.reduceSub, Int.reduceMul, Int.reduceNeg, r1, r2, r4, hbi, Int.toNat_natCast]) | split))
      all_goals first
        | (exfalso; omega)
        | exact hQ1 rfl (tx_g_iff.mpr ⟨hp, by omega⟩)
        | exact hQ0 (fun _ y => by have := (tx_g_iff.mp y).2; omega)
    · have nw : ¬ tx_g b n p y = true := fun y => k3 (tx_gk (T := (b, n)) y yL yD)
      have r4' : ¬ F 135 23 = 3 := by rw [r4]; exact k3
      rw [k_174_0]
      (repeat' (first | (simp (disch := first | omega | (simp (disch := omega) only [i_lt0, i_tn, i_nn, m_cat_n, m_cat_i, m_cat_r, m_cat_z, m_cat_rv, m_cat_l, m_o_n, m_o_i, m_o_r, m_o_z, m_o_rv, m_o_f, hs_n, hs_k, hs_l, f_k_135 I, n_135 I, f_R_135_18 I, f_k_151 I, f_l_151 I, n_151 I, x_151, Nat.reduceLeDiff, not_false_eq_true, or_true, true_or, or_false, false_or]; first | done | omega) | exact Or.inl rfl | exact Or.inr rfl) only [k_174_0, k_174_32, k_174_33, w_aload_0, w_aloadz_0, w_aloadv_0, m_cat_n, m_cat_i, m_cat_r, m_cat_z, m_cat_rv, m_cat_l, Nat.zero_le, Nat.reduceLeDiff, Nat.reduceAdd, cl_171, m_o_i, m_o_r, m_o_z, m_o_rv, m_C_inl, Option.toList_some, Option.toList_none, List.cons_append, List.nil_append, w_if_eq, gf_791, m_rv_s, m_rv_n, w_iconst, w_icmp_ne, gf_786, gf_790, w_iaload, w_script, w_iload_1, w_goto, w_zret, tg_174_32, tg_174_33, k_171_0, k_171_11, tg_171_11, k_171_12, tg_171_12, gf_794, w_if_ne, w_icmp_eq, hs_n, hs_k, hs_l, hs_R, hs_I, hs_L, hs_setI, hs_setL, hs_cpy, f_k_135 I, n_135 I, f_R_135_18 I, f_k_151 I, f_l_151 I, n_151 I, x_151, up_up, up_sw, up_sa, up_if, i_add, i_sub, i_mul, i_tn, i_nat, Int.reduceToNat, Int.reduceAdd, Int.reduceSub, Int.reduceMul, Int.reduceNeg, l_32, l_nat, l_c_lt, l_c_gt, l_c_eq, i_lt, i_eq, i_lt0, i_0lt, i_eq0, i_eq1, Int.reduceLT, Int.reduceEq, Int.reduceLE, Int.reduceNe, not_true_eq_false, not_false_eq_true, Nat.lt_irrefl, Int.lt_irrefl, eq_self, eq_self, Nat.reduceAdd, Nat.reduceMul, Nat.reduceSub, Nat.reduceDiv, Nat.reduceMod, Nat.reduceEqDiff, Nat.reduceLeDiff, Nat.reduceLT, Nat.zero_add, Nat.add_zero, Nat.zero_le, and_false, and_true, and_self, false_and, true_and, or_false, or_true, if_true, if_false, ite_true, ite_false, ↓reduceIte, Int.reduceToNat, Int.reduceAdd, Int.reduceSub, Int.reduceMul, Int.reduceNeg, r1]) | split))
      all_goals first
        | (exfalso; omega)
        | exact hQ0 (fun _ => nw)
  · obtain ⟨r1, r2⟩ := V_e V z
    have hs := V.1.2.2.1
    have r0 : ¬ F 135 26 = 0 := by omega
    rw [k_174_0]
    (repeat' (first | (simp (disch := first | omega | (simp (disch := omega) only [i_lt0, i_tn, i_nn, m_cat_n, m_cat_i, m_cat_r, m_cat_z, m_cat_rv, m_cat_l, m_o_n, m_o_i, m_o_r, m_o_z, m_o_rv, m_o_f, hs_n, hs_k, hs_l, f_k_135 I, n_135 I, f_R_135_18 I, f_k_151 I, f_l_151 I, n_151 I, x_151, Nat.reduceLeDiff, not_false_eq_true, or_true, true_or, or_false, false_or]; first | done | omega) | exact Or.inl rfl | exact Or.inr rfl) only [k_174_0, k_174_32, k_174_33, w_aload_0, w_aloadz_0, w_aloadv_0, m_cat_n, m_cat_i, m_cat_r, m_cat_z, m_cat_rv, m_cat_l, Nat.zero_le, Nat.reduceLeDiff, Nat.reduceAdd, cl_171, m_o_i, m_o_r, m_o_z, m_o_rv, m_C_inl, Option.toList_some, Option.toList_none, List.cons_append, List.nil_append, w_if_eq, gf_791, m_rv_s, m_rv_n, w_iconst, w_icmp_ne, gf_786, gf_790, w_iaload, w_script, w_iload_1, w_goto, w_zret, tg_174_32, tg_174_33, k_171_0, k_171_11, tg_171_11, k_171_12, tg_171_12, gf_794, w_if_ne, w_icmp_eq, hs_n, hs_k, hs_l, hs_R, hs_I, hs_L, hs_setI, hs_setL, hs_cpy, f_k_135 I, n_135 I, f_R_135_18 I, f_k_151 I, f_l_151 I, n_151 I, x_151, up_up, up_sw, up_sa, up_if, i_add, i_sub, i_mul, i_tn, i_nat, Int.reduceToNat, Int.reduceAdd, Int.reduceSub, Int.reduceMul, Int.reduceNeg, l_32, l_nat, l_c_lt, l_c_gt, l_c_eq, i_lt, i_eq, i_lt0, i_0lt, i_eq0, i_eq1, Int.reduceLT, Int.reduceEq, Int.reduceLE, Int.reduceNe, not_true_eq_false, not_false_eq_true, Nat.lt_irrefl, Int.lt_irrefl, eq_self, eq_self, Nat.reduceAdd, Nat.reduceMul, Nat.reduceSub, Nat.reduceDiv, Nat.reduceMod, Nat.reduceEqDiff, Nat.reduceLeDiff, Nat.reduceLT, Nat.zero_add, Nat.add_zero, Nat.zero_le, and_false, and_true, and_self, false_and, true_and, or_false, or_true, if_true, if_false, ite_true, ite_false, ↓reduceIte, Int.reduceToNat, Int.reduceAdd, Int.reduceSub, Int.reduceMul, Int.reduceNeg, r0]) | split))
    all_goals first
      | (exfalso; omega)
      | exact hQ0 (fun y => absurd y z)
set_option maxHeartbeats 4000000 in
theorem v_175 {L : Nat} {xs : Nat → Int32} {d : Nat} {h : m_H} {w : Int64} {F : m_M} {Q : Option Value ⊕ Nat → m_H → Prop} (I : RF h) {b : Nat → Int} {n : Nat} {e : Int} {p : Nat} (V : q_V F w b n (e, p)) {y : Int} (y0 : 0 ≤ y) (y1 : y < 128) (yL : tx_L y = false) (yD : tx_D y = false) (hQ : ∀ (w' : Int64) (F' : m_M), q_f1 F F' → q_V F' w' b n (tx_sg (b, n) y (e, p)) → Q (.inl none) (m_hS h (w', F'))) : m_W (p_P L xs) (d + 3) 175 k_175_0 [some (.ref 135), some (.int (Int32.ofInt y))] [] (m_hS h (w, F)) Q := by
  have hs := V.1.2.2.1
  by_cases z : e = 0
  · subst z
    obtain ⟨r1, r2, r3, r4, r5, r6, r7⟩ := V_0 V
    rw [k_175_0]
    (repeat' (first | (simp (disch := first | omega | (simp (disch := omega) only [i_lt0, i_tn, i_nn, m_cat_n, m_cat_i, m_cat_r, m_cat_z, m_cat_rv, m_cat_l, m_o_n, m_o_i, m_o_r, m_o_z, m_o_rv, m_o_f, hs_n, hs_k, hs_l, f_k_135 I, n_135 I, Nat.reduceLeDiff, not_false_eq_true, or_true, true_or, or_false, false_or]; first | done | omega) | exact Or.inl rfl | exact Or.inr rfl) only [k_175_0, k_175_8, k_175_23, k_175_29, w_aload_0, w_aloadz_0, w_aloadv_0, m_cat_n, m_cat_i, m_cat_r, m_cat_z, m_cat_rv, m_cat_l, Nat.zero_le, Nat.reduceLeDiff, Nat.reduceAdd, cl_171, m_o_i, m_o_r, m_o_z, m_o_rv, m_C_inl, Option.toList_some, Option.toList_none, List.cons_append, List.nil_append, w_if_ne, w_vret, w_iload_1, w_if_eq, w_goto, w_iconst, cl_170, w_pop_i, w_pop_r, w_pop_z, w_pop_v, tg_175_8, tg_175_23, tg_175_29, k_171_0, k_171_11, tg_171_11, k_171_12, tg_171_12, gf_794, m_rv_s, m_rv_n, w_zret, k_170_0, k_170_20, tg_170_20, pf_794, gf_790, pf_795, w_icmp_eq, hs_n, hs_k, hs_l, hs_R, hs_I, hs_L, hs_setI, hs_setL, hs_cpy, f_k_135 I, n_135 I, up_up, up_sw, up_sa, up_if, i_add, i_sub, i_mul, i_tn, i_nat, Int.reduceToNat, Int.reduceAdd, Int.reduceSub, Int.reduceMul, Int.reduceNeg, l_32, l_nat, l_c_lt, l_c_gt, l_c_eq, i_lt, i_eq, i_lt0, i_0lt, i_eq0, i_eq1, Int.reduceLT, Int.reduceEq, Int.reduceLE, Int.reduceNe, not_true_eq_false, not_false_eq_true, Nat.lt_irrefl, Int.lt_irrefl, eq_self, eq_self, Nat.reduceAdd, Nat.reduceMul, Nat.reduceSub, Nat.reduceDiv, Nat.reduceMod, Nat.reduceEqDiff, Nat.reduceLeDiff, Nat.reduceLT, Nat.zero_add, Nat.add_zero, Nat.zero_le, and_false, and_true, and_self, false_and, true_and, or_false, or_true, if_true, if_false, ite_true, ite_false, ↓reduceIte, Int.reduceToNat, Int.reduceAdd, Int.reduceSub, Int.reduceMul, Int.reduceNeg, r1]) | split | (simp (disch := first | omega | (simp (disch := omega) only [i_lt0, i_tn, i_nn, m_cat_n, m_cat_i, m_cat_r, m_cat_z, m_cat_rv, m_cat_l, m_o_n, m_o_i, m_o_r, m_o_z, m_o_rv, m_o_f, hs_n, hs_k, hs_l, f_k_135 I, n_135 I, Nat.reduceLeDiff, not_false_eq_true, or_true, true_or, or_false, false_or]; first | done | omega) | exact Or.inl rfl | exact Or.inr rfl) only [cl_174, m_cat_n, m_cat_i, m_cat_r, m_cat_z, m_cat_rv, m_cat_l, Nat.zero_le, Nat.reduceLeDiff, Nat.reduceAdd, m_o_i, m_o_r, m_o_z, m_o_rv, hs_n, hs_k, f_k_135 I, n_135 I]; refine v_174 I V y0 y1 yL yD ?_ ?_; all_goals first | (intro q1 q2) | (intro q0))))
    all_goals first
      | (exfalso; omega)
      | (have q9 := q0 rfl
         rw [sg_n (T := (b, n)) q9] at hQ
         exact hQ _ _ f1_wr (V_wr V (by decide) (by decide)))
      | (rw [sg_y (T := (b, n)) q2] at hQ
         simp (disch := first | omega | (simp (disch := omega) only [i_lt0, i_tn, i_nn, m_cat_n, m_cat_i, m_cat_r, m_cat_z, m_cat_rv, m_cat_l, m_o_n, m_o_i, m_o_r, m_o_z, m_o_rv, m_o_f, hs_n, hs_k, hs_l, f_k_135 I, n_135 I, Nat.reduceLeDiff, not_false_eq_true, or_true, true_or, or_false, false_or]; first | done | omega) | exact Or.inl rfl | exact Or.inr rfl) only [cl_168, m_cat_n, m_cat_i, m_cat_r, m_cat_z, m_cat_rv, m_cat_l, Nat.zero_le, Nat.reduceLeDiff, Nat.reduceAdd, m_o_i, m_o_r, m_o_z, m_o_rv, hs_n, hs_k, f_k_135 I, n_135 I]
         refine v_168 I V (tx_g_iff.mp q2).1 (fun w1 F1 g1 V1 => ?_)
         simp (disch := first | omega | (simp (disch := omega) only [i_lt0, i_tn, i_nn, m_cat_n, m_cat_i, m_cat_r, m_cat_z, m_cat_rv, m_cat_l, m_o_n, m_o_i, m_o_r, m_o_z, m_o_rv, m_o_f, hs_n, hs_k, hs_l, f_k_135 I, n_135 I, Nat.reduceLeDiff, not_false_eq_true, or_true, true_or, or_false, false_or]; first | done | omega) | exact Or.inl rfl | exact Or.inr rfl) only [k_175_0, k_175_8, k_175_23, k_175_29, w_aload_0, w_aloadz_0, w_aloadv_0, m_cat_n, m_cat_i, m_cat_r, m_cat_z, m_cat_rv, m_cat_l, Nat.zero_le, Nat.reduceLeDiff, Nat.reduceAdd, m_o_i, m_o_r, m_o_z, m_o_rv, m_C_inl, Option.toList_some, Option.toList_none, List.cons_append, List.nil_append, w_if_ne, w_vret, w_iload_1, w_if_eq, w_goto, w_iconst, w_pop_i, w_pop_r, w_pop_z, w_pop_v, tg_175_8, tg_175_23, tg_175_29, w_icmp_eq, hs_n, hs_k, hs_l, hs_R, hs_I, hs_L, hs_setI, hs_setL, hs_cpy, f_k_135 I, n_135 I, up_up, up_sw, up_sa, up_if, i_add, i_sub, i_mul, i_tn, i_nat, Int.reduceToNat, Int.reduceAdd, Int.reduceSub, Int.reduceMul, Int.reduceNeg, l_32, l_nat, l_c_lt, l_c_gt, l_c_eq, i_lt, i_eq, i_lt0, i_0lt, i_eq0, i_eq1, Int.reduceLT, Int.reduceEq, Int.reduceLE, Int.reduceNe, not_true_eq_false, not_false_eq_true, Nat.lt_irrefl, Int.lt_irrefl, eq_self, eq_self, Nat.reduceAdd, Nat.reduceMul, Nat.reduceSub, Nat.reduceDiv, Nat.reduceMod, Nat.reduceEqDiff, Nat.reduceLeDiff, Nat.reduceLT, Nat.zero_add, Nat.add_zero, Nat.zero_le, and_false, and_true, and_self, false_and, true_and, or_false, or_true, if_true, if_false, ite_true, ite_false, ↓reduceIte, Int.reduceToNat, Int.reduceAdd, Int.reduceSub, Int.reduceMul, Int.reduceNeg]
         exact hQ _ _ g1 V1)
  · obtain ⟨r1, r2⟩ := V_e V z
    have r0 : ¬ F 135 26 = 0 := by omega
    rw [sg_b z] at hQ
    rw [k_175_0]
    (repeat' (first | (simp (disch := first | omega | (simp (disch := omega) only [i_lt0, i_tn, i_nn, m_cat_n, m_cat_i, m_cat_r, m_cat_z, m_cat_rv, m_cat_l, m_o_n, m_o_i, m_o_r, m_o_z, m_o_rv, m_o_f, hs_n, hs_k, hs_l, f_k_135 I, n_135 I, Nat.reduceLeDiff, not_false_eq_true, or_true, true_or, or_false, false_or]; first | done | omega) | exact Or.inl rfl | exact Or.inr rfl) only [k_175_0, k_175_8, k_175_23, k_175_29, w_aload_0, w_aloadz_0, w_aloadv_0, m_cat_n, m_cat_i, m_cat_r, m_cat_z, m_cat_rv, m_cat_l, Nat.zero_le, Nat.reduceLeDiff, Nat.reduceAdd, cl_171, m_o_i, m_o_r, m_o_z, m_o_rv, m_C_inl, Option.toList_some, Option.toList_none, List.cons_append, List.nil_append, w_if_ne, w_vret, w_iload_1, w_if_eq, w_goto, w_iconst, cl_170, w_pop_i, w_pop_r, w_pop_z, w_pop_v, tg_175_8, tg_175_23, tg_175_29, k_171_0, k_171_11, tg_171_11, k_171_12, tg_171_12, gf_794, m_rv_s, m_rv_n, w_zret, k_170_0, k_170_20, tg_170_20, pf_794, gf_790, pf_795, w_icmp_eq, hs_n, hs_k, hs_l, hs_R, hs_I, hs_L, hs_setI, hs_setL, hs_cpy, f_k_135 I, n_135 I, up_up, up_sw, up_sa, up_if, i_add, i_sub, i_mul, i_tn, i_nat, Int.reduceToNat, Int.reduceAdd, Int.reduceSub, Int.reduceMul, Int.reduceNeg, l_32, l_nat, l_c_lt, l_c_gt, l_c_eq, i_lt, i_eq, i_lt0, i_0lt, i_eq0, i_eq1, Int.reduceLT, Int.reduceEq, Int.reduceLE, Int.reduceNe, not_true_eq_false, not_false_eq_true, Nat.lt_irrefl, Int.lt_irrefl, eq_self, eq_self, Nat.reduceAdd, Nat.reduceMul, Nat.reduceSub, Nat.reduceDiv, Nat.reduceMod, Nat.reduceEqDiff, Nat.reduceLeDiff, Nat.reduceLT, Nat.zero_add, Nat.add_zero, Nat.zero_le, and_false, and_true, and_self, false_and, true_and, or_false, or_true, if_true, if_false, ite_true, ite_false, ↓reduceIte, Int.reduceToNat, Int.reduceAdd, Int.reduceSub, Int.reduceMul, Int.reduceNeg, r0]) | split))
    all_goals first
      | (exfalso; omega)
      | exact hQ _ _ f1_rf V
set_option maxHeartbeats 4000000 in
theorem v_176 {L : Nat} {xs : Nat → Int32} {d : Nat} {h : m_H} {w : Int64} {F : m_M} {Q : Option Value ⊕ Nat → m_H → Prop} (I : RF h) {b : Nat → Int} {n : Nat} {e : Int} {p : Nat} (V : q_V F w b n (e, p)) {lo hi : Int} (l1 : 0 ≤ lo) (l2 : lo ≤ 100000) (l3 : 0 ≤ hi) (l4 : hi ≤ 100000) (hQ : ∀ (w' : Int64) (F' : m_M), q_f1 F F' → q_V F' w' b n (tx_nb (b, n) lo hi (e, p)).1 → Q (.inl (some (.int (Int32.ofInt (tx_nb (b, n) lo hi (e, p)).2)))) (m_hS h (w', F'))) : m_W (p_P L xs) (d + 3) 176 k_176_0 [some (.ref 135), some (.int (Int32.ofInt lo)), some (.int (Int32.ofInt hi)), none] [] (m_hS h (w, F)) Q := by
  have hs := V.1.2.2.1
  by_cases z : e = 0
  · subst z
    obtain ⟨r1, r2, r3, r4, r5, r6, r7⟩ := V_0 V
    have h9 := V_n V
    have kr := tx_kr (b := b) (n := n) (p := p)
    by_cases k2 : tx_k b n p = 2
    · have hp := (tx_k2.mp k2).1
      have nv := nv_le k2
      rw [k2] at r4
      have r6 := r6 k2
      by_cases c : lo ≤ tx_nv b n p ∧ tx_nv b n p ≤ hi
      · rw [nb_y (T := (b, n)) k2 c.1 c.2] at hQ
        rw [k_176_0]
        (repeat' (first | (simp (disch := first | omega | (simp (disch := omega) only [i_lt0, i_tn, i_nn, m_cat_n, m_cat_i, m_cat_r, m_cat_z, m_cat_rv, m_cat_l, m_o_n, m_o_i, m_o_r, m_o_z, m_o_rv, m_o_f, hs_n, hs_k, hs_l, f_k_135 I, n_135 I, Nat.reduceLeDiff, not_false_eq_true, or_true, true_or, or_false, false_or]; first | done | omega) | exact Or.inl rfl | exact Or.inr rfl) only [k_176_0, k_176_9, k_176_26, k_176_47, k_176_56, w_aload_0, w_aloadz_0, w_aloadv_0, m_cat_n, m_cat_i, m_cat_r, m_cat_z, m_cat_rv, m_cat_l, Nat.zero_le, Nat.reduceLeDiff, Nat.reduceAdd, cl_171, m_o_i, m_o_r, m_o_z, m_o_rv, m_C_inl, Option.toList_some, Option.toList_none, List.cons_append, List.nil_append, w_if_ne, w_iload_1, w_iret, gf_791, m_rv_s, m_rv_n, w_iconst, w_icmp_eq, cl_170, w_pop_i, w_pop_r, w_pop_z, w_pop_v, w_goto, gf_792, w_i2l, w_iload_2, cl_153, w_istore_3, m_o_n, m_o_f, w_iload_3, tg_176_9, tg_176_26, tg_176_47, tg_176_56, k_171_0, k_171_11, tg_171_11, k_171_12, tg_171_12, gf_794, w_zret, k_170_0, k_170_20, tg_170_20, pf_794, gf_790, pf_795, k_153_0, k_153_17, tg_153_17, k_153_18, tg_153_18, w_lload_0, w_lload_2, w_lcmp, w_if_lt, w_lload_4, w_if_gt, w_if_eq, hs_n, hs_k, hs_l, hs_R, hs_I, hs_L, hs_setI, hs_setL, hs_cpy, f_k_135 I, n_135 I, up_up, up_sw, up_sa, up_if, i_add, i_sub, i_mul, i_tn, i_nat, Int.reduceToNat, Int.reduceAdd, Int.reduceSub, Int.reduceMul, Int.reduceNeg, l_32, l_nat, l_c_lt, l_c_gt, l_c_eq, i_lt, i_eq, i_lt0, i_0lt, i_eq0, i_eq1, Int.reduceLT, Int.reduceEq, Int.reduceLE, Int.reduceNe, not_true_eq_false, not_false_eq_true, Nat.lt_irrefl, Int.lt_irrefl, eq_self, eq_self, Nat.reduceAdd, Nat.reduceMul, Nat.reduceSub, Nat.reduceDiv, Nat.reduceMod, Nat.reduceEqDiff, Nat.reduceLeDiff, Nat.reduceLT, Nat.zero_add, Nat.add_zero, Nat.zero_le, and_false, and_true, and_self, false_and, true_and, or_false, or_true, if_true, if_false, ite_true, ite_false, ↓reduceIte, Int.reduceToNat, Int.reduceAdd, Int.reduceSub, Int.reduceMul, Int.reduceNeg, r1, r4, r6]) | split))
        all_goals first
          | (exfalso; omega)
          | (simp (disch := first | omega | (simp (disch := omega) only [i_lt0, i_tn, i_nn, m_cat_n, m_cat_i, m_cat_r, m_cat_z, m_cat_rv, m_cat_l, m_o_n, m_o_i, m_o_r, m_o_z, m_o_rv, m_o_f, hs_n, hs_k, hs_l, f_k_135 I, n_135 I, Nat.reduceLeDiff, not_false_eq_true, or_true, true_or, or_false, false_or]; first | done | omega) | exact Or.inl rfl | exact Or.inr rfl) only [cl_168, m_cat_n, m_cat_i, m_cat_r, m_cat_z, m_cat_rv, m_cat_l, Nat.zero_le, Nat.reduceLeDiff, Nat.reduceAdd, m_o_i, m_o_r, m_o_z, m_o_rv, hs_n, hs_k, f_k_135 I, n_135 I]
             refine v_168 I V hp (fun w1 F1 g1 V1 => ?_)
             simp (disch := first | omega | (simp (disch := omega) only [i_lt0, i_tn, i_nn, m_cat_n, m_cat_i, m_cat_r, m_cat_z, m_cat_rv, m_cat_l, m_o_n, m_o_i, m_o_r, m_o_z, m_o_rv, m_o_f, hs_n, hs_k, hs_l, f_k_135 I, n_135 I, Nat.reduceLeDiff, not_false_eq_true, or_true, true_or, or_false, false_or]; first | done | omega) | exact Or.inl rfl | exact Or.inr rfl) only [k_176_0, k_176_9, k_176_26, k_176_47, k_176_56, w_aload_0, w_aloadz_0, w_aloadv_0, m_cat_n, m_cat_i, m_cat_r, m_cat_z, m_cat_rv, m_cat_l, Nat.zero_le, Nat.reduceLeDiff, Nat.reduceAdd, m_o_i, m_o_r, m_o_z, m_o_rv, m_C_inl, Option.toList_some, Option.toList_none, List.cons_append, List.nil_append, w_if_ne, w_iload_1, w_iret, gf_791, m_rv_s, m_rv_n, w_iconst, w_icmp_eq, w_pop_i, w_pop_r, w_pop_z, w_pop_v, w_goto, gf_792, w_i2l, w_iload_2, w_istore_3, m_o_n, m_o_f, w_iload_3, tg_176_9, tg_176_26, tg_176_47, tg_176_56, w_if_eq, hs_n, hs_k, hs_l, hs_R, hs_I, hs_L, hs_setI, hs_setL, hs_cpy, f_k_135 I, n_135 I, up_up, up_sw, up_sa, up_if, i_add, i_sub, i_mul, i_tn, i_nat, Int.reduceToNat, Int.reduceAdd, Int.reduceSub, Int.reduceMul, Int.reduceNeg, l_32, l_nat, l_c_lt, l_c_gt, l_c_eq, i_lt, i_eq, i_lt0, i_0lt, i_eq0, i_eq1, Int.reduceLT, Int.reduceEq, Int.reduceLE, Int.reduceNe, not_true_eq_false, not_false_eq_true, Nat.lt_irrefl, Int.lt_irrefl, eq_self, eq_self, Nat.reduceAdd, Nat.reduceMul, Nat.reduceSub, Nat.reduceDiv, Nat.reduceMod, Nat.reduceEqDiff, Nat.reduceLeDiff, Nat.reduceLT, Nat.zero_add, Nat.add_zero, Nat.zero_le, and_false, and_true, and_self, false_and, true_and, or_false, or_true, if_true, if_false, ite_true, ite_false, ↓reduceIte, Int.reduceToNat, Int.reduceAdd, Int.reduceSub, Int.reduceMul, Int.reduceNeg, r6]
             exact hQ _ _ g1 V1)
      · rw [nb_2 (T := (b, n)) k2 c] at hQ
        rw [k_176_0]
        (repeat' (first | (simp (disch := first | omega | (simp (disch := omega) only [i_lt0, i_tn, i_nn, m_cat_n, m_cat_i, m_cat_r, m_cat_z, m_cat_rv, m_cat_l, m_o_n, m_o_i, m_o_r, m_o_z, m_o_rv, m_o_f, hs_n, hs_k, hs_l, f_k_135 I, n_135 I, Nat.reduceLeDiff, not_false_eq_true, or_true, true_or, or_false, false_or]; first | done | omega) | exact Or.inl rfl | exact Or.inr rfl) only [k_176_0, k_176_9, k_176_26, k_176_47, k_176_56, w_aload_0, w_aloadz_0, w_aloadv_0, m_cat_n, m_cat_i, m_cat_r, m_cat_z, m_cat_rv, m_cat_l, Nat.zero_le, Nat.reduceLeDiff, Nat.reduceAdd, cl_171, m_o_i, m_o_r, m_o_z, m_o_rv, m_C_inl, Option.toList_some, Option.toList_none, List.cons_append, List.nil_append, w_if_ne, w_iload_1, w_iret, gf_791, m_rv_s, m_rv_n, w_iconst, w_icmp_eq, cl_170, w_pop_i, w_pop_r, w_pop_z, w_pop_v, w_goto, gf_792, w_i2l, w_iload_2, cl_153, w_istore_3, m_o_n, m_o_f, w_iload_3, tg_176_9, tg_176_26, tg_176_47, tg_176_56, k_171_0, k_171_11, tg_171_11, k_171_12, tg_171_12, gf_794, w_zret, k_170_0, k_170_20, tg_170_20, pf_794, gf_790, pf_795, k_153_0, k_153_17, tg_153_17, k_153_18, tg_153_18, w_lload_0, w_lload_2, w_lcmp, w_if_lt, w_lload_4, w_if_gt, w_if_eq, hs_n, hs_k, hs_l, hs_R, hs_I, hs_L, hs_setI, hs_setL, hs_cpy, f_k_135 I, n_135 I, up_up, up_sw, up_sa, up_if, i_add, i_sub, i_mul, i_tn, i_nat, Int.reduceToNat, Int.reduceAdd, Int.reduceSub, Int.reduceMul, Int.reduceNeg, l_32, l_nat, l_c_lt, l_c_gt, l_c_eq, i_lt, i_eq, i_lt0, i_0lt, i_eq0, i_eq1, Int.reduceLT, Int.reduceEq, Int.reduceLE, Int.reduceNe, not_true_eq_false, not_false_eq_true, Nat.lt_irrefl, Int.lt_irrefl, eq_self, eq_self, Nat.reduceAdd, Nat.reduceMul, Nat.reduceSub, Nat.reduceDiv, Nat.reduceMod, Nat.reduceEqDiff, Nat.reduceLeDiff, Nat.reduceLT, Nat.zero_add, Nat.add_zero, Nat.zero_le, and_false, and_true, and_self, false_and, true_and, or_false, or_true, if_true, if_false, ite_true, ite_false, ↓reduceIte, Int.reduceToNat, Int.reduceAdd, Int.reduceSub, Int.reduceMul, Int.reduceNeg, r1, r4, r6]) | split))
        all_goals first
          | (exfalso; omega)
          | exact hQ _ _ f1_wr (V_wr V (by decide) (by decide))
    · have r4' : ¬ F 135 23 = 2 := by rw [r4]; exact k2
      rw [nb_1 (T := (b, n)) k2] at hQ
      rw [k_176_0]
      (repeat' (first | (simp (disch := first | omega | (simp (disch := omega) only [i_lt0, i_tn, i_nn, m_cat_n, m_cat_i, m_cat_r, m_cat_z, m_cat_rv, m_cat_l, m_o_n, m_o_i, m_o_r, m_o_z, m_o_rv, m_o_f, hs_n, hs_k, hs_l, f_k_135 I, n_135 I, Nat.reduceLeDiff, not_false_eq_true, or_true, true_or, or_false, false_or]; first | done | omega) | exact Or.inl rfl | exact Or.inr rfl) only [k_176_0, k_176_9, k_176_26, k_176_47, k_176_56, w_aload_0, w_aloadz_0, w_aloadv_0, m_cat_n, m_cat_i, m_cat_r, m_cat_z, m_cat_rv, m_cat_l, Nat.zero_le, Nat.reduceLeDiff, Nat.reduceAdd, cl_171, m_o_i, m_o_r, m_o_z, m_o_rv, m_C_inl, Option.toList_some, Option.toList_none, List.cons_append, List.nil_append, w_if_ne, w_iload_1, w_iret, gf_791, m_rv_s, m_rv_n, w_iconst, w_icmp_eq, cl_170, w_pop_i, w_pop_r, w_pop_z, w_pop_v, w_goto, gf_792, w_i2l, w_iload_2, cl_153, w_istore_3, m_o_n, m_o_f, w_iload_3, tg_176_9, tg_176_26, tg_176_47, tg_176_56, k_171_0, k_171_11, tg_171_11, k_171_12, tg_171_12, gf_794, w_zret, k_170_0, k_170_20, tg_170_20, pf_794, gf_790, pf_795, k_153_0, k_153_17, tg_153_17, k_153_18, tg_153_18, w_lload_0, w_lload_2, w_lcmp, w_if_lt, w_lload_4, w_if_gt, w_if_eq, hs_n, hs_k, hs_l, hs_R, hs_I, hs_L, hs_setI, hs_setL, hs_cpy, f_k_135 I, n_135 I, up_up, up_sw, up_sa, up_if, i_add, i_sub, i_mul, i_tn, i_nat, Int.reduceToNat, Int.reduceAdd, Int.reduceSub, Int.reduceMul, Int.reduceNeg, l_32, l_nat, l_c_lt, l_c_gt, l_c_eq, i_lt, i_eq, i_lt0, i_0lt, i_eq0, i_eq1, Int.reduceLT, Int.reduceEq, Int.reduceLE, Int.reduceNe, not_true_eq_false, not_false_eq_true, Nat.lt_irrefl, Int.lt_irrefl, eq_self, eq_self, Nat.reduceAdd, Nat.reduceMul, Nat.reduceSub, Nat.reduceDiv, Nat.reduceMod, Nat.reduceEqDiff, Nat.reduceLeDiff, Nat.reduceLT, Nat.zero_add, Nat.add_zero, Nat.zero_le, and_false, and_true, and_self, false_and, true_and, or_false, or_true, if_true, if_false, ite_true, ite_false, ↓reduceIte, Int.reduceToNat, Int.reduceAdd, Int.reduceSub, Int.reduceMul, Int.reduceNeg, r1]) | split))
      all_goals first
        | (exfalso; omega)
        | exact hQ _ _ f1_wr (V_wr V (by decide) (by decide))
  · obtain ⟨r1, r2⟩ := V_e V z
    have r0 : ¬ F 135 26 = 0 := by omega
    rw [nb_b z] at hQ
    rw [k_176_0]
    (repeat' (first | (simp (disch := first | omega | (simp (disch := omega) only [i_lt0, i_tn, i_nn, m_cat_n, m_cat_i, m_cat_r, m_cat_z, m_cat_rv, m_cat_l, m_o_n, m_o_i, m_o_r, m_o_z, m_o_rv, m_o_f, hs_n, hs_k, hs_l, f_k_135 I, n_135 I, Nat.reduceLeDiff, not_false_eq_true, or_true, true_or, or_false, false_or]; first | done | omega) | exact Or.inl rfl | exact Or.inr rfl) only [k_176_0, k_176_9, k_176_26, k_176_47, k_176_56, w_aload_0, w_aloadz_0, w_aloadv_0, m_cat_n, m_cat_i, m_cat_r, m_cat_z, m_cat_rv, m_cat_l, Nat.zero_le, Nat.reduceLeDiff, Nat.reduceAdd, cl_171, m_o_i, m_o_r, m_o_z, m_o_rv, m_C_inl, Option.toList_some, Option.toList_none, List.cons_append, List.nil_append, w_if_ne, w_iload_1, w_iret, gf_791, m_rv_s, m_rv_n, w_iconst, w_icmp_eq, cl_170, w_pop_i, w_pop_r, w_pop_z, w_pop_v, w_goto, gf_792, w_i2l, w_iload_2, cl_153, w_istore_3, m_o_n, m_o_f, w_iload_3, tg_176_9, tg_176_26, tg_176_47, tg_176_56, k_171_0, k_171_11, tg_171_11, k_171_12, tg_171_12, gf_794, w_zret, k_170_0, k_170_20, tg_170_20, pf_794, gf_790, pf_795, k_153_0, k_153_17, tg_153_17, k_153_18, tg_153_18, w_lload_0, w_lload_2, w_lcmp, w_if_lt, w_lload_4, w_if_gt, w_if_eq, hs_n, hs_k, hs_l, hs_R, hs_I, hs_L, hs_setI, hs_setL, hs_cpy, f_k_135 I, n_135 I, up_up, up_sw, up_sa, up_if, i_add, i_sub, i_mul, i_tn, i_nat, Int.reduceToNat, Int.reduceAdd, Int.reduceSub, Int.reduceMul, Int.reduceNeg, l_32, l_nat, l_c_lt, l_c_gt, l_c_eq, i_lt, i_eq, i_lt0, i_0lt, i_eq0, i_eq1, Int.reduceLT, Int.reduceEq, Int.reduceLE, Int.reduceNe, not_true_eq_false, not_false_eq_true, Nat.lt_irrefl, Int.lt_irrefl, eq_self, eq_self, Nat.reduceAdd, Nat.reduceMul, Nat.reduceSub, Nat.reduceDiv, Nat.reduceMod, Nat.reduceEqDiff, Nat.reduceLeDiff, Nat.reduceLT, Nat.zero_add, Nat.add_zero, Nat.zero_le, and_false, and_true, and_self, false_and, true_and, or_false, or_true, if_true, if_false, ite_true, ite_false, ↓reduceIte, Int.reduceToNat, Int.reduceAdd, Int.reduceSub, Int.reduceMul, Int.reduceNeg, r0]) | split))
    all_goals first
      | (exfalso; omega)
      | exact hQ _ _ f1_rf V
