/-! Worlds remembered, tried, saved -/
/-- the World at work and its program's numbers are as they were -/
def q_kp (u p : Nat) (F F' : m_M) : Prop := (∀ x y, (x = u ∨ (bo u ≤ x ∧ x < bo u + 124)) → F' x y = F x y) ∧ (∀ y, F' p y = F p y)
theorem kp_tr {u p : Nat} {F G K : m_M} (a : q_kp u p F G) (b : q_kp u p G K) : q_kp u p F K := ⟨fun x y hx => (b.1 x y hx).trans (a.1 x y hx), fun y => (b.2 y).trans (a.2 y)⟩
/-- a cell of another World isn't the World's at work nor its program's -/
theorem KP_dj {ow : Nat → Nat} {h : m_H} {F : m_M} {u p v q : Nat} (K : KP ow h F u p) (M : KP ow h F v q) (ne : ¬ v = u) : ∀ x, (x = u ∨ (bo u ≤ x ∧ x < bo u + 124) ∨ (p ≤ x ∧ x < p + 6)) → ¬ x = v ∧ ¬ (bo v ≤ x ∧ x < bo v + 124) := by
  intro x hx
  have k1 := PW_pk K.2.2.1.2.1
  have k2 := CW_uk M.2.2.1.1
  obtain ⟨⟨u1, u2, u3⟩, ⟨p1, p2⟩, -⟩ := K
  obtain ⟨⟨v1, v2, v3⟩, -⟩ := M
  have e : ow x = u ∨ ow x = p := by
    rcases hx with h | h | h
    · subst h
      exact Or.inl u2
    · exact Or.inl (u3 x h.1 h.2)
    · exact Or.inr (p2 x h.1 h.2)
  have pv : ¬ p = v := fun e => by rw [e] at k1; omega
  refine ⟨fun e9 => ?_, fun e9 => ?_⟩
  · subst e9
    omega
  · have := v3 x e9.1 e9.2
    omega
theorem mn_10 {c : Int} (h1 : 0 ≤ c) (h2 : c ≤ 10) : 0 ≤ i_mn (c + 1) 10 ∧ i_mn (c + 1) 10 ≤ 10 := by
  rw [i_mn_e (by omega) (by omega) (by omega) (by omega)]
  split <;> omega
set_option maxHeartbeats 4000000 in
theorem lpB_21 {L : Nat} {xs : Nat → Int32} {d : Nat} {h : m_H} {w : Int64} {F : m_M} {Q : Option Value ⊕ Nat → m_H → Prop} {ow : Nat → Nat} {u p : Nat} (I : q_CI ow h F u p) {v : Nat} (hv : q_O h v) (hQ : ∀ F' : m_M, q_CI ow (m_setR h v 0 (some p)) F' u p → q_sT h (m_setR h v 0 (some p)) F F' 0 0 → F' 0 1 = F 0 1 → q_kp u p F F' → Q (.inl none) (m_hS (m_setR h v 0 (some p)) (w, F'))) : m_W (p_P L xs) (d + 2) 21 k_21_36 [some (.ref 133), some (.ref u), some (.ref v)] [] (m_hS h (w, F)) Q := by
  have I0 := I
  obtain ⟨⟨⟨s1, s2⟩, k0, r00, k1, l1, r04, k133, r133, k134, l134⟩, ⟨⟨f1, f2⟩, f6, ⟨n1, n2⟩, ⟨c1, c2⟩⟩, i3, r03, KU, i6⟩ := I
  have hX : m_X = 1000000000 := rfl
  have ku := CW_uk KU.2.2.1.1
  have up : m_R h u 0 = some p := KU.2.2.1.2.2.1
  have kp := PW_pk KU.2.2.1.2.1
  have un := KP_n KU
  have u1 := KU.1.1
  have p1 := KU.2.1.1
  have hb := bo_or u
  obtain ⟨ne, q, KV⟩ := i6 v hv
  have dj := KP_dj KU KV ne
  have kv := CW_uk KV.2.2.1.1
  have vb := bo_or v
  have v1 := KV.1.1
  have vn := KP_n KV
  rw [k_21_36]
  simp (disch := first | omega | (simp (disch := first | omega | (simp only [h_n_setR, h_n_mk, hs_n]; first | done | omega)) only [i_lt0, i_tn, i_nn, m_cat_n, m_cat_i, m_cat_r, m_cat_z, m_cat_rv, m_cat_l, m_o_n, m_o_i, m_o_r, m_o_z, m_o_rv, m_o_f, hs_n, hs_k, hs_l, h_n_setR, h_n_mk, h_k_setR, h_l_setR, hk_old, hk_new, hl_old, hl_new, Nat.reduceLeDiff, not_false_eq_true, or_true, true_or, or_false, false_or, k0, r00, k1, l1, r04, k133, r133, k134, l134, r03, ku, up, kp, h_k_setR, h_l_setR, kv]; first | done | omega) | exact Or.inl rfl | exact Or.inr rfl) only [k_21_36, w_aload_2, w_aloadz_2, w_aloadv_2, w_aload_1, w_aloadz_1, w_aloadv_1, m_cat_n, m_cat_i, m_cat_r, m_cat_z, m_cat_rv, m_cat_l, Nat.zero_le, Nat.reduceLeDiff, Nat.reduceAdd, m_o_i, m_o_r, m_o_z, m_o_rv, m_C_inl, Option.toList_some, Option.toList_none, List.cons_append, List.nil_append, w_aload_0, w_aloadz_0, w_aloadv_0, gf_193, m_rv_s, m_rv_n, w_iconst, w_iadd, w_irem2, pf_193, gf_194, w_min2, pf_194, w_vret, tg_21_36, w_icmp_eq, w_if_eq, hs_n, hs_k, hs_l, hs_R, hs_I, hs_L, hs_setI, hs_setL, hs_cpy, hs_setR, hs_mk, k0, r00, k1, l1, r04, k133, r133, k134, l134, r03, ku, up, kp, h_k_setR, h_l_setR, kv, up_eq, up_na, up_nk, zr_eq, zr_na, sR_eq, sR_na, sR_nk, hR_old, hR_new, h_n_setR, h_n_mk, i_add, i_sub, i_mul, i_tn, i_nat, Int.reduceToNat, Int.reduceAdd, Int.reduceSub, Int.reduceMul, Int.reduceNeg, l_32, l_nat, l_c_lt, l_c_gt, l_c_eq, i_lt, i_eq, i_lt0, i_0lt, i_eq0, i_eq1, Int.reduceLT, Int.reduceEq, Int.reduceLE, Int.reduceNe, not_true_eq_false, not_false_eq_true, Nat.lt_irrefl, Int.lt_irrefl, eq_self, eq_self, Nat.reduceAdd, Nat.reduceMul, Nat.reduceSub, Nat.reduceDiv, Nat.reduceMod, Nat.reduceEqDiff, Nat.reduceLeDiff, Nat.reduceLT, Nat.zero_add, Nat.add_zero, Nat.zero_le, and_false, and_true, and_self, false_and, true_and, or_false, or_true, if_true, if_false, ite_true, ite_false, ↓reduceIte, Int.reduceToNat, Int.reduceAdd, Int.reduceSub, Int.reduceMul, Int.reduceNeg]
  simp (disch := first | omega | (simp (disch := first | omega | (simp only [h_n_setR, h_n_mk, hs_n]; first | done | omega)) only [i_lt0, i_tn, i_nn, m_cat_n, m_cat_i, m_cat_r, m_cat_z, m_cat_rv, m_cat_l, m_o_n, m_o_i, m_o_r, m_o_z, m_o_rv, m_o_f, hs_n, hs_k, hs_l, h_n_setR, h_n_mk, h_k_setR, h_l_setR, hk_old, hk_new, hl_old, hl_new, Nat.reduceLeDiff, not_false_eq_true, or_true, true_or, or_false, false_or, k0, r00, k1, l1, r04, k133, r133, k134, l134, r03, ku, up, kp, h_k_setR, h_l_setR, kv]; first | done | omega) | exact Or.inl rfl | exact Or.inr rfl) only [cl_78, m_cat_n, m_cat_i, m_cat_r, m_cat_z, m_cat_rv, m_cat_l, Nat.zero_le, Nat.reduceLeDiff, Nat.reduceAdd, m_o_i, m_o_r, m_o_z, m_o_rv, hs_n, hs_k, h_n_setR, h_n_mk]
  refine t_78 KV.2.2.1.1 KU.2.2.1.1 (KP_ap KV KU ne) up KV.2.2.2 KU.2.2.2 (fun F1 U1 g1 g2 => ?_)
  obtain ⟨I1, -, T1⟩ := CI_cp I0 (Or.inr hv) KV KU ne U1 g1
  rw [if_neg ne] at I1
  have e1 : F1 133 1 = F 133 1 := g1 _ _ (by omega) (by omega)
  have e2 : F1 133 2 = F 133 2 := g1 _ _ (by omega) (by omega)
  have e3 : F1 0 1 = F 0 1 := g1 _ _ (by omega) (by omega)
  have e4 : F1 0 6 = F 0 6 := g1 _ _ (by omega) (by omega)
  have kk : q_kp u p F F1 := ⟨fun x y hx => g1 x y (dj x (by omega)).1 (dj x (by omega)).2, fun y => g1 p y (dj p (by omega)).1 (dj p (by omega)).2⟩
  simp (disch := first | omega | (simp (disch := first | omega | (simp only [h_n_setR, h_n_mk, hs_n]; first | done | omega)) only [i_lt0, i_tn, i_nn, m_cat_n, m_cat_i, m_cat_r, m_cat_z, m_cat_rv, m_cat_l, m_o_n, m_o_i, m_o_r, m_o_z, m_o_rv, m_o_f, hs_n, hs_k, hs_l, h_n_setR, h_n_mk, h_k_setR, h_l_setR, hk_old, hk_new, hl_old, hl_new, Nat.reduceLeDiff, not_false_eq_true, or_true, true_or, or_false, false_or, k0, r00, k1, l1, r04, k133, r133, k134, l134, r03, ku, up, kp, h_k_setR, h_l_setR, kv]; first | done | omega) | exact Or.inl rfl | exact Or.inr rfl) only [k_21_36, w_aload_2, w_aloadz_2, w_aloadv_2, w_aload_1, w_aloadz_1, w_aloadv_1, m_cat_n, m_cat_i, m_cat_r, m_cat_z, m_cat_rv, m_cat_l, Nat.zero_le, Nat.reduceLeDiff, Nat.reduceAdd, m_o_i, m_o_r, m_o_z, m_o_rv, m_C_inl, Option.toList_some, Option.toList_none, List.cons_append, List.nil_append, w_aload_0, w_aloadz_0, w_aloadv_0, gf_193, m_rv_s, m_rv_n, w_iconst, w_iadd, w_irem2, pf_193, gf_194, w_min2, pf_194, w_vret, tg_21_36, w_icmp_eq, w_if_eq, hs_n, hs_k, hs_l, hs_R, hs_I, hs_L, hs_setI, hs_setL, hs_cpy, hs_setR, hs_mk, k0, r00, k1, l1, r04, k133, r133, k134, l134, r03, ku, up, kp, h_k_setR, h_l_setR, kv, up_eq, up_na, up_nk, zr_eq, zr_na, sR_eq, sR_na, sR_nk, hR_old, hR_new, h_n_setR, h_n_mk, i_add, i_sub, i_mul, i_tn, i_nat, Int.reduceToNat, Int.reduceAdd, Int.reduceSub, Int.reduceMul, Int.reduceNeg, l_32, l_nat, l_c_lt, l_c_gt, l_c_eq, i_lt, i_eq, i_lt0, i_0lt, i_eq0, i_eq1, Int.reduceLT, Int.reduceEq, Int.reduceLE, Int.reduceNe, not_true_eq_false, not_false_eq_true, Nat.lt_irrefl, Int.lt_irrefl, eq_self, eq_self, Nat.reduceAdd, Nat.reduceMul, Nat.reduceSub, Nat.reduceDiv, Nat.reduceMod, Nat.reduceEqDiff, Nat.reduceLeDiff, Nat.reduceLT, Nat.zero_add, Nat.add_zero, Nat.zero_le, and_false, and_true, and_self, false_and, true_and, or_false, or_true, if_true, if_false, ite_true, ite_false, ↓reduceIte, Int.reduceToNat, Int.reduceAdd, Int.reduceSub, Int.reduceMul, Int.reduceNeg, e1, e2]
  have m10 := mn_10 c1 c2
  refine hQ _ ?_ ?_ ?_ ?_
  · refine CI_I I1 (fun x y x1 x2 x3 => by simp (disch := omega) only [up_na]) ⟨?_, ?_, ?_, ?_⟩
    all_goals simp (disch := omega) only [up_eq, up_na, up_nk, e1, e2, e3, e4, or_true]
    all_goals omega
  · exact st_le (st_tr T1 (st_I (n := 0) (s := 0) (fun x y h1 h2 => by simp (disch := omega) only [up_na]))) (by omega) (by omega)
  · simp (disch := omega) only [up_eq, up_na, up_nk, e3]
  · exact (kp_tr kk ⟨fun x y hx => by simp (disch := omega) only [up_na], fun y => by simp (disch := omega) only [up_na]⟩)
set_option maxHeartbeats 4000000 in
theorem lpB_146 {L : Nat} {xs : Nat → Int32} {d : Nat} {h : m_H} {w : Int64} {F : m_M} {Q : Option Value ⊕ Nat → m_H → Prop} {ow : Nat → Nat} {u p : Nat} (I : q_CI ow h F u p) {v : Nat} (hv : q_O h v) (rv : m_R h 0 5 = some v) (hQ : ∀ F' : m_M, q_CI ow (m_setR h v 0 (some p)) F' u p → q_sT h (m_setR h v 0 (some p)) F F' 0 0 → F' 0 1 = F 0 1 → q_kp u p F F' → Q (.inl none) (m_hS (m_setR h v 0 (some p)) (w, F'))) : m_W (p_P L xs) (d + 2) 146 k_146_25 [some (.ref 0)] [] (m_hS h (w, F)) Q := by
  have I0 := I
  obtain ⟨⟨⟨s1, s2⟩, k0, r00, k1, l1, r04, k133, r133, k134, l134⟩, ⟨⟨f1, f2⟩, f6, ⟨n1, n2⟩, ⟨c1, c2⟩⟩, i3, r03, KU, i6⟩ := I
  have hX : m_X = 1000000000 := rfl
  have ku := CW_uk KU.2.2.1.1
  have up : m_R h u 0 = some p := KU.2.2.1.2.2.1
  have kp := PW_pk KU.2.2.1.2.1
  have un := KP_n KU
  have u1 := KU.1.1
  have p1 := KU.2.1.1
  have hb := bo_or u
  obtain ⟨ne, q, KV⟩ := i6 v hv
  have dj := KP_dj KU KV ne
  have kv := CW_uk KV.2.2.1.1
  have vb := bo_or v
  have v1 := KV.1.1
  have vn := KP_n KV
  rw [k_146_25]
  simp (disch := first | omega | (simp (disch := first | omega | (simp only [h_n_setR, h_n_mk, hs_n]; first | done | omega)) only [i_lt0, i_tn, i_nn, m_cat_n, m_cat_i, m_cat_r, m_cat_z, m_cat_rv, m_cat_l, m_o_n, m_o_i, m_o_r, m_o_z, m_o_rv, m_o_f, hs_n, hs_k, hs_l, h_n_setR, h_n_mk, h_k_setR, h_l_setR, hk_old, hk_new, hl_old, hl_new, Nat.reduceLeDiff, not_false_eq_true, or_true, true_or, or_false, false_or, k0, r00, k1, l1, r04, k133, r133, k134, l134, r03, ku, up, kp, h_k_setR, h_l_setR, kv, rv]; first | done | omega) | exact Or.inl rfl | exact Or.inr rfl) only [k_146_25, w_aload_0, w_aloadz_0, w_aloadv_0, gf_709, m_rv_s, m_rv_n, gf_707, m_cat_n, m_cat_i, m_cat_r, m_cat_z, m_cat_rv, m_cat_l, Nat.zero_le, Nat.reduceLeDiff, Nat.reduceAdd, m_o_i, m_o_r, m_o_z, m_o_rv, m_C_inl, Option.toList_some, Option.toList_none, List.cons_append, List.nil_append, w_iconst, pf_710, w_vret, tg_146_25, w_icmp_eq, w_if_eq, hs_n, hs_k, hs_l, hs_R, hs_I, hs_L, hs_setI, hs_setL, hs_cpy, hs_setR, hs_mk, k0, r00, k1, l1, r04, k133, r133, k134, l134, r03, ku, up, kp, h_k_setR, h_l_setR, kv, rv, up_eq, up_na, up_nk, zr_eq, zr_na, sR_eq, sR_na, sR_nk, hR_old, hR_new, h_n_setR, h_n_mk, i_add, i_sub, i_mul, i_tn, i_nat, Int.reduceToNat, Int.reduceAdd, Int.reduceSub, Int.reduceMul, Int.reduceNeg, l_32, l_nat, l_c_lt, l_c_gt, l_c_eq, i_lt, i_eq, i_lt0, i_0lt, i_eq0, i_eq1, Int.reduceLT, Int.reduceEq, Int.reduceLE, Int.reduceNe, not_true_eq_false, not_false_eq_true, Nat.lt_irrefl, Int.lt_irrefl, eq_self, eq_self, Nat.reduceAdd, Nat.reduceMul, Nat.reduceSub, Nat.reduceDiv, Nat.reduceMod, Nat.reduceEqDiff, Nat.reduceLeDiff, Nat.reduceLT, Nat.zero_add, Nat.add_zero, Nat.zero_le, and_false, and_true, and_self, false_and, true_and, or_false, or_true, if_true, if_false, ite_true, ite_false, ↓reduceIte, Int.reduceToNat, Int.reduceAdd, Int.reduceSub, Int.reduceMul, Int.reduceNeg]
  simp (disch := first | omega | (simp (disch := first | omega | (simp only [h_n_setR, h_n_mk, hs_n]; first | done | omega)) only [i_lt0, i_tn, i_nn, m_cat_n, m_cat_i, m_cat_r, m_cat_z, m_cat_rv, m_cat_l, m_o_n, m_o_i, m_o_r, m_o_z, m_o_rv, m_o_f, hs_n, hs_k, hs_l, h_n_setR, h_n_mk, h_k_setR, h_l_setR, hk_old, hk_new, hl_old, hl_new, Nat.reduceLeDiff, not_false_eq_true, or_true, true_or, or_false, false_or, k0, r00, k1, l1, r04, k133, r133, k134, l134, r03, ku, up, kp, h_k_setR, h_l_setR, kv, rv]; first | done | omega) | exact Or.inl rfl | exact Or.inr rfl) only [cl_78, m_cat_n, m_cat_i, m_cat_r, m_cat_z, m_cat_rv, m_cat_l, Nat.zero_le, Nat.reduceLeDiff, Nat.reduceAdd, m_o_i, m_o_r, m_o_z, m_o_rv, hs_n, hs_k, h_n_setR, h_n_mk]
  refine t_78 KV.2.2.1.1 KU.2.2.1.1 (KP_ap KV KU ne) up KV.2.2.2 KU.2.2.2 (fun F1 U1 g1 g2 => ?_)
  obtain ⟨I1, -, T1⟩ := CI_cp I0 (Or.inr hv) KV KU ne U1 g1
  rw [if_neg ne] at I1
  have e1 : F1 133 1 = F 133 1 := g1 _ _ (by omega) (by omega)
  have e2 : F1 133 2 = F 133 2 := g1 _ _ (by omega) (by omega)
  have e3 : F1 0 1 = F 0 1 := g1 _ _ (by omega) (by omega)
  have e4 : F1 0 6 = F 0 6 := g1 _ _ (by omega) (by omega)
  have kk : q_kp u p F F1 := ⟨fun x y hx => g1 x y (dj x (by omega)).1 (dj x (by omega)).2, fun y => g1 p y (dj p (by omega)).1 (dj p (by omega)).2⟩
  simp (disch := first | omega | (simp (disch := first | omega | (simp only [h_n_setR, h_n_mk, hs_n]; first | done | omega)) only [i_lt0, i_tn, i_nn, m_cat_n, m_cat_i, m_cat_r, m_cat_z, m_cat_rv, m_cat_l, m_o_n, m_o_i, m_o_r, m_o_z, m_o_rv, m_o_f, hs_n, hs_k, hs_l, h_n_setR, h_n_mk, h_k_setR, h_l_setR, hk_old, hk_new, hl_old, hl_new, Nat.reduceLeDiff, not_false_eq_true, or_true, true_or, or_false, false_or, k0, r00, k1, l1, r04, k133, r133, k134, l134, r03, ku, up, kp, h_k_setR, h_l_setR, kv, rv]; first | done | omega) | exact Or.inl rfl | exact Or.inr rfl) only [k_146_25, w_aload_0, w_aloadz_0, w_aloadv_0, gf_709, m_rv_s, m_rv_n, gf_707, m_cat_n, m_cat_i, m_cat_r, m_cat_z, m_cat_rv, m_cat_l, Nat.zero_le, Nat.reduceLeDiff, Nat.reduceAdd, m_o_i, m_o_r, m_o_z, m_o_rv, m_C_inl, Option.toList_some, Option.toList_none, List.cons_append, List.nil_append, w_iconst, pf_710, w_vret, tg_146_25, w_icmp_eq, w_if_eq, hs_n, hs_k, hs_l, hs_R, hs_I, hs_L, hs_setI, hs_setL, hs_cpy, hs_setR, hs_mk, k0, r00, k1, l1, r04, k133, r133, k134, l134, r03, ku, up, kp, h_k_setR, h_l_setR, kv, rv, up_eq, up_na, up_nk, zr_eq, zr_na, sR_eq, sR_na, sR_nk, hR_old, hR_new, h_n_setR, h_n_mk, i_add, i_sub, i_mul, i_tn, i_nat, Int.reduceToNat, Int.reduceAdd, Int.reduceSub, Int.reduceMul, Int.reduceNeg, l_32, l_nat, l_c_lt, l_c_gt, l_c_eq, i_lt, i_eq, i_lt0, i_0lt, i_eq0, i_eq1, Int.reduceLT, Int.reduceEq, Int.reduceLE, Int.reduceNe, not_true_eq_false, not_false_eq_true, Nat.lt_irrefl, Int.lt_irrefl, eq_self, eq_self, Nat.reduceAdd, Nat.reduceMul, Nat.reduceSub, Nat.reduceDiv, Nat.reduceMod, Nat.reduceEqDiff, Nat.reduceLeDiff, Nat.reduceLT, Nat.zero_add, Nat.add_zero, Nat.zero_le, and_false, and_true, and_self, false_and, true_and, or_false, or_true, if_true, if_false, ite_true, ite_false, ↓reduceIte, Int.reduceToNat, Int.reduceAdd, Int.reduceSub, Int.reduceMul, Int.reduceNeg, e1, e2]
  refine hQ _ ?_ ?_ ?_ ?_
  · refine CI_I I1 (fun x y x1 x2 x3 => by simp (disch := omega) only [up_na]) ⟨?_, ?_, ?_, ?_⟩
    all_goals simp (disch := omega) only [up_eq, up_na, up_nk, e1, e2, e3, e4, or_true]
    all_goals omega
  · exact st_le (st_tr T1 (st_I (n := 0) (s := 0) (fun x y h1 h2 => by simp (disch := omega) only [up_na]))) (by omega) (by omega)
  · simp (disch := omega) only [up_eq, up_na, up_nk, e3]
  · exact (kp_tr kk ⟨fun x y hx => by simp (disch := omega) only [up_na], fun y => by simp (disch := omega) only [up_na]⟩)
set_option maxHeartbeats 4000000 in
theorem lpB_142 {L : Nat} {xs : Nat → Int32} {d : Nat} {h : m_H} {w : Int64} {F : m_M} {Q : Option Value ⊕ Nat → m_H → Prop} {ow : Nat → Nat} {u p : Nat} (I : q_CI ow h F u p) {v : Nat} (hv : q_O h v) (rv : m_R h 0 7 = some v) (hQ : ∀ F' : m_M, q_CI ow (m_setR h v 0 (some p)) F' u p → q_sT h (m_setR h v 0 (some p)) F F' 0 0 → F' 0 1 = F 0 1 → q_kp u p F F' → KP ow (m_setR h v 0 (some p)) F' v p → F' v 2 = F u 2 → Q (.inl (some (.ref v))) (m_hS (m_setR h v 0 (some p)) (w, F'))) : m_W (p_P L xs) (d + 2) 142 k_142_25 [some (.ref 0)] [] (m_hS h (w, F)) Q := by
  have I0 := I
  obtain ⟨⟨⟨s1, s2⟩, k0, r00, k1, l1, r04, k133, r133, k134, l134⟩, ⟨⟨f1, f2⟩, f6, ⟨n1, n2⟩, ⟨c1, c2⟩⟩, i3, r03, KU, i6⟩ := I
  have hX : m_X = 1000000000 := rfl
  have ku := CW_uk KU.2.2.1.1
  have up : m_R h u 0 = some p := KU.2.2.1.2.2.1
  have kp := PW_pk KU.2.2.1.2.1
  have un := KP_n KU
  have u1 := KU.1.1
  have p1 := KU.2.1.1
  have hb := bo_or u
  obtain ⟨ne, q, KV⟩ := i6 v hv
  have dj := KP_dj KU KV ne
  have kv := CW_uk KV.2.2.1.1
  have vb := bo_or v
  have v1 := KV.1.1
  have vn := KP_n KV
  rw [k_142_25]
  simp (disch := first | omega | (simp (disch := first | omega | (simp only [h_n_setR, h_n_mk, hs_n]; first | done | omega)) only [i_lt0, i_tn, i_nn, m_cat_n, m_cat_i, m_cat_r, m_cat_z, m_cat_rv, m_cat_l, m_o_n, m_o_i, m_o_r, m_o_z, m_o_rv, m_o_f, hs_n, hs_k, hs_l, h_n_setR, h_n_mk, h_k_setR, h_l_setR, hk_old, hk_new, hl_old, hl_new, Nat.reduceLeDiff, not_false_eq_true, or_true, true_or, or_false, false_or, k0, r00, k1, l1, r04, k133, r133, k134, l134, r03, ku, up, kp, h_k_setR, h_l_setR, kv, rv]; first | done | omega) | exact Or.inl rfl | exact Or.inr rfl) only [k_142_25, w_aload_0, w_aloadz_0, w_aloadv_0, gf_711, m_rv_s, m_rv_n, gf_707, m_cat_n, m_cat_i, m_cat_r, m_cat_z, m_cat_rv, m_cat_l, Nat.zero_le, Nat.reduceLeDiff, Nat.reduceAdd, m_o_i, m_o_r, m_o_z, m_o_rv, m_C_inl, Option.toList_some, Option.toList_none, List.cons_append, List.nil_append, w_aret, w_aretz, w_aretv, tg_142_25, w_icmp_eq, w_if_eq, hs_n, hs_k, hs_l, hs_R, hs_I, hs_L, hs_setI, hs_setL, hs_cpy, hs_setR, hs_mk, k0, r00, k1, l1, r04, k133, r133, k134, l134, r03, ku, up, kp, h_k_setR, h_l_setR, kv, rv, up_eq, up_na, up_nk, zr_eq, zr_na, sR_eq, sR_na, sR_nk, hR_old, hR_new, h_n_setR, h_n_mk, i_add, i_sub, i_mul, i_tn, i_nat, Int.reduceToNat, Int.reduceAdd, Int.reduceSub, Int.reduceMul, Int.reduceNeg, l_32, l_nat, l_c_lt, l_c_gt, l_c_eq, i_lt, i_eq, i_lt0, i_0lt, i_eq0, i_eq1, Int.reduceLT, Int.reduceEq, Int.reduceLE, Int.reduceNe, not_true_eq_false, not_false_eq_true, Nat.lt_irrefl, Int.lt_irrefl, eq_self, eq_self, Nat.reduceAdd, Nat.reduceMul, Nat.reduceSub, Nat.reduceDiv, Nat.reduceMod, Nat.reduceEqDiff, Nat.reduceLeDiff, Nat.reduceLT, Nat.zero_add, Nat.add_zero, Nat.zero_le, and_false, and_true, and_self, false_and, true_and, or_false, or_true, if_true, if_false, ite_true, ite_false, ↓reduceIte, Int.reduceToNat, Int.reduceAdd, Int.reduceSub, Int.reduceMul, Int.reduceNeg]
  simp (disch := first | omega | (simp (disch := first | omega | (simp only [h_n_setR, h_n_mk, hs_n]; first | done | omega)) only [i_lt0, i_tn, i_nn, m_cat_n, m_cat_i, m_cat_r, m_cat_z, m_cat_rv, m_cat_l, m_o_n, m_o_i, m_o_r, m_o_z, m_o_rv, m_o_f, hs_n, hs_k, hs_l, h_n_setR, h_n_mk, h_k_setR, h_l_setR, hk_old, hk_new, hl_old, hl_new, Nat.reduceLeDiff, not_false_eq_true, or_true, true_or, or_false, false_or, k0, r00, k1, l1, r04, k133, r133, k134, l134, r03, ku, up, kp, h_k_setR, h_l_setR, kv, rv]; first | done | omega) | exact Or.inl rfl | exact Or.inr rfl) only [cl_78, m_cat_n, m_cat_i, m_cat_r, m_cat_z, m_cat_rv, m_cat_l, Nat.zero_le, Nat.reduceLeDiff, Nat.reduceAdd, m_o_i, m_o_r, m_o_z, m_o_rv, hs_n, hs_k, h_n_setR, h_n_mk]
  refine t_78 KV.2.2.1.1 KU.2.2.1.1 (KP_ap KV KU ne) up KV.2.2.2 KU.2.2.2 (fun F1 U1 g1 g2 => ?_)
  obtain ⟨I1, K1, T1⟩ := CI_cp I0 (Or.inr hv) KV KU ne U1 g1
  rw [if_neg ne] at I1
  have e1 : F1 133 1 = F 133 1 := g1 _ _ (by omega) (by omega)
  have e2 : F1 133 2 = F 133 2 := g1 _ _ (by omega) (by omega)
  have e3 : F1 0 1 = F 0 1 := g1 _ _ (by omega) (by omega)
  have e4 : F1 0 6 = F 0 6 := g1 _ _ (by omega) (by omega)
  have kk : q_kp u p F F1 := ⟨fun x y hx => g1 x y (dj x (by omega)).1 (dj x (by omega)).2, fun y => g1 p y (dj p (by omega)).1 (dj p (by omega)).2⟩
  have rv2 : m_R (m_setR h v 0 (some p)) 0 7 = some v := by
    rw [sR_na (by omega)]
    exact rv
  simp (disch := first | omega | (simp (disch := first | omega | (simp only [h_n_setR, h_n_mk, hs_n]; first | done | omega)) only [i_lt0, i_tn, i_nn, m_cat_n, m_cat_i, m_cat_r, m_cat_z, m_cat_rv, m_cat_l, m_o_n, m_o_i, m_o_r, m_o_z, m_o_rv, m_o_f, hs_n, hs_k, hs_l, h_n_setR, h_n_mk, h_k_setR, h_l_setR, hk_old, hk_new, hl_old, hl_new, Nat.reduceLeDiff, not_false_eq_true, or_true, true_or, or_false, false_or, k0, r00, k1, l1, r04, k133, r133, k134, l134, r03, ku, up, kp, h_k_setR, h_l_setR, kv, rv2]; first | done | omega) | exact Or.inl rfl | exact Or.inr rfl) only [k_142_25, w_aload_0, w_aloadz_0, w_aloadv_0, gf_711, m_rv_s, m_rv_n, gf_707, m_cat_n, m_cat_i, m_cat_r, m_cat_z, m_cat_rv, m_cat_l, Nat.zero_le, Nat.reduceLeDiff, Nat.reduceAdd, m_o_i, m_o_r, m_o_z, m_o_rv, m_C_inl, Option.toList_some, Option.toList_none, List.cons_append, List.nil_append, w_aret, w_aretz, w_aretv, tg_142_25, w_icmp_eq, w_if_eq, hs_n, hs_k, hs_l, hs_R, hs_I, hs_L, hs_setI, hs_setL, hs_cpy, hs_setR, hs_mk, k0, r00, k1, l1, r04, k133, r133, k134, l134, r03, ku, up, kp, h_k_setR, h_l_setR, kv, rv2, up_eq, up_na, up_nk, zr_eq, zr_na, sR_eq, sR_na, sR_nk, hR_old, hR_new, h_n_setR, h_n_mk, i_add, i_sub, i_mul, i_tn, i_nat, Int.reduceToNat, Int.reduceAdd, Int.reduceSub, Int.reduceMul, Int.reduceNeg, l_32, l_nat, l_c_lt, l_c_gt, l_c_eq, i_lt, i_eq, i_lt0, i_0lt, i_eq0, i_eq1, Int.reduceLT, Int.reduceEq, Int.reduceLE, Int.reduceNe, not_true_eq_false, not_false_eq_true, Nat.lt_irrefl, Int.lt_irrefl, eq_self, eq_self, Nat.reduceAdd, Nat.reduceMul, Nat.reduceSub, Nat.reduceDiv, Nat.reduceMod, Nat.reduceEqDiff, Nat.reduceLeDiff, Nat.reduceLT, Nat.zero_add, Nat.add_zero, Nat.zero_le, and_false, and_true, and_self, false_and, true_and, or_false, or_true, if_true, if_false, ite_true, ite_false, ↓reduceIte, Int.reduceToNat, Int.reduceAdd, Int.reduceSub, Int.reduceMul, Int.reduceNeg, e1, e2]
  exact hQ _ I1 T1 e3 kk K1 g2
set_option maxHeartbeats 8000000 in
theorem t_21 {L : Nat} {xs : Nat → Int32} {d : Nat} {h : m_H} {w : Int64} {F : m_M} {Q : Option Value ⊕ Nat → m_H → Prop} {ow : Nat → Nat} {u p : Nat} (I : q_CI ow h F u p) (s9 : m_n h ≤ 899000) (hQ : ∀ (ow' : Nat → Nat) (h' : m_H) (F' : m_M), q_CI ow' h' F' u p → q_sT h h' F F' 125 2743 → F' 0 1 = F 0 1 → q_kp u p F F' → Q (.inl none) (m_hS h' (w, F'))) : m_W (p_P L xs) (d + 2) 21 k_21_0 [some (.ref 133), some (.ref u), none] [] (m_hS h (w, F)) Q := by
  have I0 := I
  obtain ⟨⟨⟨s1, s2⟩, k0, r00, k1, l1, r04, k133, r133, k134, l134⟩, ⟨⟨f1, f2⟩, f6, ⟨n1, n2⟩, ⟨c1, c2⟩⟩, i3, r03, KU, i6⟩ := I
  have hX : m_X = 1000000000 := rfl
  have ku := CW_uk KU.2.2.1.1
  have up : m_R h u 0 = some p := KU.2.2.1.2.2.1
  have kp := PW_pk KU.2.2.1.2.1
  have un := KP_n KU
  have u1 := KU.1.1
  have p1 := KU.2.1.1
  have hb := bo_or u
  rcases hr : m_R h 134 (F 133 1).toNat with _ | v
  · rw [k_21_0]
    simp (disch := first | omega | (simp (disch := first | omega | (simp only [h_n_setR, h_n_mk, hs_n]; first | done | omega)) only [i_lt0, i_tn, i_nn, m_cat_n, m_cat_i, m_cat_r, m_cat_z, m_cat_rv, m_cat_l, m_o_n, m_o_i, m_o_r, m_o_z, m_o_rv, m_o_f, hs_n, hs_k, hs_l, h_n_setR, h_n_mk, h_k_setR, h_l_setR, hk_old, hk_new, hl_old, hl_new, Nat.reduceLeDiff, not_false_eq_true, or_true, true_or, or_false, false_or, k0, r00, k1, l1, r04, k133, r133, k134, l134, r03, ku, up, kp, hr]; first | done | omega) | exact Or.inl rfl | exact Or.inr rfl) only [k_21_0, w_aload_0, w_aloadz_0, w_aloadv_0, gf_192, m_rv_s, m_rv_n, gf_193, w_aaload, w_astore_2, w_astorez_2, w_astorev_2, m_o_n, m_o_i, m_o_r, m_o_z, m_o_rv, m_o_f, w_aload_2, w_aloadz_2, w_aloadv_2, w_ifnn_z, w_ifnn_r, w_new, nf_10, w_dup_i, w_dup_r, w_dup_z, w_dup_v, w_aload_1, w_aloadz_1, w_aloadv_1, gf_640, m_cat_n, m_cat_i, m_cat_r, m_cat_z, m_cat_rv, m_cat_l, Nat.zero_le, Nat.reduceLeDiff, Nat.reduceAdd, m_C_inl, Option.toList_some, Option.toList_none, List.cons_append, List.nil_append, w_aastore, tg_21_36, w_icmp_eq, w_if_eq, hs_n, hs_k, hs_l, hs_R, hs_I, hs_L, hs_setI, hs_setL, hs_cpy, hs_setR, hs_mk, k0, r00, k1, l1, r04, k133, r133, k134, l134, r03, ku, up, kp, hr, up_eq, up_na, up_nk, zr_eq, zr_na, sR_eq, sR_na, sR_nk, hR_old, hR_new, h_n_setR, h_n_mk, i_add, i_sub, i_mul, i_tn, i_nat, Int.reduceToNat, Int.reduceAdd, Int.reduceSub, Int.reduceMul, Int.reduceNeg, l_32, l_nat, l_c_lt, l_c_gt, l_c_eq, i_lt, i_eq, i_lt0, i_0lt, i_eq0, i_eq1, Int.reduceLT, Int.reduceEq, Int.reduceLE, Int.reduceNe, not_true_eq_false, not_false_eq_true, Nat.lt_irrefl, Int.lt_irrefl, eq_self, eq_self, Nat.reduceAdd, Nat.reduceMul, Nat.reduceSub, Nat.reduceDiv, Nat.reduceMod, Nat.reduceEqDiff, Nat.reduceLeDiff, Nat.reduceLT, Nat.zero_add, Nat.add_zero, Nat.zero_le, and_false, and_true, and_self, false_and, true_and, or_false, or_true, if_true, if_false, ite_true, ite_false, ↓reduceIte, Int.reduceToNat, Int.reduceAdd, Int.reduceSub, Int.reduceMul, Int.reduceNeg]
    simp (disch := first | omega | (simp (disch := first | omega | (simp only [h_n_setR, h_n_mk, hs_n]; first | done | omega)) only [i_lt0, i_tn, i_nn, m_cat_n, m_cat_i, m_cat_r, m_cat_z, m_cat_rv, m_cat_l, m_o_n, m_o_i, m_o_r, m_o_z, m_o_rv, m_o_f, hs_n, hs_k, hs_l, h_n_setR, h_n_mk, h_k_setR, h_l_setR, hk_old, hk_new, hl_old, hl_new, Nat.reduceLeDiff, not_false_eq_true, or_true, true_or, or_false, false_or, k0, r00, k1, l1, r04, k133, r133, k134, l134, r03, ku, up, kp, hr]; first | done | omega) | exact Or.inl rfl | exact Or.inr rfl) only [cl_77, m_cat_n, m_cat_i, m_cat_r, m_cat_z, m_cat_rv, m_cat_l, Nat.zero_le, Nat.reduceLeDiff, Nat.reduceAdd, m_o_i, m_o_r, m_o_z, m_o_rv, hs_n, hs_k, h_n_setR, h_n_mk]
    refine t_77 (u := m_n h) (p := p) (by rw [h_n_mk]; omega) (hk_new rfl) (by rw [h_n_mk]; omega) (by rw [hk_old (by omega)]; exact kp) (by rw [h_n_mk]; omega) (by rw [h_n_mk]; omega) (fun h' F' W' up' G' U0 U' e2 f' => ?_)
    rw [h_n_mk] at W' U' f'
    have kn := CW_uk W'
    have ff : ∀ x y, x < m_n h → F' x y = F x y := fun x y hx => by rw [f' x y (by omega) (by omega), zr_na (by omega)]
    obtain ⟨I1, KN, T1, nu⟩ := CI_nw I0 rfl s9 W' up' G' U' ff
    have I2 := (CI_R (a := 134) (k := (F 133 1).toNat) I1 (Or.inl ⟨rfl, by omega⟩) nu ⟨p, KN⟩).1
    have wn := (KP_n KN).1
    have e0 : F' 133 1 = F 133 1 := ff _ _ (by omega)
    have e01 : F' 0 1 = F 0 1 := ff _ _ (by omega)
    have kk : q_kp u p F F' := ⟨fun x y hx => ff x y (by omega), fun y => ff p y (by omega)⟩
    have T2 : q_sT h' (m_setR h' 134 (F 133 1).toNat (some (m_n h))) F' F' 0 0 := ⟨by rw [h_n_setR]; omega, by rw [h_n_setR]; omega, by rw [h_c_setR]; omega, by rw [h_s_setR]; omega, fun x h1 h2 => ⟨rfl, rfl, fun y => sR_na (by omega)⟩, fun _ _ _ _ => rfl⟩
    have s1' := I1.1.1.1
    obtain ⟨⟨⟨s1, s2⟩, k0, r00, k1, l1, r04, k133, r133, k134, l134⟩, ⟨⟨f1, f2⟩, f6, ⟨n1, n2⟩, ⟨c1, c2⟩⟩, i3, r03, KU, i6⟩ := I1
    have hX : m_X = 1000000000 := rfl
    have ku := CW_uk KU.2.2.1.1
    have up : m_R h' u 0 = some p := KU.2.2.1.2.2.1
    have kp := PW_pk KU.2.2.1.2.1
    have un := KP_n KU
    have u1 := KU.1.1
    have p1 := KU.2.1.1
    have hb := bo_or u
    simp (disch := first | omega | (simp (disch := first | omega | (simp only [h_n_setR, h_n_mk, hs_n]; first | done | omega)) only [i_lt0, i_tn, i_nn, m_cat_n, m_cat_i, m_cat_r, m_cat_z, m_cat_rv, m_cat_l, m_o_n, m_o_i, m_o_r, m_o_z, m_o_rv, m_o_f, hs_n, hs_k, hs_l, h_n_setR, h_n_mk, h_k_setR, h_l_setR, hk_old, hk_new, hl_old, hl_new, Nat.reduceLeDiff, not_false_eq_true, or_true, true_or, or_false, false_or, k0, r00, k1, l1, r04, k133, r133, k134, l134, r03, ku, up, kp, kn]; first | done | omega) | exact Or.inl rfl | exact Or.inr rfl) only [k_21_0, w_aload_0, w_aloadz_0, w_aloadv_0, gf_192, m_rv_s, m_rv_n, gf_193, w_aaload, w_astore_2, w_astorez_2, w_astorev_2, m_o_n, m_o_i, m_o_r, m_o_z, m_o_rv, m_o_f, w_aload_2, w_aloadz_2, w_aloadv_2, w_ifnn_z, w_ifnn_r, w_new, nf_10, w_dup_i, w_dup_r, w_dup_z, w_dup_v, w_aload_1, w_aloadz_1, w_aloadv_1, gf_640, m_cat_n, m_cat_i, m_cat_r, m_cat_z, m_cat_rv, m_cat_l, Nat.zero_le, Nat.reduceLeDiff, Nat.reduceAdd, m_C_inl, Option.toList_some, Option.toList_none, List.cons_append, List.nil_append, w_aastore, tg_21_36, w_icmp_eq, w_if_eq, hs_n, hs_k, hs_l, hs_R, hs_I, hs_L, hs_setI, hs_setL, hs_cpy, hs_setR, hs_mk, k0, r00, k1, l1, r04, k133, r133, k134, l134, r03, ku, up, kp, kn, up_eq, up_na, up_nk, zr_eq, zr_na, sR_eq, sR_na, sR_nk, hR_old, hR_new, h_n_setR, h_n_mk, i_add, i_sub, i_mul, i_tn, i_nat, Int.reduceToNat, Int.reduceAdd, Int.reduceSub, Int.reduceMul, Int.reduceNeg, l_32, l_nat, l_c_lt, l_c_gt, l_c_eq, i_lt, i_eq, i_lt0, i_0lt, i_eq0, i_eq1, Int.reduceLT, Int.reduceEq, Int.reduceLE, Int.reduceNe, not_true_eq_false, not_false_eq_true, Nat.lt_irrefl, Int.lt_irrefl, eq_self, eq_self, Nat.reduceAdd, Nat.reduceMul, Nat.reduceSub, Nat.reduceDiv, Nat.reduceMod, Nat.reduceEqDiff, Nat.reduceLeDiff, Nat.reduceLT, Nat.zero_add, Nat.add_zero, Nat.zero_le, and_false, and_true, and_self, false_and, true_and, or_false, or_true, if_true, if_false, ite_true, ite_false, ↓reduceIte, Int.reduceToNat, Int.reduceAdd, Int.reduceSub, Int.reduceMul, Int.reduceNeg, e0, w_aastore]
    exact lpB_21 I2 (Or.inr (Or.inr ⟨_, by omega, sR_eq rfl rfl⟩)) (fun F2 I3 T3 e3 k3 => hQ _ _ _ I3 (st_le (st_tr T1 (st_tr T2 T3)) (by omega) (by omega)) (e3.trans e01) (kp_tr kk k3))
  · rw [k_21_0]
    simp (disch := first | omega | (simp (disch := first | omega | (simp only [h_n_setR, h_n_mk, hs_n]; first | done | omega)) only [i_lt0, i_tn, i_nn, m_cat_n, m_cat_i, m_cat_r, m_cat_z, m_cat_rv, m_cat_l, m_o_n, m_o_i, m_o_r, m_o_z, m_o_rv, m_o_f, hs_n, hs_k, hs_l, h_n_setR, h_n_mk, h_k_setR, h_l_setR, hk_old, hk_new, hl_old, hl_new, Nat.reduceLeDiff, not_false_eq_true, or_true, true_or, or_false, false_or, k0, r00, k1, l1, r04, k133, r133, k134, l134, r03, ku, up, kp, hr]; first | done | omega) | exact Or.inl rfl | exact Or.inr rfl) only [k_21_0, w_aload_0, w_aloadz_0, w_aloadv_0, gf_192, m_rv_s, m_rv_n, gf_193, w_aaload, w_astore_2, w_astorez_2, w_astorev_2, m_o_n, m_o_i, m_o_r, m_o_z, m_o_rv, m_o_f, w_aload_2, w_aloadz_2, w_aloadv_2, w_ifnn_z, w_ifnn_r, w_new, nf_10, w_dup_i, w_dup_r, w_dup_z, w_dup_v, w_aload_1, w_aloadz_1, w_aloadv_1, gf_640, m_cat_n, m_cat_i, m_cat_r, m_cat_z, m_cat_rv, m_cat_l, Nat.zero_le, Nat.reduceLeDiff, Nat.reduceAdd, m_C_inl, Option.toList_some, Option.toList_none, List.cons_append, List.nil_append, w_aastore, tg_21_36, w_icmp_eq, w_if_eq, hs_n, hs_k, hs_l, hs_R, hs_I, hs_L, hs_setI, hs_setL, hs_cpy, hs_setR, hs_mk, k0, r00, k1, l1, r04, k133, r133, k134, l134, r03, ku, up, kp, hr, up_eq, up_na, up_nk, zr_eq, zr_na, sR_eq, sR_na, sR_nk, hR_old, hR_new, h_n_setR, h_n_mk, i_add, i_sub, i_mul, i_tn, i_nat, Int.reduceToNat, Int.reduceAdd, Int.reduceSub, Int.reduceMul, Int.reduceNeg, l_32, l_nat, l_c_lt, l_c_gt, l_c_eq, i_lt, i_eq, i_lt0, i_0lt, i_eq0, i_eq1, Int.reduceLT, Int.reduceEq, Int.reduceLE, Int.reduceNe, not_true_eq_false, not_false_eq_true, Nat.lt_irrefl, Int.lt_irrefl, eq_self, eq_self, Nat.reduceAdd, Nat.reduceMul, Nat.reduceSub, Nat.reduceDiv, Nat.reduceMod, Nat.reduceEqDiff, Nat.reduceLeDiff, Nat.reduceLT, Nat.zero_add, Nat.add_zero, Nat.zero_le, and_false, and_true, and_self, false_and, true_and, or_false, or_true, if_true, if_false, ite_true, ite_false, ↓reduceIte, Int.reduceToNat, Int.reduceAdd, Int.reduceSub, Int.reduceMul, Int.reduceNeg]
    exact lpB_21 I0 (Or.inr (Or.inr ⟨_, by omega, hr⟩)) (fun F2 I3 T3 e3 k3 => hQ _ _ _ I3 (st_le T3 (by omega) (by omega)) e3 k3)
set_option maxHeartbeats 8000000 in
theorem t_146 {L : Nat} {xs : Nat → Int32} {d : Nat} {h : m_H} {w : Int64} {F : m_M} {Q : Option Value ⊕ Nat → m_H → Prop} {ow : Nat → Nat} {u p : Nat} (I : q_CI ow h F u p) (s9 : m_n h ≤ 899000) (hQ : ∀ (ow' : Nat → Nat) (h' : m_H) (F' : m_M), q_CI ow' h' F' u p → q_sT h h' F F' 125 2743 → F' 0 1 = F 0 1 → q_kp u p F F' → Q (.inl none) (m_hS h' (w, F'))) : m_W (p_P L xs) (d + 2) 146 k_146_0 [some (.ref 0)] [] (m_hS h (w, F)) Q := by
  have I0 := I
  obtain ⟨⟨⟨s1, s2⟩, k0, r00, k1, l1, r04, k133, r133, k134, l134⟩, ⟨⟨f1, f2⟩, f6, ⟨n1, n2⟩, ⟨c1, c2⟩⟩, i3, r03, KU, i6⟩ := I
  have hX : m_X = 1000000000 := rfl
  have ku := CW_uk KU.2.2.1.1
  have up : m_R h u 0 = some p := KU.2.2.1.2.2.1
  have kp := PW_pk KU.2.2.1.2.1
  have un := KP_n KU
  have u1 := KU.1.1
  have p1 := KU.2.1.1
  have hb := bo_or u
  rcases hr : m_R h 0 5 with _ | v
  · rw [k_146_0]
    simp (disch := first | omega | (simp (disch := first | omega | (simp only [h_n_setR, h_n_mk, hs_n]; first | done | omega)) only [i_lt0, i_tn, i_nn, m_cat_n, m_cat_i, m_cat_r, m_cat_z, m_cat_rv, m_cat_l, m_o_n, m_o_i, m_o_r, m_o_z, m_o_rv, m_o_f, hs_n, hs_k, hs_l, h_n_setR, h_n_mk, h_k_setR, h_l_setR, hk_old, hk_new, hl_old, hl_new, Nat.reduceLeDiff, not_false_eq_true, or_true, true_or, or_false, false_or, k0, r00, k1, l1, r04, k133, r133, k134, l134, r03, ku, up, kp, hr]; first | done | omega) | exact Or.inl rfl | exact Or.inr rfl) only [k_146_0, w_aload_0, w_aloadz_0, w_aloadv_0, gf_709, m_rv_s, m_rv_n, w_ifnn_z, w_ifnn_r, w_new, nf_10, w_dup_i, w_dup_r, w_dup_z, w_dup_v, gf_707, gf_640, m_cat_n, m_cat_i, m_cat_r, m_cat_z, m_cat_rv, m_cat_l, Nat.zero_le, Nat.reduceLeDiff, Nat.reduceAdd, m_o_i, m_o_r, m_o_z, m_o_rv, m_C_inl, Option.toList_some, Option.toList_none, List.cons_append, List.nil_append, pf_709, pfz_709, pfv_709, tg_146_25, w_icmp_eq, w_if_eq, hs_n, hs_k, hs_l, hs_R, hs_I, hs_L, hs_setI, hs_setL, hs_cpy, hs_setR, hs_mk, k0, r00, k1, l1, r04, k133, r133, k134, l134, r03, ku, up, kp, hr, up_eq, up_na, up_nk, zr_eq, zr_na, sR_eq, sR_na, sR_nk, hR_old, hR_new, h_n_setR, h_n_mk, i_add, i_sub, i_mul, i_tn, i_nat, Int.reduceToNat, Int.reduceAdd, Int.reduceSub, Int.reduceMul, Int.reduceNeg, l_32, l_nat, l_c_lt, l_c_gt, l_c_eq, i_lt, i_eq, i_lt0, i_0lt, i_eq0, i_eq1, Int.reduceLT, Int.reduceEq, Int.reduceLE, Int.reduceNe, not_true_eq_false, not_false_eq_true, Nat.lt_irrefl, Int.lt_irrefl, eq_self, eq_self, Nat.reduceAdd, Nat.reduceMul, Nat.reduceSub, Nat.reduceDiv, Nat.reduceMod, Nat.reduceEqDiff, Nat.reduceLeDiff, Nat.reduceLT, Nat.zero_add, Nat.add_zero, Nat.zero_le, and_false, and_true, and_self, false_and, true_and, or_false, or_true, if_true, if_false, ite_true, ite_false, ↓reduceIte, Int.reduceToNat, Int.reduceAdd, Int.reduceSub, Int.reduceMul, Int.reduceNeg]
    simp (disch := first | omega | (simp (disch := first | omega | (simp only [h_n_setR, h_n_mk, hs_n]; first | done | omega)) only [i_lt0, i_tn, i_nn, m_cat_n, m_cat_i, m_cat_r, m_cat_z, m_cat_rv, m_cat_l, m_o_n, m_o_i, m_o_r, m_o_z, m_o_rv, m_o_f, hs_n, hs_k, hs_l, h_n_setR, h_n_mk, h_k_setR, h_l_setR, hk_old, hk_new, hl_old, hl_new, Nat.reduceLeDiff, not_false_eq_true, or_true, true_or, or_false, false_or, k0, r00, k1, l1, r04, k133, r133, k134, l134, r03, ku, up, kp, hr]; first | done | omega) | exact Or.inl rfl | exact Or.inr rfl) only [cl_77, m_cat_n, m_cat_i, m_cat_r, m_cat_z, m_cat_rv, m_cat_l, Nat.zero_le, Nat.reduceLeDiff, Nat.reduceAdd, m_o_i, m_o_r, m_o_z, m_o_rv, hs_n, hs_k, h_n_setR, h_n_mk]
    refine t_77 (u := m_n h) (p := p) (by rw [h_n_mk]; omega) (hk_new rfl) (by rw [h_n_mk]; omega) (by rw [hk_old (by omega)]; exact kp) (by rw [h_n_mk]; omega) (by rw [h_n_mk]; omega) (fun h' F' W' up' G' U0 U' e2 f' => ?_)
    rw [h_n_mk] at W' U' f'
    have kn := CW_uk W'
    have ff : ∀ x y, x < m_n h → F' x y = F x y := fun x y hx => by rw [f' x y (by omega) (by omega), zr_na (by omega)]
    obtain ⟨I1, KN, T1, nu⟩ := CI_nw I0 rfl s9 W' up' G' U' ff
    have I2 := (CI_R (a := 0) (k := 5) I1 (Or.inr ⟨rfl, Or.inl rfl⟩) nu ⟨p, KN⟩).1
    have wn := (KP_n KN).1
    have e0 : F' 133 1 = F 133 1 := ff _ _ (by omega)
    have e01 : F' 0 1 = F 0 1 := ff _ _ (by omega)
    have kk : q_kp u p F F' := ⟨fun x y hx => ff x y (by omega), fun y => ff p y (by omega)⟩
    have T2 : q_sT h' (m_setR h' 0 5 (some (m_n h))) F' F' 0 0 := ⟨by rw [h_n_setR]; omega, by rw [h_n_setR]; omega, by rw [h_c_setR]; omega, by rw [h_s_setR]; omega, fun x h1 h2 => ⟨rfl, rfl, fun y => sR_na (by omega)⟩, fun _ _ _ _ => rfl⟩
    have s1' := I1.1.1.1
    obtain ⟨⟨⟨s1, s2⟩, k0, r00, k1, l1, r04, k133, r133, k134, l134⟩, ⟨⟨f1, f2⟩, f6, ⟨n1, n2⟩, ⟨c1, c2⟩⟩, i3, r03, KU, i6⟩ := I1
    have hX : m_X = 1000000000 := rfl
    have ku := CW_uk KU.2.2.1.1
    have up : m_R h' u 0 = some p := KU.2.2.1.2.2.1
    have kp := PW_pk KU.2.2.1.2.1
    have un := KP_n KU
    have u1 := KU.1.1
    have p1 := KU.2.1.1
    have hb := bo_or u
    simp (disch := first | omega | (simp (disch := first | omega | (simp only [h_n_setR, h_n_mk, hs_n]; first | done | omega)) only [i_lt0, i_tn, i_nn, m_cat_n, m_cat_i, m_cat_r, m_cat_z, m_cat_rv, m_cat_l, m_o_n, m_o_i, m_o_r, m_o_z, m_o_rv, m_o_f, hs_n, hs_k, hs_l, h_n_setR, h_n_mk, h_k_setR, h_l_setR, hk_old, hk_new, hl_old, hl_new, Nat.reduceLeDiff, not_false_eq_true, or_true, true_or, or_false, false_or, k0, r00, k1, l1, r04, k133, r133, k134, l134, r03, ku, up, kp, kn]; first | done | omega) | exact Or.inl rfl | exact Or.inr rfl) only [k_146_0, w_aload_0, w_aloadz_0, w_aloadv_0, gf_709, m_rv_s, m_rv_n, w_ifnn_z, w_ifnn_r, w_new, nf_10, w_dup_i, w_dup_r, w_dup_z, w_dup_v, gf_707, gf_640, m_cat_n, m_cat_i, m_cat_r, m_cat_z, m_cat_rv, m_cat_l, Nat.zero_le, Nat.reduceLeDiff, Nat.reduceAdd, m_o_i, m_o_r, m_o_z, m_o_rv, m_C_inl, Option.toList_some, Option.toList_none, List.cons_append, List.nil_append, pf_709, pfz_709, pfv_709, tg_146_25, w_icmp_eq, w_if_eq, hs_n, hs_k, hs_l, hs_R, hs_I, hs_L, hs_setI, hs_setL, hs_cpy, hs_setR, hs_mk, k0, r00, k1, l1, r04, k133, r133, k134, l134, r03, ku, up, kp, kn, up_eq, up_na, up_nk, zr_eq, zr_na, sR_eq, sR_na, sR_nk, hR_old, hR_new, h_n_setR, h_n_mk, i_add, i_sub, i_mul, i_tn, i_nat, Int.reduceToNat, Int.reduceAdd, Int.reduceSub, Int.reduceMul, Int.reduceNeg, l_32, l_nat, l_c_lt, l_c_gt, l_c_eq, i_lt, i_eq, i_lt0, i_0lt, i_eq0, i_eq1, Int.reduceLT, Int.reduceEq, Int.reduceLE, Int.reduceNe, not_true_eq_false, not_false_eq_true, Nat.lt_irrefl, Int.lt_irrefl, eq_self, eq_self, Nat.reduceAdd, Nat.reduceMul, Nat.reduceSub, Nat.reduceDiv, Nat.reduceMod, Nat.reduceEqDiff, Nat.reduceLeDiff, Nat.reduceLT, Nat.zero_add, Nat.add_zero, Nat.zero_le, and_false, and_true, and_self, false_and, true_and, or_false, or_true, if_true, if_false, ite_true, ite_false, ↓reduceIte, Int.reduceToNat, Int.reduceAdd, Int.reduceSub, Int.reduceMul, Int.reduceNeg, e0, w_aastore]
    exact lpB_146 I2 (Or.inl (sR_eq rfl rfl)) (sR_eq rfl rfl) (fun F2 I3 T3 e3 k3 => hQ _ _ _ I3 (st_le (st_tr T1 (st_tr T2 T3)) (by omega) (by omega)) (e3.trans e01) (kp_tr kk k3))
  · rw [k_146_0]
    simp (disch := first | omega | (simp (disch := first | omega | (simp only [h_n_setR, h_n_mk, hs_n]; first | done | omega)) only [i_lt0, i_tn, i_nn, m_cat_n, m_cat_i, m_cat_r, m_cat_z, m_cat_rv, m_cat_l, m_o_n, m_o_i, m_o_r, m_o_z, m_o_rv, m_o_f, hs_n, hs_k, hs_l, h_n_setR, h_n_mk, h_k_setR, h_l_setR, hk_old, hk_new, hl_old, hl_new, Nat.reduceLeDiff, not_false_eq_true, or_true, true_or, or_false, false_or, k0, r00, k1, l1, r04, k133, r133, k134, l134, r03, ku, up, kp, hr]; first | done | omega) | exact Or.inl rfl | exact Or.inr rfl) only [k_146_0, w_aload_0, w_aloadz_0, w_aloadv_0, gf_709, m_rv_s, m_rv_n, w_ifnn_z, w_ifnn_r, w_new, nf_10, w_dup_i, w_dup_r, w_dup_z, w_dup_v, gf_707, gf_640, m_cat_n, m_cat_i, m_cat_r, m_cat_z, m_cat_rv, m_cat_l, Nat.zero_le, Nat.reduceLeDiff, Nat.reduceAdd, m_o_i, m_o_r, m_o_z, m_o_rv, m_C_inl, Option.toList_some, Option.toList_none, List.cons_append, List.nil_append, pf_709, pfz_709, pfv_709, tg_146_25, w_icmp_eq, w_if_eq, hs_n, hs_k, hs_l, hs_R, hs_I, hs_L, hs_setI, hs_setL, hs_cpy, hs_setR, hs_mk, k0, r00, k1, l1, r04, k133, r133, k134, l134, r03, ku, up, kp, hr, up_eq, up_na, up_nk, zr_eq, zr_na, sR_eq, sR_na, sR_nk, hR_old, hR_new, h_n_setR, h_n_mk, i_add, i_sub, i_mul, i_tn, i_nat, Int.reduceToNat, Int.reduceAdd, Int.reduceSub, Int.reduceMul, Int.reduceNeg, l_32, l_nat, l_c_lt, l_c_gt, l_c_eq, i_lt, i_eq, i_lt0, i_0lt, i_eq0, i_eq1, Int.reduceLT, Int.reduceEq, Int.reduceLE, Int.reduceNe, not_true_eq_false, not_false_eq_true, Nat.lt_irrefl, Int.lt_irrefl, eq_self, eq_self, Nat.reduceAdd, Nat.reduceMul, Nat.reduceSub, Nat.reduceDiv, Nat.reduceMod, Nat.reduceEqDiff, Nat.reduceLeDiff, Nat.reduceLT, Nat.zero_add, Nat.add_zero, Nat.zero_le, and_false, and_true, and_self, false_and, true_and, or_false, or_true, if_true, if_false, ite_true, ite_false, ↓reduceIte, Int.reduceToNat, Int.reduceAdd, Int.reduceSub, Int.reduceMul, Int.reduceNeg]
    exact lpB_146 I0 (Or.inl hr) hr (fun F2 I3 T3 e3 k3 => hQ _ _ _ I3 (st_le T3 (by omega) (by omega)) e3 k3)
set_option maxHeartbeats 8000000 in
theorem t_142 {L : Nat} {xs : Nat → Int32} {d : Nat} {h : m_H} {w : Int64} {F : m_M} {Q : Option Value ⊕ Nat → m_H → Prop} {ow : Nat → Nat} {u p : Nat} (I : q_CI ow h F u p) (s9 : m_n h ≤ 899000) (hQ : ∀ (ow' : Nat → Nat) (h' : m_H) (F' : m_M) (v : Nat), q_CI ow' h' F' u p → q_sT h h' F F' 125 2743 → F' 0 1 = F 0 1 → q_kp u p F F' → KP ow' h' F' v p → q_O h' v → F' v 2 = F u 2 → m_R h' 0 7 = some v → (m_R h 0 7 = none ∨ m_n h' = m_n h ∧ m_c h' = m_c h ∧ m_s h' = m_s h) → Q (.inl (some (.ref v))) (m_hS h' (w, F'))) : m_W (p_P L xs) (d + 2) 142 k_142_0 [some (.ref 0)] [] (m_hS h (w, F)) Q := by
  have I0 := I
  obtain ⟨⟨⟨s1, s2⟩, k0, r00, k1, l1, r04, k133, r133, k134, l134⟩, ⟨⟨f1, f2⟩, f6, ⟨n1, n2⟩, ⟨c1, c2⟩⟩, i3, r03, KU, i6⟩ := I
  have hX : m_X = 1000000000 := rfl
  have ku := CW_uk KU.2.2.1.1
  have up : m_R h u 0 = some p := KU.2.2.1.2.2.1
  have kp := PW_pk KU.2.2.1.2.1
  have un := KP_n KU
  have u1 := KU.1.1
  have p1 := KU.2.1.1
  have hb := bo_or u
  rcases hr : m_R h 0 7 with _ | v
  · rw [k_142_0]
    simp (disch := first | omega | (simp (disch := first | omega | (simp only [h_n_setR, h_n_mk, hs_n]; first | done | omega)) only [i_lt0, i_tn, i_nn, m_cat_n, m_cat_i, m_cat_r, m_cat_z, m_cat_rv, m_cat_l, m_o_n, m_o_i, m_o_r, m_o_z, m_o_rv, m_o_f, hs_n, hs_k, hs_l, h_n_setR, h_n_mk, h_k_setR, h_l_setR, hk_old, hk_new, hl_old, hl_new, Nat.reduceLeDiff, not_false_eq_true, or_true, true_or, or_false, false_or, k0, r00, k1, l1, r04, k133, r133, k134, l134, r03, ku, up, kp, hr]; first | done | omega) | exact Or.inl rfl | exact Or.inr rfl) only [k_142_0, w_aload_0, w_aloadz_0, w_aloadv_0, gf_711, m_rv_s, m_rv_n, w_ifnn_z, w_ifnn_r, w_new, nf_10, w_dup_i, w_dup_r, w_dup_z, w_dup_v, gf_707, gf_640, m_cat_n, m_cat_i, m_cat_r, m_cat_z, m_cat_rv, m_cat_l, Nat.zero_le, Nat.reduceLeDiff, Nat.reduceAdd, m_o_i, m_o_r, m_o_z, m_o_rv, m_C_inl, Option.toList_some, Option.toList_none, List.cons_append, List.nil_append, pf_711, pfz_711, pfv_711, tg_142_25, w_icmp_eq, w_if_eq, hs_n, hs_k, hs_l, hs_R, hs_I, hs_L, hs_setI, hs_setL, hs_cpy, hs_setR, hs_mk, k0, r00, k1, l1, r04, k133, r133, k134, l134, r03, ku, up, kp, hr, up_eq, up_na, up_nk, zr_eq, zr_na, sR_eq, sR_na, sR_nk, hR_old, hR_new, h_n_setR, h_n_mk, i_add, i_sub, i_mul, i_tn, i_nat, Int.reduceToNat, Int.reduceAdd, Int.reduceSub, Int.reduceMul, Int.reduceNeg, l_32, l_nat, l_c_lt, l_c_gt, l_c_eq, i_lt, i_eq, i_lt0, i_0lt, i_eq0, i_eq1, Int.reduceLT, Int.reduceEq, Int.reduceLE, Int.reduceNe, not_true_eq_false, not_false_eq_true, Nat.lt_irrefl, Int.lt_irrefl, eq_self, eq_self, Nat.reduceAdd, Nat.reduceMul, Nat.reduceSub, Nat.reduceDiv, Nat.reduceMod, Nat.reduceEqDiff, Nat.reduceLeDiff, Nat.reduceLT, Nat.zero_add, Nat.add_zero, Nat.zero_le, and_false, and_true, and_self, false_and, true_and, or_false, or_true, if_true, if_false, ite_true, ite_false, ↓reduceIte, Int.reduceToNat, Int.reduceAdd, Int.reduceSub, Int.reduceMul, Int.reduceNeg]
    simp (disch := first | omega | (simp (disch := first | omega | (simp only [h_n_setR, h_n_mk, hs_n]; first | done | omega)) only [i_lt0, i_tn, i_nn, m_cat_n, m_cat_i, m_cat_r, m_cat_z, m_cat_rv, m_cat_l, m_o_n, m_o_i, m_o_r, m_o_z, m_o_rv, m_o_f, hs_n, hs_k, hs_l, h_n_setR, h_n_mk, h_k_setR, h_l_setR, hk_old, hk_new, hl_old, hl_new, Nat.reduceLeDiff, not_false_eq_true, or_true, true_or, or_false, false_or, k0, r00, k1, l1, r04, k133, r133, k134, l134, r03, ku, up, kp, hr]; first | done | omega) | exact Or.inl rfl | exact Or.inr rfl) only [cl_77, m_cat_n, m_cat_i, m_cat_r, m_cat_z, m_cat_rv, m_cat_l, Nat.zero_le, Nat.reduceLeDiff, Nat.reduceAdd, m_o_i, m_o_r, m_o_z, m_o_rv, hs_n, hs_k, h_n_setR, h_n_mk]
    refine t_77 (u := m_n h) (p := p) (by rw [h_n_mk]; omega) (hk_new rfl) (by rw [h_n_mk]; omega) (by rw [hk_old (by omega)]; exact kp) (by rw [h_n_mk]; omega) (by rw [h_n_mk]; omega) (fun h' F' W' up' G' U0 U' e2 f' => ?_)
    rw [h_n_mk] at W' U' f'
    have kn := CW_uk W'
    have ff : ∀ x y, x < m_n h → F' x y = F x y := fun x y hx => by rw [f' x y (by omega) (by omega), zr_na (by omega)]
    obtain ⟨I1, KN, T1, nu⟩ := CI_nw I0 rfl s9 W' up' G' U' ff
    have I2 := (CI_R (a := 0) (k := 7) I1 (Or.inr ⟨rfl, Or.inr rfl⟩) nu ⟨p, KN⟩).1
    have wn := (KP_n KN).1
    have e0 : F' 133 1 = F 133 1 := ff _ _ (by omega)
    have e01 : F' 0 1 = F 0 1 := ff _ _ (by omega)
    have kk : q_kp u p F F' := ⟨fun x y hx => ff x y (by omega), fun y => ff p y (by omega)⟩
    have T2 : q_sT h' (m_setR h' 0 7 (some (m_n h))) F' F' 0 0 := ⟨by rw [h_n_setR]; omega, by rw [h_n_setR]; omega, by rw [h_c_setR]; omega, by rw [h_s_setR]; omega, fun x h1 h2 => ⟨rfl, rfl, fun y => sR_na (by omega)⟩, fun _ _ _ _ => rfl⟩
    have s1' := I1.1.1.1
    obtain ⟨⟨⟨s1, s2⟩, k0, r00, k1, l1, r04, k133, r133, k134, l134⟩, ⟨⟨f1, f2⟩, f6, ⟨n1, n2⟩, ⟨c1, c2⟩⟩, i3, r03, KU, i6⟩ := I1
    have hX : m_X = 1000000000 := rfl
    have ku := CW_uk KU.2.2.1.1
    have up : m_R h' u 0 = some p := KU.2.2.1.2.2.1
    have kp := PW_pk KU.2.2.1.2.1
    have un := KP_n KU
    have u1 := KU.1.1
    have p1 := KU.2.1.1
    have hb := bo_or u
    simp (disch := first | omega | (simp (disch := first | omega | (simp only [h_n_setR, h_n_mk, hs_n]; first | done | omega)) only [i_lt0, i_tn, i_nn, m_cat_n, m_cat_i, m_cat_r, m_cat_z, m_cat_rv, m_cat_l, m_o_n, m_o_i, m_o_r, m_o_z, m_o_rv, m_o_f, hs_n, hs_k, hs_l, h_n_setR, h_n_mk, h_k_setR, h_l_setR, hk_old, hk_new, hl_old, hl_new, Nat.reduceLeDiff, not_false_eq_true, or_true, true_or, or_false, false_or, k0, r00, k1, l1, r04, k133, r133, k134, l134, r03, ku, up, kp, kn]; first | done | omega) | exact Or.inl rfl | exact Or.inr rfl) only [k_142_0, w_aload_0, w_aloadz_0, w_aloadv_0, gf_711, m_rv_s, m_rv_n, w_ifnn_z, w_ifnn_r, w_new, nf_10, w_dup_i, w_dup_r, w_dup_z, w_dup_v, gf_707, gf_640, m_cat_n, m_cat_i, m_cat_r, m_cat_z, m_cat_rv, m_cat_l, Nat.zero_le, Nat.reduceLeDiff, Nat.reduceAdd, m_o_i, m_o_r, m_o_z, m_o_rv, m_C_inl, Option.toList_some, Option.toList_none, List.cons_append, List.nil_append, pf_711, pfz_711, pfv_711, tg_142_25, w_icmp_eq, w_if_eq, hs_n, hs_k, hs_l, hs_R, hs_I, hs_L, hs_setI, hs_setL, hs_cpy, hs_setR, hs_mk, k0, r00, k1, l1, r04, k133, r133, k134, l134, r03, ku, up, kp, kn, up_eq, up_na, up_nk, zr_eq, zr_na, sR_eq, sR_na, sR_nk, hR_old, hR_new, h_n_setR, h_n_mk, i_add, i_sub, i_mul, i_tn, i_nat, Int.reduceToNat, Int.reduceAdd, Int.reduceSub, Int.reduceMul, Int.reduceNeg, l_32, l_nat, l_c_lt, l_c_gt, l_c_eq, i_lt, i_eq, i_lt0, i_0lt, i_eq0, i_eq1, Int.reduceLT, Int.reduceEq, Int.reduceLE, Int.reduceNe, not_true_eq_false, not_false_eq_true, Nat.lt_irrefl, Int.lt_irrefl, eq_self, eq_self, Nat.reduceAdd, Nat.reduceMul, Nat.reduceSub, Nat.reduceDiv, Nat.reduceMod, Nat.reduceEqDiff, Nat.reduceLeDiff, Nat.reduceLT, Nat.zero_add, Nat.add_zero, Nat.zero_le, and_false, and_true, and_self, false_and, true_and, or_false, or_true, if_true, if_false, ite_true, ite_false, ↓reduceIte, Int.reduceToNat, Int.reduceAdd, Int.reduceSub, Int.reduceMul, Int.reduceNeg, e0, w_aastore]
    exact lpB_142 I2 (Or.inr (Or.inl (sR_eq rfl rfl))) (sR_eq rfl rfl) (fun F2 I3 T3 e3 k3 K3 g3 => hQ _ _ _ _ I3 (st_le (st_tr T1 (st_tr T2 T3)) (by omega) (by omega)) (e3.trans e01) (kp_tr kk k3) K3 (Or.inr (Or.inl (by rw [sR_na (by omega), sR_eq rfl rfl]))) (g3.trans (kk.1 u 2 (Or.inl rfl))) (by rw [sR_na (by omega), sR_eq rfl rfl]) (Or.inl hr))
  · rw [k_142_0]
    simp (disch := first | omega | (simp (disch := first | omega | (simp only [h_n_setR, h_n_mk, hs_n]; first | done | omega)) only [i_lt0, i_tn, i_nn, m_cat_n, m_cat_i, m_cat_r, m_cat_z, m_cat_rv, m_cat_l, m_o_n, m_o_i, m_o_r, m_o_z, m_o_rv, m_o_f, hs_n, hs_k, hs_l, h_n_setR, h_n_mk, h_k_setR, h_l_setR, hk_old, hk_new, hl_old, hl_new, Nat.reduceLeDiff, not_false_eq_true, or_true, true_or, or_false, false_or, k0, r00, k1, l1, r04, k133, r133, k134, l134, r03, ku, up, kp, hr]; first | done | omega) | exact Or.inl rfl | exact Or.inr rfl) only [k_142_0, w_aload_0, w_aloadz_0, w_aloadv_0, gf_711, m_rv_s, m_rv_n, w_ifnn_z, w_ifnn_r, w_new, nf_10, w_dup_i, w_dup_r, w_dup_z, w_dup_v, gf_707, gf_640, m_cat_n, m_cat_i, m_cat_r, m_cat_z, m_cat_rv, m_cat_l, Nat.zero_le, Nat.reduceLeDiff, Nat.reduceAdd, m_o_i, m_o_r, m_o_z, m_o_rv, m_C_inl, Option.toList_some, Option.toList_none, List.cons_append, List.nil_append, pf_711, pfz_711, pfv_711, tg_142_25, w_icmp_eq, w_if_eq, hs_n, hs_k, hs_l, hs_R, hs_I, hs_L, hs_setI, hs_setL, hs_cpy, hs_setR, hs_mk, k0, r00, k1, l1, r04, k133, r133, k134, l134, r03, ku, up, kp, hr, up_eq, up_na, up_nk, zr_eq, zr_na, sR_eq, sR_na, sR_nk, hR_old, hR_new, h_n_setR, h_n_mk, i_add, i_sub, i_mul, i_tn, i_nat, Int.reduceToNat, Int.reduceAdd, Int.reduceSub, Int.reduceMul, Int.reduceNeg, l_32, l_nat, l_c_lt, l_c_gt, l_c_eq, i_lt, i_eq, i_lt0, i_0lt, i_eq0, i_eq1, Int.reduceLT, Int.reduceEq, Int.reduceLE, Int.reduceNe, not_true_eq_false, not_false_eq_true, Nat.lt_irrefl, Int.lt_irrefl, eq_self, eq_self, Nat.reduceAdd, Nat.reduceMul, Nat.reduceSub, Nat.reduceDiv, Nat.reduceMod, Nat.reduceEqDiff, Nat.reduceLeDiff, Nat.reduceLT, Nat.zero_add, Nat.add_zero, Nat.zero_le, and_false, and_true, and_self, false_and, true_and, or_false, or_true, if_true, if_false, ite_true, ite_false, ↓reduceIte, Int.reduceToNat, Int.reduceAdd, Int.reduceSub, Int.reduceMul, Int.reduceNeg]
    exact lpB_142 I0 (Or.inr (Or.inl hr)) hr (fun F2 I3 T3 e3 k3 K3 g3 => hQ _ _ _ _ I3 (st_le T3 (by omega) (by omega)) e3 k3 K3 (Or.inr (Or.inl (by rw [sR_na (by have := K3.1.1; omega)]; exact hr))) g3 (by rw [sR_na (by have := K3.1.1; omega)]; exact hr) (Or.inr ⟨rfl, rfl, rfl⟩))
