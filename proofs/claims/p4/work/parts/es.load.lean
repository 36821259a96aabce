/-! the reference: a text read -/
theorem nx_nx {K : m_M} {a b c d a' b' c' d' : Int} : q_nx (q_nx K a b c d) a' b' c' d' = q_nx K a' b' c' d' := by
  funext x y
  unfold q_nx
  simp only [up_if]
  (repeat' split) <;> first | rfl | omega
theorem V_i {K : m_M} {w w' : Int64} {b : Nat → Int} {n P : Nat} {a t : Int} (h20 : K 135 20 = n) (hn : n ≤ 900) (hb : ∀ k, k < n → K 151 k = b k) (hb2 : ∀ k, k < 900 → 0 ≤ K 151 k ∧ K 151 k ≤ 255) (h26 : K 135 26 = 0) (h27 : K 135 27 = -1) (hP : P ≤ n) (ha : a = ((if P < n then tx_te b n P else P : Nat) : Int)) (ht : tx_k b n P = 2 → t = tx_nv b n P) (t0 : 0 ≤ t) (t1 : t ≤ 1000000) (hw : tx_k b n P = 1 → w' = Int64.ofInt (tx_h (fun i => b (P + i) - 96) (tx_mn (tx_te b n P - P)))) : q_V (q_nx K a (P : Nat) (tx_k b n P) t) w' b n (0, P) := by
  have k0 : tx_k b n n = 0 := k_e (Nat.le_refl n)
  have V0 : q_V (q_nx K n n 0 0) w b n (0, n) := by
    unfold q_V q_sc q_tb q_R q_nx
    simp only [up_if, eq_self, Nat.reduceEqDiff, and_false, false_and, and_true, and_self, if_true, if_false, k0, Nat.lt_irrefl]
    refine ⟨⟨⟨by omega, by omega, by omega, by omega⟩, ?_, ?_, hb2⟩, ⟨h20, hn, hb, hb2, by omega, by omega⟩, ?_, ?_⟩
    · refine ⟨by omega, by omega, ?_, ?_⟩ <;> intro q9 <;> first | trivial | omega | exact absurd trivial q9 | exact absurd rfl q9
    · omega
    · intro _
      refine ⟨h26, ?_, Nat.le_refl _, ?_, ?_, ?_, ?_⟩ <;> first | trivial | (intros; first | trivial | omega)
    · refine ⟨?_, ?_⟩ <;> intro q <;> first | exact h27 | (exfalso; first | exact q trivial | omega)
  have := V_nx V0 (w' := w') (P := P) (a := a) (t := t) (by unfold q_nx; simp only [up_if, eq_self, Nat.reduceEqDiff, and_false, false_and, if_false]; exact h26) hP ha ht t0 t1 hw
  rw [nx_nx] at this
  exact this
theorem nm_le {T : tx_T} {cms : List tx_C} {p : Nat} {r : tx_St} (h : tx_nm T cms (0, p) r) : p ≤ r.2 := by
  by_cases z1 : tx_isn T p
  · have hp : p < T.2 := (tx_k1.mp z1.1).1
    have gt := tx_nx_gt (b := T.1) hp
    by_cases z2 : tx_old T cms p
    · rw [h.2.2.1 rfl z1 z2]
      exact Nat.le_refl _
    · rw [h.2.2.2 rfl z1 z2]
      exact Nat.le_of_lt gt
  · rw [h.2.1 rfl z1]
    exact Nat.le_refl _
theorem nb_le {T : tx_T} {lo hi : Int} {p : Nat} : p ≤ (tx_nb T lo hi (0, p)).1.2 := by
  by_cases k2 : tx_k T.1 T.2 p = 2
  · have hp : p < T.2 := (tx_k2.mp k2).1
    have gt := tx_nx_gt (b := T.1) hp
    by_cases c : lo ≤ tx_nv T.1 T.2 p ∧ tx_nv T.1 T.2 p ≤ hi
    · rw [nb_y k2 c.1 c.2]
      exact Nat.le_of_lt gt
    · rw [nb_2 k2 c]
      exact Nat.le_refl _
  · rw [nb_1 k2]
    exact Nat.le_refl _
theorem tv_le {T : tx_T} {j : Nat} {pl mo to : Int} : ∀ (f : Nat) (s : tx_St) (r : tx_St × List Int), tx_st T j pl mo to f s r → r.1.1 = 0 → s.1 = 0 ∧ (s.2 ≤ T.2 → s.2 ≤ r.1.2 ∧ r.1.2 ≤ T.2)
  | 0, _, _, h, _ => h.elim
  | f + 1, (e, p), r, h, z => by
    by_cases c : e = 0 ∧ tx_wd T.1 T.2 p = some (m_X + 1 + j)
    · obtain ⟨s2, c2, r3, h1, h2, h3⟩ := h.1 c
      rw [h3] at z ⊢
      obtain ⟨e2, p2⟩ := s2
      obtain ⟨z2, l2⟩ := tv_le f _ r3 h2 z
      have z2 : e2 = 0 := z2
      subst z2
      have hp : p < T.2 := (tx_k1.mp (tx_wk (T := T) c.2)).1
      have gt := tx_nx_gt (b := T.1) hp
      generalize hS : tx_sg T 61 (tx_nb T 0 mo (0, tx_nx T.1 T.2 p)).1 = S at h1
      obtain ⟨e3, p3⟩ := S
      have z3 : e3 = 0 := by
        by_cases z3 : e3 = 0
        · exact z3
        · have := ev_det h1 (ev_bad z3)
          cases this
          exact absurd rfl z3
      subst z3
      have sl := sg_len (T := T) (c := 61) (s := (tx_nb T 0 mo (0, tx_nx T.1 T.2 p)).1) (by rw [hS])
      rw [hS] at sl
      have nl := nb_len (T := T) (lo := 0) (hi := mo) (p := tx_nx T.1 T.2 p) sl.1
      have el := ev_len h1 sl.2.2 rfl
      dsimp only at el sl
      refine ⟨c.1, fun _ => ?_⟩
      have l2 := l2 el.2
      dsimp only at l2 ⊢
      omega
    · rw [h.2 c] at z ⊢
      exact ⟨z, fun h9 => ⟨Nat.le_refl _, h9⟩⟩
theorem wr_len {T : tx_T} {j : Nat} {s : tx_St} (h : (tx_wr T j s).1 = 0) : s.1 = 0 ∧ s.2 < (tx_wr T j s).2 ∧ (tx_wr T j s).2 ≤ T.2 := by
  obtain ⟨e, p⟩ := s
  by_cases z : e = 0
  · subst z
    by_cases c : tx_wd T.1 T.2 p = some (m_X + 1 + j)
    · rw [wr_y c]
      have hp : p < T.2 := (tx_k1.mp (tx_wk (T := T) c)).1
      exact ⟨rfl, tx_nx_gt hp, tx_nx_le hp⟩
    · rw [wr_n c] at h
      exact absurd h (show ¬ (1 : Int) = 0 by decide)
  · rw [wr_b z] at h
    exact absurd h z
theorem cm_le {T : tx_T} {G : tx_G} {p : Nat} {r : tx_St × tx_C × List Int} (h : tx_cm T G p r) (hp : p < T.2) (z : r.1.1 = 0) : p ≤ r.1.2 := by
  obtain ⟨s1, s3, c1, s5, c2, s6, c3, s7, c4, a1, a2, a3, a4, a5, ⟨f6, a6⟩, ⟨f7, a7⟩, a8⟩ := h
  rw [a8] at z ⊢
  have gt := tx_nx_gt (b := T.1) hp
  obtain ⟨z6, l7⟩ := tv_le f7 _ _ a7 z
  obtain ⟨z5, l6⟩ := tv_le f6 _ _ a6 z6
  have z5 : s5.1 = 0 := z5
  obtain ⟨e1, p1⟩ := s1
  have le1 : tx_nx T.1 T.2 p ≤ p1 := nm_le a1
  obtain ⟨e3, p3⟩ := s3
  obtain ⟨e5, p5⟩ := s5
  have zt : (tx_nb T 1 50 (tx_wr T 2 (e3, p3))).1.1 = 0 := by
    by_cases y : (tx_nb T 1 50 (tx_wr T 2 (e3, p3))).1.1 = 0 ∧ tx_wd T.1 T.2 (tx_nb T 1 50 (tx_wr T 2 (e3, p3))).1.2 = some (m_X + 1 + 32)
    · exact y.1
    · rw [← (a5 y).1]; exact z5
  have nc9 := nb_c zt
  have wl := wr_len nc9.2.2.1
  have z3 : e3 = 0 := wl.1
  subst z3
  have l3 : p1 ≤ p3 ∧ p3 ≤ T.2 := by
    by_cases y : (tx_kd T (e1, p1)).2 = 3
    · have z1 : e1 = 0 := by
        by_cases z1 : e1 = 0
        · exact z1
        · rw [kd_b z1] at y
          exact absurd y (show ¬ (-1 : Int) = 3 by decide)
      subst z1
      have ex : ∃ i, i < 4 ∧ tx_wd T.1 T.2 p1 = some (m_X + 1 + (20 + i)) := by
        by_cases q : ∃ i, i < 4 ∧ tx_wd T.1 T.2 p1 = some (m_X + 1 + (20 + i))
        · exact q
        · rw [kd_n (fun i hi hw => q ⟨i, hi, hw⟩)] at y
          exact absurd y (show ¬ (-1 : Int) = 3 by decide)
      obtain ⟨i, hi, hw⟩ := ex
      have h1 := a2 y
      rw [kd_y hi hw] at h1
      have hp1 : p1 < T.2 := (tx_k1.mp (tx_wk (T := T) hw)).1
      have g1 := tx_nx_gt (b := T.1) hp1
      have el := ev_len h1 (tx_nx_le hp1) rfl
      try dsimp only at el
      omega
    · obtain ⟨b1, b2⟩ := a3 y
      by_cases z1 : e1 = 0
      · subst z1
        by_cases q : ∃ i, i < 4 ∧ tx_wd T.1 T.2 p1 = some (m_X + 1 + (20 + i))
        · obtain ⟨i, hi, hw⟩ := q
          rw [kd_y hi hw] at b1
          have hp1 : p1 < T.2 := (tx_k1.mp (tx_wk (T := T) hw)).1
          have g1 := tx_nx_gt (b := T.1) hp1
          have g2 := tx_nx_le (b := T.1) hp1
          cases b1
          omega
        · rw [kd_n (fun i hi hw => q ⟨i, hi, hw⟩)] at b1
          cases b1
      · rw [kd_b z1] at b1
        cases b1
        exact absurd rfl z1
  have w1 : p3 < (tx_wr T 2 (0, p3)).2 := wl.2.1
  have w2 : (tx_wr T 2 (0, p3)).2 < (tx_nb T 1 50 (tx_wr T 2 (0, p3))).1.2 := nc9.2.2.2.1
  have w3 : (tx_nb T 1 50 (tx_wr T 2 (0, p3))).1.2 ≤ T.2 := by
    have e9 : tx_wr T 2 (0, p3) = (0, (tx_wr T 2 (0, p3)).2) := Prod.ext nc9.2.2.1 rfl
    rw [e9] at zt ⊢
    exact (nb_len zt).2
  have l5 : (tx_nb T 1 50 (tx_wr T 2 (0, p3))).1.2 ≤ p5 ∧ p5 ≤ T.2 := by
    by_cases y : (tx_nb T 1 50 (tx_wr T 2 (0, p3))).1.1 = 0 ∧ tx_wd T.1 T.2 (tx_nb T 1 50 (tx_wr T 2 (0, p3))).1.2 = some (m_X + 1 + 32)
    · have h1 := a4 y
      have hq : (tx_nb T 1 50 (tx_wr T 2 (0, p3))).1.2 < T.2 := (tx_k1.mp (tx_wk (T := T) y.2)).1
      have g1 := tx_nx_gt (b := T.1) hq
      have el := ev_len h1 (tx_nx_le hq) z5
      try dsimp only at el
      omega
    · have b1 := (a5 y).1
      rw [← b1] at w3
      rw [← b1]
      exact ⟨Nat.le_refl _, w3⟩
  have l6 := l6 l5.2
  have l7 := l7 l6.2
  dsimp only at l6 l7 ⊢
  omega
theorem c1_le {T : tx_T} {G : tx_G} {p : Nat} {Z : tx_G × tx_St} (h : tx_c1 T G p Z) (z : Z.2.1 = 0) (hp : p < T.2) : p ≤ Z.2.2 := by
  obtain ⟨a1, a2, a3, a4, a5⟩ := h
  have gt := tx_nx_gt (b := T.1) hp
  by_cases y : tx_is T p 1
  · by_cases c8 : G.2.1.length = 8
    · rw [a1 y c8]
      exact Nat.le_refl _
    · obtain ⟨r, h1, h2⟩ := a2 y c8
      rw [h2] at z ⊢
      exact cm_le h1 hp z
  · by_cases q : ∃ j, 14 ≤ j ∧ j ≤ 19 ∧ tx_is T p j
    · obtain ⟨j, y1, y2, y3⟩ := q
      by_cases j14 : j = 14
      · subst j14
        rw [a3 y3] at z ⊢
        have n2 := nb_c z
        have n1 := nb_le (T := T) (lo := 1) (hi := 100) (p := tx_nx T.1 T.2 p)
        have := n2.2.2.2.1
        dsimp only at this ⊢
        omega
      · obtain ⟨x, hx, rfl⟩ := tb_j j (by omega) y2
        rw [a4 x hx y3]
        have n1 := nb_le (T := T) (lo := x.2.1) (hi := x.2.2) (p := tx_nx T.1 T.2 p)
        dsimp only
        omega
    · rw [a5 y (fun j h1 h2 h3 => q ⟨j, h1, h2, h3⟩)]
      exact Nat.le_refl _
set_option maxHeartbeats 4000000 in
/-- starts -/
theorem v_169 {L : Nat} {xs : Nat → Int32} {d : Nat} {h : m_H} {w : Int64} {F : m_M} {Q : Option Value ⊕ Nat → m_H → Prop} (I : RF h) {b : Nat → Int} {n : Nat} (hn : n ≤ 900) (hb : ∀ k, k < n → F 151 k = b k) (hb2 : ∀ k, k < 900 → 0 ≤ F 151 k ∧ F 151 k ≤ 255) (h6 : 0 ≤ F 135 24) (h7 : F 135 24 ≤ 1000000) (hQ : ∀ (w' : Int64) (F' : m_M), q_V F' w' b n (0, tx_sk b n 0) → F' 135 19 = 0 → (∀ x y, ¬ (x = 135 ∧ ((19 ≤ y ∧ y ≤ 24) ∨ y = 26 ∨ y = 27)) → F' x y = F x y) → Q (.inl none) (m_hS h (w', F'))) : m_W (p_P L xs) (d + 3) 169 k_169_0 [some (.ref 135), some (.int (Int32.ofInt (n : Int)))] [] (m_hS h (w, F)) Q := by
  rw [k_169_0]
  simp (disch := first | omega | (simp (disch := omega) only [i_lt0, i_tn, i_nn, m_cat_n, m_cat_i, m_cat_r, m_cat_z, m_cat_rv, m_cat_l, m_o_n, m_o_i, m_o_r, m_o_z, m_o_rv, m_o_f, hs_n, hs_k, hs_l, f_k_135 I, n_135 I, Nat.reduceLeDiff, not_false_eq_true, or_true, true_or, or_false, false_or]; first | done | omega) | exact Or.inl rfl | exact Or.inr rfl) only [k_169_0, w_aload_0, w_aloadz_0, w_aloadv_0, w_iload_1, pf_788, w_iconst, pf_787, pf_789, pf_794, pf_795, m_cat_n, m_cat_i, m_cat_r, m_cat_z, m_cat_rv, m_cat_l, Nat.zero_le, Nat.reduceLeDiff, Nat.reduceAdd, m_o_i, m_o_r, m_o_z, m_o_rv, m_C_inl, Option.toList_some, Option.toList_none, List.cons_append, List.nil_append, w_vret, w_icmp_eq, w_if_eq, hs_n, hs_k, hs_l, hs_R, hs_I, hs_L, hs_setI, hs_setL, hs_cpy, f_k_135 I, n_135 I, up_up, up_sw, up_sa, up_if, i_add, i_sub, i_mul, i_tn, i_nat, Int.reduceToNat, Int.reduceAdd, Int.reduceSub, Int.reduceMul, Int.reduceNeg, l_32, l_nat, l_c_lt, l_c_gt, l_c_eq, i_lt, i_eq, i_lt0, i_0lt, i_eq0, i_eq1, Int.reduceLT, Int.reduceEq, Int.reduceLE, Int.reduceNe, not_true_eq_false, not_false_eq_true, Nat.lt_irrefl, Int.lt_irrefl, eq_self, eq_self, Nat.reduceAdd, Nat.reduceMul, Nat.reduceSub, Nat.reduceDiv, Nat.reduceMod, Nat.reduceEqDiff, Nat.reduceLeDiff, Nat.reduceLT, Nat.zero_add, Nat.add_zero, Nat.zero_le, and_false, and_true, and_self, false_and, true_and, or_false, or_true, if_true, if_false, ite_true, ite_false, ↓reduceIte, Int.reduceToNat, Int.reduceAdd, Int.reduceSub, Int.reduceMul, Int.reduceNeg]
  simp (disch := first | omega | (simp (disch := omega) only [i_lt0, i_tn, i_nn, m_cat_n, m_cat_i, m_cat_r, m_cat_z, m_cat_rv, m_cat_l, m_o_n, m_o_i, m_o_r, m_o_z, m_o_rv, m_o_f, hs_n, hs_k, hs_l, f_k_135 I, n_135 I, Nat.reduceLeDiff, not_false_eq_true, or_true, true_or, or_false, false_or]; first | done | omega) | exact Or.inl rfl | exact Or.inr rfl) only [cl_168, m_cat_n, m_cat_i, m_cat_r, m_cat_z, m_cat_rv, m_cat_l, Nat.zero_le, Nat.reduceLeDiff, Nat.reduceAdd, m_o_i, m_o_r, m_o_z, m_o_rv, hs_n, hs_k, f_k_135 I, n_135 I]
  have hK : ∃ K : m_M, K = m_up (m_up (m_up (m_up (m_up F 135 19 0) 135 20 (n : Int)) 135 21 0) 135 26 0) 135 27 (-1) := ⟨_, rfl⟩
  obtain ⟨K, hK⟩ := hK
  have k20 : K 135 20 = n := by rw [hK, up_no (by omega), up_no (by omega), up_no (by omega), up_eq rfl rfl]
  have k21 : K 135 21 = ((0 : Nat) : Int) := by rw [hK, up_no (by omega), up_no (by omega), up_eq rfl rfl]; rfl
  have k26 : K 135 26 = 0 := by rw [hK, up_no (by omega), up_eq rfl rfl]
  have k27 : K 135 27 = -1 := by rw [hK, up_eq rfl rfl]
  have k19 : K 135 19 = 0 := by rw [hK, up_no (by omega), up_no (by omega), up_no (by omega), up_no (by omega), up_eq rfl rfl]
  have k24 : K 135 24 = F 135 24 := by rw [hK, up_no (by omega), up_no (by omega), up_no (by omega), up_no (by omega), up_no (by omega)]
  have fr : ∀ x y, ¬ (x = 135 ∧ ((19 ≤ y ∧ y ≤ 21) ∨ y = 26 ∨ y = 27)) → K x y = F x y := fun x y hx => by rw [hK, up_no (by omega), up_no (by omega), up_no (by omega), up_no (by omega), up_no (by omega)]
  rw [← hK]
  have kb : ∀ k, k < n → K 151 k = b k := fun k hk => (fr _ _ (by omega)).trans (hb k hk)
  have kb2 : ∀ k, k < 900 → 0 ≤ K 151 k ∧ K 151 k ≤ 255 := fun k hk => by rw [fr _ _ (by omega)]; exact hb2 k hk
  refine x_168 I k20 hn kb kb2 (by rw [k24]; exact h6) (by rw [k24]; exact h7) k21 (Nat.zero_le _) (fun w' a t ha ht t0 t1 hw => ?_)
  simp (disch := first | omega | (simp (disch := omega) only [i_lt0, i_tn, i_nn, m_cat_n, m_cat_i, m_cat_r, m_cat_z, m_cat_rv, m_cat_l, m_o_n, m_o_i, m_o_r, m_o_z, m_o_rv, m_o_f, hs_n, hs_k, hs_l, f_k_135 I, n_135 I, Nat.reduceLeDiff, not_false_eq_true, or_true, true_or, or_false, false_or]; first | done | omega) | exact Or.inl rfl | exact Or.inr rfl) only [k_169_0, w_aload_0, w_aloadz_0, w_aloadv_0, w_iload_1, pf_788, w_iconst, pf_787, pf_789, pf_794, pf_795, m_cat_n, m_cat_i, m_cat_r, m_cat_z, m_cat_rv, m_cat_l, Nat.zero_le, Nat.reduceLeDiff, Nat.reduceAdd, m_o_i, m_o_r, m_o_z, m_o_rv, m_C_inl, Option.toList_some, Option.toList_none, List.cons_append, List.nil_append, w_vret, w_icmp_eq, w_if_eq, hs_n, hs_k, hs_l, hs_R, hs_I, hs_L, hs_setI, hs_setL, hs_cpy, f_k_135 I, n_135 I, up_up, up_sw, up_sa, up_if, i_add, i_sub, i_mul, i_tn, i_nat, Int.reduceToNat, Int.reduceAdd, Int.reduceSub, Int.reduceMul, Int.reduceNeg, l_32, l_nat, l_c_lt, l_c_gt, l_c_eq, i_lt, i_eq, i_lt0, i_0lt, i_eq0, i_eq1, Int.reduceLT, Int.reduceEq, Int.reduceLE, Int.reduceNe, not_true_eq_false, not_false_eq_true, Nat.lt_irrefl, Int.lt_irrefl, eq_self, eq_self, Nat.reduceAdd, Nat.reduceMul, Nat.reduceSub, Nat.reduceDiv, Nat.reduceMod, Nat.reduceEqDiff, Nat.reduceLeDiff, Nat.reduceLT, Nat.zero_add, Nat.add_zero, Nat.zero_le, and_false, and_true, and_self, false_and, true_and, or_false, or_true, if_true, if_false, ite_true, ite_false, ↓reduceIte, Int.reduceToNat, Int.reduceAdd, Int.reduceSub, Int.reduceMul, Int.reduceNeg]
  have sl : tx_sk b n 0 ≤ n := tx_sk_le (Nat.zero_le _)
  refine hQ _ _ (V_i (w := w) k20 hn kb kb2 k26 k27 sl ha ht t0 t1 hw) ?_ (fun x y hx => ?_)
  · unfold q_nx
    rw [up_no (by omega), up_no (by omega), up_no (by omega), up_no (by omega)]
    exact k19
  · unfold q_nx
    rw [up_no (by omega), up_no (by omega), up_no (by omega), up_no (by omega)]
    exact fr x y (by omega)
/-- the clauses read: what is known behind them -/
def q_E (F : m_M) (b : Nat → Int) (n : Nat) (Y : tx_G × tx_St) (F' : m_M) : Prop := (∃ w', q_U F' w' b n Y.2 Y.1.2.2) ∧ q_l F F' ∧ (Y.2.1 = 0 → q_G F' b n Y.1)
set_option maxHeartbeats 8000000 in
theorem lx_205 {L : Nat} {xs : Nat → Int32} {d : Nat} {h : m_H} (I : RF h) {b : Nat → Int} {n : Nat} : ∀ (k : Nat) (w : Int64) (F : m_M) (Q : Option Value ⊕ Nat → m_H → Prop) (G : tx_G) (s : tx_St) (i1 : Int32), q_U F w b n s G.2.2 → (s.1 = 0 → q_G F b n G) → n - s.2 ≤ k → (∀ (w' : Int64) (F' : m_M) (Y : tx_G × tx_St), (∃ f, tx_tl (b, n) f (G, s) Y) → q_U F' w' b n Y.2 Y.1.2.2 → q_l F F' → (Y.2.1 = 0 → q_G F' b n Y.1) → m_W (p_P L xs) (d + 12) 205 k_205_103 [some (.ref 135), some (.int i1)] [] (m_hS h (w', F')) Q) → m_W (p_P L xs) (d + 12) 205 k_205_82 [some (.ref 135), some (.int i1)] [] (m_hS h (w, F)) Q := by
  intro k
  induction k using Nat.strongRecOn with
  | _ k ih =>
  intro w F Q G s i1 U hG hk hQ
  obtain ⟨e, p⟩ := s
  have V := U.1
  have h9 := V_n V
  by_cases z : e = 0
  · subst z
    obtain ⟨r1, r2, r3, r4, r5, r6, r7⟩ := V_0 V
    by_cases k0 : tx_k b n p = 0
    · rw [k0] at r4
      rw [k_205_82]
      simp (disch := first | omega | (simp (disch := omega) only [i_lt0, i_tn, i_nn, m_cat_n, m_cat_i, m_cat_r, m_cat_z, m_cat_rv, m_cat_l, m_o_n, m_o_i, m_o_r, m_o_z, m_o_rv, m_o_f, hs_n, hs_k, hs_l, f_k_135 I, n_135 I, f_R_135_1 I, f_k_136 I, f_l_136 I, n_136 I, x_136, Nat.reduceLeDiff, not_false_eq_true, or_true, true_or, or_false, false_or]; first | done | omega) | exact Or.inl rfl | exact Or.inr rfl) only [k_205_82, w_aload_0, w_aloadz_0, w_aloadv_0, m_cat_n, m_cat_i, m_cat_r, m_cat_z, m_cat_rv, m_cat_l, Nat.zero_le, Nat.reduceLeDiff, Nat.reduceAdd, cl_171, m_o_i, m_o_r, m_o_z, m_o_rv, m_C_inl, Option.toList_some, Option.toList_none, List.cons_append, List.nil_append, w_if_eq, gf_791, m_rv_s, m_rv_n, w_goto, tg_205_26, tg_205_63, tg_205_82, tg_205_103, tg_205_118, k_171_0, k_171_11, tg_171_11, k_171_12, tg_171_12, gf_794, w_if_ne, w_iconst, w_zret, w_icmp_eq, hs_n, hs_k, hs_l, hs_R, hs_I, hs_L, hs_setI, hs_setL, hs_cpy, f_k_135 I, n_135 I, f_R_135_1 I, f_k_136 I, f_l_136 I, n_136 I, x_136, up_up, up_sw, up_sa, up_if, i_add, i_sub, i_mul, i_tn, i_nat, Int.reduceToNat, Int.reduceAdd, Int.reduceSub, Int.reduceMul, Int.reduceNeg, l_32, l_nat, l_c_lt, l_c_gt, l_c_eq, i_lt, i_eq, i_lt0, i_0lt, i_eq0, i_eq1, Int.reduceLT, Int.reduceEq, Int.reduceLE, Int.reduceNe, not_true_eq_false, not_false_eq_true, Nat.lt_irrefl, Int.lt_irrefl, eq_self, eq_self, Nat.reduceAdd, Nat.reduceMul, Nat.reduceSub, Nat.reduceDiv, Nat.reduceMod, Nat.reduceEqDiff, Nat.reduceLeDiff, Nat.reduceLT, Nat.zero_add, Nat.add_zero, Nat.zero_le, and_false, and_true, and_self, false_and, true_and, or_false, or_true, if_true, if_false, ite_true, ite_false, ↓reduceIte, Int.reduceToNat, Int.reduceAdd, Int.reduceSub, Int.reduceMul, Int.reduceNeg, r1, r4]
      exact hQ _ _ _ ⟨1, fun q => absurd k0 q.2, fun _ => rfl⟩ U l_rf hG
    · have r4' : ¬ F 135 23 = 0 := by rw [r4]; exact k0
      have kr := tx_kr (b := b) (n := n) (p := p)
      have hp : p < n := by
        by_cases c : p < n
        · exact c
        · exact absurd (k_e (by omega)) k0
      rw [k_205_82]
      simp (disch := first | omega | (simp (disch := omega) only [i_lt0, i_tn, i_nn, m_cat_n, m_cat_i, m_cat_r, m_cat_z, m_cat_rv, m_cat_l, m_o_n, m_o_i, m_o_r, m_o_z, m_o_rv, m_o_f, hs_n, hs_k, hs_l, f_k_135 I, n_135 I, f_R_135_1 I, f_k_136 I, f_l_136 I, n_136 I, x_136, Nat.reduceLeDiff, not_false_eq_true, or_true, true_or, or_false, false_or]; first | done | omega) | exact Or.inl rfl | exact Or.inr rfl) only [w_aload_0, w_aloadz_0, w_aloadv_0, m_cat_n, m_cat_i, m_cat_r, m_cat_z, m_cat_rv, m_cat_l, Nat.zero_le, Nat.reduceLeDiff, Nat.reduceAdd, cl_171, m_o_i, m_o_r, m_o_z, m_o_rv, m_C_inl, Option.toList_some, Option.toList_none, List.cons_append, List.nil_append, w_if_eq, gf_791, m_rv_s, m_rv_n, w_goto, tg_205_26, tg_205_63, tg_205_82, tg_205_103, tg_205_118, k_171_0, k_171_11, tg_171_11, k_171_12, tg_171_12, gf_794, w_if_ne, w_iconst, w_zret, w_icmp_eq, hs_n, hs_k, hs_l, hs_R, hs_I, hs_L, hs_setI, hs_setL, hs_cpy, f_k_135 I, n_135 I, f_R_135_1 I, f_k_136 I, f_l_136 I, n_136 I, x_136, up_up, up_sw, up_sa, up_if, i_add, i_sub, i_mul, i_tn, i_nat, Int.reduceToNat, Int.reduceAdd, Int.reduceSub, Int.reduceMul, Int.reduceNeg, l_32, l_nat, l_c_lt, l_c_gt, l_c_eq, i_lt, i_eq, i_lt0, i_0lt, i_eq0, i_eq1, Int.reduceLT, Int.reduceEq, Int.reduceLE, Int.reduceNe, not_true_eq_false, not_false_eq_true, Nat.lt_irrefl, Int.lt_irrefl, eq_self, eq_self, Nat.reduceAdd, Nat.reduceMul, Nat.reduceSub, Nat.reduceDiv, Nat.reduceMod, Nat.reduceEqDiff, Nat.reduceLeDiff, Nat.reduceLT, Nat.zero_add, Nat.add_zero, Nat.zero_le, and_false, and_true, and_self, false_and, true_and, or_false, or_true, if_true, if_false, ite_true, ite_false, ↓reduceIte, Int.reduceToNat, Int.reduceAdd, Int.reduceSub, Int.reduceMul, Int.reduceNeg, r1, r4']
      simp (disch := first | omega | (simp (disch := omega) only [i_lt0, i_tn, i_nn, m_cat_n, m_cat_i, m_cat_r, m_cat_z, m_cat_rv, m_cat_l, m_o_n, m_o_i, m_o_r, m_o_z, m_o_rv, m_o_f, hs_n, hs_k, hs_l, f_k_135 I, n_135 I, Nat.reduceLeDiff, not_false_eq_true, or_true, true_or, or_false, false_or]; first | done | omega) | exact Or.inl rfl | exact Or.inr rfl) only [cl_204, m_cat_n, m_cat_i, m_cat_r, m_cat_z, m_cat_rv, m_cat_l, Nat.zero_le, Nat.reduceLeDiff, Nat.reduceAdd, m_o_i, m_o_r, m_o_z, m_o_rv, hs_n, hs_k, f_k_135 I, n_135 I]
      refine v_204 I U (hG rfl) (fun w1 F1 Z hZ U1 l1 g1 => ?_)
      simp (disch := first | omega | (simp (disch := omega) only [i_lt0, i_tn, i_nn, m_cat_n, m_cat_i, m_cat_r, m_cat_z, m_cat_rv, m_cat_l, m_o_n, m_o_i, m_o_r, m_o_z, m_o_rv, m_o_f, hs_n, hs_k, hs_l, f_k_135 I, n_135 I, f_R_135_1 I, f_k_136 I, f_l_136 I, n_136 I, x_136, Nat.reduceLeDiff, not_false_eq_true, or_true, true_or, or_false, false_or]; first | done | omega) | exact Or.inl rfl | exact Or.inr rfl) only [w_aload_0, w_aloadz_0, w_aloadv_0, m_cat_n, m_cat_i, m_cat_r, m_cat_z, m_cat_rv, m_cat_l, Nat.zero_le, Nat.reduceLeDiff, Nat.reduceAdd, m_o_i, m_o_r, m_o_z, m_o_rv, m_C_inl, Option.toList_some, Option.toList_none, List.cons_append, List.nil_append, w_if_eq, gf_791, m_rv_s, m_rv_n, w_goto, tg_205_26, tg_205_63, tg_205_82, tg_205_103, tg_205_118, w_icmp_eq, hs_n, hs_k, hs_l, hs_R, hs_I, hs_L, hs_setI, hs_setL, hs_cpy, f_k_135 I, n_135 I, f_R_135_1 I, f_k_136 I, f_l_136 I, n_136 I, x_136, up_up, up_sw, up_sa, up_if, i_add, i_sub, i_mul, i_tn, i_nat, Int.reduceToNat, Int.reduceAdd, Int.reduceSub, Int.reduceMul, Int.reduceNeg, l_32, l_nat, l_c_lt, l_c_gt, l_c_eq, i_lt, i_eq, i_lt0, i_0lt, i_eq0, i_eq1, Int.reduceLT, Int.reduceEq, Int.reduceLE, Int.reduceNe, not_true_eq_false, not_false_eq_true, Nat.lt_irrefl, Int.lt_irrefl, eq_self, eq_self, Nat.reduceAdd, Nat.reduceMul, Nat.reduceSub, Nat.reduceDiv, Nat.reduceMod, Nat.reduceEqDiff, Nat.reduceLeDiff, Nat.reduceLT, Nat.zero_add, Nat.add_zero, Nat.zero_le, and_false, and_true, and_self, false_and, true_and, or_false, or_true, if_true, if_false, ite_true, ite_false, ↓reduceIte, Int.reduceToNat, Int.reduceAdd, Int.reduceSub, Int.reduceMul, Int.reduceNeg]
      have lt : n - (tx_sg (b, n) 59 Z.2).2 < k ∨ ¬ (tx_sg (b, n) 59 Z.2).1 = 0 := by
        by_cases z1 : (tx_sg (b, n) 59 Z.2).1 = 0
        · left
          have sl := sg_len (T := (b, n)) (c := 59) (s := Z.2) z1
          have pl : p ≤ Z.2.2 := c1_le hZ sl.1 hp
          have a2 : Z.2.2 < (tx_sg (b, n) 59 Z.2).2 := sl.2.1
          omega
        · exact Or.inr z1
      by_cases z1 : (tx_sg (b, n) 59 Z.2).1 = 0
      · have lt := lt.resolve_right (fun q => q z1)
        refine ih _ lt w1 F1 Q Z.1 (tx_sg (b, n) 59 Z.2) i1 U1 g1 (Nat.le_refl _) (fun w' F' Y hY U2 l2 g2 => ?_)
        obtain ⟨f, hf⟩ := hY
        exact hQ _ _ _ ⟨f + 1, fun _ => ⟨Z, hZ, hf⟩, fun q => absurd ⟨rfl, k0⟩ q⟩ U2 (l_tr l1 l2) g2
      · have hb_n1 := U1.1.1.2.2.1
        have n1 : ¬ F1 135 26 = 0 := by
          rw [(V_e (e := (tx_sg (b, n) 59 Z.2).1) (p := (tx_sg (b, n) 59 Z.2).2) U1.1 z1).1]
          exact z1
        rw [k_205_82]
        simp (disch := first | omega | (simp (disch := omega) only [i_lt0, i_tn, i_nn, m_cat_n, m_cat_i, m_cat_r, m_cat_z, m_cat_rv, m_cat_l, m_o_n, m_o_i, m_o_r, m_o_z, m_o_rv, m_o_f, hs_n, hs_k, hs_l, f_k_135 I, n_135 I, f_R_135_1 I, f_k_136 I, f_l_136 I, n_136 I, x_136, Nat.reduceLeDiff, not_false_eq_true, or_true, true_or, or_false, false_or]; first | done | omega) | exact Or.inl rfl | exact Or.inr rfl) only [k_205_82, w_aload_0, w_aloadz_0, w_aloadv_0, m_cat_n, m_cat_i, m_cat_r, m_cat_z, m_cat_rv, m_cat_l, Nat.zero_le, Nat.reduceLeDiff, Nat.reduceAdd, cl_171, m_o_i, m_o_r, m_o_z, m_o_rv, m_C_inl, Option.toList_some, Option.toList_none, List.cons_append, List.nil_append, w_if_eq, gf_791, m_rv_s, m_rv_n, w_goto, tg_205_26, tg_205_63, tg_205_82, tg_205_103, tg_205_118, k_171_0, k_171_11, tg_171_11, k_171_12, tg_171_12, gf_794, w_if_ne, w_iconst, w_zret, w_icmp_eq, hs_n, hs_k, hs_l, hs_R, hs_I, hs_L, hs_setI, hs_setL, hs_cpy, f_k_135 I, n_135 I, f_R_135_1 I, f_k_136 I, f_l_136 I, n_136 I, x_136, up_up, up_sw, up_sa, up_if, i_add, i_sub, i_mul, i_tn, i_nat, Int.reduceToNat, Int.reduceAdd, Int.reduceSub, Int.reduceMul, Int.reduceNeg, l_32, l_nat, l_c_lt, l_c_gt, l_c_eq, i_lt, i_eq, i_lt0, i_0lt, i_eq0, i_eq1, Int.reduceLT, Int.reduceEq, Int.reduceLE, Int.reduceNe, not_true_eq_false, not_false_eq_true, Nat.lt_irrefl, Int.lt_irrefl, eq_self, eq_self, Nat.reduceAdd, Nat.reduceMul, Nat.reduceSub, Nat.reduceDiv, Nat.reduceMod, Nat.reduceEqDiff, Nat.reduceLeDiff, Nat.reduceLT, Nat.zero_add, Nat.add_zero, Nat.zero_le, and_false, and_true, and_self, false_and, true_and, or_false, or_true, if_true, if_false, ite_true, ite_false, ↓reduceIte, Int.reduceToNat, Int.reduceAdd, Int.reduceSub, Int.reduceMul, Int.reduceNeg, n1]
        exact hQ _ _ (Z.1, tx_sg (b, n) 59 Z.2) ⟨2, fun _ => ⟨Z, hZ, fun q => absurd q.1 z1, fun _ => rfl⟩, fun q => absurd ⟨rfl, k0⟩ q⟩ U1 l1 g1
  · have n1 : ¬ F 135 26 = 0 := by rw [(V_e V z).1]; exact z
    have hb_n1 := (V).1.2.2.1
    rw [k_205_82]
    simp (disch := first | omega | (simp (disch := omega) only [i_lt0, i_tn, i_nn, m_cat_n, m_cat_i, m_cat_r, m_cat_z, m_cat_rv, m_cat_l, m_o_n, m_o_i, m_o_r, m_o_z, m_o_rv, m_o_f, hs_n, hs_k, hs_l, f_k_135 I, n_135 I, f_R_135_1 I, f_k_136 I, f_l_136 I, n_136 I, x_136, Nat.reduceLeDiff, not_false_eq_true, or_true, true_or, or_false, false_or]; first | done | omega) | exact Or.inl rfl | exact Or.inr rfl) only [k_205_82, w_aload_0, w_aloadz_0, w_aloadv_0, m_cat_n, m_cat_i, m_cat_r, m_cat_z, m_cat_rv, m_cat_l, Nat.zero_le, Nat.reduceLeDiff, Nat.reduceAdd, cl_171, m_o_i, m_o_r, m_o_z, m_o_rv, m_C_inl, Option.toList_some, Option.toList_none, List.cons_append, List.nil_append, w_if_eq, gf_791, m_rv_s, m_rv_n, w_goto, tg_205_26, tg_205_63, tg_205_82, tg_205_103, tg_205_118, k_171_0, k_171_11, tg_171_11, k_171_12, tg_171_12, gf_794, w_if_ne, w_iconst, w_zret, w_icmp_eq, hs_n, hs_k, hs_l, hs_R, hs_I, hs_L, hs_setI, hs_setL, hs_cpy, f_k_135 I, n_135 I, f_R_135_1 I, f_k_136 I, f_l_136 I, n_136 I, x_136, up_up, up_sw, up_sa, up_if, i_add, i_sub, i_mul, i_tn, i_nat, Int.reduceToNat, Int.reduceAdd, Int.reduceSub, Int.reduceMul, Int.reduceNeg, l_32, l_nat, l_c_lt, l_c_gt, l_c_eq, i_lt, i_eq, i_lt0, i_0lt, i_eq0, i_eq1, Int.reduceLT, Int.reduceEq, Int.reduceLE, Int.reduceNe, not_true_eq_false, not_false_eq_true, Nat.lt_irrefl, Int.lt_irrefl, eq_self, eq_self, Nat.reduceAdd, Nat.reduceMul, Nat.reduceSub, Nat.reduceDiv, Nat.reduceMod, Nat.reduceEqDiff, Nat.reduceLeDiff, Nat.reduceLT, Nat.zero_add, Nat.add_zero, Nat.zero_le, and_false, and_true, and_self, false_and, true_and, or_false, or_true, if_true, if_false, ite_true, ite_false, ↓reduceIte, Int.reduceToNat, Int.reduceAdd, Int.reduceSub, Int.reduceMul, Int.reduceNeg, n1]
    exact hQ _ _ (G, (e, p)) ⟨1, fun q => absurd q.1 z, fun _ => rfl⟩ U l_rf hG
/-- what a good text leaves in the reference: the program in force -/
def q_pR (F : m_M) (G : tx_G) : Prop := (F 136 0 = G.1 0 ∧ F 136 2 = G.1 2 ∧ F 136 3 = G.1 3 ∧ F 136 4 = G.1 4 ∧ F 136 5 = G.1 5 ∧ F 136 6 = G.1 6 ∧ F 136 7 = G.1 7 ∧ F 136 8 = G.1 8) ∧ F 136 1 = (G.2.1.length : Int) ∧ G.2.1.length ≤ 8 ∧ (∀ i c, G.2.1[i]? = some c → F 137 i = c 1 ∧ F 138 i = c 2 ∧ F 143 i = c 3 ∧ F 139 i = c 4 ∧ F 140 i = c 5 ∧ F 141 i = c 6 ∧ F 142 i = c 7) ∧ G.2.2.length ≤ 900 ∧ ∀ k, k < G.2.2.length → F 144 k = G.2.2.getD k 0
theorem to_pR {F F' : m_M} {w : Int64} {b : Nat → Int} {n : Nat} {p : Nat} {G : tx_G} (T : q_to F F') (U : q_U F w b n (0, p) G.2.2) (g : q_G F b n G) : q_pR F' G := by
  obtain ⟨t1, t2, t3, t4, t5, t6, t7⟩ := T
  obtain ⟨⟨d0, d2, d3, d4, d5, d6, d7, d8⟩, g1, g2, g3⟩ := g
  obtain ⟨⟨c1, c2⟩, c3⟩ := U.2.2 rfl
  have h9 := V_n U.1
  have r3 := (V_0 U.1).2.2.1
  dsimp only at c3
  refine ⟨⟨(t2 0 (by omega)).trans d0, (t2 2 (by omega)).trans d2, (t2 3 (by omega)).trans d3, (t2 4 (by omega)).trans d4, (t2 5 (by omega)).trans d5, (t2 6 (by omega)).trans d6, (t2 7 (by omega)).trans d7, (t2 8 (by omega)).trans d8⟩, (t2 1 (by omega)).trans g1, g2, fun i c hc => ?_, by omega, fun k hk => (t4 k (by omega)).trans (c2 k hk)⟩
  have hi : i < G.2.1.length := (List.getElem?_eq_some_iff.mp hc).1
  obtain ⟨-, e1, e2, e3, e4, e5, e6, e7⟩ := g3 i c hc
  exact ⟨(t3 _ _ (by omega) (by omega) (by omega)).trans e1, (t3 _ _ (by omega) (by omega) (by omega)).trans e2, (t3 _ _ (by omega) (by omega) (by omega)).trans e3, (t3 _ _ (by omega) (by omega) (by omega)).trans e4, (t3 _ _ (by omega) (by omega) (by omega)).trans e5, (t3 _ _ (by omega) (by omega) (by omega)).trans e6, (t3 _ _ (by omega) (by omega) (by omega)).trans e7⟩
set_option maxHeartbeats 16000000 in
/-- load -/
theorem v_205 {L : Nat} {xs : Nat → Int32} {d : Nat} {h : m_H} {w : Int64} {F : m_M} {Q : Option Value ⊕ Nat → m_H → Prop} (I : RF h) {x : Int} (x0 : -2147483648 ≤ x) (x9 : x ≤ 2147483647) (hF : (0 ≤ F 135 19 ∧ F 135 19 ≤ 900) ∧ (∀ k, k < 900 → 0 ≤ F 151 k ∧ F 151 k ≤ 255) ∧ (0 ≤ F 135 24 ∧ F 135 24 ≤ 1000000)) (hE : ¬ (0 ≤ x ∧ x ≤ F 135 19) → Q (.inl (some (.int (Int32.ofInt 0)))) (m_hS h (w, m_up F 135 0 1))) (hB : 0 ≤ x → x ≤ F 135 19 → ∀ (w' : Int64) (F' : m_M) (Y : tx_G × tx_St), tx_tx (F 151, x.toNat) Y → ¬ Y.2.1 = 0 → F' 135 0 = 0 → F' 135 19 = 0 → F' 135 27 = (Y.2.2 : Int) → 0 ≤ F' 135 24 ∧ F' 135 24 ≤ 1000000 → (∀ x y, ¬ (x = 135 ∧ (y = 0 ∨ (19 ≤ y ∧ y ≤ 24) ∨ y = 26 ∨ y = 27 ∨ (31 ≤ y ∧ y ≤ 35))) → ¬ (x = 144 ∧ 1200 ≤ y) → ¬ x = 152 → ¬ (x = 136 ∧ 10 ≤ y) → ¬ (137 ≤ x ∧ x ≤ 143 ∧ 8 ≤ y) → ¬ (x = 145 ∨ x = 146) → F' x y = F x y) → Q (.inl (some (.int (Int32.ofInt (-10 - Y.2.1))))) (m_hS h (w', F'))) (hG : 0 ≤ x → x ≤ F 135 19 → ∀ (w' : Int64) (F' : m_M) (Y : tx_G × tx_St), tx_tx (F 151, x.toNat) Y → Y.2.1 = 0 → F' 135 0 = 0 → F' 135 19 = 0 → F' 135 27 = -1 → 0 ≤ F' 135 24 ∧ F' 135 24 ≤ 1000000 → q_pR F' Y.1 → q_r0 (F' 147) → F' 135 16 = 0 → F' 135 17 = 0 → (∀ x y, x = 151 ∨ x = 148 ∨ x = 149 ∨ x = 150 ∨ (x = 147 ∧ 2392 ≤ y) → F' x y = F x y) → q_xf F F' → Q (.inl (some (.int (Int32.ofInt (Y.1.2.1.length : Int))))) (m_hS h (w', F'))) : m_W (p_P L xs) (d + 13) 205 k_205_0 [some (.ref 135), some (.int (Int32.ofInt x))] [] (m_hS h (w, F)) Q := by
  obtain ⟨⟨b1, b2⟩, hb2, ⟨h6, h7⟩⟩ := hF
  by_cases c : 0 ≤ x ∧ x ≤ F 135 19
  · obtain ⟨n, rfl⟩ := Int.eq_ofNat_of_zero_le c.1
    have hn : n ≤ 900 := by omega
    rw [k_205_0]
    (repeat' (first | (simp (disch := first | omega | (simp (disch := omega) only [i_lt0, i_tn, i_nn, m_cat_n, m_cat_i, m_cat_r, m_cat_z, m_cat_rv, m_cat_l, m_o_n, m_o_i, m_o_r, m_o_z, m_o_rv, m_o_f, hs_n, hs_k, hs_l, f_k_135 I, n_135 I, f_R_135_1 I, f_k_136 I, f_l_136 I, n_136 I, x_136, Nat.reduceLeDiff, not_false_eq_true, or_true, true_or, or_false, false_or]; first | done | omega) | exact Or.inl rfl | exact Or.inr rfl) only [k_205_0, k_205_26, w_aload_0, w_aloadz_0, w_aloadv_0, w_iconst, pf_768, w_iload_1, w_i2l, w_ldc2, gf_787, m_rv_s, m_rv_n, m_cat_n, m_cat_i, m_cat_r, m_cat_z, m_cat_rv, m_cat_l, Nat.zero_le, Nat.reduceLeDiff, Nat.reduceAdd, cl_153, m_o_i, m_o_r, m_o_z, m_o_rv, m_C_inl, Option.toList_some, Option.toList_none, List.cons_append, List.nil_append, cl_154, w_if_eq, w_iret, pf_803, pf_799, w_if_ne, w_pop_i, w_pop_r, w_pop_z, w_pop_v, tg_205_26, tg_205_63, tg_205_82, tg_205_103, tg_205_118, k_153_0, k_153_17, tg_153_17, k_153_18, tg_153_18, w_lload_0, w_lload_2, w_lcmp, w_if_lt, w_lload_4, w_if_gt, w_goto, w_zret, k_154_0, k_154_6, tg_154_6, w_iload_2, w_icmp_eq, hs_n, hs_k, hs_l, hs_R, hs_I, hs_L, hs_setI, hs_setL, hs_cpy, f_k_135 I, n_135 I, f_R_135_1 I, f_k_136 I, f_l_136 I, n_136 I, x_136, up_up, up_sw, up_sa, up_if, i_add, i_sub, i_mul, i_tn, i_nat, Int.reduceToNat, Int.reduceAdd, Int.reduceSub, Int.reduceMul, Int.reduceNeg, l_32, l_nat, l_c_lt, l_c_gt, l_c_eq, i_lt, i_eq, i_lt0, i_0lt, i_eq0, i_eq1, Int.reduceLT, Int.reduceEq, Int.reduceLE, Int.reduceNe, not_true_eq_false, not_false_eq_true, Nat.lt_irrefl, Int.lt_irrefl, eq_self, eq_self, Nat.reduceAdd, Nat.reduceMul, Nat.reduceSub, Nat.reduceDiv, Nat.reduceMod, Nat.reduceEqDiff, Nat.reduceLeDiff, Nat.reduceLT, Nat.zero_add, Nat.add_zero, Nat.zero_le, and_false, and_true, and_self, false_and, true_and, or_false, or_true, if_true, if_false, ite_true, ite_false, ↓reduceIte, Int.reduceToNat, Int.reduceAdd, Int.reduceSub, Int.reduceMul, Int.reduceNeg]) | split))
    all_goals first
      | (exfalso; omega)
      | skip
    simp (disch := first | omega | (simp (disch := omega) only [i_lt0, i_tn, i_nn, m_cat_n, m_cat_i, m_cat_r, m_cat_z, m_cat_rv, m_cat_l, m_o_n, m_o_i, m_o_r, m_o_z, m_o_rv, m_o_f, hs_n, hs_k, hs_l, f_k_135 I, n_135 I, Nat.reduceLeDiff, not_false_eq_true, or_true, true_or, or_false, false_or]; first | done | omega) | exact Or.inl rfl | exact Or.inr rfl) only [cl_169, m_cat_n, m_cat_i, m_cat_r, m_cat_z, m_cat_rv, m_cat_l, Nat.zero_le, Nat.reduceLeDiff, Nat.reduceAdd, m_o_i, m_o_r, m_o_z, m_o_rv, hs_n, hs_k, f_k_135 I, n_135 I]
    refine v_169 I (b := F 151) (n := n) hn (fun k hk => by rw [up_no (by omega)]) (fun k hk => by rw [up_no (by omega)]; exact hb2 k hk) (by rw [up_no (by omega)]; exact h6) (by rw [up_no (by omega)]; exact h7) (fun w1 F1 V1 k19 fr1 => ?_)
    simp (disch := first | omega | (simp (disch := omega) only [i_lt0, i_tn, i_nn, m_cat_n, m_cat_i, m_cat_r, m_cat_z, m_cat_rv, m_cat_l, m_o_n, m_o_i, m_o_r, m_o_z, m_o_rv, m_o_f, hs_n, hs_k, hs_l, f_k_135 I, n_135 I, f_R_135_1 I, f_k_136 I, f_l_136 I, n_136 I, x_136, Nat.reduceLeDiff, not_false_eq_true, or_true, true_or, or_false, false_or]; first | done | omega) | exact Or.inl rfl | exact Or.inr rfl) only [k_205_26, w_aload_0, w_aloadz_0, w_aloadv_0, w_iload_1, m_cat_n, m_cat_i, m_cat_r, m_cat_z, m_cat_rv, m_cat_l, Nat.zero_le, Nat.reduceLeDiff, Nat.reduceAdd, m_o_i, m_o_r, m_o_z, m_o_rv, m_C_inl, Option.toList_some, Option.toList_none, List.cons_append, List.nil_append, w_iconst, pf_803, pf_799, w_ldc2, w_if_ne, w_pop_i, w_pop_r, w_pop_z, w_pop_v, tg_205_26, tg_205_63, tg_205_82, tg_205_103, tg_205_118, w_icmp_eq, w_if_eq, hs_n, hs_k, hs_l, hs_R, hs_I, hs_L, hs_setI, hs_setL, hs_cpy, f_k_135 I, n_135 I, f_R_135_1 I, f_k_136 I, f_l_136 I, n_136 I, x_136, up_up, up_sw, up_sa, up_if, i_add, i_sub, i_mul, i_tn, i_nat, Int.reduceToNat, Int.reduceAdd, Int.reduceSub, Int.reduceMul, Int.reduceNeg, l_32, l_nat, l_c_lt, l_c_gt, l_c_eq, i_lt, i_eq, i_lt0, i_0lt, i_eq0, i_eq1, Int.reduceLT, Int.reduceEq, Int.reduceLE, Int.reduceNe, not_true_eq_false, not_false_eq_true, Nat.lt_irrefl, Int.lt_irrefl, eq_self, eq_self, Nat.reduceAdd, Nat.reduceMul, Nat.reduceSub, Nat.reduceDiv, Nat.reduceMod, Nat.reduceEqDiff, Nat.reduceLeDiff, Nat.reduceLT, Nat.zero_add, Nat.add_zero, Nat.zero_le, and_false, and_true, and_self, false_and, true_and, or_false, or_true, if_true, if_false, ite_true, ite_false, ↓reduceIte, Int.reduceToNat, Int.reduceAdd, Int.reduceSub, Int.reduceMul, Int.reduceNeg]
    simp (disch := first | omega | (simp (disch := omega) only [i_lt0, i_tn, i_nn, m_cat_n, m_cat_i, m_cat_r, m_cat_z, m_cat_rv, m_cat_l, m_o_n, m_o_i, m_o_r, m_o_z, m_o_rv, m_o_f, hs_n, hs_k, hs_l, f_k_135 I, n_135 I, Nat.reduceLeDiff, not_false_eq_true, or_true, true_or, or_false, false_or]; first | done | omega) | exact Or.inl rfl | exact Or.inr rfl) only [cl_156, m_cat_n, m_cat_i, m_cat_r, m_cat_z, m_cat_rv, m_cat_l, Nat.zero_le, Nat.reduceLeDiff, Nat.reduceAdd, m_o_i, m_o_r, m_o_z, m_o_rv, hs_n, hs_k, f_k_135 I, n_135 I]
    refine v_156 I (fun F2 fr2 e11 hD => ?_)
    have hK : ∃ K : m_M, K = m_up (m_up F2 135 31 1200) 135 35 0 := ⟨_, rfl⟩
    obtain ⟨K, hK⟩ := hK
    have frK : ∀ x y, ¬ (x = 135 ∧ (y = 31 ∨ y = 35)) → K x y = F2 x y := fun x y hx => by rw [hK, up_no (by omega), up_no (by omega)]
    have k31 : K 135 31 = 1200 := by rw [hK, up_no (by omega), up_eq rfl rfl]
    have k35 : K 135 35 = 0 := by rw [hK, up_eq rfl rfl]
    have VK : q_V K w1 (F 151) n (0, tx_sk (F 151) n 0) := V_cg V1 (fun x y hx => by rw [frK _ _ (by omega), fr2 _ _ (by omega)])
    have UK : q_U K w1 (F 151) n (0, tx_sk (F 151) n 0) [] := ⟨VK, k35, fun _ => ⟨⟨by rw [k31]; rfl, fun k hk => by cases hk⟩, Nat.zero_le _⟩⟩
    have DK : q_Dn K tx_D0 := by
      obtain ⟨d0, d2, d3, d4, d5, d6, d7, d8⟩ := hD
      exact ⟨(frK _ _ (by omega)).trans d0, (frK _ _ (by omega)).trans d2, (frK _ _ (by omega)).trans d3, (frK _ _ (by omega)).trans d4, (frK _ _ (by omega)).trans d5, (frK _ _ (by omega)).trans d6, (frK _ _ (by omega)).trans d7, (frK _ _ (by omega)).trans d8⟩
    have GK : q_G K (F 151) n (tx_D0, [], []) := ⟨DK, (frK _ _ (by omega)).trans e11, Nat.zero_le _, fun i c hc => by cases hc⟩
    have k0 : K 135 0 = 0 := by rw [frK _ _ (by omega), fr2 _ _ (by omega), fr1 _ _ (by omega), up_eq rfl rfl]
    have kk19 : K 135 19 = 0 := by rw [frK _ _ (by omega), fr2 _ _ (by omega)]; exact k19
    have kfr : ∀ x y, ¬ (x = 135 ∧ (y = 0 ∨ (19 ≤ y ∧ y ≤ 24) ∨ y = 26 ∨ y = 27 ∨ y = 31 ∨ y = 35)) → ¬ (x = 136 ∧ 10 ≤ y) → K x y = F x y := fun x y h1 h2 => by
      rw [frK _ _ (by omega), fr2 _ _ (by omega), fr1 _ _ (by omega), up_no (by omega)]
    simp (disch := first | omega | (simp (disch := omega) only [i_lt0, i_tn, i_nn, m_cat_n, m_cat_i, m_cat_r, m_cat_z, m_cat_rv, m_cat_l, m_o_n, m_o_i, m_o_r, m_o_z, m_o_rv, m_o_f, hs_n, hs_k, hs_l, f_k_135 I, n_135 I, f_R_135_1 I, f_k_136 I, f_l_136 I, n_136 I, x_136, Nat.reduceLeDiff, not_false_eq_true, or_true, true_or, or_false, false_or]; first | done | omega) | exact Or.inl rfl | exact Or.inr rfl) only [k_205_26, w_aload_0, w_aloadz_0, w_aloadv_0, w_iload_1, m_cat_n, m_cat_i, m_cat_r, m_cat_z, m_cat_rv, m_cat_l, Nat.zero_le, Nat.reduceLeDiff, Nat.reduceAdd, m_o_i, m_o_r, m_o_z, m_o_rv, m_C_inl, Option.toList_some, Option.toList_none, List.cons_append, List.nil_append, w_iconst, pf_803, pf_799, w_ldc2, w_if_ne, w_pop_i, w_pop_r, w_pop_z, w_pop_v, tg_205_26, tg_205_63, tg_205_82, tg_205_103, tg_205_118, w_icmp_eq, w_if_eq, hs_n, hs_k, hs_l, hs_R, hs_I, hs_L, hs_setI, hs_setL, hs_cpy, f_k_135 I, n_135 I, f_R_135_1 I, f_k_136 I, f_l_136 I, n_136 I, x_136, up_up, up_sw, up_sa, up_if, i_add, i_sub, i_mul, i_tn, i_nat, Int.reduceToNat, Int.reduceAdd, Int.reduceSub, Int.reduceMul, Int.reduceNeg, l_32, l_nat, l_c_lt, l_c_gt, l_c_eq, i_lt, i_eq, i_lt0, i_0lt, i_eq0, i_eq1, Int.reduceLT, Int.reduceEq, Int.reduceLE, Int.reduceNe, not_true_eq_false, not_false_eq_true, Nat.lt_irrefl, Int.lt_irrefl, eq_self, eq_self, Nat.reduceAdd, Nat.reduceMul, Nat.reduceSub, Nat.reduceDiv, Nat.reduceMod, Nat.reduceEqDiff, Nat.reduceLeDiff, Nat.reduceLT, Nat.zero_add, Nat.add_zero, Nat.zero_le, and_false, and_true, and_self, false_and, true_and, or_false, or_true, if_true, if_false, ite_true, ite_false, ↓reduceIte, Int.reduceToNat, Int.reduceAdd, Int.reduceSub, Int.reduceMul, Int.reduceNeg]
    try rw [← hK]
    simp (disch := first | omega | (simp (disch := omega) only [i_lt0, i_tn, i_nn, m_cat_n, m_cat_i, m_cat_r, m_cat_z, m_cat_rv, m_cat_l, m_o_n, m_o_i, m_o_r, m_o_z, m_o_rv, m_o_f, hs_n, hs_k, hs_l, f_k_135 I, n_135 I, Nat.reduceLeDiff, not_false_eq_true, or_true, true_or, or_false, false_or]; first | done | omega) | exact Or.inl rfl | exact Or.inr rfl) only [cl_173, m_cat_n, m_cat_i, m_cat_r, m_cat_z, m_cat_rv, m_cat_l, Nat.zero_le, Nat.reduceLeDiff, Nat.reduceAdd, m_o_i, m_o_r, m_o_z, m_o_rv, hs_n, hs_k, f_k_135 I, n_135 I]
    -- from the number on
    have fin : ∀ (w3 : Int64) (K3 : m_M) (s : tx_St), s = tx_wr (F 151, n) 0 (0, tx_sk (F 151) n 0) → q_V K3 w3 (F 151) n s → q_f1 K K3 → (s.1 = 0 → tx_sk (F 151) n 0 ≤ s.2) → m_W (p_P L xs) (d + 13) 205 k_205_63 [some (.ref 135), some (.int (Int32.ofInt (n : Int)))] [] (m_hS h (w3, K3)) Q := fun w3 K3 s hs V3 f3 hle => by
      obtain ⟨e3, p3⟩ := s
      have U3 : q_U K3 w3 (F 151) n (e3, p3) [] := U_f1 UK f3 V3 (fun z9 => ⟨rfl, hle z9⟩)
      have G3 := G_b (b_f1 f3) GK
      rw [k_205_63]
      simp (disch := first | omega | (simp (disch := omega) only [i_lt0, i_tn, i_nn, m_cat_n, m_cat_i, m_cat_r, m_cat_z, m_cat_rv, m_cat_l, m_o_n, m_o_i, m_o_r, m_o_z, m_o_rv, m_o_f, hs_n, hs_k, hs_l, f_k_135 I, n_135 I, f_R_135_1 I, f_k_136 I, f_l_136 I, n_136 I, x_136, Nat.reduceLeDiff, not_false_eq_true, or_true, true_or, or_false, false_or]; first | done | omega) | exact Or.inl rfl | exact Or.inr rfl) only [k_205_63, w_aload_0, w_aloadz_0, w_aloadv_0, gf_769, m_rv_s, m_rv_n, w_iconst, m_cat_n, m_cat_i, m_cat_r, m_cat_z, m_cat_rv, m_cat_l, Nat.zero_le, Nat.reduceLeDiff, Nat.reduceAdd, m_o_i, m_o_r, m_o_z, m_o_rv, m_C_inl, Option.toList_some, Option.toList_none, List.cons_append, List.nil_append, w_iastore, tg_205_26, tg_205_63, tg_205_82, tg_205_103, tg_205_118, w_icmp_eq, w_if_eq, hs_n, hs_k, hs_l, hs_R, hs_I, hs_L, hs_setI, hs_setL, hs_cpy, f_k_135 I, n_135 I, f_R_135_1 I, f_k_136 I, f_l_136 I, n_136 I, x_136, up_up, up_sw, up_sa, up_if, i_add, i_sub, i_mul, i_tn, i_nat, Int.reduceToNat, Int.reduceAdd, Int.reduceSub, Int.reduceMul, Int.reduceNeg, l_32, l_nat, l_c_lt, l_c_gt, l_c_eq, i_lt, i_eq, i_lt0, i_0lt, i_eq0, i_eq1, Int.reduceLT, Int.reduceEq, Int.reduceLE, Int.reduceNe, not_true_eq_false, not_false_eq_true, Nat.lt_irrefl, Int.lt_irrefl, eq_self, eq_self, Nat.reduceAdd, Nat.reduceMul, Nat.reduceSub, Nat.reduceDiv, Nat.reduceMod, Nat.reduceEqDiff, Nat.reduceLeDiff, Nat.reduceLT, Nat.zero_add, Nat.add_zero, Nat.zero_le, and_false, and_true, and_self, false_and, true_and, or_false, or_true, if_true, if_false, ite_true, ite_false, ↓reduceIte, Int.reduceToNat, Int.reduceAdd, Int.reduceSub, Int.reduceMul, Int.reduceNeg]
      simp (disch := first | omega | (simp (disch := omega) only [i_lt0, i_tn, i_nn, m_cat_n, m_cat_i, m_cat_r, m_cat_z, m_cat_rv, m_cat_l, m_o_n, m_o_i, m_o_r, m_o_z, m_o_rv, m_o_f, hs_n, hs_k, hs_l, f_k_135 I, n_135 I, Nat.reduceLeDiff, not_false_eq_true, or_true, true_or, or_false, false_or]; first | done | omega) | exact Or.inl rfl | exact Or.inr rfl) only [cl_176, m_cat_n, m_cat_i, m_cat_r, m_cat_z, m_cat_rv, m_cat_l, Nat.zero_le, Nat.reduceLeDiff, Nat.reduceAdd, m_o_i, m_o_r, m_o_z, m_o_rv, hs_n, hs_k, f_k_135 I, n_135 I]
      have nc9 := nb_c (T := (F 151, n)) (lo := 1) (hi := 4) (s := (e3, p3))
      refine v_176 I V3 (by decide) (by decide) (by decide) (by decide) (fun w4 F4 f4 V4 => ?_)
      have U4 := U_f1 U3 f4 V4 (fun z9 => ⟨(nc9 z9).2.2.1, Nat.le_of_lt (nc9 z9).2.2.2.1⟩)
      have G4 := G_u1 (j := 0) (v := (tx_nb (F 151, n) 1 4 (e3, p3)).2) (by decide) (by decide) (G_b (b_f1 f4) G3)
      have U5 : q_U (m_up F4 136 10 (tx_nb (F 151, n) 1 4 (e3, p3)).2) w4 (F 151) n (tx_nb (F 151, n) 1 4 (e3, p3)).1 [] := U_cg U4 (fun x y hx => up_no (by omega))
      simp (disch := first | omega | (simp (disch := omega) only [i_lt0, i_tn, i_nn, m_cat_n, m_cat_i, m_cat_r, m_cat_z, m_cat_rv, m_cat_l, m_o_n, m_o_i, m_o_r, m_o_z, m_o_rv, m_o_f, hs_n, hs_k, hs_l, f_k_135 I, n_135 I, f_R_135_1 I, f_k_136 I, f_l_136 I, n_136 I, x_136, Nat.reduceLeDiff, not_false_eq_true, or_true, true_or, or_false, false_or]; first | done | omega) | exact Or.inl rfl | exact Or.inr rfl) only [k_205_63, w_aload_0, w_aloadz_0, w_aloadv_0, gf_769, m_rv_s, m_rv_n, w_iconst, m_cat_n, m_cat_i, m_cat_r, m_cat_z, m_cat_rv, m_cat_l, Nat.zero_le, Nat.reduceLeDiff, Nat.reduceAdd, m_o_i, m_o_r, m_o_z, m_o_rv, m_C_inl, Option.toList_some, Option.toList_none, List.cons_append, List.nil_append, w_iastore, tg_205_26, tg_205_63, tg_205_82, tg_205_103, tg_205_118, w_icmp_eq, w_if_eq, hs_n, hs_k, hs_l, hs_R, hs_I, hs_L, hs_setI, hs_setL, hs_cpy, f_k_135 I, n_135 I, f_R_135_1 I, f_k_136 I, f_l_136 I, n_136 I, x_136, up_up, up_sw, up_sa, up_if, i_add, i_sub, i_mul, i_tn, i_nat, Int.reduceToNat, Int.reduceAdd, Int.reduceSub, Int.reduceMul, Int.reduceNeg, l_32, l_nat, l_c_lt, l_c_gt, l_c_eq, i_lt, i_eq, i_lt0, i_0lt, i_eq0, i_eq1, Int.reduceLT, Int.reduceEq, Int.reduceLE, Int.reduceNe, not_true_eq_false, not_false_eq_true, Nat.lt_irrefl, Int.lt_irrefl, eq_self, eq_self, Nat.reduceAdd, Nat.reduceMul, Nat.reduceSub, Nat.reduceDiv, Nat.reduceMod, Nat.reduceEqDiff, Nat.reduceLeDiff, Nat.reduceLT, Nat.zero_add, Nat.add_zero, Nat.zero_le, and_false, and_true, and_self, false_and, true_and, or_false, or_true, if_true, if_false, ite_true, ite_false, ↓reduceIte, Int.reduceToNat, Int.reduceAdd, Int.reduceSub, Int.reduceMul, Int.reduceNeg]
      simp (disch := first | omega | (simp (disch := omega) only [i_lt0, i_tn, i_nn, m_cat_n, m_cat_i, m_cat_r, m_cat_z, m_cat_rv, m_cat_l, m_o_n, m_o_i, m_o_r, m_o_z, m_o_rv, m_o_f, hs_n, hs_k, hs_l, f_k_135 I, n_135 I, Nat.reduceLeDiff, not_false_eq_true, or_true, true_or, or_false, false_or]; first | done | omega) | exact Or.inl rfl | exact Or.inr rfl) only [cl_175, m_cat_n, m_cat_i, m_cat_r, m_cat_z, m_cat_rv, m_cat_l, Nat.zero_le, Nat.reduceLeDiff, Nat.reduceAdd, m_o_i, m_o_r, m_o_z, m_o_rv, hs_n, hs_k, f_k_135 I, n_135 I]
      have sl := sg_len (T := (F 151, n)) (c := 59) (s := (tx_nb (F 151, n) 1 4 (e3, p3)).1)
      have V5 : q_V (m_up F4 136 10 (tx_nb (F 151, n) 1 4 (e3, p3)).2) w4 (F 151) n ((tx_nb (F 151, n) 1 4 (e3, p3)).1.1, (tx_nb (F 151, n) 1 4 (e3, p3)).1.2) := U5.1
      refine v_175 I V5 (by decide) (by decide) rfl rfl (fun w6 F6 f6 V6 => ?_)
      have U6 : q_U F6 w6 (F 151) n (tx_sg (F 151, n) 59 (tx_nb (F 151, n) 1 4 (e3, p3)).1) [] := U_f1 U5 f6 V6 (fun z9 => ⟨(sl z9).1, Nat.le_of_lt (sl z9).2.1⟩)
      have G6 := G_b (b_f1 f6) G4
      simp (disch := first | omega | (simp (disch := omega) only [i_lt0, i_tn, i_nn, m_cat_n, m_cat_i, m_cat_r, m_cat_z, m_cat_rv, m_cat_l, m_o_n, m_o_i, m_o_r, m_o_z, m_o_rv, m_o_f, hs_n, hs_k, hs_l, f_k_135 I, n_135 I, f_R_135_1 I, f_k_136 I, f_l_136 I, n_136 I, x_136, Nat.reduceLeDiff, not_false_eq_true, or_true, true_or, or_false, false_or]; first | done | omega) | exact Or.inl rfl | exact Or.inr rfl) only [k_205_63, w_aload_0, w_aloadz_0, w_aloadv_0, gf_769, m_rv_s, m_rv_n, w_iconst, m_cat_n, m_cat_i, m_cat_r, m_cat_z, m_cat_rv, m_cat_l, Nat.zero_le, Nat.reduceLeDiff, Nat.reduceAdd, m_o_i, m_o_r, m_o_z, m_o_rv, m_C_inl, Option.toList_some, Option.toList_none, List.cons_append, List.nil_append, w_iastore, tg_205_26, tg_205_63, tg_205_82, tg_205_103, tg_205_118, w_icmp_eq, w_if_eq, hs_n, hs_k, hs_l, hs_R, hs_I, hs_L, hs_setI, hs_setL, hs_cpy, f_k_135 I, n_135 I, f_R_135_1 I, f_k_136 I, f_l_136 I, n_136 I, x_136, up_up, up_sw, up_sa, up_if, i_add, i_sub, i_mul, i_tn, i_nat, Int.reduceToNat, Int.reduceAdd, Int.reduceSub, Int.reduceMul, Int.reduceNeg, l_32, l_nat, l_c_lt, l_c_gt, l_c_eq, i_lt, i_eq, i_lt0, i_0lt, i_eq0, i_eq1, Int.reduceLT, Int.reduceEq, Int.reduceLE, Int.reduceNe, not_true_eq_false, not_false_eq_true, Nat.lt_irrefl, Int.lt_irrefl, eq_self, eq_self, Nat.reduceAdd, Nat.reduceMul, Nat.reduceSub, Nat.reduceDiv, Nat.reduceMod, Nat.reduceEqDiff, Nat.reduceLeDiff, Nat.reduceLT, Nat.zero_add, Nat.add_zero, Nat.zero_le, and_false, and_true, and_self, false_and, true_and, or_false, or_true, if_true, if_false, ite_true, ite_false, ↓reduceIte, Int.reduceToNat, Int.reduceAdd, Int.reduceSub, Int.reduceMul, Int.reduceNeg]
      have hh : tx_h0 (F 151, n) = ((tx_u1 tx_D0 0 (tx_nb (F 151, n) 1 4 (e3, p3)).2, [], []), tx_sg (F 151, n) 59 (tx_nb (F 151, n) 1 4 (e3, p3)).1) := by
        unfold tx_h0
        rw [hs]
      have l6 : q_l K F6 := l_tr (l_up (by omega) (l_b (b_tr (b_f1 f3) (b_f1 f4)))) (l_b (b_f1 f6))
      refine m_W_le (by omega) (lx_205 (d := d + 1) I (n - (tx_sg (F 151, n) 59 (tx_nb (F 151, n) 1 4 (e3, p3)).1).2) w6 F6 Q (tx_u1 tx_D0 0 (tx_nb (F 151, n) 1 4 (e3, p3)).2, [], []) _ _ U6 (fun _ => G6) (Nat.le_refl _) (fun w7 F7 Y hY U7 l7 g7 => ?_))
      have hTX : tx_tx (F 151, n) Y := by
        obtain ⟨f, hf⟩ := hY
        exact ⟨f, by rw [hh]; exact hf⟩
      have l17 := l_tr l6 l7
      obtain ⟨Y1, e7, p7⟩ := Y
      have q0 : F7 135 0 = 0 := (l17 _ _ (by omega) (by omega) (by omega) (by omega) (by omega) (by omega)).trans k0
      have q19 : F7 135 19 = 0 := (l17 _ _ (by omega) (by omega) (by omega) (by omega) (by omega) (by omega)).trans kk19
      by_cases z7 : e7 = 0
      · subst z7
        have r17 := (V_0 U7.1).1
        have r27 := V_27 U7.1
        rw [k_205_103]
        simp (disch := first | omega | (simp (disch := omega) only [i_lt0, i_tn, i_nn, m_cat_n, m_cat_i, m_cat_r, m_cat_z, m_cat_rv, m_cat_l, m_o_n, m_o_i, m_o_r, m_o_z, m_o_rv, m_o_f, hs_n, hs_k, hs_l, f_k_135 I, n_135 I, f_R_135_1 I, f_k_136 I, f_l_136 I, n_136 I, x_136, Nat.reduceLeDiff, not_false_eq_true, or_true, true_or, or_false, false_or]; first | done | omega) | exact Or.inl rfl | exact Or.inr rfl) only [k_205_103, k_205_118, w_aload_0, w_aloadz_0, w_aloadv_0, m_cat_n, m_cat_i, m_cat_r, m_cat_z, m_cat_rv, m_cat_l, Nat.zero_le, Nat.reduceLeDiff, Nat.reduceAdd, cl_171, m_o_i, m_o_r, m_o_z, m_o_rv, m_C_inl, Option.toList_some, Option.toList_none, List.cons_append, List.nil_append, w_if_ne, w_iconst, gf_794, m_rv_s, m_rv_n, w_isub, w_iret, gf_769, w_iaload, w_script, tg_205_26, tg_205_63, tg_205_82, tg_205_103, tg_205_118, k_171_0, k_171_11, tg_171_11, k_171_12, tg_171_12, w_goto, w_zret, w_icmp_eq, w_if_eq, hs_n, hs_k, hs_l, hs_R, hs_I, hs_L, hs_setI, hs_setL, hs_cpy, f_k_135 I, n_135 I, f_R_135_1 I, f_k_136 I, f_l_136 I, n_136 I, x_136, up_up, up_sw, up_sa, up_if, i_add, i_sub, i_mul, i_tn, i_nat, Int.reduceToNat, Int.reduceAdd, Int.reduceSub, Int.reduceMul, Int.reduceNeg, l_32, l_nat, l_c_lt, l_c_gt, l_c_eq, i_lt, i_eq, i_lt0, i_0lt, i_eq0, i_eq1, Int.reduceLT, Int.reduceEq, Int.reduceLE, Int.reduceNe, not_true_eq_false, not_false_eq_true, Nat.lt_irrefl, Int.lt_irrefl, eq_self, eq_self, Nat.reduceAdd, Nat.reduceMul, Nat.reduceSub, Nat.reduceDiv, Nat.reduceMod, Nat.reduceEqDiff, Nat.reduceLeDiff, Nat.reduceLT, Nat.zero_add, Nat.add_zero, Nat.zero_le, and_false, and_true, and_self, false_and, true_and, or_false, or_true, if_true, if_false, ite_true, ite_false, ↓reduceIte, Int.reduceToNat, Int.reduceAdd, Int.reduceSub, Int.reduceMul, Int.reduceNeg, r17]
        simp (disch := first | omega | (simp (disch := omega) only [i_lt0, i_tn, i_nn, m_cat_n, m_cat_i, m_cat_r, m_cat_z, m_cat_rv, m_cat_l, m_o_n, m_o_i, m_o_r, m_o_z, m_o_rv, m_o_f, hs_n, hs_k, hs_l, f_k_135 I, n_135 I, Nat.reduceLeDiff, not_false_eq_true, or_true, true_or, or_false, false_or]; first | done | omega) | exact Or.inl rfl | exact Or.inr rfl) only [cl_158, m_cat_n, m_cat_i, m_cat_r, m_cat_z, m_cat_rv, m_cat_l, Nat.zero_le, Nat.reduceLeDiff, Nat.reduceAdd, m_o_i, m_o_r, m_o_z, m_o_rv, hs_n, hs_k, f_k_135 I, n_135 I]
        refine v_158 I (fun F8 T8 => ?_)
        have hp8 := to_pR T8 U7 (g7 rfl)
        obtain ⟨t1, t2, t3, t4, t5, t6, t7, t8⟩ := T8
        have e81 : F8 136 1 = (Y1.2.1.length : Int) := hp8.2.1
        simp (disch := first | omega | (simp (disch := omega) only [i_lt0, i_tn, i_nn, m_cat_n, m_cat_i, m_cat_r, m_cat_z, m_cat_rv, m_cat_l, m_o_n, m_o_i, m_o_r, m_o_z, m_o_rv, m_o_f, hs_n, hs_k, hs_l, f_k_135 I, n_135 I, f_R_135_1 I, f_k_136 I, f_l_136 I, n_136 I, x_136, Nat.reduceLeDiff, not_false_eq_true, or_true, true_or, or_false, false_or]; first | done | omega) | exact Or.inl rfl | exact Or.inr rfl) only [k_205_118, w_aload_0, w_aloadz_0, w_aloadv_0, m_cat_n, m_cat_i, m_cat_r, m_cat_z, m_cat_rv, m_cat_l, Nat.zero_le, Nat.reduceLeDiff, Nat.reduceAdd, m_o_i, m_o_r, m_o_z, m_o_rv, m_C_inl, Option.toList_some, Option.toList_none, List.cons_append, List.nil_append, gf_769, m_rv_s, m_rv_n, w_iconst, w_iaload, w_script, w_iret, tg_205_26, tg_205_63, tg_205_82, tg_205_103, tg_205_118, w_icmp_eq, w_if_eq, hs_n, hs_k, hs_l, hs_R, hs_I, hs_L, hs_setI, hs_setL, hs_cpy, f_k_135 I, n_135 I, f_R_135_1 I, f_k_136 I, f_l_136 I, n_136 I, x_136, up_up, up_sw, up_sa, up_if, i_add, i_sub, i_mul, i_tn, i_nat, Int.reduceToNat, Int.reduceAdd, Int.reduceSub, Int.reduceMul, Int.reduceNeg, l_32, l_nat, l_c_lt, l_c_gt, l_c_eq, i_lt, i_eq, i_lt0, i_0lt, i_eq0, i_eq1, Int.reduceLT, Int.reduceEq, Int.reduceLE, Int.reduceNe, not_true_eq_false, not_false_eq_true, Nat.lt_irrefl, Int.lt_irrefl, eq_self, eq_self, Nat.reduceAdd, Nat.reduceMul, Nat.reduceSub, Nat.reduceDiv, Nat.reduceMod, Nat.reduceEqDiff, Nat.reduceLeDiff, Nat.reduceLT, Nat.zero_add, Nat.add_zero, Nat.zero_le, and_false, and_true, and_self, false_and, true_and, or_false, or_true, if_true, if_false, ite_true, ite_false, ↓reduceIte, Int.reduceToNat, Int.reduceAdd, Int.reduceSub, Int.reduceMul, Int.reduceNeg, e81]
        refine hG c.1 c.2 _ _ _ (by rw [Int.toNat_natCast]; exact hTX) rfl ((t1 _ _ (by omega) (by omega) (by omega)).trans q0) ((t1 _ _ (by omega) (by omega) (by omega)).trans q19) ((t1 _ _ (by omega) (by omega) (by omega)).trans r27) (by rw [t1 _ _ (by omega) (by omega) (by omega)]; exact U7.1.2.1.2.2.2.2) hp8 t5 t6 t7 (fun x y hx => ?_) (fun x y hx => ?_)
        · by_cases c9 : x = 147
          · rw [c9, t8 y (by omega), l17 _ _ (by omega) (by omega) (by omega) (by omega) (by omega) (by omega), kfr _ _ (by omega) (by omega)]
          · rw [t1 _ _ (by omega) (by omega) (by omega), l17 _ _ (by omega) (by omega) (by omega) (by omega) (by omega) (by omega), kfr _ _ (by omega) (by omega)]
        · rw [t1 _ _ (by omega) (by omega) (by omega), l17 _ _ (by omega) (by omega) (by omega) (by omega) (by omega) (by omega), kfr _ _ (by omega) (by omega)]
      · obtain ⟨r26, r27⟩ := V_e U7.1 z7
        have r26' : ¬ F7 135 26 = 0 := by rw [r26]; exact z7
        have hw4 := U7.1.1.2.2.1
        rw [k_205_103]
        simp (disch := first | omega | (simp (disch := omega) only [i_lt0, i_tn, i_nn, m_cat_n, m_cat_i, m_cat_r, m_cat_z, m_cat_rv, m_cat_l, m_o_n, m_o_i, m_o_r, m_o_z, m_o_rv, m_o_f, hs_n, hs_k, hs_l, f_k_135 I, n_135 I, f_R_135_1 I, f_k_136 I, f_l_136 I, n_136 I, x_136, Nat.reduceLeDiff, not_false_eq_true, or_true, true_or, or_false, false_or]; first | done | omega) | exact Or.inl rfl | exact Or.inr rfl) only [k_205_103, w_aload_0, w_aloadz_0, w_aloadv_0, m_cat_n, m_cat_i, m_cat_r, m_cat_z, m_cat_rv, m_cat_l, Nat.zero_le, Nat.reduceLeDiff, Nat.reduceAdd, cl_171, m_o_i, m_o_r, m_o_z, m_o_rv, m_C_inl, Option.toList_some, Option.toList_none, List.cons_append, List.nil_append, w_if_ne, w_iconst, gf_794, m_rv_s, m_rv_n, w_isub, w_iret, tg_205_26, tg_205_63, tg_205_82, tg_205_103, tg_205_118, k_171_0, k_171_11, tg_171_11, k_171_12, tg_171_12, w_goto, w_zret, w_icmp_eq, w_if_eq, hs_n, hs_k, hs_l, hs_R, hs_I, hs_L, hs_setI, hs_setL, hs_cpy, f_k_135 I, n_135 I, f_R_135_1 I, f_k_136 I, f_l_136 I, n_136 I, x_136, up_up, up_sw, up_sa, up_if, i_add, i_sub, i_mul, i_tn, i_nat, Int.reduceToNat, Int.reduceAdd, Int.reduceSub, Int.reduceMul, Int.reduceNeg, l_32, l_nat, l_c_lt, l_c_gt, l_c_eq, i_lt, i_eq, i_lt0, i_0lt, i_eq0, i_eq1, Int.reduceLT, Int.reduceEq, Int.reduceLE, Int.reduceNe, not_true_eq_false, not_false_eq_true, Nat.lt_irrefl, Int.lt_irrefl, eq_self, eq_self, Nat.reduceAdd, Nat.reduceMul, Nat.reduceSub, Nat.reduceDiv, Nat.reduceMod, Nat.reduceEqDiff, Nat.reduceLeDiff, Nat.reduceLT, Nat.zero_add, Nat.add_zero, Nat.zero_le, and_false, and_true, and_self, false_and, true_and, or_false, or_true, if_true, if_false, ite_true, ite_false, ↓reduceIte, Int.reduceToNat, Int.reduceAdd, Int.reduceSub, Int.reduceMul, Int.reduceNeg, r26']
        have hK9 := hB c.1 c.2 w7 F7 (Y1, (e7, p7)) (by rw [Int.toNat_natCast]; exact hTX) z7 q0 q19 r27 U7.1.2.1.2.2.2.2 (fun x y n1 n2 n3 n4 n5 n6 => by rw [l17 x y (by omega) n2 n3 n4 n5 n6, kfr x y (by omega) n4])
        dsimp only at hK9
        rw [← r26] at hK9
        exact hK9
    refine v_173 I VK (j := 0) (by decide) (by decide) (fun _ hw w3 F3 f3 V3 => ?_) (fun q0 => ?_)
    · have hp : tx_sk (F 151) n 0 < n := (tx_k1.mp (tx_wk (T := (F 151, n)) hw)).1
      have gt := tx_nx_gt (b := F 151) hp
      simp (disch := first | omega | (simp (disch := omega) only [i_lt0, i_tn, i_nn, m_cat_n, m_cat_i, m_cat_r, m_cat_z, m_cat_rv, m_cat_l, m_o_n, m_o_i, m_o_r, m_o_z, m_o_rv, m_o_f, hs_n, hs_k, hs_l, f_k_135 I, n_135 I, f_R_135_1 I, f_k_136 I, f_l_136 I, n_136 I, x_136, Nat.reduceLeDiff, not_false_eq_true, or_true, true_or, or_false, false_or]; first | done | omega) | exact Or.inl rfl | exact Or.inr rfl) only [k_205_26, w_aload_0, w_aloadz_0, w_aloadv_0, w_iload_1, m_cat_n, m_cat_i, m_cat_r, m_cat_z, m_cat_rv, m_cat_l, Nat.zero_le, Nat.reduceLeDiff, Nat.reduceAdd, m_o_i, m_o_r, m_o_z, m_o_rv, m_C_inl, Option.toList_some, Option.toList_none, List.cons_append, List.nil_append, w_iconst, pf_803, pf_799, w_ldc2, w_if_ne, w_pop_i, w_pop_r, w_pop_z, w_pop_v, tg_205_26, tg_205_63, tg_205_82, tg_205_103, tg_205_118, w_icmp_eq, w_if_eq, hs_n, hs_k, hs_l, hs_R, hs_I, hs_L, hs_setI, hs_setL, hs_cpy, f_k_135 I, n_135 I, f_R_135_1 I, f_k_136 I, f_l_136 I, n_136 I, x_136, up_up, up_sw, up_sa, up_if, i_add, i_sub, i_mul, i_tn, i_nat, Int.reduceToNat, Int.reduceAdd, Int.reduceSub, Int.reduceMul, Int.reduceNeg, l_32, l_nat, l_c_lt, l_c_gt, l_c_eq, i_lt, i_eq, i_lt0, i_0lt, i_eq0, i_eq1, Int.reduceLT, Int.reduceEq, Int.reduceLE, Int.reduceNe, not_true_eq_false, not_false_eq_true, Nat.lt_irrefl, Int.lt_irrefl, eq_self, eq_self, Nat.reduceAdd, Nat.reduceMul, Nat.reduceSub, Nat.reduceDiv, Nat.reduceMod, Nat.reduceEqDiff, Nat.reduceLeDiff, Nat.reduceLT, Nat.zero_add, Nat.add_zero, Nat.zero_le, and_false, and_true, and_self, false_and, true_and, or_false, or_true, if_true, if_false, ite_true, ite_false, ↓reduceIte, Int.reduceToNat, Int.reduceAdd, Int.reduceSub, Int.reduceMul, Int.reduceNeg]
      exact fin w3 F3 (0, tx_nx (F 151) n (tx_sk (F 151) n 0)) (wr_y (T := (F 151, n)) hw).symm V3 f3 (fun _ => Nat.le_of_lt gt)
    · have r1 := (V_0 VK).1
      simp (disch := first | omega | (simp (disch := omega) only [i_lt0, i_tn, i_nn, m_cat_n, m_cat_i, m_cat_r, m_cat_z, m_cat_rv, m_cat_l, m_o_n, m_o_i, m_o_r, m_o_z, m_o_rv, m_o_f, hs_n, hs_k, hs_l, f_k_135 I, n_135 I, f_R_135_1 I, f_k_136 I, f_l_136 I, n_136 I, x_136, Nat.reduceLeDiff, not_false_eq_true, or_true, true_or, or_false, false_or]; first | done | omega) | exact Or.inl rfl | exact Or.inr rfl) only [k_205_26, w_aload_0, w_aloadz_0, w_aloadv_0, w_iload_1, m_cat_n, m_cat_i, m_cat_r, m_cat_z, m_cat_rv, m_cat_l, Nat.zero_le, Nat.reduceLeDiff, Nat.reduceAdd, m_o_i, m_o_r, m_o_z, m_o_rv, m_C_inl, Option.toList_some, Option.toList_none, List.cons_append, List.nil_append, w_iconst, pf_803, pf_799, w_ldc2, w_if_ne, cl_170, w_pop_i, w_pop_r, w_pop_z, w_pop_v, tg_205_26, tg_205_63, tg_205_82, tg_205_103, tg_205_118, k_170_0, k_170_20, tg_170_20, gf_794, m_rv_s, m_rv_n, pf_794, gf_790, pf_795, w_zret, w_icmp_eq, w_if_eq, hs_n, hs_k, hs_l, hs_R, hs_I, hs_L, hs_setI, hs_setL, hs_cpy, f_k_135 I, n_135 I, f_R_135_1 I, f_k_136 I, f_l_136 I, n_136 I, x_136, up_up, up_sw, up_sa, up_if, i_add, i_sub, i_mul, i_tn, i_nat, Int.reduceToNat, Int.reduceAdd, Int.reduceSub, Int.reduceMul, Int.reduceNeg, l_32, l_nat, l_c_lt, l_c_gt, l_c_eq, i_lt, i_eq, i_lt0, i_0lt, i_eq0, i_eq1, Int.reduceLT, Int.reduceEq, Int.reduceLE, Int.reduceNe, not_true_eq_false, not_false_eq_true, Nat.lt_irrefl, Int.lt_irrefl, eq_self, eq_self, Nat.reduceAdd, Nat.reduceMul, Nat.reduceSub, Nat.reduceDiv, Nat.reduceMod, Nat.reduceEqDiff, Nat.reduceLeDiff, Nat.reduceLT, Nat.zero_add, Nat.add_zero, Nat.zero_le, and_false, and_true, and_self, false_and, true_and, or_false, or_true, if_true, if_false, ite_true, ite_false, ↓reduceIte, Int.reduceToNat, Int.reduceAdd, Int.reduceSub, Int.reduceMul, Int.reduceNeg, r1]
      exact fin w1 _ (1, tx_sk (F 151) n 0) (wr_n (T := (F 151, n)) (q0 rfl)).symm (V_wr VK (v := 1) (by decide) (by decide)) f1_wr (fun z9 => absurd z9 (show ¬ (1 : Int) = 0 by decide))
  · have hE := hE c
    rw [k_205_0]
    (repeat' (first | (simp (disch := first | omega | (simp (disch := omega) only [i_lt0, i_tn, i_nn, m_cat_n, m_cat_i, m_cat_r, m_cat_z, m_cat_rv, m_cat_l, m_o_n, m_o_i, m_o_r, m_o_z, m_o_rv, m_o_f, hs_n, hs_k, hs_l, f_k_135 I, n_135 I, f_R_135_1 I, f_k_136 I, f_l_136 I, n_136 I, x_136, Nat.reduceLeDiff, not_false_eq_true, or_true, true_or, or_false, false_or]; first | done | omega) | exact Or.inl rfl | exact Or.inr rfl) only [k_205_0, w_aload_0, w_aloadz_0, w_aloadv_0, w_iconst, pf_768, w_iload_1, w_i2l, w_ldc2, gf_787, m_rv_s, m_rv_n, m_cat_n, m_cat_i, m_cat_r, m_cat_z, m_cat_rv, m_cat_l, Nat.zero_le, Nat.reduceLeDiff, Nat.reduceAdd, cl_153, m_o_i, m_o_r, m_o_z, m_o_rv, m_C_inl, Option.toList_some, Option.toList_none, List.cons_append, List.nil_append, cl_154, w_if_eq, w_iret, tg_205_26, tg_205_63, tg_205_82, tg_205_103, tg_205_118, k_153_0, k_153_17, tg_153_17, k_153_18, tg_153_18, w_lload_0, w_lload_2, w_lcmp, w_if_lt, w_lload_4, w_if_gt, w_goto, w_zret, k_154_0, k_154_6, tg_154_6, w_iload_2, w_icmp_eq, hs_n, hs_k, hs_l, hs_R, hs_I, hs_L, hs_setI, hs_setL, hs_cpy, f_k_135 I, n_135 I, f_R_135_1 I, f_k_136 I, f_l_136 I, n_136 I, x_136, up_up, up_sw, up_sa, up_if, i_add, i_sub, i_mul, i_tn, i_nat, Int.reduceToNat, Int.reduceAdd, Int.reduceSub, Int.reduceMul, Int.reduceNeg, l_32, l_nat, l_c_lt, l_c_gt, l_c_eq, i_lt, i_eq, i_lt0, i_0lt, i_eq0, i_eq1, Int.reduceLT, Int.reduceEq, Int.reduceLE, Int.reduceNe, not_true_eq_false, not_false_eq_true, Nat.lt_irrefl, Int.lt_irrefl, eq_self, eq_self, Nat.reduceAdd, Nat.reduceMul, Nat.reduceSub, Nat.reduceDiv, Nat.reduceMod, Nat.reduceEqDiff, Nat.reduceLeDiff, Nat.reduceLT, Nat.zero_add, Nat.add_zero, Nat.zero_le, and_false, and_true, and_self, false_and, true_and, or_false, or_true, if_true, if_false, ite_true, ite_false, ↓reduceIte, Int.reduceToNat, Int.reduceAdd, Int.reduceSub, Int.reduceMul, Int.reduceNeg]) | split))
    all_goals first
      | (exfalso; omega)
      | exact hE
