/-! a request goes on; a tick, exactly -/
section TI
variable {G : tx_G} {s : sp_R} {B dr q re : Int}
theorem I_se (gd : q_gd G) (hI : sp_I G 4 s) (d0 : 0 ≤ dr) (d4 : dr < 4) (q0 : 0 ≤ q) (q1 : q < s 1) (hB : sp_B B s) : sp_I G 4 (sp_se G s dr q re) ∧ sp_se G s dr q re 1 = s 1 ∧ sp_B B (sp_se G s dr q re) := by
  have hqq := I_q hI q0 q1
  obtain ⟨s', hx⟩ := (gd.1 (sp_o s q 1) hqq.2.1 hqq.2.2).2.2.2.2.2.1 (sp_op dr (sp_o s q 2) re) dr s
  have e : sp_se G s dr q re = s' := by
    unfold sp_se sp_xs
    rw [hx]
    rfl
  rw [e]
  have fr := ex_fr d0 d4 _ _ _ hx
  exact ⟨I_cg (fun j hj => fr j (by unfold q_cr at hj; omega)) hI, fr 1 (by omega), B_ex d0 d4 _ _ _ hx hB⟩
theorem I_g1 (gd : q_gd G) (hI : sp_I G 4 s) (d0 : 0 ≤ dr) (d4 : dr < 4) (q0 : 0 ≤ q) (q1 : q < s 1) (hB : sp_B B s) : sp_I G 4 (sp_g1 G s dr q) ∧ sp_g1 G s dr q 1 = s 1 ∧ sp_B (B + 1) (sp_g1 G s dr q) := by
  have hn := I_n hI
  have a := I_se (re := sp_re G s q) gd hI d0 d4 q0 q1 hB
  have b := I_u (q := q) (j := 9) (v := sp_o (sp_se G s dr q (sp_re G s q)) q 9 + 1) a.1 q0 (by rw [a.2.1]; exact q1) (by decide) (by decide)
  have := B_j a.2.2 (j := (192 + 14 * q + 9).toNat) (by unfold sp_rp; omega)
  unfold sp_g1
  refine ⟨b.1, b.2.trans a.2.1, ?_⟩
  unfold sp_u sp_o
  exact B_u (by omega) (by omega) (B_m (by omega) a.2.2)
theorem I_g2 (gd : q_gd G) (hI : sp_I G 4 s) (d0 : 0 ≤ dr) (d4 : dr < 4) (q0 : 0 ≤ q) (q1 : q < s 1) (hB : sp_B B s) : sp_I G 4 (sp_g2 G s dr q) ∧ sp_g2 G s dr q 1 = s 1 ∧ sp_B (B + 210) (sp_g2 G s dr q) := by
  unfold sp_g2
  split
  · have a := I_pd hI q0 q1 hB
    have c := I_cr gd a.1 d0 d4 a.2.2
    exact ⟨c.1, c.2.1.trans a.2.1, B_m (by omega) c.2.2⟩
  · have a := I_g1 gd hI d0 d4 q0 q1 hB
    split
    · have b := I_pd (q := q) a.1 q0 (by rw [a.2.1]; exact q1) a.2.2
      have c := I_cr gd b.1 d0 d4 b.2.2
      exact ⟨c.1, c.2.1.trans (b.2.1.trans a.2.1), B_m (by omega) c.2.2⟩
    · have c := I_wel (q := q) (y := sp_re G s q) gd a.1 q0 (by rw [a.2.1]; exact q1) a.2.2
      exact ⟨c.1, c.2.1.trans a.2.1, B_m (by omega) c.2.2⟩
theorem I_g0 (hI : sp_I G 4 s) (d0 : 0 ≤ dr) (d4 : dr < 4) (hB : sp_B B s) : sp_I G 4 (sp_g0 s dr) ∧ sp_g0 s dr 1 = s 1 ∧ sp_B (B + 1) (sp_g0 s dr) := by
  have := B_j hB (j := (36 + dr).toNat) (by unfold sp_rp; omega)
  unfold sp_g0
  exact ⟨I_nc (by unfold q_cr; omega) hI, u1_n (by omega), B_u (by omega) (by omega) (B_m (by omega) hB)⟩
theorem I_go (gd : q_gd G) (hI : sp_I G 4 s) (d0 : 0 ≤ dr) (d4 : dr < 4) (hq : ¬ s (32 + dr).toNat = -1) (hB : sp_B B s) : sp_I G 4 (sp_go G s dr) ∧ sp_go G s dr 1 = s 1 ∧ sp_B (B + 211) (sp_go G s dr) := by
  have a := I_g0 hI d0 d4 hB
  have hd := I_d hI d0 d4
  unfold sp_go
  split
  · exact ⟨a.1, a.2.1, B_m (by omega) a.2.2⟩
  · have c := I_g2 (q := s (32 + dr).toNat) gd a.1 d0 d4 (by omega) (by rw [a.2.1]; omega) a.2.2
    exact ⟨c.1, c.2.1.trans a.2.1, B_m (by omega) c.2.2⟩
def sp_J (G : tx_G) (B : Int) (n1 : Int) (s : sp_R) : Prop := sp_I G 4 s ∧ s 1 = n1 ∧ sp_B B s
theorem J_t1 {n1 : Int} (gd : q_gd G) (h : sp_J G B n1 s) (d0 : 0 ≤ dr) (d4 : dr < 4) : sp_J G (B + 6) n1 (sp_t1 G s dr) := by
  unfold sp_t1
  split
  · have c := I_rs gd h.1 d0 d4 h.2.2
    exact ⟨c.1, c.2.1.trans h.2.1, c.2.2⟩
  · exact ⟨h.1, h.2.1, B_m (by omega) h.2.2⟩
theorem J_t2 {n1 : Int} (h : sp_J G B n1 s) : sp_J G (B + 200) n1 (sp_t2 s dr) := by
  unfold sp_t2
  split
  · exact ⟨h.1, h.2.1, B_m (by omega) h.2.2⟩
  · have c := I_la (dr := dr) h.1 h.2.2
    exact ⟨c.1, c.2.1.trans h.2.1, c.2.2⟩
theorem J_t3 {n1 : Int} (gd : q_gd G) (h : sp_J G B n1 s) (d0 : 0 ≤ dr) (d4 : dr < 4) : sp_J G (B + 2) n1 (sp_t3 G s dr) := by
  unfold sp_t3
  split
  · have c := I_be gd h.1 d0 d4 h.2.2
    exact ⟨c.1, c.2.1.trans h.2.1, c.2.2⟩
  · exact ⟨h.1, h.2.1, B_m (by omega) h.2.2⟩
theorem J_t4 {n1 : Int} (gd : q_gd G) (h : sp_J G B n1 s) (d0 : 0 ≤ dr) (d4 : dr < 4) : sp_J G (B + 211) n1 (sp_t4 G s dr) := by
  unfold sp_t4
  split
  · rename_i c
    have c := I_go gd h.1 d0 d4 c.2 h.2.2
    exact ⟨c.1, c.2.1.trans h.2.1, c.2.2⟩
  · exact ⟨h.1, h.2.1, B_m (by omega) h.2.2⟩
theorem J_t7 {n1 : Int} (h : sp_J G B n1 s) (d0 : 0 ≤ dr) (d4 : dr < 4) : sp_J G (B + 1) n1 (sp_t7 G s dr) := by
  have h1 := h.2.2.1
  unfold sp_t7
  split
  · have a : sp_J G B n1 (sp_t5 G s dr) := by
      unfold sp_t5
      split
      · exact h
      · exact ⟨I_nc (by unfold q_cr; omega) h.1, (u1_n (by omega)).trans h.2.1, B_u (by omega) (by omega) h.2.2⟩
    have := B_j a.2.2 (j := (40 + dr).toNat) (by unfold sp_rp; omega)
    unfold sp_t6
    exact ⟨I_nc (by unfold q_cr; omega) a.1, (u1_n (by omega)).trans a.2.1, B_u (by omega) (by omega) (B_m (by omega) a.2.2)⟩
  · exact ⟨h.1, h.2.1, B_m (by omega) h.2.2⟩
theorem J_m {n1 B' : Int} (hb : B ≤ B') (h : sp_J G B n1 s) : sp_J G B' n1 s := ⟨h.1, h.2.1, B_m hb h.2.2⟩
theorem J_tk {n1 : Int} (gd : q_gd G) (h : sp_J G B n1 s) (d0 : 0 ≤ dr) (d4 : dr < 4) : sp_J G (B + 420) n1 (sp_tk G s dr) := by
  unfold sp_tk
  exact J_m (by omega) (J_t7 (J_t4 gd (J_t3 gd (J_t2 (J_t1 gd h d0 d4)) d0 d4) d0 d4) d0 d4)
theorem J_tl {n1 : Int} (gd : q_gd G) : ∀ (f : Nat) (i B : Int) (s : sp_R), 0 ≤ i → i + f ≤ 4 → sp_J G B n1 s → sp_J G (B + 420 * f) n1 (sp_tl G f i s)
  | 0, i, B, s, _, _, h => J_m (by omega) h
  | f + 1, i, B, s, i0, i1, h => J_m (by omega) (J_tl gd f (i + 1) _ _ (by omega) (by omega) (J_tk gd h i0 (by omega)))
theorem J_ti {n1 : Int} (gd : q_gd G) (h : sp_J G B n1 s) : sp_J G (B + 1800) n1 (sp_ti G s) := by
  have h4 := (I_n h.1).2.2.1
  have a := J_tl gd (G.1 0).toNat 0 B s (by decide) (by omega) h
  have a2 := a.2.2.2.1
  unfold sp_ti
  refine ⟨I_nc (by unfold q_cr; omega) a.1, (u1_n (by omega)).trans a.2.1, ?_⟩
  have b := B_m (B' := B + 1800) (by omega) a.2.2
  refine ⟨b.1, by rw [u1_e]; omega, fun j hj => ?_⟩
  by_cases e : j = 0
  · subst e
    rw [u1_e]
    omega
  · rw [u1_n e]
    exact b.2.2 j hj
end TI
set_option maxHeartbeats 4000000 in
/-- goesOn, from the effect on -/
theorem vB_229 {L : Nat} {xs : Nat → Int32} {d : Nat} {h : m_H} {w : Int64} {F : m_M} {Q : Option Value ⊕ Nat → m_H → Prop} (I : RF h) {a : Nat} (ha : a = 147 ∨ a = 148) {G : tx_G} (P : q_pR F G) (gd : q_gd G) {dr : Int} (d0 : 0 ≤ dr) (d4 : dr < 4) (hI : sp_I G 4 (F a)) {B : Int} (hB : sp_B B (F a)) (B9 : B ≤ 1040000000) {q : Int} (q0 : 0 ≤ q) (q1 : q < F a 1) (hp : ¬ sp_pl (F a) q 1) (hQ : ∀ F' : m_M, sp_f a F F' → F' a = sp_g2 G (F a) dr q → Q (.inl none) (m_hS h (w, F'))) : m_W (p_P L xs) (d + 5) 229 k_229_43 [some (.ref 135), some (.ref a), some (.int (Int32.ofInt dr)), some (.int (Int32.ofInt q)), none, none] [] (m_hS h (w, F)) Q := by
  have hka := ra_k I ha
  have hla := ra_l I ha
  have hna := ra_n I ha
  have hxa := ra_x ha
  have ne135 : ¬ 135 = a := by omega
  have ne136 : ¬ 136 = a := by omega
  have ne144 : ¬ 144 = a := by omega
  have ne153 : ¬ 153 = a := by omega
  have na135 : ¬ a = 135 := by omega
  have na153 : ¬ a = 153 := by omega
  have hqq := I_q hI q0 q1
  have hnn := I_n hI
  obtain ⟨c, hc⟩ : ∃ c, c = F a (192 + 14 * q + 1).toNat := ⟨_, rfl⟩
  rw [← hc] at hqq
  have hgl := gd.2.1
  obtain ⟨p1, p2, p3, p4, p5, p6, p7⟩ := pR_c P hqq.2.1 hqq.2.2
  obtain ⟨⟨k1, k2⟩, ⟨k3, k4⟩, ⟨c1, c2, c3, c4, c5, c6⟩, x_t, x_r, x_s, x_k⟩ := gd.1 c hqq.2.1 hqq.2.2
  have eo : sp_o (F a) q 1 = c := hc.symm
  have hB1 := hB.1
  unfold sp_g2 at hQ
  rw [if_neg hp] at hQ
  have a1 := I_g1 gd hI d0 d4 q0 q1 hB
  unfold sp_g1 at a1 hQ
  obtain ⟨re, hre⟩ : ∃ re, re = sp_re G (F a) q := ⟨_, rfl⟩
  rw [← hre] at hQ a1
  rw [k_229_43]
  simp (disch := first | omega | (simp (disch := omega) only [i_lt0, i_tn, i_nn, m_cat_n, m_cat_i, m_cat_r, m_cat_z, m_cat_rv, m_cat_l, m_o_n, m_o_i, m_o_r, m_o_z, m_o_rv, m_o_f, hs_n, hs_k, hs_l, f_k_135 I, n_135 I, f_R_135_5 I, f_k_140 I, f_l_140 I, n_140 I, x_140, f_R_135_6 I, f_k_141 I, f_l_141 I, n_141 I, x_141, Nat.reduceLeDiff, not_false_eq_true, or_true, true_or, or_false, false_or, hka, hla, hxa, hna]; first | done | omega) | exact Or.inl rfl | exact Or.inr rfl) only [k_229_43, w_aload_1, w_aloadz_1, w_aloadv_1, w_iload_3, w_iconst, m_cat_n, m_cat_i, m_cat_r, m_cat_z, m_cat_rv, m_cat_l, Nat.zero_le, Nat.reduceLeDiff, Nat.reduceAdd, cl_211, m_o_i, m_o_r, m_o_z, m_o_rv, m_C_inl, Option.toList_some, Option.toList_none, List.cons_append, List.nil_append, w_istore_4, m_o_n, m_o_f, w_aload_0, w_aloadz_0, w_aloadv_0, w_istore_5, gf_773, m_rv_s, m_rv_n, w_iload_4, w_iaload, w_script, gf_774, w_iload_2, w_iload_5, w_pop_i, w_pop_r, w_pop_z, w_pop_v, w_iadd, cl_212, w_if_eq, w_goto, tg_229_27, tg_229_43, tg_229_122, tg_229_130, k_211_0, w_iload_1, w_imul, w_iret, k_212_0, w_iastore, w_vret, w_icmp_eq, hs_n, hs_k, hs_l, hs_R, hs_I, hs_L, hs_setI, hs_setL, hs_cpy, f_k_135 I, n_135 I, f_R_135_5 I, f_k_140 I, f_l_140 I, n_140 I, x_140, f_R_135_6 I, f_k_141 I, f_l_141 I, n_141 I, x_141, up_up, up_sw, up_sa, i_add, i_sub, i_mul, i_tn, i_nat, Int.reduceToNat, Int.reduceAdd, Int.reduceSub, Int.reduceMul, Int.reduceNeg, l_32, l_nat, l_c_lt, l_c_gt, l_c_eq, i_lt, i_eq, i_lt0, i_0lt, i_eq0, i_eq1, Int.reduceLT, Int.reduceEq, Int.reduceLE, Int.reduceNe, not_true_eq_false, not_false_eq_true, Nat.lt_irrefl, Int.lt_irrefl, eq_self, eq_self, Nat.reduceAdd, Nat.reduceMul, Nat.reduceSub, Nat.reduceDiv, Nat.reduceMod, Nat.reduceEqDiff, Nat.reduceLeDiff, Nat.reduceLT, Nat.zero_add, Nat.add_zero, Nat.zero_le, and_false, and_true, and_self, false_and, true_and, or_false, or_true, if_true, if_false, ite_true, ite_false, ↓reduceIte, Int.reduceToNat, Int.reduceAdd, Int.reduceSub, Int.reduceMul, Int.reduceNeg, up_eq, up_na, up_nk, ← hc, p1, p2, p3, p4, p5, p6, p7]
  simp (disch := first | omega | (simp (disch := omega) only [i_lt0, i_tn, i_nn, m_cat_n, m_cat_i, m_cat_r, m_cat_z, m_cat_rv, m_cat_l, m_o_n, m_o_i, m_o_r, m_o_z, m_o_rv, m_o_f, hs_n, hs_k, hs_l, f_k_135 I, n_135 I, Nat.reduceLeDiff, not_false_eq_true, or_true, true_or, or_false, false_or]; first | done | omega) | exact Or.inl rfl | exact Or.inr rfl) only [cl_214, m_cat_n, m_cat_i, m_cat_r, m_cat_z, m_cat_rv, m_cat_l, Nat.zero_le, Nat.reduceLeDiff, Nat.reduceAdd, m_o_i, m_o_r, m_o_z, m_o_rv, hs_n, hs_k, f_k_135 I, n_135 I, hna, hka]
  refine v_214 (D := 4) I ha P gd hI q0 q1 (fun F1 f1 r1 => ?_)
  rw [← hre]
  have P1 := pR_f ha f1 P
  obtain ⟨p1, p2, p3, p4, p5, p6, p7⟩ := pR_c P1 hqq.2.1 hqq.2.2
  rw [← r1] at hI q1 hQ a1 hc eo hqq hnn
  simp (disch := first | omega | (simp (disch := omega) only [i_lt0, i_tn, i_nn, m_cat_n, m_cat_i, m_cat_r, m_cat_z, m_cat_rv, m_cat_l, m_o_n, m_o_i, m_o_r, m_o_z, m_o_rv, m_o_f, hs_n, hs_k, hs_l, f_k_135 I, n_135 I, f_R_135_5 I, f_k_140 I, f_l_140 I, n_140 I, x_140, f_R_135_6 I, f_k_141 I, f_l_141 I, n_141 I, x_141, Nat.reduceLeDiff, not_false_eq_true, or_true, true_or, or_false, false_or, hka, hla, hxa, hna]; first | done | omega) | exact Or.inl rfl | exact Or.inr rfl) only [w_aload_1, w_aloadz_1, w_aloadv_1, w_iload_3, w_iconst, m_cat_n, m_cat_i, m_cat_r, m_cat_z, m_cat_rv, m_cat_l, Nat.zero_le, Nat.reduceLeDiff, Nat.reduceAdd, cl_211, m_o_i, m_o_r, m_o_z, m_o_rv, m_C_inl, Option.toList_some, Option.toList_none, List.cons_append, List.nil_append, w_istore_4, m_o_n, m_o_f, w_aload_0, w_aloadz_0, w_aloadv_0, w_istore_5, gf_773, m_rv_s, m_rv_n, w_iload_4, w_iaload, w_script, gf_774, w_iload_2, w_iload_5, w_pop_i, w_pop_r, w_pop_z, w_pop_v, w_iadd, cl_212, w_if_eq, w_goto, tg_229_27, tg_229_43, tg_229_122, tg_229_130, k_211_0, w_iload_1, w_imul, w_iret, k_212_0, w_iastore, w_vret, w_icmp_eq, hs_n, hs_k, hs_l, hs_R, hs_I, hs_L, hs_setI, hs_setL, hs_cpy, f_k_135 I, n_135 I, f_R_135_5 I, f_k_140 I, f_l_140 I, n_140 I, x_140, f_R_135_6 I, f_k_141 I, f_l_141 I, n_141 I, x_141, up_up, up_sw, up_sa, i_add, i_sub, i_mul, i_tn, i_nat, Int.reduceToNat, Int.reduceAdd, Int.reduceSub, Int.reduceMul, Int.reduceNeg, l_32, l_nat, l_c_lt, l_c_gt, l_c_eq, i_lt, i_eq, i_lt0, i_0lt, i_eq0, i_eq1, Int.reduceLT, Int.reduceEq, Int.reduceLE, Int.reduceNe, not_true_eq_false, not_false_eq_true, Nat.lt_irrefl, Int.lt_irrefl, eq_self, eq_self, Nat.reduceAdd, Nat.reduceMul, Nat.reduceSub, Nat.reduceDiv, Nat.reduceMod, Nat.reduceEqDiff, Nat.reduceLeDiff, Nat.reduceLT, Nat.zero_add, Nat.add_zero, Nat.zero_le, and_false, and_true, and_self, false_and, true_and, or_false, or_true, if_true, if_false, ite_true, ite_false, ↓reduceIte, Int.reduceToNat, Int.reduceAdd, Int.reduceSub, Int.reduceMul, Int.reduceNeg, up_eq, up_na, up_nk, ← hc, p1, p2, p3, p4, p5, p6, p7]
  simp (disch := first | omega | (simp (disch := omega) only [i_lt0, i_tn, i_nn, m_cat_n, m_cat_i, m_cat_r, m_cat_z, m_cat_rv, m_cat_l, m_o_n, m_o_i, m_o_r, m_o_z, m_o_rv, m_o_f, hs_n, hs_k, hs_l, f_k_135 I, n_135 I, Nat.reduceLeDiff, not_false_eq_true, or_true, true_or, or_false, false_or]; first | done | omega) | exact Or.inl rfl | exact Or.inr rfl) only [cl_210, m_cat_n, m_cat_i, m_cat_r, m_cat_z, m_cat_rv, m_cat_l, Nat.zero_le, Nat.reduceLeDiff, Nat.reduceAdd, m_o_i, m_o_r, m_o_z, m_o_rv, hs_n, hs_k, f_k_135 I, n_135 I, hna, hka]
  obtain ⟨s', hx⟩ := x_s (sp_op dr (F1 a (192 + 14 * q + 2).toNat) re) dr (F1 a)
  have et : sp_se G (F1 a) dr q re = s' := by
    unfold sp_se sp_xs
    rw [eo, show sp_o (F1 a) q 2 = F1 a (192 + 14 * q + 2).toNat from rfl, hx]
    rfl
  rw [et] at hQ a1
  refine v_210 I ha d0 d4 (by omega) (by omega) (by omega) (at_g P1 gd (by omega) (by omega) (by omega)).2.1 (at_g P1 gd (by omega) (by omega) (by omega)).1 (at_g P1 gd (by omega) (by omega) (by omega)).2.2 hx (fun v F2 f2 r2 _ => ?_)
  have g2 := sf_tr f1 f2
  rw [← r2] at hQ a1
  unfold sp_u sp_o at a1
  have hQ := hQ
  unfold sp_u at hQ
  rw [show sp_o (F2 a) q 9 = F2 a (192 + 14 * q + 9).toNat from rfl] at hQ
  simp (disch := first | omega | (simp (disch := omega) only [i_lt0, i_tn, i_nn, m_cat_n, m_cat_i, m_cat_r, m_cat_z, m_cat_rv, m_cat_l, m_o_n, m_o_i, m_o_r, m_o_z, m_o_rv, m_o_f, hs_n, hs_k, hs_l, f_k_135 I, n_135 I, f_R_135_5 I, f_k_140 I, f_l_140 I, n_140 I, x_140, f_R_135_6 I, f_k_141 I, f_l_141 I, n_141 I, x_141, Nat.reduceLeDiff, not_false_eq_true, or_true, true_or, or_false, false_or, hka, hla, hxa, hna]; first | done | omega) | exact Or.inl rfl | exact Or.inr rfl) only [w_aload_1, w_aloadz_1, w_aloadv_1, w_iload_3, w_iconst, m_cat_n, m_cat_i, m_cat_r, m_cat_z, m_cat_rv, m_cat_l, Nat.zero_le, Nat.reduceLeDiff, Nat.reduceAdd, cl_211, m_o_i, m_o_r, m_o_z, m_o_rv, m_C_inl, Option.toList_some, Option.toList_none, List.cons_append, List.nil_append, w_istore_4, m_o_n, m_o_f, w_aload_0, w_aloadz_0, w_aloadv_0, w_istore_5, gf_773, m_rv_s, m_rv_n, w_iload_4, w_iaload, w_script, gf_774, w_iload_2, w_iload_5, w_pop_i, w_pop_r, w_pop_z, w_pop_v, w_iadd, cl_212, w_if_eq, w_goto, tg_229_27, tg_229_43, tg_229_122, tg_229_130, k_211_0, w_iload_1, w_imul, w_iret, k_212_0, w_iastore, w_vret, w_icmp_eq, hs_n, hs_k, hs_l, hs_R, hs_I, hs_L, hs_setI, hs_setL, hs_cpy, f_k_135 I, n_135 I, f_R_135_5 I, f_k_140 I, f_l_140 I, n_140 I, x_140, f_R_135_6 I, f_k_141 I, f_l_141 I, n_141 I, x_141, up_up, up_sw, up_sa, i_add, i_sub, i_mul, i_tn, i_nat, Int.reduceToNat, Int.reduceAdd, Int.reduceSub, Int.reduceMul, Int.reduceNeg, l_32, l_nat, l_c_lt, l_c_gt, l_c_eq, i_lt, i_eq, i_lt0, i_0lt, i_eq0, i_eq1, Int.reduceLT, Int.reduceEq, Int.reduceLE, Int.reduceNe, not_true_eq_false, not_false_eq_true, Nat.lt_irrefl, Int.lt_irrefl, eq_self, eq_self, Nat.reduceAdd, Nat.reduceMul, Nat.reduceSub, Nat.reduceDiv, Nat.reduceMod, Nat.reduceEqDiff, Nat.reduceLeDiff, Nat.reduceLT, Nat.zero_add, Nat.add_zero, Nat.zero_le, and_false, and_true, and_self, false_and, true_and, or_false, or_true, if_true, if_false, ite_true, ite_false, ↓reduceIte, Int.reduceToNat, Int.reduceAdd, Int.reduceSub, Int.reduceMul, Int.reduceNeg, up_eq, up_na, up_nk]
  simp (disch := first | omega | (simp (disch := omega) only [i_lt0, i_tn, i_nn, m_cat_n, m_cat_i, m_cat_r, m_cat_z, m_cat_rv, m_cat_l, m_o_n, m_o_i, m_o_r, m_o_z, m_o_rv, m_o_f, hs_n, hs_k, hs_l, f_k_135 I, n_135 I, Nat.reduceLeDiff, not_false_eq_true, or_true, true_or, or_false, false_or]; first | done | omega) | exact Or.inl rfl | exact Or.inr rfl) only [cl_228, m_cat_n, m_cat_i, m_cat_r, m_cat_z, m_cat_rv, m_cat_l, Nat.zero_le, Nat.reduceLeDiff, Nat.reduceAdd, m_o_i, m_o_r, m_o_z, m_o_rv, hs_n, hs_k, f_k_135 I, n_135 I, hna, hka]
  have eN : m_up F2 a (192 + 14 * q + 9).toNat (F2 a (192 + 14 * q + 9).toNat + 1) a = tx_u1 (F2 a) (192 + 14 * q + 9).toNat (F2 a (192 + 14 * q + 9).toNat + 1) := up_row
  have gN : sp_f a F (m_up F2 a (192 + 14 * q + 9).toNat (F2 a (192 + 14 * q + 9).toNat + 1)) := sf_tr g2 (by intro x y z1 z2 z3; simp (disch := omega) only [up_na, up_no])
  rw [← eN] at hQ a1
  have q1N : q < m_up F2 a (192 + 14 * q + 9).toNat (F2 a (192 + 14 * q + 9).toNat + 1) a 1 := by rw [a1.2.1]; exact q1
  refine v_228 I ha a1.1 a1.2.2 (by omega) q0 q1N (p := 2) (by decide) (by decide) (fun hy F3 f3 r3 => ?_) (fun hy => ?_)
  · rw [if_pos hy, ← r3] at hQ
    have b1 := I_pd a1.1 q0 q1N a1.2.2
    rw [← r3] at b1
    simp (disch := first | omega | (simp (disch := omega) only [i_lt0, i_tn, i_nn, m_cat_n, m_cat_i, m_cat_r, m_cat_z, m_cat_rv, m_cat_l, m_o_n, m_o_i, m_o_r, m_o_z, m_o_rv, m_o_f, hs_n, hs_k, hs_l, f_k_135 I, n_135 I, f_R_135_5 I, f_k_140 I, f_l_140 I, n_140 I, x_140, f_R_135_6 I, f_k_141 I, f_l_141 I, n_141 I, x_141, Nat.reduceLeDiff, not_false_eq_true, or_true, true_or, or_false, false_or, hka, hla, hxa, hna]; first | done | omega) | exact Or.inl rfl | exact Or.inr rfl) only [w_aload_1, w_aloadz_1, w_aloadv_1, w_iload_3, w_iconst, m_cat_n, m_cat_i, m_cat_r, m_cat_z, m_cat_rv, m_cat_l, Nat.zero_le, Nat.reduceLeDiff, Nat.reduceAdd, m_o_i, m_o_r, m_o_z, m_o_rv, m_C_inl, Option.toList_some, Option.toList_none, List.cons_append, List.nil_append, w_istore_4, m_o_n, m_o_f, w_aload_0, w_aloadz_0, w_aloadv_0, w_istore_5, gf_773, m_rv_s, m_rv_n, w_iload_4, w_iaload, w_script, gf_774, w_iload_2, w_iload_5, w_pop_i, w_pop_r, w_pop_z, w_pop_v, w_iadd, w_if_eq, w_goto, tg_229_27, tg_229_43, tg_229_122, tg_229_130, w_icmp_eq, hs_n, hs_k, hs_l, hs_R, hs_I, hs_L, hs_setI, hs_setL, hs_cpy, f_k_135 I, n_135 I, f_R_135_5 I, f_k_140 I, f_l_140 I, n_140 I, x_140, f_R_135_6 I, f_k_141 I, f_l_141 I, n_141 I, x_141, up_up, up_sw, up_sa, i_add, i_sub, i_mul, i_tn, i_nat, Int.reduceToNat, Int.reduceAdd, Int.reduceSub, Int.reduceMul, Int.reduceNeg, l_32, l_nat, l_c_lt, l_c_gt, l_c_eq, i_lt, i_eq, i_lt0, i_0lt, i_eq0, i_eq1, Int.reduceLT, Int.reduceEq, Int.reduceLE, Int.reduceNe, not_true_eq_false, not_false_eq_true, Nat.lt_irrefl, Int.lt_irrefl, eq_self, eq_self, Nat.reduceAdd, Nat.reduceMul, Nat.reduceSub, Nat.reduceDiv, Nat.reduceMod, Nat.reduceEqDiff, Nat.reduceLeDiff, Nat.reduceLT, Nat.zero_add, Nat.add_zero, Nat.zero_le, and_false, and_true, and_self, false_and, true_and, or_false, or_true, if_true, if_false, ite_true, ite_false, ↓reduceIte, Int.reduceToNat, Int.reduceAdd, Int.reduceSub, Int.reduceMul, Int.reduceNeg, up_eq, up_na, up_nk]
    simp (disch := first | omega | (simp (disch := omega) only [i_lt0, i_tn, i_nn, m_cat_n, m_cat_i, m_cat_r, m_cat_z, m_cat_rv, m_cat_l, m_o_n, m_o_i, m_o_r, m_o_z, m_o_rv, m_o_f, hs_n, hs_k, hs_l, f_k_135 I, n_135 I, Nat.reduceLeDiff, not_false_eq_true, or_true, true_or, or_false, false_or]; first | done | omega) | exact Or.inl rfl | exact Or.inr rfl) only [cl_222, m_cat_n, m_cat_i, m_cat_r, m_cat_z, m_cat_rv, m_cat_l, Nat.zero_le, Nat.reduceLeDiff, Nat.reduceAdd, m_o_i, m_o_r, m_o_z, m_o_rv, hs_n, hs_k, f_k_135 I, n_135 I, hna, hka]
    have g3 := sf_tr gN f3
    refine v_222 I ha (pR_f ha g3 P) gd d0 d4 b1.1 b1.2.2 (by omega) (fun F4 f4 r4 => ?_)
    simp (disch := first | omega | (simp (disch := omega) only [i_lt0, i_tn, i_nn, m_cat_n, m_cat_i, m_cat_r, m_cat_z, m_cat_rv, m_cat_l, m_o_n, m_o_i, m_o_r, m_o_z, m_o_rv, m_o_f, hs_n, hs_k, hs_l, f_k_135 I, n_135 I, f_R_135_5 I, f_k_140 I, f_l_140 I, n_140 I, x_140, f_R_135_6 I, f_k_141 I, f_l_141 I, n_141 I, x_141, Nat.reduceLeDiff, not_false_eq_true, or_true, true_or, or_false, false_or, hka, hla, hxa, hna]; first | done | omega) | exact Or.inl rfl | exact Or.inr rfl) only [k_229_130, w_aload_1, w_aloadz_1, w_aloadv_1, w_iload_3, w_iconst, m_cat_n, m_cat_i, m_cat_r, m_cat_z, m_cat_rv, m_cat_l, Nat.zero_le, Nat.reduceLeDiff, Nat.reduceAdd, m_o_i, m_o_r, m_o_z, m_o_rv, m_C_inl, Option.toList_some, Option.toList_none, List.cons_append, List.nil_append, w_istore_4, m_o_n, m_o_f, w_aload_0, w_aloadz_0, w_aloadv_0, w_istore_5, gf_773, m_rv_s, m_rv_n, w_iload_4, w_iaload, w_script, gf_774, w_iload_2, w_iload_5, w_pop_i, w_pop_r, w_pop_z, w_pop_v, w_iadd, w_if_eq, w_goto, w_vret, tg_229_27, tg_229_43, tg_229_122, tg_229_130, w_icmp_eq, hs_n, hs_k, hs_l, hs_R, hs_I, hs_L, hs_setI, hs_setL, hs_cpy, f_k_135 I, n_135 I, f_R_135_5 I, f_k_140 I, f_l_140 I, n_140 I, x_140, f_R_135_6 I, f_k_141 I, f_l_141 I, n_141 I, x_141, up_up, up_sw, up_sa, i_add, i_sub, i_mul, i_tn, i_nat, Int.reduceToNat, Int.reduceAdd, Int.reduceSub, Int.reduceMul, Int.reduceNeg, l_32, l_nat, l_c_lt, l_c_gt, l_c_eq, i_lt, i_eq, i_lt0, i_0lt, i_eq0, i_eq1, Int.reduceLT, Int.reduceEq, Int.reduceLE, Int.reduceNe, not_true_eq_false, not_false_eq_true, Nat.lt_irrefl, Int.lt_irrefl, eq_self, eq_self, Nat.reduceAdd, Nat.reduceMul, Nat.reduceSub, Nat.reduceDiv, Nat.reduceMod, Nat.reduceEqDiff, Nat.reduceLeDiff, Nat.reduceLT, Nat.zero_add, Nat.add_zero, Nat.zero_le, and_false, and_true, and_self, false_and, true_and, or_false, or_true, if_true, if_false, ite_true, ite_false, ↓reduceIte, Int.reduceToNat, Int.reduceAdd, Int.reduceSub, Int.reduceMul, Int.reduceNeg, up_eq, up_na, up_nk]
    exact hQ F4 (sf_tr g3 f4) r4
  · rw [if_neg hy] at hQ
    simp (disch := first | omega | (simp (disch := omega) only [i_lt0, i_tn, i_nn, m_cat_n, m_cat_i, m_cat_r, m_cat_z, m_cat_rv, m_cat_l, m_o_n, m_o_i, m_o_r, m_o_z, m_o_rv, m_o_f, hs_n, hs_k, hs_l, f_k_135 I, n_135 I, f_R_135_5 I, f_k_140 I, f_l_140 I, n_140 I, x_140, f_R_135_6 I, f_k_141 I, f_l_141 I, n_141 I, x_141, Nat.reduceLeDiff, not_false_eq_true, or_true, true_or, or_false, false_or, hka, hla, hxa, hna]; first | done | omega) | exact Or.inl rfl | exact Or.inr rfl) only [k_229_122, w_aload_1, w_aloadz_1, w_aloadv_1, w_iload_3, w_iconst, m_cat_n, m_cat_i, m_cat_r, m_cat_z, m_cat_rv, m_cat_l, Nat.zero_le, Nat.reduceLeDiff, Nat.reduceAdd, m_o_i, m_o_r, m_o_z, m_o_rv, m_C_inl, Option.toList_some, Option.toList_none, List.cons_append, List.nil_append, w_istore_4, m_o_n, m_o_f, w_aload_0, w_aloadz_0, w_aloadv_0, w_istore_5, gf_773, m_rv_s, m_rv_n, w_iload_4, w_iaload, w_script, gf_774, w_iload_2, w_iload_5, w_pop_i, w_pop_r, w_pop_z, w_pop_v, w_iadd, w_if_eq, w_goto, tg_229_27, tg_229_43, tg_229_122, tg_229_130, w_icmp_eq, hs_n, hs_k, hs_l, hs_R, hs_I, hs_L, hs_setI, hs_setL, hs_cpy, f_k_135 I, n_135 I, f_R_135_5 I, f_k_140 I, f_l_140 I, n_140 I, x_140, f_R_135_6 I, f_k_141 I, f_l_141 I, n_141 I, x_141, up_up, up_sw, up_sa, i_add, i_sub, i_mul, i_tn, i_nat, Int.reduceToNat, Int.reduceAdd, Int.reduceSub, Int.reduceMul, Int.reduceNeg, l_32, l_nat, l_c_lt, l_c_gt, l_c_eq, i_lt, i_eq, i_lt0, i_0lt, i_eq0, i_eq1, Int.reduceLT, Int.reduceEq, Int.reduceLE, Int.reduceNe, not_true_eq_false, not_false_eq_true, Nat.lt_irrefl, Int.lt_irrefl, eq_self, eq_self, Nat.reduceAdd, Nat.reduceMul, Nat.reduceSub, Nat.reduceDiv, Nat.reduceMod, Nat.reduceEqDiff, Nat.reduceLeDiff, Nat.reduceLT, Nat.zero_add, Nat.add_zero, Nat.zero_le, and_false, and_true, and_self, false_and, true_and, or_false, or_true, if_true, if_false, ite_true, ite_false, ↓reduceIte, Int.reduceToNat, Int.reduceAdd, Int.reduceSub, Int.reduceMul, Int.reduceNeg, up_eq, up_na, up_nk]
    simp (disch := first | omega | (simp (disch := omega) only [i_lt0, i_tn, i_nn, m_cat_n, m_cat_i, m_cat_r, m_cat_z, m_cat_rv, m_cat_l, m_o_n, m_o_i, m_o_r, m_o_z, m_o_rv, m_o_f, hs_n, hs_k, hs_l, f_k_135 I, n_135 I, Nat.reduceLeDiff, not_false_eq_true, or_true, true_or, or_false, false_or]; first | done | omega) | exact Or.inl rfl | exact Or.inr rfl) only [cl_219, m_cat_n, m_cat_i, m_cat_r, m_cat_z, m_cat_rv, m_cat_l, Nat.zero_le, Nat.reduceLeDiff, Nat.reduceAdd, m_o_i, m_o_r, m_o_z, m_o_rv, hs_n, hs_k, f_k_135 I, n_135 I, hna, hka]
    refine v_219 I ha (pR_f ha gN P) gd a1.1 q0 q1N (fun F4 f4 r4 => ?_)
    simp (disch := first | omega | (simp (disch := omega) only [i_lt0, i_tn, i_nn, m_cat_n, m_cat_i, m_cat_r, m_cat_z, m_cat_rv, m_cat_l, m_o_n, m_o_i, m_o_r, m_o_z, m_o_rv, m_o_f, hs_n, hs_k, hs_l, f_k_135 I, n_135 I, f_R_135_5 I, f_k_140 I, f_l_140 I, n_140 I, x_140, f_R_135_6 I, f_k_141 I, f_l_141 I, n_141 I, x_141, Nat.reduceLeDiff, not_false_eq_true, or_true, true_or, or_false, false_or, hka, hla, hxa, hna]; first | done | omega) | exact Or.inl rfl | exact Or.inr rfl) only [k_229_130, w_aload_0, w_aloadz_0, w_aloadv_0, w_aload_1, w_aloadz_1, w_aloadv_1, w_iload_3, w_iload_5, m_cat_n, m_cat_i, m_cat_r, m_cat_z, m_cat_rv, m_cat_l, Nat.zero_le, Nat.reduceLeDiff, Nat.reduceAdd, m_o_i, m_o_r, m_o_z, m_o_rv, m_C_inl, Option.toList_some, Option.toList_none, List.cons_append, List.nil_append, w_vret, tg_229_27, tg_229_43, tg_229_122, tg_229_130, w_icmp_eq, w_if_eq, hs_n, hs_k, hs_l, hs_R, hs_I, hs_L, hs_setI, hs_setL, hs_cpy, f_k_135 I, n_135 I, f_R_135_5 I, f_k_140 I, f_l_140 I, n_140 I, x_140, f_R_135_6 I, f_k_141 I, f_l_141 I, n_141 I, x_141, up_up, up_sw, up_sa, i_add, i_sub, i_mul, i_tn, i_nat, Int.reduceToNat, Int.reduceAdd, Int.reduceSub, Int.reduceMul, Int.reduceNeg, l_32, l_nat, l_c_lt, l_c_gt, l_c_eq, i_lt, i_eq, i_lt0, i_0lt, i_eq0, i_eq1, Int.reduceLT, Int.reduceEq, Int.reduceLE, Int.reduceNe, not_true_eq_false, not_false_eq_true, Nat.lt_irrefl, Int.lt_irrefl, eq_self, eq_self, Nat.reduceAdd, Nat.reduceMul, Nat.reduceSub, Nat.reduceDiv, Nat.reduceMod, Nat.reduceEqDiff, Nat.reduceLeDiff, Nat.reduceLT, Nat.zero_add, Nat.add_zero, Nat.zero_le, and_false, and_true, and_self, false_and, true_and, or_false, or_true, if_true, if_false, ite_true, ite_false, ↓reduceIte, Int.reduceToNat, Int.reduceAdd, Int.reduceSub, Int.reduceMul, Int.reduceNeg, up_eq, up_na, up_nk]
    exact hQ F4 (sf_tr gN f4) r4
set_option maxHeartbeats 4000000 in
/-- goesOn -/
theorem v_229 {L : Nat} {xs : Nat → Int32} {d : Nat} {h : m_H} {w : Int64} {F : m_M} {Q : Option Value ⊕ Nat → m_H → Prop} (I : RF h) {a : Nat} (ha : a = 147 ∨ a = 148) {G : tx_G} (P : q_pR F G) (gd : q_gd G) {dr : Int} (d0 : 0 ≤ dr) (d4 : dr < 4) (hI : sp_I G 4 (F a)) {B : Int} (hB : sp_B B (F a)) (B9 : B ≤ 1030000000) (hq1 : ¬ F a (32 + dr).toNat = -1) (hQ : ∀ F' : m_M, sp_f a F F' → F' a = sp_go G (F a) dr → Q (.inl none) (m_hS h (w, F'))) : m_W (p_P L xs) (d + 5) 229 k_229_0 [some (.ref 135), some (.ref a), some (.int (Int32.ofInt dr)), none, none, none] [] (m_hS h (w, F)) Q := by
  have hka := ra_k I ha
  have hla := ra_l I ha
  have hna := ra_n I ha
  have hxa := ra_x ha
  have ne135 : ¬ 135 = a := by omega
  have ne136 : ¬ 136 = a := by omega
  have ne144 : ¬ 144 = a := by omega
  have ne153 : ¬ 153 = a := by omega
  have na135 : ¬ a = 135 := by omega
  have na153 : ¬ a = 153 := by omega
  have hnn := I_n hI
  have hd := I_d hI d0 d4
  have hB1 := hB.1
  have hb36 := B_j hB (j := (36 + dr).toNat) (by unfold sp_rp; omega)
  have a0 := I_g0 hI d0 d4 hB
  unfold sp_go at hQ
  unfold sp_g0 at hQ a0
  obtain ⟨q, hq⟩ : ∃ q, q = F a (32 + dr).toNat := ⟨_, rfl⟩
  rw [← hq] at hd hQ hq1
  have eN : m_up F a (36 + dr).toNat (F a (36 + dr).toNat - 1) a = tx_u1 (F a) (36 + dr).toNat (F a (36 + dr).toNat - 1) := up_row
  have gN : sp_f a F (m_up F a (36 + dr).toNat (F a (36 + dr).toNat - 1)) := (by intro x y z1 z2 z3; simp (disch := omega) only [up_na, up_no])
  rw [← eN] at hQ a0
  have q0 : 0 ≤ q := by omega
  have q1N : q < m_up F a (36 + dr).toNat (F a (36 + dr).toNat - 1) a 1 := by rw [a0.2.1]; exact hd.2.1.2
  rw [k_229_0]
  by_cases c : 0 < F a (36 + dr).toNat - 1
  · rw [if_pos c] at hQ
    simp (disch := first | omega | (simp (disch := omega) only [i_lt0, i_tn, i_nn, m_cat_n, m_cat_i, m_cat_r, m_cat_z, m_cat_rv, m_cat_l, m_o_n, m_o_i, m_o_r, m_o_z, m_o_rv, m_o_f, hs_n, hs_k, hs_l, f_k_135 I, n_135 I, f_R_135_5 I, f_k_140 I, f_l_140 I, n_140 I, x_140, f_R_135_6 I, f_k_141 I, f_l_141 I, n_141 I, x_141, Nat.reduceLeDiff, not_false_eq_true, or_true, true_or, or_false, false_or, hka, hla, hxa, hna]; first | done | omega) | exact Or.inl rfl | exact Or.inr rfl) only [k_229_0, w_aload_1, w_aloadz_1, w_aloadv_1, w_iconst, w_iload_2, w_iadd, w_iaload, w_script, w_istore_3, m_o_n, m_o_i, m_o_r, m_o_z, m_o_rv, m_o_f, w_dup2, w_isub, w_iastore, w_if_le, w_vret, tg_229_27, tg_229_43, tg_229_122, tg_229_130, m_C_inl, Option.toList_some, Option.toList_none, List.cons_append, List.nil_append, w_icmp_eq, w_if_eq, hs_n, hs_k, hs_l, hs_R, hs_I, hs_L, hs_setI, hs_setL, hs_cpy, f_k_135 I, n_135 I, f_R_135_5 I, f_k_140 I, f_l_140 I, n_140 I, x_140, f_R_135_6 I, f_k_141 I, f_l_141 I, n_141 I, x_141, up_up, up_sw, up_sa, i_add, i_sub, i_mul, i_tn, i_nat, Int.reduceToNat, Int.reduceAdd, Int.reduceSub, Int.reduceMul, Int.reduceNeg, l_32, l_nat, l_c_lt, l_c_gt, l_c_eq, i_lt, i_eq, i_lt0, i_0lt, i_eq0, i_eq1, Int.reduceLT, Int.reduceEq, Int.reduceLE, Int.reduceNe, not_true_eq_false, not_false_eq_true, Nat.lt_irrefl, Int.lt_irrefl, eq_self, eq_self, Nat.reduceAdd, Nat.reduceMul, Nat.reduceSub, Nat.reduceDiv, Nat.reduceMod, Nat.reduceEqDiff, Nat.reduceLeDiff, Nat.reduceLT, Nat.zero_add, Nat.add_zero, Nat.zero_le, and_false, and_true, and_self, false_and, true_and, or_false, or_true, if_true, if_false, ite_true, ite_false, ↓reduceIte, Int.reduceToNat, Int.reduceAdd, Int.reduceSub, Int.reduceMul, Int.reduceNeg, up_eq, up_na, up_nk, ← hq, c]
    exact hQ _ gN rfl
  · rw [if_neg c] at hQ
    simp (disch := first | omega | (simp (disch := omega) only [i_lt0, i_tn, i_nn, m_cat_n, m_cat_i, m_cat_r, m_cat_z, m_cat_rv, m_cat_l, m_o_n, m_o_i, m_o_r, m_o_z, m_o_rv, m_o_f, hs_n, hs_k, hs_l, f_k_135 I, n_135 I, f_R_135_5 I, f_k_140 I, f_l_140 I, n_140 I, x_140, f_R_135_6 I, f_k_141 I, f_l_141 I, n_141 I, x_141, Nat.reduceLeDiff, not_false_eq_true, or_true, true_or, or_false, false_or, hka, hla, hxa, hna]; first | done | omega) | exact Or.inl rfl | exact Or.inr rfl) only [k_229_0, k_229_27, w_aload_1, w_aloadz_1, w_aloadv_1, w_iconst, w_iload_2, w_iadd, w_iaload, w_script, w_istore_3, m_o_n, m_o_i, m_o_r, m_o_z, m_o_rv, m_o_f, w_dup2, w_isub, w_iastore, w_if_le, w_vret, w_iload_3, m_cat_n, m_cat_i, m_cat_r, m_cat_z, m_cat_rv, m_cat_l, Nat.zero_le, Nat.reduceLeDiff, Nat.reduceAdd, m_C_inl, Option.toList_some, Option.toList_none, List.cons_append, List.nil_append, w_if_eq, w_aload_0, w_aloadz_0, w_aloadv_0, tg_229_27, tg_229_43, tg_229_122, tg_229_130, w_icmp_eq, hs_n, hs_k, hs_l, hs_R, hs_I, hs_L, hs_setI, hs_setL, hs_cpy, f_k_135 I, n_135 I, f_R_135_5 I, f_k_140 I, f_l_140 I, n_140 I, x_140, f_R_135_6 I, f_k_141 I, f_l_141 I, n_141 I, x_141, up_up, up_sw, up_sa, i_add, i_sub, i_mul, i_tn, i_nat, Int.reduceToNat, Int.reduceAdd, Int.reduceSub, Int.reduceMul, Int.reduceNeg, l_32, l_nat, l_c_lt, l_c_gt, l_c_eq, i_lt, i_eq, i_lt0, i_0lt, i_eq0, i_eq1, Int.reduceLT, Int.reduceEq, Int.reduceLE, Int.reduceNe, not_true_eq_false, not_false_eq_true, Nat.lt_irrefl, Int.lt_irrefl, eq_self, eq_self, Nat.reduceAdd, Nat.reduceMul, Nat.reduceSub, Nat.reduceDiv, Nat.reduceMod, Nat.reduceEqDiff, Nat.reduceLeDiff, Nat.reduceLT, Nat.zero_add, Nat.add_zero, Nat.zero_le, and_false, and_true, and_self, false_and, true_and, or_false, or_true, if_true, if_false, ite_true, ite_false, ↓reduceIte, Int.reduceToNat, Int.reduceAdd, Int.reduceSub, Int.reduceMul, Int.reduceNeg, up_eq, up_na, up_nk, ← hq, c]
    simp (disch := first | omega | (simp (disch := omega) only [i_lt0, i_tn, i_nn, m_cat_n, m_cat_i, m_cat_r, m_cat_z, m_cat_rv, m_cat_l, m_o_n, m_o_i, m_o_r, m_o_z, m_o_rv, m_o_f, hs_n, hs_k, hs_l, f_k_135 I, n_135 I, Nat.reduceLeDiff, not_false_eq_true, or_true, true_or, or_false, false_or]; first | done | omega) | exact Or.inl rfl | exact Or.inr rfl) only [cl_228, m_cat_n, m_cat_i, m_cat_r, m_cat_z, m_cat_rv, m_cat_l, Nat.zero_le, Nat.reduceLeDiff, Nat.reduceAdd, m_o_i, m_o_r, m_o_z, m_o_rv, hs_n, hs_k, f_k_135 I, n_135 I, hna, hka]
    refine v_228 I ha a0.1 a0.2.2 (by omega) q0 q1N (p := 1) (by decide) (by decide) (fun hy F3 f3 r3 => ?_) (fun hy => ?_)
    · unfold sp_g2 at hQ
      rw [if_pos hy, ← r3] at hQ
      have b1 := I_pd a0.1 q0 q1N a0.2.2
      rw [← r3] at b1
      simp (disch := first | omega | (simp (disch := omega) only [i_lt0, i_tn, i_nn, m_cat_n, m_cat_i, m_cat_r, m_cat_z, m_cat_rv, m_cat_l, m_o_n, m_o_i, m_o_r, m_o_z, m_o_rv, m_o_f, hs_n, hs_k, hs_l, f_k_135 I, n_135 I, f_R_135_5 I, f_k_140 I, f_l_140 I, n_140 I, x_140, f_R_135_6 I, f_k_141 I, f_l_141 I, n_141 I, x_141, Nat.reduceLeDiff, not_false_eq_true, or_true, true_or, or_false, false_or, hka, hla, hxa, hna]; first | done | omega) | exact Or.inl rfl | exact Or.inr rfl) only [w_aload_1, w_aloadz_1, w_aloadv_1, w_iload_3, w_iconst, m_cat_n, m_cat_i, m_cat_r, m_cat_z, m_cat_rv, m_cat_l, Nat.zero_le, Nat.reduceLeDiff, Nat.reduceAdd, m_o_i, m_o_r, m_o_z, m_o_rv, m_C_inl, Option.toList_some, Option.toList_none, List.cons_append, List.nil_append, w_if_eq, w_aload_0, w_aloadz_0, w_aloadv_0, w_iload_2, w_vret, tg_229_27, tg_229_43, tg_229_122, tg_229_130, w_icmp_eq, hs_n, hs_k, hs_l, hs_R, hs_I, hs_L, hs_setI, hs_setL, hs_cpy, f_k_135 I, n_135 I, f_R_135_5 I, f_k_140 I, f_l_140 I, n_140 I, x_140, f_R_135_6 I, f_k_141 I, f_l_141 I, n_141 I, x_141, up_up, up_sw, up_sa, i_add, i_sub, i_mul, i_tn, i_nat, Int.reduceToNat, Int.reduceAdd, Int.reduceSub, Int.reduceMul, Int.reduceNeg, l_32, l_nat, l_c_lt, l_c_gt, l_c_eq, i_lt, i_eq, i_lt0, i_0lt, i_eq0, i_eq1, Int.reduceLT, Int.reduceEq, Int.reduceLE, Int.reduceNe, not_true_eq_false, not_false_eq_true, Nat.lt_irrefl, Int.lt_irrefl, eq_self, eq_self, Nat.reduceAdd, Nat.reduceMul, Nat.reduceSub, Nat.reduceDiv, Nat.reduceMod, Nat.reduceEqDiff, Nat.reduceLeDiff, Nat.reduceLT, Nat.zero_add, Nat.add_zero, Nat.zero_le, and_false, and_true, and_self, false_and, true_and, or_false, or_true, if_true, if_false, ite_true, ite_false, ↓reduceIte, Int.reduceToNat, Int.reduceAdd, Int.reduceSub, Int.reduceMul, Int.reduceNeg, up_eq, up_na, up_nk]
      simp (disch := first | omega | (simp (disch := omega) only [i_lt0, i_tn, i_nn, m_cat_n, m_cat_i, m_cat_r, m_cat_z, m_cat_rv, m_cat_l, m_o_n, m_o_i, m_o_r, m_o_z, m_o_rv, m_o_f, hs_n, hs_k, hs_l, f_k_135 I, n_135 I, Nat.reduceLeDiff, not_false_eq_true, or_true, true_or, or_false, false_or]; first | done | omega) | exact Or.inl rfl | exact Or.inr rfl) only [cl_222, m_cat_n, m_cat_i, m_cat_r, m_cat_z, m_cat_rv, m_cat_l, Nat.zero_le, Nat.reduceLeDiff, Nat.reduceAdd, m_o_i, m_o_r, m_o_z, m_o_rv, hs_n, hs_k, f_k_135 I, n_135 I, hna, hka]
      have g3 := sf_tr gN f3
      refine v_222 I ha (pR_f ha g3 P) gd d0 d4 b1.1 b1.2.2 (by omega) (fun F4 f4 r4 => ?_)
      simp (disch := first | omega | (simp (disch := omega) only [i_lt0, i_tn, i_nn, m_cat_n, m_cat_i, m_cat_r, m_cat_z, m_cat_rv, m_cat_l, m_o_n, m_o_i, m_o_r, m_o_z, m_o_rv, m_o_f, hs_n, hs_k, hs_l, f_k_135 I, n_135 I, f_R_135_5 I, f_k_140 I, f_l_140 I, n_140 I, x_140, f_R_135_6 I, f_k_141 I, f_l_141 I, n_141 I, x_141, Nat.reduceLeDiff, not_false_eq_true, or_true, true_or, or_false, false_or, hka, hla, hxa, hna]; first | done | omega) | exact Or.inl rfl | exact Or.inr rfl) only [w_aload_1, w_aloadz_1, w_aloadv_1, w_iload_3, w_iconst, m_cat_n, m_cat_i, m_cat_r, m_cat_z, m_cat_rv, m_cat_l, Nat.zero_le, Nat.reduceLeDiff, Nat.reduceAdd, m_o_i, m_o_r, m_o_z, m_o_rv, m_C_inl, Option.toList_some, Option.toList_none, List.cons_append, List.nil_append, w_if_eq, w_aload_0, w_aloadz_0, w_aloadv_0, w_iload_2, w_vret, tg_229_27, tg_229_43, tg_229_122, tg_229_130, w_icmp_eq, hs_n, hs_k, hs_l, hs_R, hs_I, hs_L, hs_setI, hs_setL, hs_cpy, f_k_135 I, n_135 I, f_R_135_5 I, f_k_140 I, f_l_140 I, n_140 I, x_140, f_R_135_6 I, f_k_141 I, f_l_141 I, n_141 I, x_141, up_up, up_sw, up_sa, i_add, i_sub, i_mul, i_tn, i_nat, Int.reduceToNat, Int.reduceAdd, Int.reduceSub, Int.reduceMul, Int.reduceNeg, l_32, l_nat, l_c_lt, l_c_gt, l_c_eq, i_lt, i_eq, i_lt0, i_0lt, i_eq0, i_eq1, Int.reduceLT, Int.reduceEq, Int.reduceLE, Int.reduceNe, not_true_eq_false, not_false_eq_true, Nat.lt_irrefl, Int.lt_irrefl, eq_self, eq_self, Nat.reduceAdd, Nat.reduceMul, Nat.reduceSub, Nat.reduceDiv, Nat.reduceMod, Nat.reduceEqDiff, Nat.reduceLeDiff, Nat.reduceLT, Nat.zero_add, Nat.add_zero, Nat.zero_le, and_false, and_true, and_self, false_and, true_and, or_false, or_true, if_true, if_false, ite_true, ite_false, ↓reduceIte, Int.reduceToNat, Int.reduceAdd, Int.reduceSub, Int.reduceMul, Int.reduceNeg, up_eq, up_na, up_nk]
      exact hQ F4 (sf_tr g3 f4) r4
    · simp (disch := first | omega | (simp (disch := omega) only [i_lt0, i_tn, i_nn, m_cat_n, m_cat_i, m_cat_r, m_cat_z, m_cat_rv, m_cat_l, m_o_n, m_o_i, m_o_r, m_o_z, m_o_rv, m_o_f, hs_n, hs_k, hs_l, f_k_135 I, n_135 I, f_R_135_5 I, f_k_140 I, f_l_140 I, n_140 I, x_140, f_R_135_6 I, f_k_141 I, f_l_141 I, n_141 I, x_141, Nat.reduceLeDiff, not_false_eq_true, or_true, true_or, or_false, false_or, hka, hla, hxa, hna]; first | done | omega) | exact Or.inl rfl | exact Or.inr rfl) only [w_aload_1, w_aloadz_1, w_aloadv_1, w_iload_3, w_iconst, m_cat_n, m_cat_i, m_cat_r, m_cat_z, m_cat_rv, m_cat_l, Nat.zero_le, Nat.reduceLeDiff, Nat.reduceAdd, m_o_i, m_o_r, m_o_z, m_o_rv, m_C_inl, Option.toList_some, Option.toList_none, List.cons_append, List.nil_append, w_if_eq, w_aload_0, w_aloadz_0, w_aloadv_0, w_iload_2, w_vret, tg_229_27, tg_229_43, tg_229_122, tg_229_130, w_icmp_eq, hs_n, hs_k, hs_l, hs_R, hs_I, hs_L, hs_setI, hs_setL, hs_cpy, f_k_135 I, n_135 I, f_R_135_5 I, f_k_140 I, f_l_140 I, n_140 I, x_140, f_R_135_6 I, f_k_141 I, f_l_141 I, n_141 I, x_141, up_up, up_sw, up_sa, i_add, i_sub, i_mul, i_tn, i_nat, Int.reduceToNat, Int.reduceAdd, Int.reduceSub, Int.reduceMul, Int.reduceNeg, l_32, l_nat, l_c_lt, l_c_gt, l_c_eq, i_lt, i_eq, i_lt0, i_0lt, i_eq0, i_eq1, Int.reduceLT, Int.reduceEq, Int.reduceLE, Int.reduceNe, not_true_eq_false, not_false_eq_true, Nat.lt_irrefl, Int.lt_irrefl, eq_self, eq_self, Nat.reduceAdd, Nat.reduceMul, Nat.reduceSub, Nat.reduceDiv, Nat.reduceMod, Nat.reduceEqDiff, Nat.reduceLeDiff, Nat.reduceLT, Nat.zero_add, Nat.add_zero, Nat.zero_le, and_false, and_true, and_self, false_and, true_and, or_false, or_true, if_true, if_false, ite_true, ite_false, ↓reduceIte, Int.reduceToNat, Int.reduceAdd, Int.reduceSub, Int.reduceMul, Int.reduceNeg, up_eq, up_na, up_nk]
      exact vB_229 I ha (pR_f ha gN P) gd d0 d4 a0.1 a0.2.2 (by omega) q0 q1N hy (fun F4 f4 r4 => hQ F4 (sf_tr gN f4) r4)
