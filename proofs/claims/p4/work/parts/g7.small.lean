/-! numbers stay small; a driver crashes, exactly -/
/-- a request's argument, result; what lies behind a row: any whole number -/
def sp_rp (j : Nat) : Prop := (192 ≤ j ∧ j < 1592 ∧ ((j - 192) % 14 = 8 ∨ (j - 192) % 14 = 2)) ∨ 2392 ≤ j
/-- all else stays small -/
def sp_B (B : Int) (s : sp_R) : Prop := 200000 ≤ B ∧ (0 ≤ s 0 ∧ s 0 + 2000 ≤ B) ∧ ∀ j, ¬ sp_rp j → -B ≤ s j ∧ s j ≤ B
section BB
variable {G : tx_G} {D : Nat} {s s' : sp_R} {B B' v ev dr q y : Int} {j : Nat}
theorem B_m (h : B ≤ B') (hB : sp_B B s) : sp_B B' s := ⟨by have := hB.1; omega, by have := hB.2.1; omega, fun j hj => by have := hB.2.2 j hj; omega⟩
theorem B_u (hj : ¬ j = 0) (hv : -B ≤ v ∧ v ≤ B) (hB : sp_B B s) : sp_B B (tx_u1 s j v) := by
  refine ⟨hB.1, by rw [u1_n (fun e => hj e.symm)]; exact hB.2.1, fun i hi => ?_⟩
  by_cases e : i = j
  · subst e
    rw [u1_e]
    exact hv
  · rw [u1_n e]
    exact hB.2.2 i hi
theorem B_r (hj : sp_rp j) (hB : sp_B B s) : sp_B B (tx_u1 s j v) := by
  refine ⟨hB.1, by rw [u1_n (by unfold sp_rp at hj; omega)]; exact hB.2.1, fun i hi => ?_⟩
  by_cases e : i = j
  · subst e
    exact absurd hj hi
  · rw [u1_n e]
    exact hB.2.2 i hi
theorem B_cg (h0 : s' 0 = s 0) (h : ∀ j, ¬ sp_rp j → s' j = 0 ∨ ∃ i, ¬ sp_rp i ∧ s' j = s i) (hB : sp_B B s) : sp_B B s' := by
  refine ⟨hB.1, by rw [h0]; exact hB.2.1, fun i hi => ?_⟩
  rcases h i hi with e | ⟨k, hk, e⟩
  · rw [e]
    have := hB.1
    omega
  · rw [e]
    exact hB.2.2 k hk
theorem B_j (hB : sp_B B s) (hj : ¬ sp_rp j) : -B ≤ s j ∧ s j ≤ B := hB.2.2 j hj
theorem B_no (hI : sp_I G D s) (v0 : 0 ≤ ev) (v8 : ev ≤ 8) (hd : -1 ≤ dr ∧ dr ≤ 1000) (hq : -1 ≤ q ∧ q ≤ 1000) (hB : sp_B B s) : sp_B (B + 2) (sp_no s ev dr q) := by
  have h1 := hB.1
  have hn := I_n hI
  have hc : sp_B (B + 2) (sp_ct s ev) := by
    have := B_j hB (j := (3 + ev).toNat) (by unfold sp_rp; omega)
    exact B_u (by omega) (by omega) (B_m (by omega) hB)
  have key : ∀ t : sp_R, sp_B (B + 2) t → 0 ≤ t 2 → t 2 ≤ 199 → sp_B (B + 2) (sp_ad t ev dr q) := by
    intro t ht h2 h3
    have := ht.2.1
    unfold sp_ad
    exact B_u (by omega) (by omega) (B_u (by omega) (by omega) (B_u (by omega) (by omega) (B_u (by omega) (by omega) (B_u (by omega) (by omega) ht))))
  have c2 : sp_ct s ev 2 = s 2 := u1_n (by omega)
  unfold sp_no
  split
  · refine key _ ?_ ?_ ?_
    · unfold sp_sh
      refine B_u (by decide) (by omega) (B_cg (if_neg (by decide)) (fun j hj => Or.inr ?_) hc)
      by_cases c : 1592 ≤ j ∧ j < 2388
      · exact ⟨j + 4, by unfold sp_rp; omega, if_pos c⟩
      · exact ⟨j, hj, if_neg c⟩
    · unfold sp_sh
      rw [u1_e]
      decide
    · unfold sp_sh
      rw [u1_e]
      decide
  · exact key _ hc (by omega) (by omega)
theorem no_n (v0 : 0 ≤ ev) (v8 : ev ≤ 8) (h2 : 0 ≤ s 2 ∧ s 2 ≤ 200) (hj : ¬ j = 2 ∧ ¬ (3 ≤ j ∧ j ≤ 11) ∧ j < 1592) : sp_no s ev dr q j = s j := by
  have c2 : sp_ct s ev 2 = s 2 := u1_n (by omega)
  have cj : sp_ct s ev j = s j := u1_n (by omega)
  have key : ∀ t : sp_R, 0 ≤ t 2 → t j = s j → sp_ad t ev dr q j = s j := by
    intro t h2 ht
    unfold sp_ad
    rw [u1_n (by omega), u1_n (by omega), u1_n (by omega), u1_n (by omega), u1_n (by omega)]
    exact ht
  unfold sp_no
  split
  · refine key _ ?_ ?_
    · unfold sp_sh
      rw [u1_e]
      decide
    · unfold sp_sh
      rw [u1_n (by omega), if_neg (by omega)]
      exact cj
  · exact key _ (by omega) cj
theorem B_b2 {k : Int} (hk : k = 28 ∨ k = 32) (d0 : 0 ≤ dr) (hB : sp_B B s) : sp_B B (sp_b2 s k dr q) := by
  have := hB.1
  unfold sp_b2
  split
  · exact B_u (by omega) (by omega) hB
  · exact hB
theorem B_bad (hI : sp_I G D s) (q0 : 0 ≤ q) (q1 : q < s 1) (hy : 0 ≤ y ∧ y ≤ 5) (hB : sp_B B s) : sp_B (B + 2) (sp_bad s q y) := by
  obtain ⟨d0, d4⟩ := o_dr hI q0 q1
  have hn := I_n hI
  have h1 := hB.1
  have h2 := hB.2.1
  unfold sp_bad sp_b1
  have a1 := I_u (j := 6) (v := 3) hI q0 q1 (by decide) (by decide)
  have a2 := I_u (j := 7) (v := y) a1.1 q0 (by rw [a1.2]; exact q1) (by decide) (by decide)
  have a3 := I_u (j := 13) (v := s 0) a2.1 q0 (by rw [a2.2, a1.2]; exact q1) (by decide) (by decide)
  have a4 := I_b2 (k := 28) (q := q) a3.1 (Or.inl rfl) d0 d4
  have a5 := I_b2 (k := 32) (q := q) a4.1 (Or.inr rfl) d0 d4
  refine B_no a5.1 (by decide) (by decide) (by omega) (by omega) (B_b2 (Or.inr rfl) d0 (B_b2 (Or.inl rfl) d0 ?_))
  unfold sp_u
  exact B_u (by omega) (by omega) (B_u (by omega) (by omega) (B_u (by omega) (by omega) hB))
theorem d0_b (gd : q_gd G) : ∀ n, 0 ≤ sp_d0 G n ∧ sp_d0 G n ≤ 1000
  | 0 => by
    have := gd.2.2.2.1
    show 0 ≤ G.1 2 ∧ G.1 2 ≤ 1000
    omega
  | n + 1 => by
    have := d0_b gd n
    have := gd.2.2.2.2.1
    show 0 ≤ min (2 * sp_d0 G n) (G.1 3) ∧ min (2 * sp_d0 G n) (G.1 3) ≤ 1000
    omega
theorem dl_b (gd : q_gd G) (k : Int) : 0 ≤ sp_dl G k ∧ sp_dl G k ≤ 1000 := by
  have := d0_b gd (k - 1).toNat
  have := gd.2.2.2.2.1
  unfold sp_dl
  omega
end BB
/-- a driver's variables lost so far -/
def sp_lsi (s : sp_R) (dr i : Int) : sp_R := fun j => if 80 + 4 * dr ≤ j ∧ (j : Int) < 80 + 4 * dr + i then 0 else s j
theorem lsi_s {s : sp_R} {dr i : Int} (d0 : 0 ≤ dr) (h0 : 0 ≤ i) : tx_u1 (sp_lsi s dr i) (80 + 4 * dr + i).toNat 0 = sp_lsi s dr (i + 1) := by
  funext j
  unfold tx_u1 sp_lsi
  by_cases e : j = (80 + 4 * dr + i).toNat
  · rw [if_pos e, if_pos (by omega)]
  · rw [if_neg e]
    by_cases c : 80 + 4 * dr ≤ j ∧ (j : Int) < 80 + 4 * dr + i
    · rw [if_pos c, if_pos (by omega)]
    · rw [if_neg c, if_neg (by omega)]
theorem lsi_0 {s : sp_R} {dr : Int} : sp_lsi s dr 0 = s := by
  funext j
  exact if_neg (by omega)
theorem lsi_4 {s : sp_R} {dr : Int} : sp_lsi s dr 4 = sp_ls s dr := by
  funext j
  unfold sp_lsi sp_ls
  by_cases c : 80 + 4 * dr ≤ j ∧ (j : Int) < 80 + 4 * dr + 4
  · rw [if_pos c, if_pos (by omega)]
  · rw [if_neg c, if_neg (by omega)]
set_option maxHeartbeats 1000000 in
theorem vL_220 {L : Nat} {xs : Nat → Int32} {d : Nat} {h : m_H} {w : Int64} {F0 : m_M} {Q : Option Value ⊕ Nat → m_H → Prop} (I : RF h) {a : Nat} (ha : a = 147 ∨ a = 148) {dr : Int} (d0 : 0 ≤ dr) (d4 : dr < 4) {s : sp_R} (hQ : ∀ F' : m_M, sp_f a F0 F' → F' a = sp_ls s dr → Q (.inl none) (m_hS h (w, F'))) : ∀ (n : Nat) (F : m_M) (i : Int), sp_f a F0 F → F a = sp_lsi s dr i → 0 ≤ i → i ≤ 4 → 4 - i ≤ n → m_W (p_P L xs) d 220 k_220_2 [some (.ref a), some (.int (Int32.ofInt dr)), some (.int (Int32.ofInt i))] [] (m_hS h (w, F)) Q := by
  have hka := ra_k I ha
  have hla := ra_l I ha
  have hna := ra_n I ha
  have hxa := ra_x ha
  have ne135 : ¬ 135 = a := by omega
  have ne136 : ¬ 136 = a := by omega
  have ne144 : ¬ 144 = a := by omega
  have ne153 : ¬ 153 = a := by omega
  have na135 : ¬ a = 135 := by omega
  have na153 : ¬ a = 153 := by omega
  intro n
  induction n with
  | zero =>
    intro F i f0 hr h0 h1 h2
    have e : ¬ i < 4 := by omega
    rw [k_220_2]
    simp (disch := first | omega | (simp (disch := omega) only [i_lt0, i_tn, i_nn, m_cat_n, m_cat_i, m_cat_r, m_cat_z, m_cat_rv, m_cat_l, m_o_n, m_o_i, m_o_r, m_o_z, m_o_rv, m_o_f, hs_n, hs_k, hs_l, f_k_135 I, n_135 I, Nat.reduceLeDiff, not_false_eq_true, or_true, true_or, or_false, false_or, hka, hla, hxa, hna]; first | done | omega) | exact Or.inl rfl | exact Or.inr rfl) only [k_220_2, k_220_24, w_iload_2, w_iconst, w_icmp_ge, w_aload_0, w_aloadz_0, w_aloadv_0, w_iload_1, w_imul, w_iadd, w_iastore, w_iinc_2, m_o_n, m_o_i, m_o_r, m_o_z, m_o_rv, m_o_f, w_goto, w_vret, tg_220_2, tg_220_24, m_C_inl, Option.toList_some, Option.toList_none, List.cons_append, List.nil_append, w_icmp_eq, w_if_eq, hs_n, hs_k, hs_l, hs_R, hs_I, hs_L, hs_setI, hs_setL, hs_cpy, f_k_135 I, n_135 I, up_up, up_sw, up_sa, i_add, i_sub, i_mul, i_tn, i_nat, Int.reduceToNat, Int.reduceAdd, Int.reduceSub, Int.reduceMul, Int.reduceNeg, l_32, l_nat, l_c_lt, l_c_gt, l_c_eq, i_lt, i_eq, i_lt0, i_0lt, i_eq0, i_eq1, Int.reduceLT, Int.reduceEq, Int.reduceLE, Int.reduceNe, not_true_eq_false, not_false_eq_true, Nat.lt_irrefl, Int.lt_irrefl, eq_self, eq_self, Nat.reduceAdd, Nat.reduceMul, Nat.reduceSub, Nat.reduceDiv, Nat.reduceMod, Nat.reduceEqDiff, Nat.reduceLeDiff, Nat.reduceLT, Nat.zero_add, Nat.add_zero, Nat.zero_le, and_false, and_true, and_self, false_and, true_and, or_false, or_true, if_true, if_false, ite_true, ite_false, ↓reduceIte, Int.reduceToNat, Int.reduceAdd, Int.reduceSub, Int.reduceMul, Int.reduceNeg, up_eq, up_na, up_nk, e]
    obtain rfl : i = 4 := by omega
    exact hQ F f0 (hr.trans lsi_4)
  | succ n ih =>
    intro F i f0 hr h0 h1 h2
    by_cases e : i < 4
    · rw [k_220_2]
      simp (disch := first | omega | (simp (disch := omega) only [i_lt0, i_tn, i_nn, m_cat_n, m_cat_i, m_cat_r, m_cat_z, m_cat_rv, m_cat_l, m_o_n, m_o_i, m_o_r, m_o_z, m_o_rv, m_o_f, hs_n, hs_k, hs_l, f_k_135 I, n_135 I, Nat.reduceLeDiff, not_false_eq_true, or_true, true_or, or_false, false_or, hka, hla, hxa, hna]; first | done | omega) | exact Or.inl rfl | exact Or.inr rfl) only [w_iload_2, w_iconst, w_icmp_ge, w_aload_0, w_aloadz_0, w_aloadv_0, w_iload_1, w_imul, w_iadd, w_iastore, w_iinc_2, m_o_n, m_o_i, m_o_r, m_o_z, m_o_rv, m_o_f, w_goto, tg_220_2, tg_220_24, m_C_inl, Option.toList_some, Option.toList_none, List.cons_append, List.nil_append, w_icmp_eq, w_if_eq, hs_n, hs_k, hs_l, hs_R, hs_I, hs_L, hs_setI, hs_setL, hs_cpy, f_k_135 I, n_135 I, up_up, up_sw, up_sa, i_add, i_sub, i_mul, i_tn, i_nat, Int.reduceToNat, Int.reduceAdd, Int.reduceSub, Int.reduceMul, Int.reduceNeg, l_32, l_nat, l_c_lt, l_c_gt, l_c_eq, i_lt, i_eq, i_lt0, i_0lt, i_eq0, i_eq1, Int.reduceLT, Int.reduceEq, Int.reduceLE, Int.reduceNe, not_true_eq_false, not_false_eq_true, Nat.lt_irrefl, Int.lt_irrefl, eq_self, eq_self, Nat.reduceAdd, Nat.reduceMul, Nat.reduceSub, Nat.reduceDiv, Nat.reduceMod, Nat.reduceEqDiff, Nat.reduceLeDiff, Nat.reduceLT, Nat.zero_add, Nat.add_zero, Nat.zero_le, and_false, and_true, and_self, false_and, true_and, or_false, or_true, if_true, if_false, ite_true, ite_false, ↓reduceIte, Int.reduceToNat, Int.reduceAdd, Int.reduceSub, Int.reduceMul, Int.reduceNeg, up_eq, up_na, up_nk, e]
      refine ih _ (i + 1) (sf_tr f0 (by intro x y z1 z2 z3; simp (disch := omega) only [up_na, up_no])) ?_ (by omega) (by omega) (by omega)
      simp (disch := omega) only [up_row, up_ro, u1_n, u1_e, u1_uu, u1_sw, if_pos, if_neg, and_true, true_and, and_self, if_true, if_false]
      rw [hr, ← lsi_s d0 h0]
    · rw [k_220_2]
      simp (disch := first | omega | (simp (disch := omega) only [i_lt0, i_tn, i_nn, m_cat_n, m_cat_i, m_cat_r, m_cat_z, m_cat_rv, m_cat_l, m_o_n, m_o_i, m_o_r, m_o_z, m_o_rv, m_o_f, hs_n, hs_k, hs_l, f_k_135 I, n_135 I, Nat.reduceLeDiff, not_false_eq_true, or_true, true_or, or_false, false_or, hka, hla, hxa, hna]; first | done | omega) | exact Or.inl rfl | exact Or.inr rfl) only [k_220_2, k_220_24, w_iload_2, w_iconst, w_icmp_ge, w_aload_0, w_aloadz_0, w_aloadv_0, w_iload_1, w_imul, w_iadd, w_iastore, w_iinc_2, m_o_n, m_o_i, m_o_r, m_o_z, m_o_rv, m_o_f, w_goto, w_vret, tg_220_2, tg_220_24, m_C_inl, Option.toList_some, Option.toList_none, List.cons_append, List.nil_append, w_icmp_eq, w_if_eq, hs_n, hs_k, hs_l, hs_R, hs_I, hs_L, hs_setI, hs_setL, hs_cpy, f_k_135 I, n_135 I, up_up, up_sw, up_sa, i_add, i_sub, i_mul, i_tn, i_nat, Int.reduceToNat, Int.reduceAdd, Int.reduceSub, Int.reduceMul, Int.reduceNeg, l_32, l_nat, l_c_lt, l_c_gt, l_c_eq, i_lt, i_eq, i_lt0, i_0lt, i_eq0, i_eq1, Int.reduceLT, Int.reduceEq, Int.reduceLE, Int.reduceNe, not_true_eq_false, not_false_eq_true, Nat.lt_irrefl, Int.lt_irrefl, eq_self, eq_self, Nat.reduceAdd, Nat.reduceMul, Nat.reduceSub, Nat.reduceDiv, Nat.reduceMod, Nat.reduceEqDiff, Nat.reduceLeDiff, Nat.reduceLT, Nat.zero_add, Nat.add_zero, Nat.zero_le, and_false, and_true, and_self, false_and, true_and, or_false, or_true, if_true, if_false, ite_true, ite_false, ↓reduceIte, Int.reduceToNat, Int.reduceAdd, Int.reduceSub, Int.reduceMul, Int.reduceNeg, up_eq, up_na, up_nk, e]
      obtain rfl : i = 4 := by omega
      exact hQ F f0 (hr.trans lsi_4)
theorem v_220 {L : Nat} {xs : Nat → Int32} {d : Nat} {h : m_H} {w : Int64} {F : m_M} {Q : Option Value ⊕ Nat → m_H → Prop} (I : RF h) {a : Nat} (ha : a = 147 ∨ a = 148) {dr : Int} (d0 : 0 ≤ dr) (d4 : dr < 4) (hQ : ∀ F' : m_M, sp_f a F F' → F' a = sp_ls (F a) dr → Q (.inl none) (m_hS h (w, F'))) : m_W (p_P L xs) d 220 k_220_0 [some (.ref a), some (.int (Int32.ofInt dr)), none] [] (m_hS h (w, F)) Q := by
  rw [k_220_0]
  simp (disch := first | omega | (simp (disch := omega) only [i_lt0, i_tn, i_nn, m_cat_n, m_cat_i, m_cat_r, m_cat_z, m_cat_rv, m_cat_l, m_o_n, m_o_i, m_o_r, m_o_z, m_o_rv, m_o_f, hs_n, hs_k, hs_l, f_k_135 I, n_135 I, Nat.reduceLeDiff, not_false_eq_true, or_true, true_or, or_false, false_or]; first | done | omega) | exact Or.inl rfl | exact Or.inr rfl) only [k_220_0, w_iconst, w_istore_2, m_o_n, m_o_i, m_o_r, m_o_z, m_o_rv, m_o_f, tg_220_2, tg_220_24, m_C_inl, Option.toList_some, Option.toList_none, List.cons_append, List.nil_append, w_icmp_eq, w_if_eq, hs_n, hs_k, hs_l, hs_R, hs_I, hs_L, hs_setI, hs_setL, hs_cpy, f_k_135 I, n_135 I, up_up, up_sw, up_sa, up_if, i_add, i_sub, i_mul, i_tn, i_nat, Int.reduceToNat, Int.reduceAdd, Int.reduceSub, Int.reduceMul, Int.reduceNeg, l_32, l_nat, l_c_lt, l_c_gt, l_c_eq, i_lt, i_eq, i_lt0, i_0lt, i_eq0, i_eq1, Int.reduceLT, Int.reduceEq, Int.reduceLE, Int.reduceNe, not_true_eq_false, not_false_eq_true, Nat.lt_irrefl, Int.lt_irrefl, eq_self, eq_self, Nat.reduceAdd, Nat.reduceMul, Nat.reduceSub, Nat.reduceDiv, Nat.reduceMod, Nat.reduceEqDiff, Nat.reduceLeDiff, Nat.reduceLT, Nat.zero_add, Nat.add_zero, Nat.zero_le, and_false, and_true, and_self, false_and, true_and, or_false, or_true, if_true, if_false, ite_true, ite_false, ↓reduceIte, Int.reduceToNat, Int.reduceAdd, Int.reduceSub, Int.reduceMul, Int.reduceNeg]
  exact vL_220 I ha d0 d4 hQ 4 F 0 sf_rf lsi_0.symm (by omega) (by omega) (by omega)
set_option maxHeartbeats 1000000 in
theorem vL_221 {L : Nat} {xs : Nat → Int32} {d : Nat} {h : m_H} {w : Int64} {F : m_M} {Q : Option Value ⊕ Nat → m_H → Prop} (I : RF h) {G : tx_G} (P : q_pR F G) (gd : q_gd G) {v : Int} (v1 : -2147483648 ≤ v) (v2 : v ≤ 2147483647) (hQ : Q (.inl (some (.int (Int32.ofInt (sp_dl G v))))) (m_hS h (w, F))) : ∀ (n : Nat) (i : Int), 1 ≤ i → i ≤ 2147483647 → (i ≤ v ∨ (i = 1 ∧ v ≤ 1)) → v - i ≤ n → m_W (p_P L xs) (d + 1) 221 k_221_9 [some (.ref 135), some (.int (Int32.ofInt v)), some (.int (Int32.ofInt (sp_d0 G (i - 1).toNat))), some (.int (Int32.ofInt i))] [] (m_hS h (w, F)) Q := by
  obtain ⟨⟨-, -, e3, -, -, -, -, -⟩, -⟩ := P
  have hb := d0_b gd
  have h3 := gd.2.2.2.2.1
  have fin : ∀ i : Int, 1 ≤ i → i ≤ 2147483647 → (i ≤ v ∨ (i = 1 ∧ v ≤ 1)) → ¬ i < v → m_W (p_P L xs) (d + 1) 221 k_221_9 [some (.ref 135), some (.int (Int32.ofInt v)), some (.int (Int32.ofInt (sp_d0 G (i - 1).toNat))), some (.int (Int32.ofInt i))] [] (m_hS h (w, F)) Q := by
    intro i h0 h1 hv e
    have hu := hb (i - 1).toNat
    unfold sp_dl at hQ
    rw [show (v - 1).toNat = (i - 1).toNat by omega] at hQ
    rw [k_221_9]
    (repeat' (first | (simp (disch := first | omega | (simp (disch := omega) only [i_lt0, i_tn, i_nn, m_cat_n, m_cat_i, m_cat_r, m_cat_z, m_cat_rv, m_cat_l, m_o_n, m_o_i, m_o_r, m_o_z, m_o_rv, m_o_f, hs_n, hs_k, hs_l, f_k_135 I, n_135 I, f_R_135_1 I, f_k_136 I, f_l_136 I, n_136 I, x_136, Nat.reduceLeDiff, not_false_eq_true, or_true, true_or, or_false, false_or]; first | done | omega) | exact Or.inl rfl | exact Or.inr rfl) only [k_221_33, w_iload_3, w_iload_1, w_icmp_ge, w_iconst, w_iload_2, w_imul, w_aload_0, w_aloadz_0, w_aloadv_0, gf_769, m_rv_s, m_rv_n, w_iaload, w_script, m_cat_n, m_cat_i, m_cat_r, m_cat_z, m_cat_rv, m_cat_l, Nat.zero_le, Nat.reduceLeDiff, Nat.reduceAdd, cl_155, m_o_i, m_o_r, m_o_z, m_o_rv, m_C_inl, Option.toList_some, Option.toList_none, List.cons_append, List.nil_append, w_istore_2, m_o_n, m_o_f, w_iinc_3, w_goto, w_iret, tg_221_9, tg_221_33, k_155_0, k_155_9, tg_155_9, k_155_10, tg_155_10, w_iload_0, w_icmp_eq, w_if_eq, hs_n, hs_k, hs_l, hs_R, hs_I, hs_L, hs_setI, hs_setL, hs_cpy, f_k_135 I, n_135 I, f_R_135_1 I, f_k_136 I, f_l_136 I, n_136 I, x_136, up_up, up_sw, up_sa, up_if, i_add, i_sub, i_mul, i_tn, i_nat, Int.reduceToNat, Int.reduceAdd, Int.reduceSub, Int.reduceMul, Int.reduceNeg, l_32, l_nat, l_c_lt, l_c_gt, l_c_eq, i_lt, i_eq, i_lt0, i_0lt, i_eq0, i_eq1, Int.reduceLT, Int.reduceEq, Int.reduceLE, Int.reduceNe, not_true_eq_false, not_false_eq_true, Nat.lt_irrefl, Int.lt_irrefl, eq_self, eq_self, Nat.reduceAdd, Nat.reduceMul, Nat.reduceSub, Nat.reduceDiv, Nat.reduceMod, Nat.reduceEqDiff, Nat.reduceLeDiff, Nat.reduceLT, Nat.zero_add, Nat.add_zero, Nat.zero_le, and_false, and_true, and_self, false_and, true_and, or_false, or_true, if_true, if_false, ite_true, ite_false, ↓reduceIte, Int.reduceToNat, Int.reduceAdd, Int.reduceSub, Int.reduceMul, Int.reduceNeg, e, e3]) | split))
    · rw [show min (sp_d0 G (i - 1).toNat) (G.1 3) = sp_d0 G (i - 1).toNat by omega] at hQ
      exact hQ
    · rw [show min (sp_d0 G (i - 1).toNat) (G.1 3) = G.1 3 by omega] at hQ
      exact hQ
  intro n
  induction n with
  | zero =>
    intro i h0 h1 hv h2
    exact fin i h0 h1 hv (by omega)
  | succ n ih =>
    intro i h0 h1 hv h2
    by_cases e : i < v
    · have hu := hb (i - 1).toNat
      have ih := ih (i + 1) (by omega) (by omega) (by omega) (by omega)
      rw [show (i + 1 - 1).toNat = (i - 1).toNat + 1 by omega, show sp_d0 G ((i - 1).toNat + 1) = min (2 * sp_d0 G (i - 1).toNat) (G.1 3) from rfl] at ih
      rw [k_221_9]
      (repeat' (first | (simp (disch := first | omega | (simp (disch := omega) only [i_lt0, i_tn, i_nn, m_cat_n, m_cat_i, m_cat_r, m_cat_z, m_cat_rv, m_cat_l, m_o_n, m_o_i, m_o_r, m_o_z, m_o_rv, m_o_f, hs_n, hs_k, hs_l, f_k_135 I, n_135 I, f_R_135_1 I, f_k_136 I, f_l_136 I, n_136 I, x_136, Nat.reduceLeDiff, not_false_eq_true, or_true, true_or, or_false, false_or]; first | done | omega) | exact Or.inl rfl | exact Or.inr rfl) only [w_iload_3, w_iload_1, w_icmp_ge, w_iconst, w_iload_2, w_imul, w_aload_0, w_aloadz_0, w_aloadv_0, gf_769, m_rv_s, m_rv_n, w_iaload, w_script, m_cat_n, m_cat_i, m_cat_r, m_cat_z, m_cat_rv, m_cat_l, Nat.zero_le, Nat.reduceLeDiff, Nat.reduceAdd, cl_155, m_o_i, m_o_r, m_o_z, m_o_rv, m_C_inl, Option.toList_some, Option.toList_none, List.cons_append, List.nil_append, w_istore_2, m_o_n, m_o_f, w_iinc_3, w_goto, tg_221_9, tg_221_33, k_155_0, k_155_9, tg_155_9, k_155_10, tg_155_10, w_iload_0, w_iret, w_icmp_eq, w_if_eq, hs_n, hs_k, hs_l, hs_R, hs_I, hs_L, hs_setI, hs_setL, hs_cpy, f_k_135 I, n_135 I, f_R_135_1 I, f_k_136 I, f_l_136 I, n_136 I, x_136, up_up, up_sw, up_sa, up_if, i_add, i_sub, i_mul, i_tn, i_nat, Int.reduceToNat, Int.reduceAdd, Int.reduceSub, Int.reduceMul, Int.reduceNeg, l_32, l_nat, l_c_lt, l_c_gt, l_c_eq, i_lt, i_eq, i_lt0, i_0lt, i_eq0, i_eq1, Int.reduceLT, Int.reduceEq, Int.reduceLE, Int.reduceNe, not_true_eq_false, not_false_eq_true, Nat.lt_irrefl, Int.lt_irrefl, eq_self, eq_self, Nat.reduceAdd, Nat.reduceMul, Nat.reduceSub, Nat.reduceDiv, Nat.reduceMod, Nat.reduceEqDiff, Nat.reduceLeDiff, Nat.reduceLT, Nat.zero_add, Nat.add_zero, Nat.zero_le, and_false, and_true, and_self, false_and, true_and, or_false, or_true, if_true, if_false, ite_true, ite_false, ↓reduceIte, Int.reduceToNat, Int.reduceAdd, Int.reduceSub, Int.reduceMul, Int.reduceNeg, e, e3]) | split))
      · rw [show min (2 * sp_d0 G (i - 1).toNat) (G.1 3) = 2 * sp_d0 G (i - 1).toNat by omega] at ih
        exact ih
      · rw [show min (2 * sp_d0 G (i - 1).toNat) (G.1 3) = G.1 3 by omega] at ih
        exact ih
    · exact fin i h0 h1 hv e
theorem v_221 {L : Nat} {xs : Nat → Int32} {d : Nat} {h : m_H} {w : Int64} {F : m_M} {Q : Option Value ⊕ Nat → m_H → Prop} (I : RF h) {G : tx_G} (P : q_pR F G) (gd : q_gd G) {v : Int} (v1 : -2147483648 ≤ v) (v2 : v ≤ 2147483647) (hQ : Q (.inl (some (.int (Int32.ofInt (sp_dl G v))))) (m_hS h (w, F))) : m_W (p_P L xs) (d + 1) 221 k_221_0 [some (.ref 135), some (.int (Int32.ofInt v)), none, none] [] (m_hS h (w, F)) Q := by
  have e2 := P.1.2.1
  rw [k_221_0]
  simp (disch := first | omega | (simp (disch := omega) only [i_lt0, i_tn, i_nn, m_cat_n, m_cat_i, m_cat_r, m_cat_z, m_cat_rv, m_cat_l, m_o_n, m_o_i, m_o_r, m_o_z, m_o_rv, m_o_f, hs_n, hs_k, hs_l, f_k_135 I, n_135 I, f_R_135_1 I, f_k_136 I, f_l_136 I, n_136 I, x_136, Nat.reduceLeDiff, not_false_eq_true, or_true, true_or, or_false, false_or]; first | done | omega) | exact Or.inl rfl | exact Or.inr rfl) only [k_221_0, w_aload_0, w_aloadz_0, w_aloadv_0, gf_769, m_rv_s, m_rv_n, w_iconst, w_iaload, w_script, w_istore_2, m_o_n, m_o_i, m_o_r, m_o_z, m_o_rv, m_o_f, w_istore_3, tg_221_9, tg_221_33, m_C_inl, Option.toList_some, Option.toList_none, List.cons_append, List.nil_append, w_icmp_eq, w_if_eq, hs_n, hs_k, hs_l, hs_R, hs_I, hs_L, hs_setI, hs_setL, hs_cpy, f_k_135 I, n_135 I, f_R_135_1 I, f_k_136 I, f_l_136 I, n_136 I, x_136, up_up, up_sw, up_sa, up_if, i_add, i_sub, i_mul, i_tn, i_nat, Int.reduceToNat, Int.reduceAdd, Int.reduceSub, Int.reduceMul, Int.reduceNeg, l_32, l_nat, l_c_lt, l_c_gt, l_c_eq, i_lt, i_eq, i_lt0, i_0lt, i_eq0, i_eq1, Int.reduceLT, Int.reduceEq, Int.reduceLE, Int.reduceNe, not_true_eq_false, not_false_eq_true, Nat.lt_irrefl, Int.lt_irrefl, eq_self, eq_self, Nat.reduceAdd, Nat.reduceMul, Nat.reduceSub, Nat.reduceDiv, Nat.reduceMod, Nat.reduceEqDiff, Nat.reduceLeDiff, Nat.reduceLT, Nat.zero_add, Nat.add_zero, Nat.zero_le, and_false, and_true, and_self, false_and, true_and, or_false, or_true, if_true, if_false, ite_true, ite_false, ↓reduceIte, Int.reduceToNat, Int.reduceAdd, Int.reduceSub, Int.reduceMul, Int.reduceNeg, e2]
  exact vL_221 I P gd v1 v2 hQ (v - 1).toNat 1 (by omega) (by omega) (by omega) (by omega)
