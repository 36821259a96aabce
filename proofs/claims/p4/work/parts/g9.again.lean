/-! a request decided, a driver restarted, exactly -/
theorem B_ex {op : Int → sp_R → Int} {dr B : Int} (d0 : 0 ≤ dr) (d4 : dr < 4) : ∀ (cs st : List Int) (s : sp_R) {st' : List Int} {s' : sp_R}, sp_ex op dr cs st s = some (st', s') → sp_B B s → sp_B B s'
  | [], st, s, st', s', h, hB => by
    rw [sp_ex] at h
    obtain ⟨rfl, rfl⟩ := Prod.mk.inj (Option.some.inj h)
    exact hB
  | c :: cs, st, s, st', s', h, hB => by
    have h1 := hB.1
    rw [ex_c] at h
    by_cases q1 : c = 23
    · rw [if_pos q1] at h
      split at h
      · split at h
        · exact B_ex d0 d4 cs _ s h hB
        · exact absurd h (by simp)
      · exact absurd h (by simp)
    · rw [if_neg q1] at h
      by_cases q2 : 20 ≤ c ∧ c ≤ 28
      · rw [if_pos q2] at h
        split at h
        · split at h
          · exact B_ex d0 d4 cs _ s h hB
          · exact absurd h (by simp)
        · exact absurd h (by simp)
      · rw [if_neg q2] at h
        by_cases q3 : 40 ≤ c ∧ c ≤ 47
        · rw [if_pos q3] at h
          split at h
          · exact B_ex d0 d4 cs _ _ h (B_u (by omega) (by omega) hB)
          · exact absurd h (by simp)
        · rw [if_neg q3] at h
          by_cases q4 : 50 ≤ c ∧ c ≤ 53
          · rw [if_pos q4] at h
            split at h
            · exact B_ex d0 d4 cs _ _ h (B_u (by omega) (by omega) hB)
            · exact absurd h (by simp)
          · rw [if_neg q4] at h
            split at h
            · exact absurd h (by simp)
            · exact B_ex d0 d4 cs _ s h hB
section DE
variable {G : tx_G} {D : Nat} {s : sp_R} {B dr q y : Int}
theorem B_ke (gd : q_gd G) (hI : sp_I G D s) (q0 : 0 ≤ q) (q1 : q < s 1) (hB : sp_B B s) : sp_B B (sp_ke G s q) := by
  obtain ⟨d0, d4⟩ := o_dr hI q0 q1
  have hqq := I_q hI q0 q1
  obtain ⟨s', hx⟩ := (gd.1 (sp_o s q 1) hqq.2.1 hqq.2.2).2.2.2.2.2.2 (sp_op (sp_o s q 0) (sp_o s q 2) (sp_o s q 8)) (sp_o s q 0) s
  have e : sp_ke G s q = s' := by
    unfold sp_ke sp_xk
    rw [hx]
    rfl
  rw [e]
  exact B_ex d0 d4 _ _ _ hx hB
theorem B_sn (d0 : 0 ≤ dr) (d4 : dr < 4) (hD : D = 4 ∨ D = dr.toNat) (hI : sp_I G D s) (hB : sp_B B s) : sp_B (B + 2) (sp_sn s dr) := by
  have h1 := hB.1
  unfold sp_sn
  refine B_no (I_l0 (j := (44 + dr).toNat) (by omega) (by omega) (by omega) (I_cp d0 d4 hI)) (by decide) (by decide) (by omega) (by omega) (B_u (by omega) (by omega) (B_cg (if_neg (by omega)) (fun j hj => Or.inr ?_) hB))
  by_cases c : 96 + 4 * dr ≤ j ∧ j < 100 + 4 * dr
  · exact ⟨j - 16, by unfold sp_rp; omega, if_pos c⟩
  · exact ⟨j, hj, if_neg c⟩
theorem I_wel (gd : q_gd G) (hI : sp_I G 4 s) (q0 : 0 ≤ q) (q1 : q < s 1) (hB : sp_B B s) : sp_I G 4 (sp_wel G s q y) ∧ sp_wel G s q y 1 = s 1 ∧ sp_B (B + 4) (sp_wel G s q y) := by
  obtain ⟨d0, d4⟩ := o_dr hI q0 q1
  have hn := I_n hI
  have h1 := hB.1
  have h2 := hB.2.1
  obtain ⟨i1, i2, i3, i4⟩ := I_w1 (y := y) hI q0 q1
  have b1 : sp_B B (sp_w1 s q y) := by
    unfold sp_w1 sp_u
    exact B_u (by omega) (by omega) (B_u (by omega) (by omega) (B_r (by unfold sp_rp; omega) (B_u (by omega) (by omega) hB)))
  have j1 := I_no (ev := 2) (dr := sp_o s q 0) (q := q) (by decide) (by decide) i1
  have b2 := B_no (ev := 2) (dr := sp_o s q 0) (q := q) i1 (by decide) (by decide) (by omega) (by omega) b1
  have hq1 : q < sp_no (sp_w1 s q y) 2 (sp_o s q 0) q 1 := by rw [j1.2, i2]; exact q1
  obtain ⟨l1, l2, l3⟩ := I_ke gd j1.1 q0 hq1
  have b3 := B_ke gd j1.1 q0 hq1 b2
  have e1 : sp_w2 G s q y 1 = s 1 := by
    unfold sp_w2
    rw [l2, j1.2, i2]
  have hd2 := I_d (dr := sp_o s q 0) l1 d0 d4
  have x3 := I_lg (dr := sp_o s q 0) (q := q) d0 d4 q0 (by rw [l2]; exact hq1) l1
  have e3 : sp_w3 G s q y 1 = s 1 := by
    unfold sp_w3 sp_lg
    unfold sp_w2 at e1 ⊢
    rw [u1_n (by omega), u1_n (by omega)]
    exact e1
  have b4 : sp_B (B + 2) (sp_w3 G s q y) := by
    unfold sp_w3 sp_lg sp_w2
    exact B_u (by omega) (by omega) (B_u (by omega) (by omega) b3)
  have e5 : sp_w3 G s q y (44 + sp_o s q 0).toNat = sp_ke G (sp_no (sp_w1 s q y) 2 (sp_o s q 0) q) q (44 + sp_o s q 0).toNat + 1 := by
    unfold sp_w3 sp_lg sp_w2
    exact u1_e
  unfold sp_wel
  split
  · rename_i c
    refine ⟨I_D ?_ x3, e3, B_m (by omega) b4⟩
    rw [show 44 + (sp_o s q 0).toNat = (44 + sp_o s q 0).toNat by omega]
    exact c
  · have := I_sn d0 d4 (Or.inr rfl) x3
    exact ⟨this.1, this.2.trans e3, B_m (by omega) (B_sn d0 d4 (Or.inr rfl) x3 b4)⟩
theorem I_de (gd : q_gd G) (hI : sp_I G 4 s) (d0 : 0 ≤ dr) (d4 : dr < 4) (q0 : 0 ≤ q) (q1 : q < s 1) (hB : sp_B B s) : sp_I G 4 (sp_de G s dr q) ∧ sp_de G s dr q 1 = s 1 ∧ sp_B (B + 4) (sp_de G s dr q) := by
  have hn := I_n hI
  have h1 := hB.1
  unfold sp_de
  split
  · have a := I_bad (y := 2) hI q0 q1
    exact ⟨a.1, a.2, B_m (by omega) (B_bad (y := 2) hI q0 q1 (by decide) hB)⟩
  · split
    · exact I_wel gd hI q0 q1 hB
    · have a1 := I_u (j := 6) (v := 0) hI q0 q1 (by decide) (by decide)
      have a2 : sp_I G 4 (tx_u1 (tx_u1 (sp_u s q 6 0) (28 + dr).toNat q) (32 + dr).toNat (-1)) := I_fl (by omega) (by omega) (by omega) (by rw [u1_n (by omega), a1.2]; omega) (I_fl (by omega) (by omega) (by omega) (by rw [a1.2]; exact q1) a1.1)
      have a3 := I_no (ev := 7) (dr := dr) (q := q) (by decide) (by decide) a2
      refine ⟨a3.1, ?_, B_m (B := B + 2) (by omega) (B_no (ev := 7) (dr := dr) (q := q) a2 (by decide) (by decide) (by omega) (by omega) ?_)⟩
      · rw [a3.2, u1_n (by omega), u1_n (by omega)]
        exact a1.2
      · unfold sp_u
        exact B_u (by omega) (by omega) (B_u (by omega) (by omega) (B_u (by omega) (by omega) hB))
theorem I_ba (d0 : 0 ≤ dr) (d4 : dr < 4) (hI : sp_I G D s) (hB : sp_B B s) : sp_I G D (sp_ba s dr) ∧ sp_ba s dr 1 = s 1 ∧ sp_B B (sp_ba s dr) ∧ ∀ j, ¬ (48 ≤ j ∧ j < 96) → sp_ba s dr j = s j := by
  have fr : ∀ j, ¬ (48 ≤ j ∧ j < 96) → sp_ba s dr j = s j := fun j hj => if_neg (by omega)
  refine ⟨I_cg (fun j hj => fr j (by unfold q_cr at hj; omega)) hI, fr 1 (by omega), B_cg (fr 0 (by omega)) (fun j hj => Or.inr ?_) hB, fr⟩
  by_cases c : 80 + 4 * dr ≤ j ∧ j < 84 + 4 * dr
  · exact ⟨j + 16, by unfold sp_rp; omega, if_pos c⟩
  · exact ⟨j, hj, if_neg c⟩
theorem I_r1 (hI : sp_I G D s) (d0 : 0 ≤ dr) (d4 : dr < 4) (hB : sp_B B s) : sp_I G D (sp_r1 s dr) ∧ sp_r1 s dr 1 = s 1 ∧ sp_B (B + 2) (sp_r1 s dr) ∧ sp_r1 s dr (44 + dr).toNat = s (44 + dr).toNat := by
  have hn := I_n hI
  have h1 := hB.1
  have h2 := hB.2.1
  have a0 : sp_I G D (tx_u1 (tx_u1 s (12 + dr).toNat 0) (24 + dr).toNat (s 0)) := I_nc (by unfold q_cr; omega) (I_nc (by unfold q_cr; omega) hI)
  have a1 := I_no (ev := 5) (dr := dr) (q := -1) (by decide) (by decide) a0
  have b1 := B_no (ev := 5) (dr := dr) (q := -1) a0 (by decide) (by decide) (by omega) (by omega) (B_u (by omega) (by omega) (B_u (by omega) (by omega) hB))
  have a2 := I_ba d0 d4 a1.1 b1
  unfold sp_r1
  refine ⟨a2.1, ?_, a2.2.2.1, ?_⟩
  · rw [a2.2.1, a1.2, u1_n (by omega), u1_n (by omega)]
  · rw [a2.2.2.2 _ (by omega), no_n (by decide) (by decide) (by rw [u1_n (by omega), u1_n (by omega)]; exact hn.2.1) (by omega), u1_n (by omega), u1_n (by omega)]
theorem I_rl (gd : q_gd G) (d0 : 0 ≤ dr) (d4 : dr < 4) : ∀ (f : Nat) (i : Int) (s : sp_R), 0 ≤ i → i + f ≤ s (44 + dr).toNat → sp_I G 4 s → sp_B B s → sp_I G 4 (sp_rl G dr f i s) ∧ sp_rl G dr f i s 1 = s 1 ∧ sp_B B (sp_rl G dr f i s)
  | 0, i, s, _, _, hI, hB => ⟨hI, rfl, hB⟩
  | f + 1, i, s, i0, i1, hI, hB => by
    have hl := I_l (k := i) hI d0 d4 i0 (by omega)
    have a := I_ke gd hI hl.1 hl.2
    have b := B_ke gd hI hl.1 hl.2 hB
    have c := I_rl gd d0 d4 f (i + 1) _ (by omega) (by rw [a.2.2 _ (by omega)]; omega) a.1 b
    exact ⟨c.1, c.2.1.trans a.2.1, c.2.2⟩
theorem I_r2 (gd : q_gd G) (hI : sp_I G 4 s) (d0 : 0 ≤ dr) (d4 : dr < 4) (hB : sp_B B s) : sp_I G 4 (sp_r2 G s dr) ∧ sp_r2 G s dr 1 = s 1 ∧ sp_B (B + 2) (sp_r2 G s dr) := by
  have a := I_r1 hI d0 d4 hB
  have hd := I_d hI d0 d4
  have c := I_rl gd d0 d4 (s (44 + dr).toNat).toNat 0 _ (by decide) (by rw [a.2.2.2]; omega) a.1 a.2.2.1
  unfold sp_r2
  exact ⟨c.1, c.2.1.trans a.2.1, c.2.2⟩
theorem I_rs (gd : q_gd G) (hI : sp_I G 4 s) (d0 : 0 ≤ dr) (d4 : dr < 4) (hB : sp_B B s) : sp_I G 4 (sp_rs G s dr) ∧ sp_rs G s dr 1 = s 1 ∧ sp_B (B + 6) (sp_rs G s dr) := by
  have a := I_r2 gd hI d0 d4 hB
  have hd := I_d a.1 d0 d4
  unfold sp_rs
  split
  · exact ⟨a.1, a.2.1, B_m (by omega) a.2.2⟩
  · have c := I_de gd a.1 d0 d4 (q := sp_r2 G s dr (32 + dr).toNat) (by omega) hd.2.1.2 a.2.2
    exact ⟨c.1, c.2.1.trans a.2.1, B_m (by omega) c.2.2⟩
end DE
/-- a driver's variables brought back so far -/
def sp_bai (s : sp_R) (dr i : Int) : sp_R := fun j => if 80 + 4 * dr ≤ j ∧ (j : Int) < 80 + 4 * dr + i then s (j + 16) else s j
theorem bai_s {s : sp_R} {dr i : Int} (d0 : 0 ≤ dr) (d4 : dr < 4) (h0 : 0 ≤ i) (h4 : i < 4) : tx_u1 (sp_bai s dr i) (80 + 4 * dr + i).toNat (sp_bai s dr i (96 + 4 * dr + i).toNat) = sp_bai s dr (i + 1) := by
  funext j
  unfold tx_u1 sp_bai
  by_cases e : j = (80 + 4 * dr + i).toNat
  · rw [if_pos e, if_neg (by omega), if_pos (by omega), show j + 16 = (96 + 4 * dr + i).toNat by omega]
  · rw [if_neg e]
    by_cases c : 80 + 4 * dr ≤ j ∧ (j : Int) < 80 + 4 * dr + i
    · rw [if_pos c, if_pos (by omega)]
    · rw [if_neg c, if_neg (by omega)]
theorem bai_0 {s : sp_R} {dr : Int} : sp_bai s dr 0 = s := by
  funext j
  exact if_neg (by omega)
theorem bai_4 {s : sp_R} {dr : Int} : sp_bai s dr 4 = sp_ba s dr := by
  funext j
  unfold sp_bai sp_ba
  by_cases c : 80 + 4 * dr ≤ j ∧ (j : Int) < 80 + 4 * dr + 4
  · rw [if_pos c, if_pos (by omega)]
  · rw [if_neg c, if_neg (by omega)]
set_option maxHeartbeats 4000000 in
theorem vA_223 {L : Nat} {xs : Nat → Int32} {d : Nat} {h : m_H} {w : Int64} {F : m_M} {Q : Option Value ⊕ Nat → m_H → Prop} (I : RF h) {a : Nat} (ha : a = 147 ∨ a = 148) {G : tx_G} {dr : Int} (d0 : 0 ≤ dr) (d4 : dr < 4) (hI : sp_I G 4 (F a)) {q : Int} (q0 : 0 ≤ q) (q1 : q < F a 1) (hQ : ∀ F' : m_M, sp_f a F F' → F' a = sp_no (tx_u1 (tx_u1 (sp_u (F a) q 6 0) (28 + dr).toNat q) (32 + dr).toNat (-1)) 7 dr q → Q (.inl none) (m_hS h (w, F'))) {l4 : Option Value} : m_W (p_P L xs) (d + 5) 223 k_223_59 [some (.ref 135), some (.ref a), some (.int (Int32.ofInt dr)), some (.int (Int32.ofInt q)), l4] [] (m_hS h (w, F)) Q := by
  have hka := ra_k I ha
  have hla := ra_l I ha
  have hna := ra_n I ha
  have hxa := ra_x ha
  have ne135 : ¬ 135 = a := by omega
  have ne136 : ¬ 136 = a := by omega
  have ne144 : ¬ 144 = a := by omega
  have ne153 : ¬ 153 = a := by omega
  have na135 : ¬ a = 135 := by omega
  have na153 : ¬ a = 153 := by omega
  have hnn := I_n hI
  unfold sp_u at hQ
  rw [k_223_59]
  (repeat' (first | (simp (disch := first | omega | (simp (disch := omega) only [i_lt0, i_tn, i_nn, m_cat_n, m_cat_i, m_cat_r, m_cat_z, m_cat_rv, m_cat_l, m_o_n, m_o_i, m_o_r, m_o_z, m_o_rv, m_o_f, hs_n, hs_k, hs_l, f_k_135 I, n_135 I, f_R_135_2 I, f_k_137 I, f_l_137 I, n_137 I, x_137, Nat.reduceLeDiff, not_false_eq_true, or_true, true_or, or_false, false_or, hka, hla, hxa, hna]; first | done | omega) | exact Or.inl rfl | exact Or.inr rfl) only [k_223_59, k_223_90, w_aload_1, w_aloadz_1, w_aloadv_1, w_iload_3, w_iconst, m_cat_n, m_cat_i, m_cat_r, m_cat_z, m_cat_rv, m_cat_l, Nat.zero_le, Nat.reduceLeDiff, Nat.reduceAdd, cl_212, m_o_i, m_o_r, m_o_z, m_o_rv, m_C_inl, Option.toList_some, Option.toList_none, List.cons_append, List.nil_append, w_iload_2, w_iadd, w_iastore, w_aload_0, w_aloadz_0, w_aloadv_0, w_vret, tg_223_29, tg_223_59, tg_223_90, k_212_0, w_iload_1, w_imul, w_icmp_eq, w_if_eq, hs_n, hs_k, hs_l, hs_R, hs_I, hs_L, hs_setI, hs_setL, hs_cpy, f_k_135 I, n_135 I, f_R_135_2 I, f_k_137 I, f_l_137 I, n_137 I, x_137, up_up, up_sw, up_sa, i_add, i_sub, i_mul, i_tn, i_nat, Int.reduceToNat, Int.reduceAdd, Int.reduceSub, Int.reduceMul, Int.reduceNeg, l_32, l_nat, l_c_lt, l_c_gt, l_c_eq, i_lt, i_eq, i_lt0, i_0lt, i_eq0, i_eq1, Int.reduceLT, Int.reduceEq, Int.reduceLE, Int.reduceNe, not_true_eq_false, not_false_eq_true, Nat.lt_irrefl, Int.lt_irrefl, eq_self, eq_self, Nat.reduceAdd, Nat.reduceMul, Nat.reduceSub, Nat.reduceDiv, Nat.reduceMod, Nat.reduceEqDiff, Nat.reduceLeDiff, Nat.reduceLT, Nat.zero_add, Nat.add_zero, Nat.zero_le, and_false, and_true, and_self, false_and, true_and, or_false, or_true, if_true, if_false, ite_true, ite_false, ↓reduceIte, Int.reduceToNat, Int.reduceAdd, Int.reduceSub, Int.reduceMul, Int.reduceNeg, up_eq, up_na, up_nk]) | split | (simp (disch := first | omega | (simp (disch := omega) only [i_lt0, i_tn, i_nn, m_cat_n, m_cat_i, m_cat_r, m_cat_z, m_cat_rv, m_cat_l, m_o_n, m_o_i, m_o_r, m_o_z, m_o_rv, m_o_f, hs_n, hs_k, hs_l, f_k_135 I, n_135 I, Nat.reduceLeDiff, not_false_eq_true, or_true, true_or, or_false, false_or]; first | done | omega) | exact Or.inl rfl | exact Or.inr rfl) only [cl_216, m_cat_n, m_cat_i, m_cat_r, m_cat_z, m_cat_rv, m_cat_l, Nat.zero_le, Nat.reduceLeDiff, Nat.reduceAdd, m_o_i, m_o_r, m_o_z, m_o_rv, hs_n, hs_k, f_k_135 I, n_135 I, hna, hka]; refine v_216 (G := G) (D := 4) I ha (by omega) (by omega) (by (try simp (disch := omega) only [up_row, up_ro, u1_n, u1_e, u1_uu, u1_sw, if_pos, if_neg, and_true, true_and, and_self, if_true, if_false]); (repeat (first | exact hI | assumption | refine I_nc (by unfold q_cr; omega) ?_ | refine I_fl (by omega) (by omega) (by omega) (by first | omega | (simp (disch := omega) only [u1_n]; omega)) ?_))) ?_; intro F1 f1 r1)))
  refine hQ F1 (sf_tr (by intro x y z1 z2 z3; simp (disch := omega) only [up_na, up_no]) f1) ?_
  rw [r1]
  simp (disch := omega) only [up_row, up_ro, u1_n, u1_e, u1_uu, u1_sw, if_pos, if_neg, and_true, true_and, and_self, if_true, if_false]
set_option maxHeartbeats 4000000 in
/-- decides -/
theorem v_223 {L : Nat} {xs : Nat → Int32} {d : Nat} {h : m_H} {w : Int64} {F : m_M} {Q : Option Value ⊕ Nat → m_H → Prop} (I : RF h) {a : Nat} (ha : a = 147 ∨ a = 148) {G : tx_G} (P : q_pR F G) (gd : q_gd G) {dr : Int} (d0 : 0 ≤ dr) (d4 : dr < 4) (hI : sp_I G 4 (F a)) {q : Int} (q0 : 0 ≤ q) (q1 : q < F a 1) (hQ : ∀ F' : m_M, sp_f a F F' → F' a = sp_de G (F a) dr q → Q (.inl none) (m_hS h (w, F'))) : m_W (p_P L xs) (d + 5) 223 k_223_0 [some (.ref 135), some (.ref a), some (.int (Int32.ofInt dr)), some (.int (Int32.ofInt q)), none] [] (m_hS h (w, F)) Q := by
  have hka := ra_k I ha
  have hla := ra_l I ha
  have hna := ra_n I ha
  have hxa := ra_x ha
  have ne135 : ¬ 135 = a := by omega
  have ne136 : ¬ 136 = a := by omega
  have ne144 : ¬ 144 = a := by omega
  have ne153 : ¬ 153 = a := by omega
  have na135 : ¬ a = 135 := by omega
  have na153 : ¬ a = 153 := by omega
  have hqq := I_q hI q0 q1
  have hnn := I_n hI
  obtain ⟨c, hc⟩ : ∃ c, c = F a (192 + 14 * q + 1).toNat := ⟨_, rfl⟩
  rw [← hc] at hqq
  have hgl := gd.2.1
  obtain ⟨p1, p2, p3, p4, p5, p6, p7⟩ := pR_c P hqq.2.1 hqq.2.2
  obtain ⟨⟨k1, k2⟩, ⟨k3, k4⟩, ⟨c1, c2, c3, c4, c5, c6⟩, x_t, x_r, x_s, x_k⟩ := gd.1 c hqq.2.1 hqq.2.2
  have eo : sp_o (F a) q 1 = c := hc.symm
  unfold sp_de at hQ
  rw [eo] at hQ
  have hk3 : sp_c G (sp_o (F a) q 1) 1 = sp_c G c 1 := by rw [eo]
  rw [k_223_0]
  by_cases z2 : sp_c G c 1 = 2
  · rw [if_pos z2] at hQ
    simp (disch := first | omega | (simp (disch := omega) only [i_lt0, i_tn, i_nn, m_cat_n, m_cat_i, m_cat_r, m_cat_z, m_cat_rv, m_cat_l, m_o_n, m_o_i, m_o_r, m_o_z, m_o_rv, m_o_f, hs_n, hs_k, hs_l, f_k_135 I, n_135 I, f_R_135_2 I, f_k_137 I, f_l_137 I, n_137 I, x_137, Nat.reduceLeDiff, not_false_eq_true, or_true, true_or, or_false, false_or, hka, hla, hxa, hna]; first | done | omega) | exact Or.inl rfl | exact Or.inr rfl) only [k_223_0, w_aload_0, w_aloadz_0, w_aloadv_0, gf_770, m_rv_s, m_rv_n, w_aload_1, w_aloadz_1, w_aloadv_1, w_iload_3, w_iconst, m_cat_n, m_cat_i, m_cat_r, m_cat_z, m_cat_rv, m_cat_l, Nat.zero_le, Nat.reduceLeDiff, Nat.reduceAdd, cl_211, m_o_i, m_o_r, m_o_z, m_o_rv, m_C_inl, Option.toList_some, Option.toList_none, List.cons_append, List.nil_append, w_iaload, w_script, w_istore_4, m_o_n, m_o_f, w_iload_4, w_icmp_ne, w_goto, tg_223_29, tg_223_59, tg_223_90, k_211_0, w_iload_1, w_imul, w_iadd, w_iload_2, w_iret, w_icmp_eq, w_if_eq, hs_n, hs_k, hs_l, hs_R, hs_I, hs_L, hs_setI, hs_setL, hs_cpy, f_k_135 I, n_135 I, f_R_135_2 I, f_k_137 I, f_l_137 I, n_137 I, x_137, up_up, up_sw, up_sa, i_add, i_sub, i_mul, i_tn, i_nat, Int.reduceToNat, Int.reduceAdd, Int.reduceSub, Int.reduceMul, Int.reduceNeg, l_32, l_nat, l_c_lt, l_c_gt, l_c_eq, i_lt, i_eq, i_lt0, i_0lt, i_eq0, i_eq1, Int.reduceLT, Int.reduceEq, Int.reduceLE, Int.reduceNe, not_true_eq_false, not_false_eq_true, Nat.lt_irrefl, Int.lt_irrefl, eq_self, eq_self, Nat.reduceAdd, Nat.reduceMul, Nat.reduceSub, Nat.reduceDiv, Nat.reduceMod, Nat.reduceEqDiff, Nat.reduceLeDiff, Nat.reduceLT, Nat.zero_add, Nat.add_zero, Nat.zero_le, and_false, and_true, and_self, false_and, true_and, or_false, or_true, if_true, if_false, ite_true, ite_false, ↓reduceIte, Int.reduceToNat, Int.reduceAdd, Int.reduceSub, Int.reduceMul, Int.reduceNeg, up_eq, up_na, up_nk, ← hc, p1, z2]
    simp (disch := first | omega | (simp (disch := omega) only [i_lt0, i_tn, i_nn, m_cat_n, m_cat_i, m_cat_r, m_cat_z, m_cat_rv, m_cat_l, m_o_n, m_o_i, m_o_r, m_o_z, m_o_rv, m_o_f, hs_n, hs_k, hs_l, f_k_135 I, n_135 I, Nat.reduceLeDiff, not_false_eq_true, or_true, true_or, or_false, false_or]; first | done | omega) | exact Or.inl rfl | exact Or.inr rfl) only [cl_217, m_cat_n, m_cat_i, m_cat_r, m_cat_z, m_cat_rv, m_cat_l, Nat.zero_le, Nat.reduceLeDiff, Nat.reduceAdd, m_o_i, m_o_r, m_o_z, m_o_rv, hs_n, hs_k, f_k_135 I, n_135 I, hna, hka]
    refine v_217 (G := G) (D := 4) I ha hI q0 q1 (fun F1 f1 r1 => ?_)
    simp (disch := first | omega | (simp (disch := omega) only [i_lt0, i_tn, i_nn, m_cat_n, m_cat_i, m_cat_r, m_cat_z, m_cat_rv, m_cat_l, m_o_n, m_o_i, m_o_r, m_o_z, m_o_rv, m_o_f, hs_n, hs_k, hs_l, f_k_135 I, n_135 I, f_R_135_2 I, f_k_137 I, f_l_137 I, n_137 I, x_137, Nat.reduceLeDiff, not_false_eq_true, or_true, true_or, or_false, false_or, hka, hla, hxa, hna]; first | done | omega) | exact Or.inl rfl | exact Or.inr rfl) only [k_223_90, w_aload_0, w_aloadz_0, w_aloadv_0, gf_770, m_rv_s, m_rv_n, w_aload_1, w_aloadz_1, w_aloadv_1, w_iload_3, w_iconst, m_cat_n, m_cat_i, m_cat_r, m_cat_z, m_cat_rv, m_cat_l, Nat.zero_le, Nat.reduceLeDiff, Nat.reduceAdd, m_o_i, m_o_r, m_o_z, m_o_rv, m_C_inl, Option.toList_some, Option.toList_none, List.cons_append, List.nil_append, w_iaload, w_script, w_istore_4, m_o_n, m_o_f, w_iload_4, w_icmp_ne, w_goto, w_vret, tg_223_29, tg_223_59, tg_223_90, w_icmp_eq, w_if_eq, hs_n, hs_k, hs_l, hs_R, hs_I, hs_L, hs_setI, hs_setL, hs_cpy, f_k_135 I, n_135 I, f_R_135_2 I, f_k_137 I, f_l_137 I, n_137 I, x_137, up_up, up_sw, up_sa, i_add, i_sub, i_mul, i_tn, i_nat, Int.reduceToNat, Int.reduceAdd, Int.reduceSub, Int.reduceMul, Int.reduceNeg, l_32, l_nat, l_c_lt, l_c_gt, l_c_eq, i_lt, i_eq, i_lt0, i_0lt, i_eq0, i_eq1, Int.reduceLT, Int.reduceEq, Int.reduceLE, Int.reduceNe, not_true_eq_false, not_false_eq_true, Nat.lt_irrefl, Int.lt_irrefl, eq_self, eq_self, Nat.reduceAdd, Nat.reduceMul, Nat.reduceSub, Nat.reduceDiv, Nat.reduceMod, Nat.reduceEqDiff, Nat.reduceLeDiff, Nat.reduceLT, Nat.zero_add, Nat.add_zero, Nat.zero_le, and_false, and_true, and_self, false_and, true_and, or_false, or_true, if_true, if_false, ite_true, ite_false, ↓reduceIte, Int.reduceToNat, Int.reduceAdd, Int.reduceSub, Int.reduceMul, Int.reduceNeg, up_eq, up_na, up_nk]
    exact hQ F1 f1 r1
  · rw [if_neg z2] at hQ
    by_cases z3 : sp_c G c 1 = 3
    · simp (disch := first | omega | (simp (disch := omega) only [i_lt0, i_tn, i_nn, m_cat_n, m_cat_i, m_cat_r, m_cat_z, m_cat_rv, m_cat_l, m_o_n, m_o_i, m_o_r, m_o_z, m_o_rv, m_o_f, hs_n, hs_k, hs_l, f_k_135 I, n_135 I, f_R_135_2 I, f_k_137 I, f_l_137 I, n_137 I, x_137, Nat.reduceLeDiff, not_false_eq_true, or_true, true_or, or_false, false_or, hka, hla, hxa, hna]; first | done | omega) | exact Or.inl rfl | exact Or.inr rfl) only [k_223_0, k_223_29, w_aload_0, w_aloadz_0, w_aloadv_0, gf_770, m_rv_s, m_rv_n, w_aload_1, w_aloadz_1, w_aloadv_1, w_iload_3, w_iconst, m_cat_n, m_cat_i, m_cat_r, m_cat_z, m_cat_rv, m_cat_l, Nat.zero_le, Nat.reduceLeDiff, Nat.reduceAdd, cl_211, m_o_i, m_o_r, m_o_z, m_o_rv, m_C_inl, Option.toList_some, Option.toList_none, List.cons_append, List.nil_append, w_iaload, w_script, w_istore_4, m_o_n, m_o_f, w_iload_4, w_icmp_ne, w_goto, w_if_eq, tg_223_29, tg_223_59, tg_223_90, k_211_0, w_iload_1, w_imul, w_iadd, w_iload_2, w_iret, w_icmp_eq, hs_n, hs_k, hs_l, hs_R, hs_I, hs_L, hs_setI, hs_setL, hs_cpy, f_k_135 I, n_135 I, f_R_135_2 I, f_k_137 I, f_l_137 I, n_137 I, x_137, up_up, up_sw, up_sa, i_add, i_sub, i_mul, i_tn, i_nat, Int.reduceToNat, Int.reduceAdd, Int.reduceSub, Int.reduceMul, Int.reduceNeg, l_32, l_nat, l_c_lt, l_c_gt, l_c_eq, i_lt, i_eq, i_lt0, i_0lt, i_eq0, i_eq1, Int.reduceLT, Int.reduceEq, Int.reduceLE, Int.reduceNe, not_true_eq_false, not_false_eq_true, Nat.lt_irrefl, Int.lt_irrefl, eq_self, eq_self, Nat.reduceAdd, Nat.reduceMul, Nat.reduceSub, Nat.reduceDiv, Nat.reduceMod, Nat.reduceEqDiff, Nat.reduceLeDiff, Nat.reduceLT, Nat.zero_add, Nat.add_zero, Nat.zero_le, and_false, and_true, and_self, false_and, true_and, or_false, or_true, if_true, if_false, ite_true, ite_false, ↓reduceIte, Int.reduceToNat, Int.reduceAdd, Int.reduceSub, Int.reduceMul, Int.reduceNeg, up_eq, up_na, up_nk, ← hc, p1, z2, z3]
      simp (disch := first | omega | (simp (disch := omega) only [i_lt0, i_tn, i_nn, m_cat_n, m_cat_i, m_cat_r, m_cat_z, m_cat_rv, m_cat_l, m_o_n, m_o_i, m_o_r, m_o_z, m_o_rv, m_o_f, hs_n, hs_k, hs_l, f_k_135 I, n_135 I, Nat.reduceLeDiff, not_false_eq_true, or_true, true_or, or_false, false_or]; first | done | omega) | exact Or.inl rfl | exact Or.inr rfl) only [cl_213, m_cat_n, m_cat_i, m_cat_r, m_cat_z, m_cat_rv, m_cat_l, Nat.zero_le, Nat.reduceLeDiff, Nat.reduceAdd, m_o_i, m_o_r, m_o_z, m_o_rv, hs_n, hs_k, f_k_135 I, n_135 I, hna, hka]
      refine v_213 (D := 4) I ha P gd hI q0 q1 (hk3.trans z3) (fun F1 f1 r1 => ?_)
      by_cases zt : sp_tr G (F a) q
      · rw [if_pos ⟨z3, zt⟩] at hQ
        rw [if_pos zt]
        simp (disch := first | omega | (simp (disch := omega) only [i_lt0, i_tn, i_nn, m_cat_n, m_cat_i, m_cat_r, m_cat_z, m_cat_rv, m_cat_l, m_o_n, m_o_i, m_o_r, m_o_z, m_o_rv, m_o_f, hs_n, hs_k, hs_l, f_k_135 I, n_135 I, f_R_135_2 I, f_k_137 I, f_l_137 I, n_137 I, x_137, Nat.reduceLeDiff, not_false_eq_true, or_true, true_or, or_false, false_or, hka, hla, hxa, hna]; first | done | omega) | exact Or.inl rfl | exact Or.inr rfl) only [w_iload_4, w_iconst, w_icmp_ne, w_aload_0, w_aloadz_0, w_aloadv_0, w_aload_1, w_aloadz_1, w_aloadv_1, w_iload_3, m_cat_n, m_cat_i, m_cat_r, m_cat_z, m_cat_rv, m_cat_l, Nat.zero_le, Nat.reduceLeDiff, Nat.reduceAdd, m_o_i, m_o_r, m_o_z, m_o_rv, m_C_inl, Option.toList_some, Option.toList_none, List.cons_append, List.nil_append, w_if_eq, w_goto, tg_223_29, tg_223_59, tg_223_90, w_icmp_eq, hs_n, hs_k, hs_l, hs_R, hs_I, hs_L, hs_setI, hs_setL, hs_cpy, f_k_135 I, n_135 I, f_R_135_2 I, f_k_137 I, f_l_137 I, n_137 I, x_137, up_up, up_sw, up_sa, i_add, i_sub, i_mul, i_tn, i_nat, Int.reduceToNat, Int.reduceAdd, Int.reduceSub, Int.reduceMul, Int.reduceNeg, l_32, l_nat, l_c_lt, l_c_gt, l_c_eq, i_lt, i_eq, i_lt0, i_0lt, i_eq0, i_eq1, Int.reduceLT, Int.reduceEq, Int.reduceLE, Int.reduceNe, not_true_eq_false, not_false_eq_true, Nat.lt_irrefl, Int.lt_irrefl, eq_self, eq_self, Nat.reduceAdd, Nat.reduceMul, Nat.reduceSub, Nat.reduceDiv, Nat.reduceMod, Nat.reduceEqDiff, Nat.reduceLeDiff, Nat.reduceLT, Nat.zero_add, Nat.add_zero, Nat.zero_le, and_false, and_true, and_self, false_and, true_and, or_false, or_true, if_true, if_false, ite_true, ite_false, ↓reduceIte, Int.reduceToNat, Int.reduceAdd, Int.reduceSub, Int.reduceMul, Int.reduceNeg, up_eq, up_na, up_nk]
        simp (disch := first | omega | (simp (disch := omega) only [i_lt0, i_tn, i_nn, m_cat_n, m_cat_i, m_cat_r, m_cat_z, m_cat_rv, m_cat_l, m_o_n, m_o_i, m_o_r, m_o_z, m_o_rv, m_o_f, hs_n, hs_k, hs_l, f_k_135 I, n_135 I, Nat.reduceLeDiff, not_false_eq_true, or_true, true_or, or_false, false_or]; first | done | omega) | exact Or.inl rfl | exact Or.inr rfl) only [cl_214, m_cat_n, m_cat_i, m_cat_r, m_cat_z, m_cat_rv, m_cat_l, Nat.zero_le, Nat.reduceLeDiff, Nat.reduceAdd, m_o_i, m_o_r, m_o_z, m_o_rv, hs_n, hs_k, f_k_135 I, n_135 I, hna, hka]
        rw [← r1] at hI q1 hQ
        refine v_214 (D := 4) I ha (pR_f ha f1 P) gd hI q0 q1 (fun F2 f2 r2 => ?_)
        simp (disch := first | omega | (simp (disch := omega) only [i_lt0, i_tn, i_nn, m_cat_n, m_cat_i, m_cat_r, m_cat_z, m_cat_rv, m_cat_l, m_o_n, m_o_i, m_o_r, m_o_z, m_o_rv, m_o_f, hs_n, hs_k, hs_l, f_k_135 I, n_135 I, f_R_135_2 I, f_k_137 I, f_l_137 I, n_137 I, x_137, Nat.reduceLeDiff, not_false_eq_true, or_true, true_or, or_false, false_or, hka, hla, hxa, hna]; first | done | omega) | exact Or.inl rfl | exact Or.inr rfl) only [w_iload_4, w_iconst, w_icmp_ne, w_aload_0, w_aloadz_0, w_aloadv_0, w_aload_1, w_aloadz_1, w_aloadv_1, w_iload_3, m_cat_n, m_cat_i, m_cat_r, m_cat_z, m_cat_rv, m_cat_l, Nat.zero_le, Nat.reduceLeDiff, Nat.reduceAdd, m_o_i, m_o_r, m_o_z, m_o_rv, m_C_inl, Option.toList_some, Option.toList_none, List.cons_append, List.nil_append, w_if_eq, w_goto, tg_223_29, tg_223_59, tg_223_90, w_icmp_eq, hs_n, hs_k, hs_l, hs_R, hs_I, hs_L, hs_setI, hs_setL, hs_cpy, f_k_135 I, n_135 I, f_R_135_2 I, f_k_137 I, f_l_137 I, n_137 I, x_137, up_up, up_sw, up_sa, i_add, i_sub, i_mul, i_tn, i_nat, Int.reduceToNat, Int.reduceAdd, Int.reduceSub, Int.reduceMul, Int.reduceNeg, l_32, l_nat, l_c_lt, l_c_gt, l_c_eq, i_lt, i_eq, i_lt0, i_0lt, i_eq0, i_eq1, Int.reduceLT, Int.reduceEq, Int.reduceLE, Int.reduceNe, not_true_eq_false, not_false_eq_true, Nat.lt_irrefl, Int.lt_irrefl, eq_self, eq_self, Nat.reduceAdd, Nat.reduceMul, Nat.reduceSub, Nat.reduceDiv, Nat.reduceMod, Nat.reduceEqDiff, Nat.reduceLeDiff, Nat.reduceLT, Nat.zero_add, Nat.add_zero, Nat.zero_le, and_false, and_true, and_self, false_and, true_and, or_false, or_true, if_true, if_false, ite_true, ite_false, ↓reduceIte, Int.reduceToNat, Int.reduceAdd, Int.reduceSub, Int.reduceMul, Int.reduceNeg, up_eq, up_na, up_nk]
        simp (disch := first | omega | (simp (disch := omega) only [i_lt0, i_tn, i_nn, m_cat_n, m_cat_i, m_cat_r, m_cat_z, m_cat_rv, m_cat_l, m_o_n, m_o_i, m_o_r, m_o_z, m_o_rv, m_o_f, hs_n, hs_k, hs_l, f_k_135 I, n_135 I, Nat.reduceLeDiff, not_false_eq_true, or_true, true_or, or_false, false_or]; first | done | omega) | exact Or.inl rfl | exact Or.inr rfl) only [cl_219, m_cat_n, m_cat_i, m_cat_r, m_cat_z, m_cat_rv, m_cat_l, Nat.zero_le, Nat.reduceLeDiff, Nat.reduceAdd, m_o_i, m_o_r, m_o_z, m_o_rv, hs_n, hs_k, f_k_135 I, n_135 I, hna, hka]
        have g2 := sf_tr f1 f2
        rw [← r2] at hI q1
        refine v_219 I ha (pR_f ha g2 P) gd hI q0 q1 (fun F3 f3 r3 => ?_)
        simp (disch := first | omega | (simp (disch := omega) only [i_lt0, i_tn, i_nn, m_cat_n, m_cat_i, m_cat_r, m_cat_z, m_cat_rv, m_cat_l, m_o_n, m_o_i, m_o_r, m_o_z, m_o_rv, m_o_f, hs_n, hs_k, hs_l, f_k_135 I, n_135 I, f_R_135_2 I, f_k_137 I, f_l_137 I, n_137 I, x_137, Nat.reduceLeDiff, not_false_eq_true, or_true, true_or, or_false, false_or, hka, hla, hxa, hna]; first | done | omega) | exact Or.inl rfl | exact Or.inr rfl) only [k_223_90, w_iload_4, w_iconst, w_icmp_ne, w_aload_0, w_aloadz_0, w_aloadv_0, w_aload_1, w_aloadz_1, w_aloadv_1, w_iload_3, m_cat_n, m_cat_i, m_cat_r, m_cat_z, m_cat_rv, m_cat_l, Nat.zero_le, Nat.reduceLeDiff, Nat.reduceAdd, m_o_i, m_o_r, m_o_z, m_o_rv, m_C_inl, Option.toList_some, Option.toList_none, List.cons_append, List.nil_append, w_if_eq, w_goto, w_vret, tg_223_29, tg_223_59, tg_223_90, w_icmp_eq, hs_n, hs_k, hs_l, hs_R, hs_I, hs_L, hs_setI, hs_setL, hs_cpy, f_k_135 I, n_135 I, f_R_135_2 I, f_k_137 I, f_l_137 I, n_137 I, x_137, up_up, up_sw, up_sa, i_add, i_sub, i_mul, i_tn, i_nat, Int.reduceToNat, Int.reduceAdd, Int.reduceSub, Int.reduceMul, Int.reduceNeg, l_32, l_nat, l_c_lt, l_c_gt, l_c_eq, i_lt, i_eq, i_lt0, i_0lt, i_eq0, i_eq1, Int.reduceLT, Int.reduceEq, Int.reduceLE, Int.reduceNe, not_true_eq_false, not_false_eq_true, Nat.lt_irrefl, Int.lt_irrefl, eq_self, eq_self, Nat.reduceAdd, Nat.reduceMul, Nat.reduceSub, Nat.reduceDiv, Nat.reduceMod, Nat.reduceEqDiff, Nat.reduceLeDiff, Nat.reduceLT, Nat.zero_add, Nat.add_zero, Nat.zero_le, and_false, and_true, and_self, false_and, true_and, or_false, or_true, if_true, if_false, ite_true, ite_false, ↓reduceIte, Int.reduceToNat, Int.reduceAdd, Int.reduceSub, Int.reduceMul, Int.reduceNeg, up_eq, up_na, up_nk]
        exact hQ F3 (sf_tr g2 f3) (by rw [r3, r2])
      · rw [if_neg (fun z => zt z.2)] at hQ
        rw [if_neg zt]
        simp (disch := first | omega | (simp (disch := omega) only [i_lt0, i_tn, i_nn, m_cat_n, m_cat_i, m_cat_r, m_cat_z, m_cat_rv, m_cat_l, m_o_n, m_o_i, m_o_r, m_o_z, m_o_rv, m_o_f, hs_n, hs_k, hs_l, f_k_135 I, n_135 I, f_R_135_2 I, f_k_137 I, f_l_137 I, n_137 I, x_137, Nat.reduceLeDiff, not_false_eq_true, or_true, true_or, or_false, false_or, hka, hla, hxa, hna]; first | done | omega) | exact Or.inl rfl | exact Or.inr rfl) only [w_iload_4, w_iconst, w_icmp_ne, w_aload_0, w_aloadz_0, w_aloadv_0, w_aload_1, w_aloadz_1, w_aloadv_1, w_iload_3, m_cat_n, m_cat_i, m_cat_r, m_cat_z, m_cat_rv, m_cat_l, Nat.zero_le, Nat.reduceLeDiff, Nat.reduceAdd, m_o_i, m_o_r, m_o_z, m_o_rv, m_C_inl, Option.toList_some, Option.toList_none, List.cons_append, List.nil_append, w_if_eq, w_goto, tg_223_29, tg_223_59, tg_223_90, w_icmp_eq, hs_n, hs_k, hs_l, hs_R, hs_I, hs_L, hs_setI, hs_setL, hs_cpy, f_k_135 I, n_135 I, f_R_135_2 I, f_k_137 I, f_l_137 I, n_137 I, x_137, up_up, up_sw, up_sa, i_add, i_sub, i_mul, i_tn, i_nat, Int.reduceToNat, Int.reduceAdd, Int.reduceSub, Int.reduceMul, Int.reduceNeg, l_32, l_nat, l_c_lt, l_c_gt, l_c_eq, i_lt, i_eq, i_lt0, i_0lt, i_eq0, i_eq1, Int.reduceLT, Int.reduceEq, Int.reduceLE, Int.reduceNe, not_true_eq_false, not_false_eq_true, Nat.lt_irrefl, Int.lt_irrefl, eq_self, eq_self, Nat.reduceAdd, Nat.reduceMul, Nat.reduceSub, Nat.reduceDiv, Nat.reduceMod, Nat.reduceEqDiff, Nat.reduceLeDiff, Nat.reduceLT, Nat.zero_add, Nat.add_zero, Nat.zero_le, and_false, and_true, and_self, false_and, true_and, or_false, or_true, if_true, if_false, ite_true, ite_false, ↓reduceIte, Int.reduceToNat, Int.reduceAdd, Int.reduceSub, Int.reduceMul, Int.reduceNeg, up_eq, up_na, up_nk]
        rw [← r1] at hI q1 hQ
        exact vA_223 I ha d0 d4 hI q0 q1 (fun F' f' r' => hQ F' (sf_tr f1 f') r')
    · rw [if_neg (fun z => z3 z.1)] at hQ
      simp (disch := first | omega | (simp (disch := omega) only [i_lt0, i_tn, i_nn, m_cat_n, m_cat_i, m_cat_r, m_cat_z, m_cat_rv, m_cat_l, m_o_n, m_o_i, m_o_r, m_o_z, m_o_rv, m_o_f, hs_n, hs_k, hs_l, f_k_135 I, n_135 I, f_R_135_2 I, f_k_137 I, f_l_137 I, n_137 I, x_137, Nat.reduceLeDiff, not_false_eq_true, or_true, true_or, or_false, false_or, hka, hla, hxa, hna]; first | done | omega) | exact Or.inl rfl | exact Or.inr rfl) only [k_223_0, k_223_29, w_aload_0, w_aloadz_0, w_aloadv_0, gf_770, m_rv_s, m_rv_n, w_aload_1, w_aloadz_1, w_aloadv_1, w_iload_3, w_iconst, m_cat_n, m_cat_i, m_cat_r, m_cat_z, m_cat_rv, m_cat_l, Nat.zero_le, Nat.reduceLeDiff, Nat.reduceAdd, cl_211, m_o_i, m_o_r, m_o_z, m_o_rv, m_C_inl, Option.toList_some, Option.toList_none, List.cons_append, List.nil_append, w_iaload, w_script, w_istore_4, m_o_n, m_o_f, w_iload_4, w_icmp_ne, w_goto, w_if_eq, tg_223_29, tg_223_59, tg_223_90, k_211_0, w_iload_1, w_imul, w_iadd, w_iload_2, w_iret, w_icmp_eq, hs_n, hs_k, hs_l, hs_R, hs_I, hs_L, hs_setI, hs_setL, hs_cpy, f_k_135 I, n_135 I, f_R_135_2 I, f_k_137 I, f_l_137 I, n_137 I, x_137, up_up, up_sw, up_sa, i_add, i_sub, i_mul, i_tn, i_nat, Int.reduceToNat, Int.reduceAdd, Int.reduceSub, Int.reduceMul, Int.reduceNeg, l_32, l_nat, l_c_lt, l_c_gt, l_c_eq, i_lt, i_eq, i_lt0, i_0lt, i_eq0, i_eq1, Int.reduceLT, Int.reduceEq, Int.reduceLE, Int.reduceNe, not_true_eq_false, not_false_eq_true, Nat.lt_irrefl, Int.lt_irrefl, eq_self, eq_self, Nat.reduceAdd, Nat.reduceMul, Nat.reduceSub, Nat.reduceDiv, Nat.reduceMod, Nat.reduceEqDiff, Nat.reduceLeDiff, Nat.reduceLT, Nat.zero_add, Nat.add_zero, Nat.zero_le, and_false, and_true, and_self, false_and, true_and, or_false, or_true, if_true, if_false, ite_true, ite_false, ↓reduceIte, Int.reduceToNat, Int.reduceAdd, Int.reduceSub, Int.reduceMul, Int.reduceNeg, up_eq, up_na, up_nk, ← hc, p1, z2, z3]
      exact vA_223 I ha d0 d4 hI q0 q1 hQ
set_option maxHeartbeats 4000000 in
theorem vE_224 {L : Nat} {xs : Nat → Int32} {d : Nat} {h : m_H} {w : Int64} {F : m_M} {Q : Option Value ⊕ Nat → m_H → Prop} (I : RF h) {a : Nat} (ha : a = 147 ∨ a = 148) {G : tx_G} (P : q_pR F G) (gd : q_gd G) {dr : Int} (d0 : 0 ≤ dr) (d4 : dr < 4) (hI : sp_I G 4 (F a)) (hQ : ∀ F' : m_M, sp_f a F F' → F' a = (if F a (32 + dr).toNat = -1 then F a else sp_de G (F a) dr (F a (32 + dr).toNat)) → Q (.inl none) (m_hS h (w, F'))) {l3 : Option Value} : m_W (p_P L xs) (d + 6) 224 k_224_91 [some (.ref 135), some (.ref a), some (.int (Int32.ofInt dr)), l3] [] (m_hS h (w, F)) Q := by
  have hka := ra_k I ha
  have hla := ra_l I ha
  have hna := ra_n I ha
  have hxa := ra_x ha
  have ne135 : ¬ 135 = a := by omega
  have ne136 : ¬ 136 = a := by omega
  have ne144 : ¬ 144 = a := by omega
  have ne153 : ¬ 153 = a := by omega
  have na135 : ¬ a = 135 := by omega
  have na153 : ¬ a = 153 := by omega
  have hd := I_d hI d0 d4
  have hnn := I_n hI
  obtain ⟨q, hq⟩ : ∃ q, q = F a (32 + dr).toNat := ⟨_, rfl⟩
  rw [← hq] at hd hQ
  rw [k_224_91]
  by_cases c : q = -1
  · rw [if_pos c] at hQ
    simp (disch := first | omega | (simp (disch := omega) only [i_lt0, i_tn, i_nn, m_cat_n, m_cat_i, m_cat_r, m_cat_z, m_cat_rv, m_cat_l, m_o_n, m_o_i, m_o_r, m_o_z, m_o_rv, m_o_f, hs_n, hs_k, hs_l, f_k_135 I, n_135 I, Nat.reduceLeDiff, not_false_eq_true, or_true, true_or, or_false, false_or, hka, hla, hxa, hna]; first | done | omega) | exact Or.inl rfl | exact Or.inr rfl) only [k_224_91, k_224_113, w_aload_1, w_aloadz_1, w_aloadv_1, w_iconst, w_iload_2, w_iadd, w_iaload, w_script, w_icmp_eq, w_aload_0, w_aloadz_0, w_aloadv_0, m_cat_n, m_cat_i, m_cat_r, m_cat_z, m_cat_rv, m_cat_l, Nat.zero_le, Nat.reduceLeDiff, Nat.reduceAdd, m_o_i, m_o_r, m_o_z, m_o_rv, m_C_inl, Option.toList_some, Option.toList_none, List.cons_append, List.nil_append, w_vret, tg_224_26, tg_224_57, tg_224_59, tg_224_91, tg_224_113, w_if_eq, hs_n, hs_k, hs_l, hs_R, hs_I, hs_L, hs_setI, hs_setL, hs_cpy, f_k_135 I, n_135 I, up_up, up_sw, up_sa, i_add, i_sub, i_mul, i_tn, i_nat, Int.reduceToNat, Int.reduceAdd, Int.reduceSub, Int.reduceMul, Int.reduceNeg, l_32, l_nat, l_c_lt, l_c_gt, l_c_eq, i_lt, i_eq, i_lt0, i_0lt, i_eq0, i_eq1, Int.reduceLT, Int.reduceEq, Int.reduceLE, Int.reduceNe, not_true_eq_false, not_false_eq_true, Nat.lt_irrefl, Int.lt_irrefl, eq_self, eq_self, Nat.reduceAdd, Nat.reduceMul, Nat.reduceSub, Nat.reduceDiv, Nat.reduceMod, Nat.reduceEqDiff, Nat.reduceLeDiff, Nat.reduceLT, Nat.zero_add, Nat.add_zero, Nat.zero_le, and_false, and_true, and_self, false_and, true_and, or_false, or_true, if_true, if_false, ite_true, ite_false, ↓reduceIte, Int.reduceToNat, Int.reduceAdd, Int.reduceSub, Int.reduceMul, Int.reduceNeg, up_eq, up_na, up_nk, ← hq, c]
    exact hQ F sf_rf rfl
  · rw [if_neg c] at hQ
    simp (disch := first | omega | (simp (disch := omega) only [i_lt0, i_tn, i_nn, m_cat_n, m_cat_i, m_cat_r, m_cat_z, m_cat_rv, m_cat_l, m_o_n, m_o_i, m_o_r, m_o_z, m_o_rv, m_o_f, hs_n, hs_k, hs_l, f_k_135 I, n_135 I, Nat.reduceLeDiff, not_false_eq_true, or_true, true_or, or_false, false_or, hka, hla, hxa, hna]; first | done | omega) | exact Or.inl rfl | exact Or.inr rfl) only [k_224_91, w_aload_1, w_aloadz_1, w_aloadv_1, w_iconst, w_iload_2, w_iadd, w_iaload, w_script, w_icmp_eq, w_aload_0, w_aloadz_0, w_aloadv_0, m_cat_n, m_cat_i, m_cat_r, m_cat_z, m_cat_rv, m_cat_l, Nat.zero_le, Nat.reduceLeDiff, Nat.reduceAdd, m_o_i, m_o_r, m_o_z, m_o_rv, m_C_inl, Option.toList_some, Option.toList_none, List.cons_append, List.nil_append, tg_224_26, tg_224_57, tg_224_59, tg_224_91, tg_224_113, w_if_eq, hs_n, hs_k, hs_l, hs_R, hs_I, hs_L, hs_setI, hs_setL, hs_cpy, f_k_135 I, n_135 I, up_up, up_sw, up_sa, i_add, i_sub, i_mul, i_tn, i_nat, Int.reduceToNat, Int.reduceAdd, Int.reduceSub, Int.reduceMul, Int.reduceNeg, l_32, l_nat, l_c_lt, l_c_gt, l_c_eq, i_lt, i_eq, i_lt0, i_0lt, i_eq0, i_eq1, Int.reduceLT, Int.reduceEq, Int.reduceLE, Int.reduceNe, not_true_eq_false, not_false_eq_true, Nat.lt_irrefl, Int.lt_irrefl, eq_self, eq_self, Nat.reduceAdd, Nat.reduceMul, Nat.reduceSub, Nat.reduceDiv, Nat.reduceMod, Nat.reduceEqDiff, Nat.reduceLeDiff, Nat.reduceLT, Nat.zero_add, Nat.add_zero, Nat.zero_le, and_false, and_true, and_self, false_and, true_and, or_false, or_true, if_true, if_false, ite_true, ite_false, ↓reduceIte, Int.reduceToNat, Int.reduceAdd, Int.reduceSub, Int.reduceMul, Int.reduceNeg, up_eq, up_na, up_nk, ← hq, c]
    simp (disch := first | omega | (simp (disch := omega) only [i_lt0, i_tn, i_nn, m_cat_n, m_cat_i, m_cat_r, m_cat_z, m_cat_rv, m_cat_l, m_o_n, m_o_i, m_o_r, m_o_z, m_o_rv, m_o_f, hs_n, hs_k, hs_l, f_k_135 I, n_135 I, Nat.reduceLeDiff, not_false_eq_true, or_true, true_or, or_false, false_or]; first | done | omega) | exact Or.inl rfl | exact Or.inr rfl) only [cl_223, m_cat_n, m_cat_i, m_cat_r, m_cat_z, m_cat_rv, m_cat_l, Nat.zero_le, Nat.reduceLeDiff, Nat.reduceAdd, m_o_i, m_o_r, m_o_z, m_o_rv, hs_n, hs_k, f_k_135 I, n_135 I, hna, hka]
    refine v_223 I ha P gd d0 d4 hI (by omega) hd.2.1.2 (fun F1 f1 r1 => ?_)
    simp (disch := first | omega | (simp (disch := omega) only [i_lt0, i_tn, i_nn, m_cat_n, m_cat_i, m_cat_r, m_cat_z, m_cat_rv, m_cat_l, m_o_n, m_o_i, m_o_r, m_o_z, m_o_rv, m_o_f, hs_n, hs_k, hs_l, f_k_135 I, n_135 I, Nat.reduceLeDiff, not_false_eq_true, or_true, true_or, or_false, false_or, hka, hla, hxa, hna]; first | done | omega) | exact Or.inl rfl | exact Or.inr rfl) only [k_224_113, w_aload_1, w_aloadz_1, w_aloadv_1, w_iconst, w_iload_2, w_iadd, w_iaload, w_script, w_icmp_eq, w_aload_0, w_aloadz_0, w_aloadv_0, m_cat_n, m_cat_i, m_cat_r, m_cat_z, m_cat_rv, m_cat_l, Nat.zero_le, Nat.reduceLeDiff, Nat.reduceAdd, m_o_i, m_o_r, m_o_z, m_o_rv, m_C_inl, Option.toList_some, Option.toList_none, List.cons_append, List.nil_append, w_vret, tg_224_26, tg_224_57, tg_224_59, tg_224_91, tg_224_113, w_if_eq, hs_n, hs_k, hs_l, hs_R, hs_I, hs_L, hs_setI, hs_setL, hs_cpy, f_k_135 I, n_135 I, up_up, up_sw, up_sa, i_add, i_sub, i_mul, i_tn, i_nat, Int.reduceToNat, Int.reduceAdd, Int.reduceSub, Int.reduceMul, Int.reduceNeg, l_32, l_nat, l_c_lt, l_c_gt, l_c_eq, i_lt, i_eq, i_lt0, i_0lt, i_eq0, i_eq1, Int.reduceLT, Int.reduceEq, Int.reduceLE, Int.reduceNe, not_true_eq_false, not_false_eq_true, Nat.lt_irrefl, Int.lt_irrefl, eq_self, eq_self, Nat.reduceAdd, Nat.reduceMul, Nat.reduceSub, Nat.reduceDiv, Nat.reduceMod, Nat.reduceEqDiff, Nat.reduceLeDiff, Nat.reduceLT, Nat.zero_add, Nat.add_zero, Nat.zero_le, and_false, and_true, and_self, false_and, true_and, or_false, or_true, if_true, if_false, ite_true, ite_false, ↓reduceIte, Int.reduceToNat, Int.reduceAdd, Int.reduceSub, Int.reduceMul, Int.reduceNeg, up_eq, up_na, up_nk]
    exact hQ F1 f1 r1
set_option maxHeartbeats 4000000 in
theorem vL_224 {L : Nat} {xs : Nat → Int32} {d : Nat} {h : m_H} {w : Int64} {F0 : m_M} {Q : Option Value ⊕ Nat → m_H → Prop} (I : RF h) {a : Nat} (ha : a = 147 ∨ a = 148) {G : tx_G} (P : q_pR F0 G) (gd : q_gd G) {dr : Int} (d0 : 0 ≤ dr) (d4 : dr < 4) {R : sp_R} (hQ : ∀ F' : m_M, sp_f a F0 F' → F' a = (if R (32 + dr).toNat = -1 then R else sp_de G R dr (R (32 + dr).toNat)) → Q (.inl none) (m_hS h (w, F'))) : ∀ (n : Nat) (F : m_M) (i : Int), sp_f a F0 F → sp_I G 4 (F a) → 0 ≤ i → i + n = F a (44 + dr).toNat → sp_rl G dr n i (F a) = R → m_W (p_P L xs) (d + 6) 224 k_224_59 [some (.ref 135), some (.ref a), some (.int (Int32.ofInt dr)), some (.int (Int32.ofInt i))] [] (m_hS h (w, F)) Q := by
  have hka := ra_k I ha
  have hla := ra_l I ha
  have hna := ra_n I ha
  have hxa := ra_x ha
  have ne135 : ¬ 135 = a := by omega
  have ne136 : ¬ 136 = a := by omega
  have ne144 : ¬ 144 = a := by omega
  have ne153 : ¬ 153 = a := by omega
  have na135 : ¬ a = 135 := by omega
  have na153 : ¬ a = 153 := by omega
  intro n
  induction n with
  | zero =>
    intro F i f0 hI h0 h1 hR
    have hnn := I_n hI
    have e : ¬ i < F a (44 + dr).toNat := by omega
    have hd := I_d hI d0 d4
    rw [k_224_59]
    simp (disch := first | omega | (simp (disch := omega) only [i_lt0, i_tn, i_nn, m_cat_n, m_cat_i, m_cat_r, m_cat_z, m_cat_rv, m_cat_l, m_o_n, m_o_i, m_o_r, m_o_z, m_o_rv, m_o_f, hs_n, hs_k, hs_l, f_k_135 I, n_135 I, Nat.reduceLeDiff, not_false_eq_true, or_true, true_or, or_false, false_or, hka, hla, hxa, hna]; first | done | omega) | exact Or.inl rfl | exact Or.inr rfl) only [k_224_59, w_iload_3, w_aload_1, w_aloadz_1, w_aloadv_1, w_iconst, w_iload_2, w_iadd, w_iaload, w_script, w_icmp_ge, w_aload_0, w_aloadz_0, w_aloadv_0, w_imul, m_cat_n, m_cat_i, m_cat_r, m_cat_z, m_cat_rv, m_cat_l, Nat.zero_le, Nat.reduceLeDiff, Nat.reduceAdd, m_o_i, m_o_r, m_o_z, m_o_rv, m_C_inl, Option.toList_some, Option.toList_none, List.cons_append, List.nil_append, w_iinc_3, m_o_n, m_o_f, w_goto, tg_224_26, tg_224_57, tg_224_59, tg_224_91, tg_224_113, w_icmp_eq, w_if_eq, hs_n, hs_k, hs_l, hs_R, hs_I, hs_L, hs_setI, hs_setL, hs_cpy, f_k_135 I, n_135 I, up_up, up_sw, up_sa, i_add, i_sub, i_mul, i_tn, i_nat, Int.reduceToNat, Int.reduceAdd, Int.reduceSub, Int.reduceMul, Int.reduceNeg, l_32, l_nat, l_c_lt, l_c_gt, l_c_eq, i_lt, i_eq, i_lt0, i_0lt, i_eq0, i_eq1, Int.reduceLT, Int.reduceEq, Int.reduceLE, Int.reduceNe, not_true_eq_false, not_false_eq_true, Nat.lt_irrefl, Int.lt_irrefl, eq_self, eq_self, Nat.reduceAdd, Nat.reduceMul, Nat.reduceSub, Nat.reduceDiv, Nat.reduceMod, Nat.reduceEqDiff, Nat.reduceLeDiff, Nat.reduceLT, Nat.zero_add, Nat.add_zero, Nat.zero_le, and_false, and_true, and_self, false_and, true_and, or_false, or_true, if_true, if_false, ite_true, ite_false, ↓reduceIte, Int.reduceToNat, Int.reduceAdd, Int.reduceSub, Int.reduceMul, Int.reduceNeg, up_eq, up_na, up_nk, e]
    have hR : F a = R := hR
    rw [← hR] at hQ
    exact vE_224 I ha (pR_f ha f0 P) gd d0 d4 hI (fun F' f' r' => hQ F' (sf_tr f0 f') r')
  | succ n ih =>
    intro F i f0 hI h0 h1 hR
    have hnn := I_n hI
    have e : i < F a (44 + dr).toNat := by omega
    have hd := I_d hI d0 d4
    have hl := I_l (k := i) hI d0 d4 h0 e
    rw [k_224_59]
    simp (disch := first | omega | (simp (disch := omega) only [i_lt0, i_tn, i_nn, m_cat_n, m_cat_i, m_cat_r, m_cat_z, m_cat_rv, m_cat_l, m_o_n, m_o_i, m_o_r, m_o_z, m_o_rv, m_o_f, hs_n, hs_k, hs_l, f_k_135 I, n_135 I, Nat.reduceLeDiff, not_false_eq_true, or_true, true_or, or_false, false_or, hka, hla, hxa, hna]; first | done | omega) | exact Or.inl rfl | exact Or.inr rfl) only [w_iload_3, w_aload_1, w_aloadz_1, w_aloadv_1, w_iconst, w_iload_2, w_iadd, w_iaload, w_script, w_icmp_ge, w_aload_0, w_aloadz_0, w_aloadv_0, w_imul, m_cat_n, m_cat_i, m_cat_r, m_cat_z, m_cat_rv, m_cat_l, Nat.zero_le, Nat.reduceLeDiff, Nat.reduceAdd, m_o_i, m_o_r, m_o_z, m_o_rv, m_C_inl, Option.toList_some, Option.toList_none, List.cons_append, List.nil_append, w_iinc_3, m_o_n, m_o_f, w_goto, tg_224_26, tg_224_57, tg_224_59, tg_224_91, tg_224_113, w_icmp_eq, w_if_eq, hs_n, hs_k, hs_l, hs_R, hs_I, hs_L, hs_setI, hs_setL, hs_cpy, f_k_135 I, n_135 I, up_up, up_sw, up_sa, i_add, i_sub, i_mul, i_tn, i_nat, Int.reduceToNat, Int.reduceAdd, Int.reduceSub, Int.reduceMul, Int.reduceNeg, l_32, l_nat, l_c_lt, l_c_gt, l_c_eq, i_lt, i_eq, i_lt0, i_0lt, i_eq0, i_eq1, Int.reduceLT, Int.reduceEq, Int.reduceLE, Int.reduceNe, not_true_eq_false, not_false_eq_true, Nat.lt_irrefl, Int.lt_irrefl, eq_self, eq_self, Nat.reduceAdd, Nat.reduceMul, Nat.reduceSub, Nat.reduceDiv, Nat.reduceMod, Nat.reduceEqDiff, Nat.reduceLeDiff, Nat.reduceLT, Nat.zero_add, Nat.add_zero, Nat.zero_le, and_false, and_true, and_self, false_and, true_and, or_false, or_true, if_true, if_false, ite_true, ite_false, ↓reduceIte, Int.reduceToNat, Int.reduceAdd, Int.reduceSub, Int.reduceMul, Int.reduceNeg, up_eq, up_na, up_nk, e]
    simp (disch := first | omega | (simp (disch := omega) only [i_lt0, i_tn, i_nn, m_cat_n, m_cat_i, m_cat_r, m_cat_z, m_cat_rv, m_cat_l, m_o_n, m_o_i, m_o_r, m_o_z, m_o_rv, m_o_f, hs_n, hs_k, hs_l, f_k_135 I, n_135 I, Nat.reduceLeDiff, not_false_eq_true, or_true, true_or, or_false, false_or]; first | done | omega) | exact Or.inl rfl | exact Or.inr rfl) only [cl_215, m_cat_n, m_cat_i, m_cat_r, m_cat_z, m_cat_rv, m_cat_l, Nat.zero_le, Nat.reduceLeDiff, Nat.reduceAdd, m_o_i, m_o_r, m_o_z, m_o_rv, hs_n, hs_k, f_k_135 I, n_135 I, hna, hka]
    have a1 := I_ke gd hI hl.1 hl.2
    refine v_215 (D := 4) I ha (pR_f ha f0 P) gd hI hl.1 hl.2 (fun F1 f1 r1 => ?_)
    simp (disch := first | omega | (simp (disch := omega) only [i_lt0, i_tn, i_nn, m_cat_n, m_cat_i, m_cat_r, m_cat_z, m_cat_rv, m_cat_l, m_o_n, m_o_i, m_o_r, m_o_z, m_o_rv, m_o_f, hs_n, hs_k, hs_l, f_k_135 I, n_135 I, Nat.reduceLeDiff, not_false_eq_true, or_true, true_or, or_false, false_or, hka, hla, hxa, hna]; first | done | omega) | exact Or.inl rfl | exact Or.inr rfl) only [w_iload_3, w_aload_1, w_aloadz_1, w_aloadv_1, w_iconst, w_iload_2, w_iadd, w_iaload, w_script, w_icmp_ge, w_aload_0, w_aloadz_0, w_aloadv_0, w_imul, m_cat_n, m_cat_i, m_cat_r, m_cat_z, m_cat_rv, m_cat_l, Nat.zero_le, Nat.reduceLeDiff, Nat.reduceAdd, m_o_i, m_o_r, m_o_z, m_o_rv, m_C_inl, Option.toList_some, Option.toList_none, List.cons_append, List.nil_append, w_iinc_3, m_o_n, m_o_f, w_goto, tg_224_26, tg_224_57, tg_224_59, tg_224_91, tg_224_113, w_icmp_eq, w_if_eq, hs_n, hs_k, hs_l, hs_R, hs_I, hs_L, hs_setI, hs_setL, hs_cpy, f_k_135 I, n_135 I, up_up, up_sw, up_sa, i_add, i_sub, i_mul, i_tn, i_nat, Int.reduceToNat, Int.reduceAdd, Int.reduceSub, Int.reduceMul, Int.reduceNeg, l_32, l_nat, l_c_lt, l_c_gt, l_c_eq, i_lt, i_eq, i_lt0, i_0lt, i_eq0, i_eq1, Int.reduceLT, Int.reduceEq, Int.reduceLE, Int.reduceNe, not_true_eq_false, not_false_eq_true, Nat.lt_irrefl, Int.lt_irrefl, eq_self, eq_self, Nat.reduceAdd, Nat.reduceMul, Nat.reduceSub, Nat.reduceDiv, Nat.reduceMod, Nat.reduceEqDiff, Nat.reduceLeDiff, Nat.reduceLT, Nat.zero_add, Nat.add_zero, Nat.zero_le, and_false, and_true, and_self, false_and, true_and, or_false, or_true, if_true, if_false, ite_true, ite_false, ↓reduceIte, Int.reduceToNat, Int.reduceAdd, Int.reduceSub, Int.reduceMul, Int.reduceNeg, up_eq, up_na, up_nk]
    rw [← r1] at a1
    exact ih F1 (i + 1) (sf_tr f0 f1) a1.1 (by omega) (by rw [a1.2.2 _ (by omega)]; omega) (by rw [r1]; exact hR)
set_option maxHeartbeats 4000000 in
theorem vB_224 {L : Nat} {xs : Nat → Int32} {d : Nat} {h : m_H} {w : Int64} {F0 : m_M} {Q : Option Value ⊕ Nat → m_H → Prop} (I : RF h) {a : Nat} (ha : a = 147 ∨ a = 148) {G : tx_G} (P : q_pR F0 G) (gd : q_gd G) {dr : Int} (d0 : 0 ≤ dr) (d4 : dr < 4) {s R : sp_R} (hs : sp_I G 4 (sp_ba s dr)) (hQ : ∀ F' : m_M, sp_f a F0 F' → F' a = (if R (32 + dr).toNat = -1 then R else sp_de G R dr (R (32 + dr).toNat)) → Q (.inl none) (m_hS h (w, F'))) (hR : sp_rl G dr (sp_ba s dr (44 + dr).toNat).toNat 0 (sp_ba s dr) = R) : ∀ (n : Nat) (F : m_M) (i : Int), sp_f a F0 F → F a = sp_bai s dr i → 0 ≤ i → i ≤ 4 → 4 - i ≤ n → m_W (p_P L xs) (d + 6) 224 k_224_26 [some (.ref 135), some (.ref a), some (.int (Int32.ofInt dr)), some (.int (Int32.ofInt i))] [] (m_hS h (w, F)) Q := by
  have hka := ra_k I ha
  have hla := ra_l I ha
  have hna := ra_n I ha
  have hxa := ra_x ha
  have ne135 : ¬ 135 = a := by omega
  have ne136 : ¬ 136 = a := by omega
  have ne144 : ¬ 144 = a := by omega
  have ne153 : ¬ 153 = a := by omega
  have na135 : ¬ a = 135 := by omega
  have na153 : ¬ a = 153 := by omega
  have fin : ∀ F : m_M, sp_f a F0 F → F a = sp_bai s dr 4 → m_W (p_P L xs) (d + 6) 224 k_224_57 [some (.ref 135), some (.ref a), some (.int (Int32.ofInt dr)), some (.int (Int32.ofInt 4))] [] (m_hS h (w, F)) Q := by
    intro F f0 hr
    rw [bai_4] at hr
    rw [k_224_57]
    simp (disch := first | omega | (simp (disch := omega) only [i_lt0, i_tn, i_nn, m_cat_n, m_cat_i, m_cat_r, m_cat_z, m_cat_rv, m_cat_l, m_o_n, m_o_i, m_o_r, m_o_z, m_o_rv, m_o_f, hs_n, hs_k, hs_l, f_k_135 I, n_135 I, Nat.reduceLeDiff, not_false_eq_true, or_true, true_or, or_false, false_or, hka, hla, hxa, hna]; first | done | omega) | exact Or.inl rfl | exact Or.inr rfl) only [k_224_57, w_iconst, w_istore_3, m_o_n, m_o_i, m_o_r, m_o_z, m_o_rv, m_o_f, tg_224_26, tg_224_57, tg_224_59, tg_224_91, tg_224_113, m_C_inl, Option.toList_some, Option.toList_none, List.cons_append, List.nil_append, w_icmp_eq, w_if_eq, hs_n, hs_k, hs_l, hs_R, hs_I, hs_L, hs_setI, hs_setL, hs_cpy, f_k_135 I, n_135 I, up_up, up_sw, up_sa, i_add, i_sub, i_mul, i_tn, i_nat, Int.reduceToNat, Int.reduceAdd, Int.reduceSub, Int.reduceMul, Int.reduceNeg, l_32, l_nat, l_c_lt, l_c_gt, l_c_eq, i_lt, i_eq, i_lt0, i_0lt, i_eq0, i_eq1, Int.reduceLT, Int.reduceEq, Int.reduceLE, Int.reduceNe, not_true_eq_false, not_false_eq_true, Nat.lt_irrefl, Int.lt_irrefl, eq_self, eq_self, Nat.reduceAdd, Nat.reduceMul, Nat.reduceSub, Nat.reduceDiv, Nat.reduceMod, Nat.reduceEqDiff, Nat.reduceLeDiff, Nat.reduceLT, Nat.zero_add, Nat.add_zero, Nat.zero_le, and_false, and_true, and_self, false_and, true_and, or_false, or_true, if_true, if_false, ite_true, ite_false, ↓reduceIte, Int.reduceToNat, Int.reduceAdd, Int.reduceSub, Int.reduceMul, Int.reduceNeg, up_eq, up_na, up_nk]
    have hd := I_d hs d0 d4
    rw [← hr] at hs hR hd
    exact vL_224 I ha P gd d0 d4 hQ _ F 0 f0 hs (by decide) (by omega) hR
  intro n
  induction n with
  | zero =>
    intro F i f0 hr h0 h1 h2
    have e : ¬ i < 4 := by omega
    rw [k_224_26]
    simp (disch := first | omega | (simp (disch := omega) only [i_lt0, i_tn, i_nn, m_cat_n, m_cat_i, m_cat_r, m_cat_z, m_cat_rv, m_cat_l, m_o_n, m_o_i, m_o_r, m_o_z, m_o_rv, m_o_f, hs_n, hs_k, hs_l, f_k_135 I, n_135 I, Nat.reduceLeDiff, not_false_eq_true, or_true, true_or, or_false, false_or, hka, hla, hxa, hna]; first | done | omega) | exact Or.inl rfl | exact Or.inr rfl) only [k_224_26, w_iload_3, w_iconst, w_icmp_ge, w_aload_1, w_aloadz_1, w_aloadv_1, w_iload_2, w_imul, w_iadd, w_iaload, w_script, w_iastore, w_iinc_3, m_o_n, m_o_i, m_o_r, m_o_z, m_o_rv, m_o_f, w_goto, tg_224_26, tg_224_57, tg_224_59, tg_224_91, tg_224_113, m_C_inl, Option.toList_some, Option.toList_none, List.cons_append, List.nil_append, w_icmp_eq, w_if_eq, hs_n, hs_k, hs_l, hs_R, hs_I, hs_L, hs_setI, hs_setL, hs_cpy, f_k_135 I, n_135 I, up_up, up_sw, up_sa, i_add, i_sub, i_mul, i_tn, i_nat, Int.reduceToNat, Int.reduceAdd, Int.reduceSub, Int.reduceMul, Int.reduceNeg, l_32, l_nat, l_c_lt, l_c_gt, l_c_eq, i_lt, i_eq, i_lt0, i_0lt, i_eq0, i_eq1, Int.reduceLT, Int.reduceEq, Int.reduceLE, Int.reduceNe, not_true_eq_false, not_false_eq_true, Nat.lt_irrefl, Int.lt_irrefl, eq_self, eq_self, Nat.reduceAdd, Nat.reduceMul, Nat.reduceSub, Nat.reduceDiv, Nat.reduceMod, Nat.reduceEqDiff, Nat.reduceLeDiff, Nat.reduceLT, Nat.zero_add, Nat.add_zero, Nat.zero_le, and_false, and_true, and_self, false_and, true_and, or_false, or_true, if_true, if_false, ite_true, ite_false, ↓reduceIte, Int.reduceToNat, Int.reduceAdd, Int.reduceSub, Int.reduceMul, Int.reduceNeg, up_eq, up_na, up_nk, e]
    obtain rfl : i = 4 := by omega
    exact fin F f0 hr
  | succ n ih =>
    intro F i f0 hr h0 h1 h2
    by_cases e : i < 4
    · rw [k_224_26]
      simp (disch := first | omega | (simp (disch := omega) only [i_lt0, i_tn, i_nn, m_cat_n, m_cat_i, m_cat_r, m_cat_z, m_cat_rv, m_cat_l, m_o_n, m_o_i, m_o_r, m_o_z, m_o_rv, m_o_f, hs_n, hs_k, hs_l, f_k_135 I, n_135 I, Nat.reduceLeDiff, not_false_eq_true, or_true, true_or, or_false, false_or, hka, hla, hxa, hna]; first | done | omega) | exact Or.inl rfl | exact Or.inr rfl) only [w_iload_3, w_iconst, w_icmp_ge, w_aload_1, w_aloadz_1, w_aloadv_1, w_iload_2, w_imul, w_iadd, w_iaload, w_script, w_iastore, w_iinc_3, m_o_n, m_o_i, m_o_r, m_o_z, m_o_rv, m_o_f, w_goto, tg_224_26, tg_224_57, tg_224_59, tg_224_91, tg_224_113, m_C_inl, Option.toList_some, Option.toList_none, List.cons_append, List.nil_append, w_icmp_eq, w_if_eq, hs_n, hs_k, hs_l, hs_R, hs_I, hs_L, hs_setI, hs_setL, hs_cpy, f_k_135 I, n_135 I, up_up, up_sw, up_sa, i_add, i_sub, i_mul, i_tn, i_nat, Int.reduceToNat, Int.reduceAdd, Int.reduceSub, Int.reduceMul, Int.reduceNeg, l_32, l_nat, l_c_lt, l_c_gt, l_c_eq, i_lt, i_eq, i_lt0, i_0lt, i_eq0, i_eq1, Int.reduceLT, Int.reduceEq, Int.reduceLE, Int.reduceNe, not_true_eq_false, not_false_eq_true, Nat.lt_irrefl, Int.lt_irrefl, eq_self, eq_self, Nat.reduceAdd, Nat.reduceMul, Nat.reduceSub, Nat.reduceDiv, Nat.reduceMod, Nat.reduceEqDiff, Nat.reduceLeDiff, Nat.reduceLT, Nat.zero_add, Nat.add_zero, Nat.zero_le, and_false, and_true, and_self, false_and, true_and, or_false, or_true, if_true, if_false, ite_true, ite_false, ↓reduceIte, Int.reduceToNat, Int.reduceAdd, Int.reduceSub, Int.reduceMul, Int.reduceNeg, up_eq, up_na, up_nk, e]
      refine ih _ (i + 1) (sf_tr f0 (by intro x y z1 z2 z3; simp (disch := omega) only [up_na, up_no])) ?_ (by omega) (by omega) (by omega)
      simp (disch := omega) only [up_row, up_ro, u1_n, u1_e, u1_uu, u1_sw, if_pos, if_neg, and_true, true_and, and_self, if_true, if_false]
      rw [hr, ← bai_s d0 d4 h0 e]
    · rw [k_224_26]
      simp (disch := first | omega | (simp (disch := omega) only [i_lt0, i_tn, i_nn, m_cat_n, m_cat_i, m_cat_r, m_cat_z, m_cat_rv, m_cat_l, m_o_n, m_o_i, m_o_r, m_o_z, m_o_rv, m_o_f, hs_n, hs_k, hs_l, f_k_135 I, n_135 I, Nat.reduceLeDiff, not_false_eq_true, or_true, true_or, or_false, false_or, hka, hla, hxa, hna]; first | done | omega) | exact Or.inl rfl | exact Or.inr rfl) only [k_224_26, w_iload_3, w_iconst, w_icmp_ge, w_aload_1, w_aloadz_1, w_aloadv_1, w_iload_2, w_imul, w_iadd, w_iaload, w_script, w_iastore, w_iinc_3, m_o_n, m_o_i, m_o_r, m_o_z, m_o_rv, m_o_f, w_goto, tg_224_26, tg_224_57, tg_224_59, tg_224_91, tg_224_113, m_C_inl, Option.toList_some, Option.toList_none, List.cons_append, List.nil_append, w_icmp_eq, w_if_eq, hs_n, hs_k, hs_l, hs_R, hs_I, hs_L, hs_setI, hs_setL, hs_cpy, f_k_135 I, n_135 I, up_up, up_sw, up_sa, i_add, i_sub, i_mul, i_tn, i_nat, Int.reduceToNat, Int.reduceAdd, Int.reduceSub, Int.reduceMul, Int.reduceNeg, l_32, l_nat, l_c_lt, l_c_gt, l_c_eq, i_lt, i_eq, i_lt0, i_0lt, i_eq0, i_eq1, Int.reduceLT, Int.reduceEq, Int.reduceLE, Int.reduceNe, not_true_eq_false, not_false_eq_true, Nat.lt_irrefl, Int.lt_irrefl, eq_self, eq_self, Nat.reduceAdd, Nat.reduceMul, Nat.reduceSub, Nat.reduceDiv, Nat.reduceMod, Nat.reduceEqDiff, Nat.reduceLeDiff, Nat.reduceLT, Nat.zero_add, Nat.add_zero, Nat.zero_le, and_false, and_true, and_self, false_and, true_and, or_false, or_true, if_true, if_false, ite_true, ite_false, ↓reduceIte, Int.reduceToNat, Int.reduceAdd, Int.reduceSub, Int.reduceMul, Int.reduceNeg, up_eq, up_na, up_nk, e]
      obtain rfl : i = 4 := by omega
      exact fin F f0 hr
set_option maxHeartbeats 4000000 in
/-- restarts -/
theorem v_224 {L : Nat} {xs : Nat → Int32} {d : Nat} {h : m_H} {w : Int64} {F : m_M} {Q : Option Value ⊕ Nat → m_H → Prop} (I : RF h) {a : Nat} (ha : a = 147 ∨ a = 148) {G : tx_G} (P : q_pR F G) (gd : q_gd G) {dr : Int} (d0 : 0 ≤ dr) (d4 : dr < 4) (hI : sp_I G 4 (F a)) {B : Int} (hB : sp_B B (F a)) (B9 : B ≤ 1050000000) (hQ : ∀ F' : m_M, sp_f a F F' → F' a = sp_rs G (F a) dr → Q (.inl none) (m_hS h (w, F'))) : m_W (p_P L xs) (d + 6) 224 k_224_0 [some (.ref 135), some (.ref a), some (.int (Int32.ofInt dr)), none] [] (m_hS h (w, F)) Q := by
  have hka := ra_k I ha
  have hla := ra_l I ha
  have hna := ra_n I ha
  have hxa := ra_x ha
  have ne135 : ¬ 135 = a := by omega
  have ne136 : ¬ 136 = a := by omega
  have ne144 : ¬ 144 = a := by omega
  have ne153 : ¬ 153 = a := by omega
  have na135 : ¬ a = 135 := by omega
  have na153 : ¬ a = 153 := by omega
  have hnn := I_n hI
  have a1 := I_r1 hI d0 d4 hB
  unfold sp_rs sp_r2 at hQ
  rw [← a1.2.2.2] at hQ
  unfold sp_r1 at hQ a1
  rw [k_224_0]
  (repeat' (first | (simp (disch := first | omega | (simp (disch := omega) only [i_lt0, i_tn, i_nn, m_cat_n, m_cat_i, m_cat_r, m_cat_z, m_cat_rv, m_cat_l, m_o_n, m_o_i, m_o_r, m_o_z, m_o_rv, m_o_f, hs_n, hs_k, hs_l, f_k_135 I, n_135 I, Nat.reduceLeDiff, not_false_eq_true, or_true, true_or, or_false, false_or, hka, hla, hxa, hna]; first | done | omega) | exact Or.inl rfl | exact Or.inr rfl) only [k_224_0, w_aload_1, w_aloadz_1, w_aloadv_1, w_iconst, w_iload_2, w_iadd, w_iastore, w_iaload, w_script, w_aload_0, w_aloadz_0, w_aloadv_0, m_cat_n, m_cat_i, m_cat_r, m_cat_z, m_cat_rv, m_cat_l, Nat.zero_le, Nat.reduceLeDiff, Nat.reduceAdd, m_o_i, m_o_r, m_o_z, m_o_rv, m_C_inl, Option.toList_some, Option.toList_none, List.cons_append, List.nil_append, w_istore_3, m_o_n, m_o_f, tg_224_26, tg_224_57, tg_224_59, tg_224_91, tg_224_113, w_icmp_eq, w_if_eq, hs_n, hs_k, hs_l, hs_R, hs_I, hs_L, hs_setI, hs_setL, hs_cpy, f_k_135 I, n_135 I, up_up, up_sw, up_sa, i_add, i_sub, i_mul, i_tn, i_nat, Int.reduceToNat, Int.reduceAdd, Int.reduceSub, Int.reduceMul, Int.reduceNeg, l_32, l_nat, l_c_lt, l_c_gt, l_c_eq, i_lt, i_eq, i_lt0, i_0lt, i_eq0, i_eq1, Int.reduceLT, Int.reduceEq, Int.reduceLE, Int.reduceNe, not_true_eq_false, not_false_eq_true, Nat.lt_irrefl, Int.lt_irrefl, eq_self, eq_self, Nat.reduceAdd, Nat.reduceMul, Nat.reduceSub, Nat.reduceDiv, Nat.reduceMod, Nat.reduceEqDiff, Nat.reduceLeDiff, Nat.reduceLT, Nat.zero_add, Nat.add_zero, Nat.zero_le, and_false, and_true, and_self, false_and, true_and, or_false, or_true, if_true, if_false, ite_true, ite_false, ↓reduceIte, Int.reduceToNat, Int.reduceAdd, Int.reduceSub, Int.reduceMul, Int.reduceNeg, up_eq, up_na, up_nk]) | split | (simp (disch := first | omega | (simp (disch := omega) only [i_lt0, i_tn, i_nn, m_cat_n, m_cat_i, m_cat_r, m_cat_z, m_cat_rv, m_cat_l, m_o_n, m_o_i, m_o_r, m_o_z, m_o_rv, m_o_f, hs_n, hs_k, hs_l, f_k_135 I, n_135 I, Nat.reduceLeDiff, not_false_eq_true, or_true, true_or, or_false, false_or]; first | done | omega) | exact Or.inl rfl | exact Or.inr rfl) only [cl_216, m_cat_n, m_cat_i, m_cat_r, m_cat_z, m_cat_rv, m_cat_l, Nat.zero_le, Nat.reduceLeDiff, Nat.reduceAdd, m_o_i, m_o_r, m_o_z, m_o_rv, hs_n, hs_k, f_k_135 I, n_135 I, hna, hka]; refine v_216 (G := G) (D := 4) I ha (by omega) (by omega) (by (try simp (disch := omega) only [up_row, up_ro, u1_n, u1_e, u1_uu, u1_sw, if_pos, if_neg, and_true, true_and, and_self, if_true, if_false]); (repeat (first | exact hI | assumption | refine I_nc (by unfold q_cr; omega) ?_ | refine I_fl (by omega) (by omega) (by omega) (by first | omega | (simp (disch := omega) only [u1_n]; omega)) ?_))) ?_; intro F1 f1 r1)))
  have e1 : F1 a = sp_no (tx_u1 (tx_u1 (F a) (12 + dr).toNat 0) (24 + dr).toNat (F a 0)) 5 dr (-1) := by
    rw [r1]
    simp (disch := omega) only [up_row, up_ro, u1_n, u1_e, u1_uu, u1_sw, if_pos, if_neg, and_true, true_and, and_self, if_true, if_false]
  rw [← e1] at hQ a1
  have g1 : sp_f a F F1 := sf_tr (by intro x y z1 z2 z3; simp (disch := omega) only [up_na, up_no]) f1
  exact vB_224 I ha (pR_f ha g1 P) gd d0 d4 (s := F1 a) a1.1 (fun F' f' r' => hQ F' (sf_tr g1 f') r') rfl 4 F1 0 sf_rf bai_0.symm (by decide) (by decide) (by decide)
