/-! the class's codes gone through, exactly: the run -/
set_option maxHeartbeats 8000000 in
theorem lpR_2 {L : Nat} {xs : Nat → Int32} {d : Nat} {h : m_H} {w : Int64} {F0 : m_M} {Q : Option Value ⊕ Nat → m_H → Prop} {p c : Nat} (P : PW h p) (cn : c < m_n h) (ck : m_k h c = 100) (cl : m_l h c = 14) (cp : ¬ c = p + 2 ∧ ¬ c = p + 3 ∧ ¬ c = p + 4 ∧ ¬ c = p + 5) {g dr ar re n : Int} (d0 : 0 ≤ dr) (d4 : dr < 4) (hn : F0 (p + 2) 2 = n) (gn : g ≤ n) (nl : n ≤ m_l h (p + 4)) (n9 : n ≤ 1000) {f : Int} {st' : List Int} {s' : sp_R} (hQ : ∀ (v : Int) (F' : m_M), (∀ x y, ¬ x = p + 3 → ¬ x = c → F' x y = F0 x y) → sq_c (F' c) s' dr ar re → (∀ x, st' = [x] → v = x) → (st' = [] → v = 0) → Q (.inl (some (.int (Int32.ofInt v)))) (m_hS h (w, F'))) : ∀ (cs : List Int) (i : Int) (G : m_M) (s : sp_R) (l6 l7 : Option Value) (st : List Int), m_o l6 = true → m_o l7 = true → 0 ≤ i → i + cs.length = g → st.length ≤ 64 → sc_sk G p st → sq_c (G c) s dr ar re → sc_at G p i cs → (∀ x, x ∈ cs → sp_cc x ∧ sp_c3 x) → sp_ex (sp_op dr ar re) dr cs st s = some (st', s') → (∀ x y, ¬ x = p + 3 → ¬ x = c → G x y = F0 x y) → m_W (p_P L xs) (d + 1) 2 k_2_10 [some (.ref (p + 2)), some (.int (Int32.ofInt f)), some (.int (Int32.ofInt g)), some (.ref c), some (.int (Int32.ofInt (st.length : Int))), some (.int (Int32.ofInt (i))), l6, l7] [] (m_hS h (w, G)) Q := by
  have pb1 := PW_pn P
  have pb2 := PW_pX P
  have cxx : ¬ c = m_X := by omega
  intro cs
  induction cs with
  | nil =>
    intro i G s l6 l7 st h6 h7 i0 ig hl hs hq hc hm hx hg
    have e : ¬ i < g := by have : i + ((0 : Nat) : Int) = g := ig; omega
    rw [sp_ex] at hx
    obtain ⟨rfl, rfl⟩ := Prod.mk.inj (Option.some.inj hx)
    rw [k_2_10]
    cases st with
    | nil =>
      have e0 : ¬ 0 < ((([] : List Int).length : Nat) : Int) := by decide
      simp (disch := first | omega | (simp (disch := omega) only [i_lt0, i_tn, i_nn, m_cat_n, m_cat_i, m_cat_r, m_cat_z, m_cat_rv, m_cat_l, m_o_n, m_o_i, m_o_r, m_o_z, m_o_rv, m_o_f, hs_n, hs_k, hs_l, Nat.reduceLeDiff, not_false_eq_true, or_true, true_or, or_false, false_or, PW_pk P, PW_p2 P, PW_p10 P, PW_ck P, PW_cl P, PW_ok P, PW_o0 P, PW_o1 P, PW_o3 P, PW_sk P, PW_sl P, PW_ak P, PW_bk P, PW_al P, ck, cl, cxx, h6, h7]; first | done | omega) | exact Or.inl rfl | exact Or.inr rfl) only [k_2_10, k_2_215, k_2_232, k_2_233, w_iload_5, w_iload_2, w_icmp_ge, w_aload_0, w_aloadz_0, w_aloadv_0, gf_2, m_rv_s, m_rv_n, gf_0, w_iaload, w_script, w_istore_6, m_o_n, m_o_i, m_o_r, m_o_z, m_o_rv, m_o_f, gf_1, w_istore_7, w_iload_6, w_if_eq, w_iconst, w_icmp_ne, w_iload_4, w_if_le, gf_3, w_isub, w_goto, w_iret, tg_2_10, tg_2_54, tg_2_80, tg_2_86, tg_2_93, tg_2_136, tg_2_170, tg_2_209, tg_2_215, tg_2_232, tg_2_233, m_C_inl, Option.toList_some, Option.toList_none, List.cons_append, List.nil_append, w_icmp_eq, hs_n, hs_k, hs_l, hs_R, hs_I, hs_L, hs_setI, hs_setL, hs_cpy, PW_pk P, PW_p2 P, PW_p10 P, PW_ck P, PW_cl P, PW_ok P, PW_o0 P, PW_o1 P, PW_o3 P, PW_sk P, PW_sl P, PW_ak P, PW_bk P, PW_al P, ck, cl, cxx, h6, h7, up_up, up_sw, up_sa, up_eq, up_na, up_nk, i_add, i_sub, i_mul, i_tn, i_nat, Int.reduceToNat, Int.reduceAdd, Int.reduceSub, Int.reduceMul, Int.reduceNeg, l_32, l_nat, l_c_lt, l_c_gt, l_c_eq, i_lt, i_eq, i_lt0, i_0lt, i_eq0, i_eq1, Int.reduceLT, Int.reduceEq, Int.reduceLE, Int.reduceNe, not_true_eq_false, not_false_eq_true, Nat.lt_irrefl, Int.lt_irrefl, eq_self, eq_self, Nat.reduceAdd, Nat.reduceMul, Nat.reduceSub, Nat.reduceDiv, Nat.reduceMod, Nat.reduceEqDiff, Nat.reduceLeDiff, Nat.reduceLT, Nat.zero_add, Nat.add_zero, Nat.zero_le, and_false, and_true, and_self, false_and, true_and, or_false, or_true, if_true, if_false, ite_true, ite_false, ↓reduceIte, Int.reduceToNat, Int.reduceAdd, Int.reduceSub, Int.reduceMul, Int.reduceNeg, e, e0, List.length_nil, Int.natCast_zero, Int.lt_irrefl]
      exact hQ 0 G hg hq (fun x hx => absurd hx (by simp)) (fun _ => rfl)
    | cons x st =>
      have e0 : 0 < (((x :: st).length : Nat) : Int) := by show 0 < ((st.length + 1 : Nat) : Int); omega
      have e1 : ((((x :: st).length : Nat) : Int) - 1).toNat = st.length := by show (((st.length + 1 : Nat) : Int) - 1).toNat = _; omega
      have e2 : ¬ (((x :: st).length : Nat) : Int) ≤ 0 := by omega
      have l9 : st.length + 1 ≤ 64 := hl
      simp (disch := first | omega | (simp (disch := omega) only [i_lt0, i_tn, i_nn, m_cat_n, m_cat_i, m_cat_r, m_cat_z, m_cat_rv, m_cat_l, m_o_n, m_o_i, m_o_r, m_o_z, m_o_rv, m_o_f, hs_n, hs_k, hs_l, Nat.reduceLeDiff, not_false_eq_true, or_true, true_or, or_false, false_or, PW_pk P, PW_p2 P, PW_p10 P, PW_ck P, PW_cl P, PW_ok P, PW_o0 P, PW_o1 P, PW_o3 P, PW_sk P, PW_sl P, PW_ak P, PW_bk P, PW_al P, ck, cl, cxx, h6, h7]; first | done | omega) | exact Or.inl rfl | exact Or.inr rfl) only [k_2_10, k_2_215, k_2_233, w_iload_5, w_iload_2, w_icmp_ge, w_aload_0, w_aloadz_0, w_aloadv_0, gf_2, m_rv_s, m_rv_n, gf_0, w_iaload, w_script, w_istore_6, m_o_n, m_o_i, m_o_r, m_o_z, m_o_rv, m_o_f, gf_1, w_istore_7, w_iload_6, w_if_eq, w_iconst, w_icmp_ne, w_iload_4, w_if_le, gf_3, w_isub, w_goto, w_iret, tg_2_10, tg_2_54, tg_2_80, tg_2_86, tg_2_93, tg_2_136, tg_2_170, tg_2_209, tg_2_215, tg_2_232, tg_2_233, m_C_inl, Option.toList_some, Option.toList_none, List.cons_append, List.nil_append, w_icmp_eq, hs_n, hs_k, hs_l, hs_R, hs_I, hs_L, hs_setI, hs_setL, hs_cpy, PW_pk P, PW_p2 P, PW_p10 P, PW_ck P, PW_cl P, PW_ok P, PW_o0 P, PW_o1 P, PW_o3 P, PW_sk P, PW_sl P, PW_ak P, PW_bk P, PW_al P, ck, cl, cxx, h6, h7, up_up, up_sw, up_sa, up_eq, up_na, up_nk, i_add, i_sub, i_mul, i_tn, i_nat, Int.reduceToNat, Int.reduceAdd, Int.reduceSub, Int.reduceMul, Int.reduceNeg, l_32, l_nat, l_c_lt, l_c_gt, l_c_eq, i_lt, i_eq, i_lt0, i_0lt, i_eq0, i_eq1, Int.reduceLT, Int.reduceEq, Int.reduceLE, Int.reduceNe, not_true_eq_false, not_false_eq_true, Nat.lt_irrefl, Int.lt_irrefl, eq_self, eq_self, Nat.reduceAdd, Nat.reduceMul, Nat.reduceSub, Nat.reduceDiv, Nat.reduceMod, Nat.reduceEqDiff, Nat.reduceLeDiff, Nat.reduceLT, Nat.zero_add, Nat.add_zero, Nat.zero_le, and_false, and_true, and_self, false_and, true_and, or_false, or_true, if_true, if_false, ite_true, ite_false, ↓reduceIte, Int.reduceToNat, Int.reduceAdd, Int.reduceSub, Int.reduceMul, Int.reduceNeg, e, e0, e1, e2, hs.1]
      exact hQ x G hg hq (fun y hy => (List.cons.inj hy).1) (fun hy => absurd hy (by simp))
  | cons x cs ih =>
    intro i G s l6 l7 st h6 h7 i0 ig hl hs hq hc hm hx hg
    have ig2 : i + 1 + (cs.length : Int) = g := by have : i + ((cs.length + 1 : Nat) : Int) = g := ig; omega
    have hi : i < g := by omega
    have hsz : G (p + 2) 2 = n := (hg _ _ (by omega) (by omega)).trans hn
    have hin : i < n := by omega
    obtain ⟨⟨x0, x9⟩, x3⟩ := hm x List.mem_cons_self
    have hm2 : ∀ y, y ∈ cs → sp_cc y ∧ sp_c3 y := fun y hy => hm y (List.mem_cons_of_mem _ hy)
    obtain ⟨e4, e5⟩ := hc.1
    unfold sp_c3 at x3
    rw [ex_c] at hx
    rw [k_2_10]
    by_cases q1 : x = 23
    · subst q1
      rw [if_pos rfl] at hx
      rw [show tx_op 23 = 3 from rfl] at e4
      cases st with
      | nil => exact absurd hx (by simp)
      | cons y st =>
        have hx : (if y = 0 ∨ y = 1 then sp_ex (sp_op dr ar re) dr cs ((1 - y) :: st) s else none) = some (st', s') := hx
        split at hx
        · have el : ∀ z : Int, (((z :: st).length : Nat) : Int) = (st.length : Int) + 1 := fun z => by show ((st.length + 1 : Nat) : Int) = _; omega
          have l9 : st.length + 1 ≤ 64 := hl
          have e1 : ((st.length : Int) + 1 - 1).toNat = st.length := by omega
          have ep : 0 < (st.length : Int) + 1 := by omega
          have hs0 := hs.1
          rw [el]
          simp (disch := first | omega | (simp (disch := omega) only [i_lt0, i_tn, i_nn, m_cat_n, m_cat_i, m_cat_r, m_cat_z, m_cat_rv, m_cat_l, m_o_n, m_o_i, m_o_r, m_o_z, m_o_rv, m_o_f, hs_n, hs_k, hs_l, Nat.reduceLeDiff, not_false_eq_true, or_true, true_or, or_false, false_or, PW_pk P, PW_p2 P, PW_p10 P, PW_ck P, PW_cl P, PW_ok P, PW_o0 P, PW_o1 P, PW_o3 P, PW_sk P, PW_sl P, PW_ak P, PW_bk P, PW_al P, ck, cl, cxx, h6, h7]; first | done | omega) | exact Or.inl rfl | exact Or.inr rfl) only [k_2_93, k_2_136, k_2_209, w_iload_5, w_iload_2, w_icmp_ge, w_aload_0, w_aloadz_0, w_aloadv_0, gf_2, m_rv_s, m_rv_n, gf_0, w_iaload, w_script, w_istore_6, m_o_n, m_o_i, m_o_r, m_o_z, m_o_rv, m_o_f, gf_1, w_istore_7, w_iload_6, w_if_eq, w_iconst, w_icmp_ne, w_iload_4, w_if_le, w_iload_7, w_if_lt, w_aload_3, w_aloadz_3, w_aloadv_3, w_len, w_slen, w_iinc_4, gf_3, w_iand, w_iastore, w_goto, w_isub, w_iinc_5, tg_2_10, tg_2_54, tg_2_80, tg_2_86, tg_2_93, tg_2_136, tg_2_170, tg_2_209, tg_2_215, tg_2_232, tg_2_233, m_C_inl, Option.toList_some, Option.toList_none, List.cons_append, List.nil_append, w_icmp_eq, hs_n, hs_k, hs_l, hs_R, hs_I, hs_L, hs_setI, hs_setL, hs_cpy, PW_pk P, PW_p2 P, PW_p10 P, PW_ck P, PW_cl P, PW_ok P, PW_o0 P, PW_o1 P, PW_o3 P, PW_sk P, PW_sl P, PW_ak P, PW_bk P, PW_al P, ck, cl, cxx, h6, h7, up_up, up_sw, up_sa, up_eq, up_na, up_nk, i_add, i_sub, i_mul, i_tn, i_nat, Int.reduceToNat, Int.reduceAdd, Int.reduceSub, Int.reduceMul, Int.reduceNeg, l_32, l_nat, l_c_lt, l_c_gt, l_c_eq, i_lt, i_eq, i_lt0, i_0lt, i_eq0, i_eq1, Int.reduceLT, Int.reduceEq, Int.reduceLE, Int.reduceNe, not_true_eq_false, not_false_eq_true, Nat.lt_irrefl, Int.lt_irrefl, eq_self, eq_self, Nat.reduceAdd, Nat.reduceMul, Nat.reduceSub, Nat.reduceDiv, Nat.reduceMod, Nat.reduceEqDiff, Nat.reduceLeDiff, Nat.reduceLT, Nat.zero_add, Nat.add_zero, Nat.zero_le, and_false, and_true, and_self, false_and, true_and, or_false, or_true, if_true, if_false, ite_true, ite_false, ↓reduceIte, Int.reduceToNat, Int.reduceAdd, Int.reduceSub, Int.reduceMul, Int.reduceNeg, hi, hsz, hin, e4, e5, e1, hs0, ep]
          have k := ih (i + 1) (m_up G (p + 3) st.length (1 - y)) s (some (.int (Int32.ofInt 3))) (some (.int (Int32.ofInt (tx_od 23)))) ((1 - y) :: st) rfl rfl (by omega) ig2 hl ⟨up_eq rfl rfl, cs_fr st (fun j hj => up_nk (by omega)) hs.2⟩ (by simp (disch := omega) only [up_ro]; exact hq) (sc_fr (fun j => ⟨by simp (disch := omega) only [up_na, up_nk], by simp (disch := omega) only [up_na, up_nk]⟩) cs (i + 1) hc.2) hm2 hx (fun x y x1 x2 => by first | exact hg x y x1 x2 | (simp (disch := omega) only [up_na]; exact hg x y x1 x2))
          rw [el] at k
          exact k
        · exact absurd hx (by simp)
    · rw [if_neg q1] at hx
      by_cases q2 : 20 ≤ x ∧ x ≤ 28
      · rw [if_pos q2] at hx
        have o4 : 4 ≤ tx_op x ∧ tx_op x ≤ 11 := by
          unfold tx_op
          (repeat' split) <;> omega
        match st, hl, hs, hx with
        | [], _, _, hx => exact absurd hx (by simp)
        | [y], _, _, hx => exact absurd hx (by simp)
        | z :: y :: st, hl, hs, hx =>
          have hx : (if sp_ok x y z = true then sp_ex (sp_op dr ar re) dr cs (sp_j x y z :: st) s else none) = some (st', s') := hx
          split at hx
          · rename_i hok
            have el : ∀ v : Int, (((v :: st).length : Nat) : Int) = (st.length : Int) + 1 := fun v => by show ((st.length + 1 : Nat) : Int) = _; omega
            have el2 : (((z :: y :: st).length : Nat) : Int) = (st.length : Int) + 1 + 1 := by show ((st.length + 1 + 1 : Nat) : Int) = _; omega
            have l9 : st.length + 1 + 1 ≤ 64 := hl
            have e1 : ((st.length : Int) + 1 + 1 - 1).toNat = st.length + 1 := by omega
            have e2 : ((st.length : Int) + 1 + 1 - 1 - 1).toNat = st.length := by omega
            have e1b : ((st.length : Int) + 1 + 1 + -1).toNat = st.length + 1 := by omega
            have e2b : ((st.length : Int) + 1 + 1 + -1 - 1).toNat = st.length := by omega
            have e1c : ((st.length : Int) + 1).toNat = st.length + 1 := by omega
            have e2c : ((st.length : Int) + 1 - 1).toNat = st.length := by omega
            have hs0 : G (p + 3) (st.length + 1) = z := hs.1
            have hs1 := hs.2.1
            have n0 : ¬ tx_op x = 0 := by omega
            have n1 : ¬ tx_op x = 1 := by omega
            have n2 : ¬ tx_op x = 2 := by omega
            have n3 : ¬ tx_op x = 3 := by omega
            have ep : 1 < (st.length : Int) + 1 + 1 := by omega
            rw [el2]
            simp (disch := first | omega | (simp (disch := omega) only [i_lt0, i_tn, i_nn, m_cat_n, m_cat_i, m_cat_r, m_cat_z, m_cat_rv, m_cat_l, m_o_n, m_o_i, m_o_r, m_o_z, m_o_rv, m_o_f, hs_n, hs_k, hs_l, Nat.reduceLeDiff, not_false_eq_true, or_true, true_or, or_false, false_or, PW_pk P, PW_p2 P, PW_p10 P, PW_ck P, PW_cl P, PW_ok P, PW_o0 P, PW_o1 P, PW_o3 P, PW_sk P, PW_sl P, PW_ak P, PW_bk P, PW_al P, ck, cl, cxx, h6, h7]; first | done | omega) | exact Or.inl rfl | exact Or.inr rfl) only [k_2_93, k_2_136, k_2_170, w_iload_5, w_iload_2, w_icmp_ge, w_aload_0, w_aloadz_0, w_aloadv_0, gf_2, m_rv_s, m_rv_n, gf_0, w_iaload, w_script, w_istore_6, m_o_n, m_o_i, m_o_r, m_o_z, m_o_rv, m_o_f, gf_1, w_istore_7, w_iload_6, w_if_eq, w_iconst, w_icmp_ne, w_iload_4, w_if_le, w_iload_7, w_if_lt, w_aload_3, w_aloadz_3, w_aloadv_3, w_len, w_slen, w_iinc_4, gf_3, w_iand, w_iastore, w_goto, w_isub, w_icmp_le, m_cat_n, m_cat_i, m_cat_r, m_cat_z, m_cat_rv, m_cat_l, Nat.zero_le, Nat.reduceLeDiff, Nat.reduceAdd, m_C_inl, Option.toList_some, Option.toList_none, List.cons_append, List.nil_append, tg_2_10, tg_2_54, tg_2_80, tg_2_86, tg_2_93, tg_2_136, tg_2_170, tg_2_209, tg_2_215, tg_2_232, tg_2_233, w_icmp_eq, hs_n, hs_k, hs_l, hs_R, hs_I, hs_L, hs_setI, hs_setL, hs_cpy, PW_pk P, PW_p2 P, PW_p10 P, PW_ck P, PW_cl P, PW_ok P, PW_o0 P, PW_o1 P, PW_o3 P, PW_sk P, PW_sl P, PW_ak P, PW_bk P, PW_al P, ck, cl, cxx, h6, h7, up_up, up_sw, up_sa, up_eq, up_na, up_nk, i_add, i_sub, i_mul, i_tn, i_nat, Int.reduceToNat, Int.reduceAdd, Int.reduceSub, Int.reduceMul, Int.reduceNeg, l_32, l_nat, l_c_lt, l_c_gt, l_c_eq, i_lt, i_eq, i_lt0, i_0lt, i_eq0, i_eq1, Int.reduceLT, Int.reduceEq, Int.reduceLE, Int.reduceNe, not_true_eq_false, not_false_eq_true, Nat.lt_irrefl, Int.lt_irrefl, eq_self, eq_self, Nat.reduceAdd, Nat.reduceMul, Nat.reduceSub, Nat.reduceDiv, Nat.reduceMod, Nat.reduceEqDiff, Nat.reduceLeDiff, Nat.reduceLT, Nat.zero_add, Nat.add_zero, Nat.zero_le, and_false, and_true, and_self, false_and, true_and, or_false, or_true, if_true, if_false, ite_true, ite_false, ↓reduceIte, Int.reduceToNat, Int.reduceAdd, Int.reduceSub, Int.reduceMul, Int.reduceNeg, hi, hsz, hin, e4, e5, e1, e2, e1b, e2b, e1c, e2c, hs0, hs1, n0, n1, n2, n3, ep]
            simp (disch := first | omega | (simp (disch := omega) only [i_lt0, i_tn, i_nn, m_cat_n, m_cat_i, m_cat_r, m_cat_z, m_cat_rv, m_cat_l, m_o_n, m_o_i, m_o_r, m_o_z, m_o_rv, m_o_f, hs_n, hs_k, hs_l, Nat.reduceLeDiff, not_false_eq_true, or_true, true_or, or_false, false_or, PW_pk P, PW_p2 P, PW_p10 P, PW_ck P, PW_cl P, PW_ok P, PW_o0 P, PW_o1 P, PW_o3 P, PW_sk P, PW_sl P, PW_ak P, PW_bk P, PW_al P, ck, cl, cxx]; first | done | omega) | exact Or.inl rfl | exact Or.inr rfl) only [cl_4, m_cat_n, m_cat_i, m_cat_r, m_cat_z, m_cat_rv, m_cat_l, Nat.zero_le, Nat.reduceLeDiff, Nat.reduceAdd, m_o_i, m_o_r, m_o_z, m_o_rv, hs_n, hs_k, PW_pk P, PW_p2 P, PW_p10 P, PW_ck P, PW_cl P, PW_ok P, PW_o0 P, PW_o1 P, PW_o3 P, PW_sk P, PW_sl P, PW_ak P, PW_bk P, PW_al P, ck, cl, cxx]
            refine x_4 q2.1 q2.2 hok ?_
            simp (disch := first | omega | (simp (disch := omega) only [i_lt0, i_tn, i_nn, m_cat_n, m_cat_i, m_cat_r, m_cat_z, m_cat_rv, m_cat_l, m_o_n, m_o_i, m_o_r, m_o_z, m_o_rv, m_o_f, hs_n, hs_k, hs_l, Nat.reduceLeDiff, not_false_eq_true, or_true, true_or, or_false, false_or, PW_pk P, PW_p2 P, PW_p10 P, PW_ck P, PW_cl P, PW_ok P, PW_o0 P, PW_o1 P, PW_o3 P, PW_sk P, PW_sl P, PW_ak P, PW_bk P, PW_al P, ck, cl, cxx, h6, h7]; first | done | omega) | exact Or.inl rfl | exact Or.inr rfl) only [k_2_209, w_iload_4, w_iconst, w_icmp_le, w_iinc_4, m_o_n, m_o_i, m_o_r, m_o_z, m_o_rv, m_o_f, w_aload_0, w_aloadz_0, w_aloadv_0, gf_3, m_rv_s, m_rv_n, w_isub, w_iload_6, w_iaload, w_script, m_cat_n, m_cat_i, m_cat_r, m_cat_z, m_cat_rv, m_cat_l, Nat.zero_le, Nat.reduceLeDiff, Nat.reduceAdd, m_C_inl, Option.toList_some, Option.toList_none, List.cons_append, List.nil_append, w_iastore, w_iinc_5, w_goto, tg_2_10, tg_2_54, tg_2_80, tg_2_86, tg_2_93, tg_2_136, tg_2_170, tg_2_209, tg_2_215, tg_2_232, tg_2_233, w_icmp_eq, w_if_eq, hs_n, hs_k, hs_l, hs_R, hs_I, hs_L, hs_setI, hs_setL, hs_cpy, PW_pk P, PW_p2 P, PW_p10 P, PW_ck P, PW_cl P, PW_ok P, PW_o0 P, PW_o1 P, PW_o3 P, PW_sk P, PW_sl P, PW_ak P, PW_bk P, PW_al P, ck, cl, cxx, h6, h7, up_up, up_sw, up_sa, up_eq, up_na, up_nk, i_add, i_sub, i_mul, i_tn, i_nat, Int.reduceToNat, Int.reduceAdd, Int.reduceSub, Int.reduceMul, Int.reduceNeg, l_32, l_nat, l_c_lt, l_c_gt, l_c_eq, i_lt, i_eq, i_lt0, i_0lt, i_eq0, i_eq1, Int.reduceLT, Int.reduceEq, Int.reduceLE, Int.reduceNe, not_true_eq_false, not_false_eq_true, Nat.lt_irrefl, Int.lt_irrefl, eq_self, eq_self, Nat.reduceAdd, Nat.reduceMul, Nat.reduceSub, Nat.reduceDiv, Nat.reduceMod, Nat.reduceEqDiff, Nat.reduceLeDiff, Nat.reduceLT, Nat.zero_add, Nat.add_zero, Nat.zero_le, and_false, and_true, and_self, false_and, true_and, or_false, or_true, if_true, if_false, ite_true, ite_false, ↓reduceIte, Int.reduceToNat, Int.reduceAdd, Int.reduceSub, Int.reduceMul, Int.reduceNeg, e1, e2, e1b, e2b, e1c, e2c]
            have k := ih (i + 1) (m_up G (p + 3) st.length (sp_j x y z)) s (some (.int (Int32.ofInt (tx_op x)))) (some (.int (Int32.ofInt (tx_od x)))) (sp_j x y z :: st) rfl rfl (by omega) ig2 (by show st.length + 1 ≤ 64; omega) ⟨up_eq rfl rfl, cs_fr st (fun j hj => up_nk (by omega)) hs.2.2⟩ (by simp (disch := omega) only [up_ro]; exact hq) (sc_fr (fun j => ⟨by simp (disch := omega) only [up_na, up_nk], by simp (disch := omega) only [up_na, up_nk]⟩) cs (i + 1) hc.2) hm2 hx (fun x y x1 x2 => by first | exact hg x y x1 x2 | (simp (disch := omega) only [up_na]; exact hg x y x1 x2))
            rw [el] at k
            first
              | exact k
              | (rw [show (st.length : Int) + 1 + 1 + -1 = (st.length : Int) + 1 by omega]; exact k)
              | (rw [show (st.length : Int) + 1 + 1 - 1 = (st.length : Int) + 1 by omega]; exact k)
          · exact absurd hx (by simp)
      · rw [if_neg q2] at hx
        by_cases q3 : 40 ≤ x ∧ x ≤ 47
        · rw [if_pos q3] at hx
          cases st with
          | nil => exact absurd hx (by simp)
          | cons y st =>
            have el : (((y :: st).length : Nat) : Int) = (st.length : Int) + 1 := by show ((st.length + 1 : Nat) : Int) = _; omega
            have l9 : st.length + 1 ≤ 64 := hl
            have t2 : tx_op x = 2 := by
              unfold tx_op
              (repeat' split) <;> omega
            have t5 : tx_od x = x - 40 := by
              unfold tx_od
              (repeat' split) <;> omega
            rw [t2] at e4
            rw [t5] at e5
            have e1 : ((st.length : Int) + 1 - 1).toNat = st.length := by omega
            have e1b : ((st.length : Int) + 1 + -1).toNat = st.length := by omega
            have e1d : (st.length : Int) + 1 + -1 = (st.length : Int) := by omega
            have ep : 0 < (st.length : Int) + 1 := by omega
            have e1e : (st.length : Int).toNat = st.length := by omega
            have o1 : ¬ x - 40 < 0 := by omega
            have o2 : x - 40 < ((14 : Nat) : Int) := by omega
            have hs0 := hs.1
            rw [el]
            simp (disch := first | omega | (simp (disch := omega) only [i_lt0, i_tn, i_nn, m_cat_n, m_cat_i, m_cat_r, m_cat_z, m_cat_rv, m_cat_l, m_o_n, m_o_i, m_o_r, m_o_z, m_o_rv, m_o_f, hs_n, hs_k, hs_l, Nat.reduceLeDiff, not_false_eq_true, or_true, true_or, or_false, false_or, PW_pk P, PW_p2 P, PW_p10 P, PW_ck P, PW_cl P, PW_ok P, PW_o0 P, PW_o1 P, PW_o3 P, PW_sk P, PW_sl P, PW_ak P, PW_bk P, PW_al P, ck, cl, cxx, h6, h7]; first | done | omega) | exact Or.inl rfl | exact Or.inr rfl) only [k_2_93, k_2_209, w_iload_5, w_iload_2, w_icmp_ge, w_aload_0, w_aloadz_0, w_aloadv_0, gf_2, m_rv_s, m_rv_n, gf_0, w_iaload, w_script, w_istore_6, m_o_n, m_o_i, m_o_r, m_o_z, m_o_rv, m_o_f, gf_1, w_istore_7, w_iload_6, w_if_eq, w_iconst, w_icmp_ne, w_iload_4, w_if_le, w_iload_7, w_if_lt, w_aload_3, w_aloadz_3, w_aloadv_3, w_len, w_slen, w_iinc_4, gf_3, w_iand, w_iastore, w_goto, w_iinc_5, tg_2_10, tg_2_54, tg_2_80, tg_2_86, tg_2_93, tg_2_136, tg_2_170, tg_2_209, tg_2_215, tg_2_232, tg_2_233, m_C_inl, Option.toList_some, Option.toList_none, List.cons_append, List.nil_append, w_icmp_eq, hs_n, hs_k, hs_l, hs_R, hs_I, hs_L, hs_setI, hs_setL, hs_cpy, PW_pk P, PW_p2 P, PW_p10 P, PW_ck P, PW_cl P, PW_ok P, PW_o0 P, PW_o1 P, PW_o3 P, PW_sk P, PW_sl P, PW_ak P, PW_bk P, PW_al P, ck, cl, cxx, h6, h7, up_up, up_sw, up_sa, up_eq, up_na, up_nk, i_add, i_sub, i_mul, i_tn, i_nat, Int.reduceToNat, Int.reduceAdd, Int.reduceSub, Int.reduceMul, Int.reduceNeg, l_32, l_nat, l_c_lt, l_c_gt, l_c_eq, i_lt, i_eq, i_lt0, i_0lt, i_eq0, i_eq1, Int.reduceLT, Int.reduceEq, Int.reduceLE, Int.reduceNe, not_true_eq_false, not_false_eq_true, Nat.lt_irrefl, Int.lt_irrefl, eq_self, eq_self, Nat.reduceAdd, Nat.reduceMul, Nat.reduceSub, Nat.reduceDiv, Nat.reduceMod, Nat.reduceEqDiff, Nat.reduceLeDiff, Nat.reduceLT, Nat.zero_add, Nat.add_zero, Nat.zero_le, and_false, and_true, and_self, false_and, true_and, or_false, or_true, if_true, if_false, ite_true, ite_false, ↓reduceIte, Int.reduceToNat, Int.reduceAdd, Int.reduceSub, Int.reduceMul, Int.reduceNeg, hi, hsz, hin, e4, e5, e1, e1b, e1d, e1e, hs0, ep, o1, o2, i_cut]
            exact ih (i + 1) (m_up G c (x - 40).toNat (y % 65536)) (tx_u1 s (48 + 8 * dr + x - 40).toNat (y % 65536)) (some (.int (Int32.ofInt 2))) (some (.int (Int32.ofInt (x - 40)))) st rfl rfl (by omega) ig2 (by omega) (cs_fr st (fun j hj => by simp (disch := omega) only [up_na, up_nk]) hs.2) (by rw [up_row]; exact sq_s4 d0 d4 hq (by omega) (by omega)) (sc_fr (fun j => ⟨by simp (disch := omega) only [up_na, up_nk], by simp (disch := omega) only [up_na, up_nk]⟩) cs (i + 1) hc.2) hm2 hx (fun x y x1 x2 => by first | exact hg x y x1 x2 | (simp (disch := omega) only [up_na]; exact hg x y x1 x2))
        · rw [if_neg q3] at hx
          by_cases q4 : 50 ≤ x ∧ x ≤ 53
          · rw [if_pos q4] at hx
            cases st with
            | nil => exact absurd hx (by simp)
            | cons y st =>
              have el : (((y :: st).length : Nat) : Int) = (st.length : Int) + 1 := by show ((st.length + 1 : Nat) : Int) = _; omega
              have l9 : st.length + 1 ≤ 64 := hl
              have t2 : tx_op x = 2 := by
                unfold tx_op
                (repeat' split) <;> omega
              have t5 : tx_od x = x - 42 := by
                unfold tx_od
                (repeat' split) <;> omega
              rw [t2] at e4
              rw [t5] at e5
              have e1 : ((st.length : Int) + 1 - 1).toNat = st.length := by omega
              have e1b : ((st.length : Int) + 1 + -1).toNat = st.length := by omega
              have e1d : (st.length : Int) + 1 + -1 = (st.length : Int) := by omega
              have ep : 0 < (st.length : Int) + 1 := by omega
              have e1e : (st.length : Int).toNat = st.length := by omega
              have o1 : ¬ x - 42 < 0 := by omega
              have o2 : x - 42 < ((14 : Nat) : Int) := by omega
              have hs0 := hs.1
              rw [el]
              simp (disch := first | omega | (simp (disch := omega) only [i_lt0, i_tn, i_nn, m_cat_n, m_cat_i, m_cat_r, m_cat_z, m_cat_rv, m_cat_l, m_o_n, m_o_i, m_o_r, m_o_z, m_o_rv, m_o_f, hs_n, hs_k, hs_l, Nat.reduceLeDiff, not_false_eq_true, or_true, true_or, or_false, false_or, PW_pk P, PW_p2 P, PW_p10 P, PW_ck P, PW_cl P, PW_ok P, PW_o0 P, PW_o1 P, PW_o3 P, PW_sk P, PW_sl P, PW_ak P, PW_bk P, PW_al P, ck, cl, cxx, h6, h7]; first | done | omega) | exact Or.inl rfl | exact Or.inr rfl) only [k_2_93, k_2_209, w_iload_5, w_iload_2, w_icmp_ge, w_aload_0, w_aloadz_0, w_aloadv_0, gf_2, m_rv_s, m_rv_n, gf_0, w_iaload, w_script, w_istore_6, m_o_n, m_o_i, m_o_r, m_o_z, m_o_rv, m_o_f, gf_1, w_istore_7, w_iload_6, w_if_eq, w_iconst, w_icmp_ne, w_iload_4, w_if_le, w_iload_7, w_if_lt, w_aload_3, w_aloadz_3, w_aloadv_3, w_len, w_slen, w_iinc_4, gf_3, w_iand, w_iastore, w_goto, w_iinc_5, tg_2_10, tg_2_54, tg_2_80, tg_2_86, tg_2_93, tg_2_136, tg_2_170, tg_2_209, tg_2_215, tg_2_232, tg_2_233, m_C_inl, Option.toList_some, Option.toList_none, List.cons_append, List.nil_append, w_icmp_eq, hs_n, hs_k, hs_l, hs_R, hs_I, hs_L, hs_setI, hs_setL, hs_cpy, PW_pk P, PW_p2 P, PW_p10 P, PW_ck P, PW_cl P, PW_ok P, PW_o0 P, PW_o1 P, PW_o3 P, PW_sk P, PW_sl P, PW_ak P, PW_bk P, PW_al P, ck, cl, cxx, h6, h7, up_up, up_sw, up_sa, up_eq, up_na, up_nk, i_add, i_sub, i_mul, i_tn, i_nat, Int.reduceToNat, Int.reduceAdd, Int.reduceSub, Int.reduceMul, Int.reduceNeg, l_32, l_nat, l_c_lt, l_c_gt, l_c_eq, i_lt, i_eq, i_lt0, i_0lt, i_eq0, i_eq1, Int.reduceLT, Int.reduceEq, Int.reduceLE, Int.reduceNe, not_true_eq_false, not_false_eq_true, Nat.lt_irrefl, Int.lt_irrefl, eq_self, eq_self, Nat.reduceAdd, Nat.reduceMul, Nat.reduceSub, Nat.reduceDiv, Nat.reduceMod, Nat.reduceEqDiff, Nat.reduceLeDiff, Nat.reduceLT, Nat.zero_add, Nat.add_zero, Nat.zero_le, and_false, and_true, and_self, false_and, true_and, or_false, or_true, if_true, if_false, ite_true, ite_false, ↓reduceIte, Int.reduceToNat, Int.reduceAdd, Int.reduceSub, Int.reduceMul, Int.reduceNeg, hi, hsz, hin, e4, e5, e1, e1b, e1d, e1e, hs0, ep, o1, o2, i_cut]
              exact ih (i + 1) (m_up G c (x - 42).toNat (y % 65536)) (tx_u1 s (80 + 4 * dr + x - 50).toNat (y % 65536)) (some (.int (Int32.ofInt 2))) (some (.int (Int32.ofInt (x - 42)))) st rfl rfl (by omega) ig2 (by omega) (cs_fr st (fun j hj => by simp (disch := omega) only [up_na, up_nk]) hs.2) (by rw [up_row]; exact sq_s5 d0 d4 hq (by omega) (by omega)) (sc_fr (fun j => ⟨by simp (disch := omega) only [up_na, up_nk], by simp (disch := omega) only [up_na, up_nk]⟩) cs (i + 1) hc.2) hm2 hx (fun x y x1 x2 => by first | exact hg x y x1 x2 | (simp (disch := omega) only [up_na]; exact hg x y x1 x2))
          · rw [if_neg q4] at hx
            split at hx
            · exact absurd hx (by simp)
            · have hl3 : (st.length : Int).toNat = st.length := by omega
              have l64 : (st.length : Int) < ((64 : Nat) : Int) := by omega
              have el : ∀ v : Int, (((v :: st).length : Nat) : Int) = (st.length : Int) + 1 := fun v => by show ((st.length + 1 : Nat) : Int) = _; omega
              by_cases q5 : 1000 ≤ x
              · have t2 : tx_op x = 0 := if_pos q5
                have t5 : tx_od x = x - 1000 := if_pos q5
                have v5 : sp_op dr ar re x s = x - 1000 := if_pos q5
                rw [t2] at e4
                rw [t5] at e5
                rw [v5] at hx
                simp (disch := first | omega | (simp (disch := omega) only [i_lt0, i_tn, i_nn, m_cat_n, m_cat_i, m_cat_r, m_cat_z, m_cat_rv, m_cat_l, m_o_n, m_o_i, m_o_r, m_o_z, m_o_rv, m_o_f, hs_n, hs_k, hs_l, Nat.reduceLeDiff, not_false_eq_true, or_true, true_or, or_false, false_or, PW_pk P, PW_p2 P, PW_p10 P, PW_ck P, PW_cl P, PW_ok P, PW_o0 P, PW_o1 P, PW_o3 P, PW_sk P, PW_sl P, PW_ak P, PW_bk P, PW_al P, ck, cl, cxx, h6, h7]; first | done | omega) | exact Or.inl rfl | exact Or.inr rfl) only [k_2_54, k_2_80, k_2_86, k_2_209, w_iload_5, w_iload_2, w_icmp_ge, w_aload_0, w_aloadz_0, w_aloadv_0, gf_2, m_rv_s, m_rv_n, gf_0, w_iaload, w_script, w_istore_6, m_o_n, m_o_i, m_o_r, m_o_z, m_o_rv, m_o_f, gf_1, w_istore_7, w_iload_6, w_if_eq, w_iconst, w_icmp_ne, w_iload_4, gf_3, w_len, w_slen, w_if_ne, w_iload_7, w_goto, w_aload_3, w_aloadz_3, w_aloadv_3, m_cat_n, m_cat_i, m_cat_r, m_cat_z, m_cat_rv, m_cat_l, Nat.zero_le, Nat.reduceLeDiff, Nat.reduceAdd, cl_3, m_C_inl, Option.toList_some, Option.toList_none, List.cons_append, List.nil_append, w_iastore, w_iinc_4, w_iinc_5, tg_2_10, tg_2_54, tg_2_80, tg_2_86, tg_2_93, tg_2_136, tg_2_170, tg_2_209, tg_2_215, tg_2_232, tg_2_233, k_3_0, k_3_16, tg_3_16, k_3_17, tg_3_17, w_iload_1, w_if_lt, w_iret, w_icmp_eq, hs_n, hs_k, hs_l, hs_R, hs_I, hs_L, hs_setI, hs_setL, hs_cpy, PW_pk P, PW_p2 P, PW_p10 P, PW_ck P, PW_cl P, PW_ok P, PW_o0 P, PW_o1 P, PW_o3 P, PW_sk P, PW_sl P, PW_ak P, PW_bk P, PW_al P, ck, cl, cxx, h6, h7, up_up, up_sw, up_sa, up_eq, up_na, up_nk, i_add, i_sub, i_mul, i_tn, i_nat, Int.reduceToNat, Int.reduceAdd, Int.reduceSub, Int.reduceMul, Int.reduceNeg, l_32, l_nat, l_c_lt, l_c_gt, l_c_eq, i_lt, i_eq, i_lt0, i_0lt, i_eq0, i_eq1, Int.reduceLT, Int.reduceEq, Int.reduceLE, Int.reduceNe, not_true_eq_false, not_false_eq_true, Nat.lt_irrefl, Int.lt_irrefl, eq_self, eq_self, Nat.reduceAdd, Nat.reduceMul, Nat.reduceSub, Nat.reduceDiv, Nat.reduceMod, Nat.reduceEqDiff, Nat.reduceLeDiff, Nat.reduceLT, Nat.zero_add, Nat.add_zero, Nat.zero_le, and_false, and_true, and_self, false_and, true_and, or_false, or_true, if_true, if_false, ite_true, ite_false, ↓reduceIte, Int.reduceToNat, Int.reduceAdd, Int.reduceSub, Int.reduceMul, Int.reduceNeg, hi, hsz, hin, e4, e5, hl3, l64]
                have k := ih (i + 1) (m_up G (p + 3) st.length (x - 1000)) s (some (.int (Int32.ofInt 0))) (some (.int (Int32.ofInt (x - 1000)))) ((x - 1000) :: st) rfl rfl (by omega) ig2 (by show st.length + 1 ≤ 64; omega) ⟨up_eq rfl rfl, cs_fr st (fun j hj => up_nk (by omega)) hs⟩ (by simp (disch := omega) only [up_ro]; exact hq) (sc_fr (fun j => ⟨by simp (disch := omega) only [up_na, up_nk], by simp (disch := omega) only [up_na, up_nk]⟩) cs (i + 1) hc.2) hm2 hx (fun x y x1 x2 => by first | exact hg x y x1 x2 | (simp (disch := omega) only [up_na]; exact hg x y x1 x2))
                rw [el] at k
                exact k
              · have x13 : x ≤ 13 := by omega
                have t2 : tx_op x = 1 := by
                  unfold tx_op
                  rw [if_neg q5, if_pos (by omega)]
                have t5 : tx_od x = x := by
                  unfold tx_od
                  rw [if_neg q5, if_pos (by omega)]
                have v5 : sp_op dr ar re x s = G c x.toNat := sq_op hq x0 x13
                have o1 : ¬ x < 0 := by omega
                have o2 : x < ((14 : Nat) : Int) := by omega
                rw [t2] at e4
                rw [t5] at e5
                rw [v5] at hx
                simp (disch := first | omega | (simp (disch := omega) only [i_lt0, i_tn, i_nn, m_cat_n, m_cat_i, m_cat_r, m_cat_z, m_cat_rv, m_cat_l, m_o_n, m_o_i, m_o_r, m_o_z, m_o_rv, m_o_f, hs_n, hs_k, hs_l, Nat.reduceLeDiff, not_false_eq_true, or_true, true_or, or_false, false_or, PW_pk P, PW_p2 P, PW_p10 P, PW_ck P, PW_cl P, PW_ok P, PW_o0 P, PW_o1 P, PW_o3 P, PW_sk P, PW_sl P, PW_ak P, PW_bk P, PW_al P, ck, cl, cxx, h6, h7]; first | done | omega) | exact Or.inl rfl | exact Or.inr rfl) only [k_2_54, k_2_80, k_2_86, k_2_209, w_iload_5, w_iload_2, w_icmp_ge, w_aload_0, w_aloadz_0, w_aloadv_0, gf_2, m_rv_s, m_rv_n, gf_0, w_iaload, w_script, w_istore_6, m_o_n, m_o_i, m_o_r, m_o_z, m_o_rv, m_o_f, gf_1, w_istore_7, w_iload_6, w_if_eq, w_iconst, w_icmp_ne, w_iload_4, gf_3, w_len, w_slen, w_if_ne, w_iload_7, w_goto, w_aload_3, w_aloadz_3, w_aloadv_3, m_cat_n, m_cat_i, m_cat_r, m_cat_z, m_cat_rv, m_cat_l, Nat.zero_le, Nat.reduceLeDiff, Nat.reduceAdd, cl_3, m_C_inl, Option.toList_some, Option.toList_none, List.cons_append, List.nil_append, w_iastore, w_iinc_4, w_iinc_5, tg_2_10, tg_2_54, tg_2_80, tg_2_86, tg_2_93, tg_2_136, tg_2_170, tg_2_209, tg_2_215, tg_2_232, tg_2_233, k_3_0, k_3_16, tg_3_16, k_3_17, tg_3_17, w_iload_1, w_if_lt, w_iret, w_icmp_eq, hs_n, hs_k, hs_l, hs_R, hs_I, hs_L, hs_setI, hs_setL, hs_cpy, PW_pk P, PW_p2 P, PW_p10 P, PW_ck P, PW_cl P, PW_ok P, PW_o0 P, PW_o1 P, PW_o3 P, PW_sk P, PW_sl P, PW_ak P, PW_bk P, PW_al P, ck, cl, cxx, h6, h7, up_up, up_sw, up_sa, up_eq, up_na, up_nk, i_add, i_sub, i_mul, i_tn, i_nat, Int.reduceToNat, Int.reduceAdd, Int.reduceSub, Int.reduceMul, Int.reduceNeg, l_32, l_nat, l_c_lt, l_c_gt, l_c_eq, i_lt, i_eq, i_lt0, i_0lt, i_eq0, i_eq1, Int.reduceLT, Int.reduceEq, Int.reduceLE, Int.reduceNe, not_true_eq_false, not_false_eq_true, Nat.lt_irrefl, Int.lt_irrefl, eq_self, eq_self, Nat.reduceAdd, Nat.reduceMul, Nat.reduceSub, Nat.reduceDiv, Nat.reduceMod, Nat.reduceEqDiff, Nat.reduceLeDiff, Nat.reduceLT, Nat.zero_add, Nat.add_zero, Nat.zero_le, and_false, and_true, and_self, false_and, true_and, or_false, or_true, if_true, if_false, ite_true, ite_false, ↓reduceIte, Int.reduceToNat, Int.reduceAdd, Int.reduceSub, Int.reduceMul, Int.reduceNeg, hi, hsz, hin, e4, e5, hl3, l64, o1, o2]
                have k := ih (i + 1) (m_up G (p + 3) st.length (G c x.toNat)) s (some (.int (Int32.ofInt 1))) (some (.int (Int32.ofInt x))) (G c x.toNat :: st) rfl rfl (by omega) ig2 (by show st.length + 1 ≤ 64; omega) ⟨up_eq rfl rfl, cs_fr st (fun j hj => up_nk (by omega)) hs⟩ (by simp (disch := omega) only [up_ro]; exact hq) (sc_fr (fun j => ⟨by simp (disch := omega) only [up_na, up_nk], by simp (disch := omega) only [up_na, up_nk]⟩) cs (i + 1) hc.2) hm2 hx (fun x y x1 x2 => by first | exact hg x y x1 x2 | (simp (disch := omega) only [up_na]; exact hg x y x1 x2))
                rw [el] at k
                exact k
