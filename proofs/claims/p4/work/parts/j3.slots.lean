/-! Worlds in slots: made, copied, exactly -/
theorem sl_set {h : m_H} {a k i j n : Nat} (ha : (a = 134 ∧ k < 10 ∧ i = k) ∨ (a = 0 ∧ k = 5 ∧ i = 10) ∨ (a = 0 ∧ k = 7 ∧ i = 11)) (hj : j < 12) : q_sl (m_setR h a k (some n)) j = if j = i then some n else q_sl h j := by
  unfold q_sl
  rw [h_R_setR, h_R_setR, h_R_setR]
  rcases ha with ⟨rfl, hk, rfl⟩ | ⟨rfl, rfl, rfl⟩ | ⟨rfl, rfl, rfl⟩
  all_goals
    repeat' split
    all_goals first
      | rfl
      | (exfalso; omega)
/-- a new World at the heap's end, in a slot that was empty -/
theorem C0_n {ow : Nat → Nat} {h h' : m_H} {F F1 F' : m_M} {u p n a k i : Nat} {G : tx_G} {s : sp_R} (C : q_C0 ow h F u p G s) (hI : sp_I G 4 s) (hn : n = m_n h) (n9 : n ≤ 899000) (W : CW h' n (n + 1)) (g : q_gr (m_mk h 10 0 7) h' n 124 2736) (H : q_fv n (n + 1) p 4 100 (n + 1) F1 F') (f : ∀ x y, x < n → F' x y = F x y) (ha : (a = 134 ∧ k < 10 ∧ i = k) ∨ (a = 0 ∧ k = 5 ∧ i = 10) ∨ (a = 0 ∧ k = 7 ∧ i = 11)) (hnone : q_sl h i = none) : q_C0 (o_w ow n) (m_setR h' a k (some n)) F' u p G s ∧ (∀ j t, j < 12 → sp_I G 4 t → c_ct h F p G j t → c_ct (m_setR h' a k (some n)) F' p G j t) ∧ q_sl (m_setR h' a k (some n)) i = some n ∧ q_sT h (m_setR h' a k (some n)) F F' 125 2743 := by
  subst hn
  obtain ⟨c1, Q, ⟨K, hr, Z⟩, c4⟩ := C
  have c1' := c1
  obtain ⟨⟨⟨s1, s2⟩, k0, r00, k1, l1, r04, k133, r133, k134, l134⟩, c2, c3⟩ := c1
  obtain ⟨g1, g2, g3, g4, g5⟩ := g
  rw [h_n_mk] at g1 g4 g5
  rw [h_c_mk] at g2
  rw [h_s_mk] at g3
  have hX : m_X = 1000000000 := rfl
  have hi : i < 12 := by omega
  have ek : ∀ x, x < m_n h → m_k (m_setR h' a k (some (m_n h))) x = m_k h x ∧ m_l (m_setR h' a k (some (m_n h))) x = m_l h x := fun x hx => by rw [h_k_setR, h_l_setR, (g4 x (by omega)).1, (g4 x (by omega)).2, hk_old (by omega), hl_old (by omega)]; exact ⟨rfl, rfl⟩
  have eR0 : ∀ x y, x < m_n h → m_R h' x y = m_R h x y := fun x y hx => by rw [g5 x y (by omega) (by omega), hR_old (by omega)]
  have eR : ∀ x y, x < m_n h → ¬ (x = a ∧ y = k) → m_R (m_setR h' a k (some (m_n h))) x y = m_R h x y := fun x y hx hxy => by rw [h_R_setR, if_neg hxy]; exact eR0 x y hx
  have en : m_n (m_setR h' a k (some (m_n h))) = m_n h + 125 := by rw [h_n_setR]; omega
  have KO : ∀ v, KS ow h F v → KS (o_w ow (m_n h)) (m_setR h' a k (some (m_n h))) F' v := fun v N => by
    have vn := CW_un N.2.1
    have vb := CW_bn N.2.1
    refine KS_cg N (by omega) (by omega) ek (fun x hx => o_lo hx) (fun x y hx hxy => eR x y hx (fun e => ?_)) (fun x hx => f x 0 (by omega))
    refine KS_s c1' N (x := x) ?_ (by omega)
    rcases hxy with e2 | e2
    · exact Or.inl e2.1
    · exact Or.inr e2
  have vlt : ∀ v, KS ow h F v → v < m_n h := fun v N => CW_un N.2.1
  have bnw : bo (m_n h) = m_n h + 1 := by have := bo_or (m_n h); omega
  have KN : KS (o_w ow (m_n h)) (m_setR h' a k (some (m_n h))) F' (m_n h) := by
    refine ⟨⟨Or.inr s1, o_hi (Nat.le_refl _), fun x h1 h2 => o_hi (by omega)⟩, ?_, fun d hd => ?_, fun q hq => ?_⟩
    · rw [bnw]
      exact CW_c2 W (by rw [h_n_setR]; omega) (by rw [h_n_setR]; omega) (fun x hx => by rw [h_k_setR, h_l_setR]; exact ⟨rfl, rfl⟩) (fun x y hx hxy => by rw [h_R_setR, if_neg (by omega)])
    · rw [bnw]
      exact (H.2.2.2.1 d hd).1.1
    · rw [bnw]
      exact H.2.2.2.2 q hq
  have hs := fun j (hj : j < 12) => sl_set (h := h') (n := m_n h) ha hj
  have hs0 : ∀ j, j < 12 → q_sl h' j = q_sl h j := fun j hj => by
    unfold q_sl
    rw [eR0 _ _ (by omega), eR0 _ _ (by omega), eR0 _ _ (by omega)]
  have un := CW_un K.2.1
  refine ⟨⟨⟨⟨⟨by omega, by omega⟩, by rw [(ek _ (by omega)).1]; exact k0, by rw [eR _ _ (by omega) (by omega)]; exact r00, by rw [(ek _ (by omega)).1]; exact k1, by rw [(ek _ (by omega)).2]; exact l1, by rw [eR _ _ (by omega) (by omega)]; exact r04, by rw [(ek _ (by omega)).1]; exact k133, by rw [eR _ _ (by omega) (by omega)]; exact r133, by rw [(ek _ (by omega)).1]; exact k134, by rw [(ek _ (by omega)).2]; exact l134⟩, fun x hx => by rw [o_lo (by omega)]; exact c2 x hx, by rw [eR _ _ (by omega) (by omega)]; exact c3⟩, ?_, ⟨KO u K, ?_, Z_out hI Z (fun x y hx => f x y (KS_o K hx).2)⟩, fun j hj v hv => ?_⟩, fun j t hj ht hc => ?_, ?_, ⟨by omega, by omega, ?_, ?_, fun x h1 h2 => ⟨(ek x (by omega)).1, (ek x (by omega)).2, fun y => eR x y (by omega) (by omega)⟩, fun x y h1 h2 => f x y (by omega)⟩⟩
  · have pn := PW_pn Q.2.1
    exact KQ_cg Q (by omega) (by omega) ek (fun x hx => o_lo hx) (fun x y hx hxy => eR x y hx (fun e => KQ_s c1' Q hxy.1 hxy.2 (by omega))) (fun x y hx => f x y (by omega)) (fun b y hb h1 h2 => f b y h2)
  · rw [eR _ _ un (fun e => KS_s (x := u) c1' K (Or.inl rfl) (by omega))]
    exact hr
  · rw [hs j hj] at hv
    by_cases e : j = i
    · rw [if_pos e] at hv
      obtain rfl := Option.some.inj hv
      refine ⟨by omega, KN, fun j' hj' he => ?_⟩
      rw [hs j' hj'] at he
      by_cases e' : j' = i
      · omega
      · rw [if_neg e', hs0 j' hj'] at he
        have := vlt _ (c4 j' hj' _ he).2.1
        omega
    · rw [if_neg e, hs0 j hj] at hv
      obtain ⟨d1, d2, d3⟩ := c4 j hj v hv
      refine ⟨d1, KO v d2, fun j' hj' he => ?_⟩
      rw [hs j' hj'] at he
      by_cases e' : j' = i
      · rw [if_pos e'] at he
        have := vlt v d2
        have := Option.some.inj he
        omega
      · rw [if_neg e', hs0 j' hj'] at he
        exact d3 j' hj' he
  · obtain ⟨v, e1, e2, e3⟩ := hc
    obtain ⟨d1, d2, d3⟩ := c4 j hj v e1
    have vn := vlt v d2
    have ji : ¬ j = i := fun e => by rw [e, hnone] at e1; cases e1
    refine ⟨v, by rw [hs j hj, if_neg ji, hs0 j hj]; exact e1, ?_, Z_out ht e3 (fun x y hx => f x y (KS_o d2 hx).2)⟩
    rw [eR _ _ vn (fun e => KS_s (x := v) c1' d2 (Or.inl rfl) (by omega))]
    exact e2
  · rw [hs i hi, if_pos rfl]
  · rw [h_c_setR]; omega
  · rw [h_s_setR]; omega
set_option maxHeartbeats 4000000 in
theorem eB_21 {L : Nat} {xs : Nat → Int32} {d : Nat} {h : m_H} {w : Int64} {F : m_M} {Q : Option Value ⊕ Nat → m_H → Prop} {ow : Nat → Nat} {u p : Nat} {G : tx_G} {s : sp_R} (C : q_C0 ow h F u p G s) (hI : sp_I G 4 s) {v i : Nat} (hi : i < 12) (hv : q_sl h i = some v) (nx : 0 ≤ F 133 1 ∧ F 133 1 ≤ 9) (hQ : ∀ F' : m_M, q_C0 ow (m_setR h v 0 (some p)) F' u p G s → (∀ j t, j < 12 → ¬ j = i → sp_I G 4 t → c_ct h F p G j t → c_ct (m_setR h v 0 (some p)) F' p G j t) → c_ct (m_setR h v 0 (some p)) F' p G i s → q_sT h (m_setR h v 0 (some p)) F F' 0 0 → F' 133 1 = (F 133 1 + 1) % 10 → F' 133 2 = i_mn (F 133 2 + 1) 10 → (∀ x y, x < 2 ∨ (133 ≤ x ∧ x < 157) → ¬ (x = 133 ∧ (y = 1 ∨ y = 2)) → F' x y = F x y) → Q (.inl none) (m_hS (m_setR h v 0 (some p)) (w, F'))) : m_W (p_P L xs) (d + 2) 21 k_21_36 [some (.ref 133), some (.ref u), some (.ref v)] [] (m_hS h (w, F)) Q := by
  obtain ⟨⟨⟨⟨s1, s2⟩, k0, r00, k1, l1, r04, k133, r133, k134, l134⟩, st0, r03⟩, KQ0, ⟨K0, up, Z0⟩, c4⟩ := id C
  have hX : m_X = 1000000000 := rfl
  have ku := CW_uk K0.2.1
  have kp := PW_pk KQ0.2.1
  have un := CW_un K0.2.1
  have bn := CW_bn K0.2.1
  have pn := PW_pn KQ0.2.1
  have u1 := K0.1.1
  have p1 := KQ0.1.1
  have hb := bo_or u
  have hn := I_n hI
  obtain ⟨zn1, zn2, zn3⟩ := Z0.1
  obtain ⟨ne, M, -⟩ := c4 i hi v hv
  have kv := CW_uk M.2.1
  have vn := CW_un M.2.1
  have v1 := M.1.1
  rw [k_21_36]
  simp (disch := first | omega | (simp (disch := first | omega | (simp only [h_n_setR, h_n_mk, hs_n]; first | done | omega)) only [i_lt0, i_tn, i_nn, m_cat_n, m_cat_i, m_cat_r, m_cat_z, m_cat_rv, m_cat_l, m_o_n, m_o_i, m_o_r, m_o_z, m_o_rv, m_o_f, hs_n, hs_k, hs_l, h_n_setR, h_n_mk, h_k_setR, h_l_setR, hk_old, hk_new, hl_old, hl_new, Nat.reduceLeDiff, not_false_eq_true, or_true, true_or, or_false, false_or, k0, r00, k1, l1, r04, k133, r133, k134, l134, r03, ku, up, kp, h_k_setR, h_l_setR, kv]; first | done | omega) | exact Or.inl rfl | exact Or.inr rfl) only [k_21_36, w_aload_2, w_aloadz_2, w_aloadv_2, w_aload_1, w_aloadz_1, w_aloadv_1, m_cat_n, m_cat_i, m_cat_r, m_cat_z, m_cat_rv, m_cat_l, Nat.zero_le, Nat.reduceLeDiff, Nat.reduceAdd, m_o_i, m_o_r, m_o_z, m_o_rv, m_C_inl, Option.toList_some, Option.toList_none, List.cons_append, List.nil_append, w_aload_0, w_aloadz_0, w_aloadv_0, gf_193, m_rv_s, m_rv_n, w_iconst, w_iadd, w_irem2, pf_193, gf_194, w_min2, pf_194, w_vret, tg_21_36, w_icmp_eq, w_if_eq, hs_n, hs_k, hs_l, hs_R, hs_I, hs_L, hs_setI, hs_setL, hs_cpy, hs_setR, hs_mk, k0, r00, k1, l1, r04, k133, r133, k134, l134, r03, ku, up, kp, h_k_setR, h_l_setR, kv, up_eq, up_na, up_nk, zr_eq, zr_na, sR_eq, sR_na, sR_nk, hR_old, hR_new, h_n_setR, h_n_mk, i_add, i_sub, i_mul, i_tn, i_nat, Int.reduceToNat, Int.reduceAdd, Int.reduceSub, Int.reduceMul, Int.reduceNeg, l_32, l_nat, l_c_lt, l_c_gt, l_c_eq, i_lt, i_eq, i_lt0, i_0lt, i_eq0, i_eq1, Int.reduceLT, Int.reduceEq, Int.reduceLE, Int.reduceNe, not_true_eq_false, not_false_eq_true, Nat.lt_irrefl, Int.lt_irrefl, eq_self, eq_self, Nat.reduceAdd, Nat.reduceMul, Nat.reduceSub, Nat.reduceDiv, Nat.reduceMod, Nat.reduceEqDiff, Nat.reduceLeDiff, Nat.reduceLT, Nat.zero_add, Nat.add_zero, Nat.zero_le, and_false, and_true, and_self, false_and, true_and, or_false, or_true, if_true, if_false, ite_true, ite_false, ↓reduceIte, Int.reduceToNat, Int.reduceAdd, Int.reduceSub, Int.reduceMul, Int.reduceNeg]
  simp (disch := first | omega | (simp (disch := first | omega | (simp only [h_n_setR, h_n_mk, hs_n]; first | done | omega)) only [i_lt0, i_tn, i_nn, m_cat_n, m_cat_i, m_cat_r, m_cat_z, m_cat_rv, m_cat_l, m_o_n, m_o_i, m_o_r, m_o_z, m_o_rv, m_o_f, hs_n, hs_k, hs_l, h_n_setR, h_n_mk, h_k_setR, h_l_setR, hk_old, hk_new, hl_old, hl_new, Nat.reduceLeDiff, not_false_eq_true, or_true, true_or, or_false, false_or, k0, r00, k1, l1, r04, k133, r133, k134, l134, r03, ku, up, kp, h_k_setR, h_l_setR, kv]; first | done | omega) | exact Or.inl rfl | exact Or.inr rfl) only [cl_78, m_cat_n, m_cat_i, m_cat_r, m_cat_z, m_cat_rv, m_cat_l, Nat.zero_le, Nat.reduceLeDiff, Nat.reduceAdd, m_o_i, m_o_r, m_o_z, m_o_rv, hs_n, hs_k, h_n_setR, h_n_mk]
  refine e_78 M.2.1 K0.2.1 (KS_ap M K0 ne) up (by omega) (by omega) (fun F1 H1 => ?_)
  obtain ⟨C1, ct1, cv1, f1, T1, f9⟩ := C0_ci C hI hi hv H1
  have e1 : F1 133 1 = F 133 1 := f1 _ _ (by omega)
  have e2 : F1 133 2 = F 133 2 := f1 _ _ (by omega)
  simp (disch := first | omega | (simp (disch := first | omega | (simp only [h_n_setR, h_n_mk, hs_n]; first | done | omega)) only [i_lt0, i_tn, i_nn, m_cat_n, m_cat_i, m_cat_r, m_cat_z, m_cat_rv, m_cat_l, m_o_n, m_o_i, m_o_r, m_o_z, m_o_rv, m_o_f, hs_n, hs_k, hs_l, h_n_setR, h_n_mk, h_k_setR, h_l_setR, hk_old, hk_new, hl_old, hl_new, Nat.reduceLeDiff, not_false_eq_true, or_true, true_or, or_false, false_or, k0, r00, k1, l1, r04, k133, r133, k134, l134, r03, ku, up, kp, h_k_setR, h_l_setR, kv]; first | done | omega) | exact Or.inl rfl | exact Or.inr rfl) only [k_21_36, w_aload_2, w_aloadz_2, w_aloadv_2, w_aload_1, w_aloadz_1, w_aloadv_1, m_cat_n, m_cat_i, m_cat_r, m_cat_z, m_cat_rv, m_cat_l, Nat.zero_le, Nat.reduceLeDiff, Nat.reduceAdd, m_o_i, m_o_r, m_o_z, m_o_rv, m_C_inl, Option.toList_some, Option.toList_none, List.cons_append, List.nil_append, w_aload_0, w_aloadz_0, w_aloadv_0, gf_193, m_rv_s, m_rv_n, w_iconst, w_iadd, w_irem2, pf_193, gf_194, w_min2, pf_194, w_vret, tg_21_36, w_icmp_eq, w_if_eq, hs_n, hs_k, hs_l, hs_R, hs_I, hs_L, hs_setI, hs_setL, hs_cpy, hs_setR, hs_mk, k0, r00, k1, l1, r04, k133, r133, k134, l134, r03, ku, up, kp, h_k_setR, h_l_setR, kv, up_eq, up_na, up_nk, zr_eq, zr_na, sR_eq, sR_na, sR_nk, hR_old, hR_new, h_n_setR, h_n_mk, i_add, i_sub, i_mul, i_tn, i_nat, Int.reduceToNat, Int.reduceAdd, Int.reduceSub, Int.reduceMul, Int.reduceNeg, l_32, l_nat, l_c_lt, l_c_gt, l_c_eq, i_lt, i_eq, i_lt0, i_0lt, i_eq0, i_eq1, Int.reduceLT, Int.reduceEq, Int.reduceLE, Int.reduceNe, not_true_eq_false, not_false_eq_true, Nat.lt_irrefl, Int.lt_irrefl, eq_self, eq_self, Nat.reduceAdd, Nat.reduceMul, Nat.reduceSub, Nat.reduceDiv, Nat.reduceMod, Nat.reduceEqDiff, Nat.reduceLeDiff, Nat.reduceLT, Nat.zero_add, Nat.add_zero, Nat.zero_le, and_false, and_true, and_self, false_and, true_and, or_false, or_true, if_true, if_false, ite_true, ite_false, ↓reduceIte, Int.reduceToNat, Int.reduceAdd, Int.reduceSub, Int.reduceMul, Int.reduceNeg, e1, e2]
  obtain ⟨C2, ct2⟩ := C0_s (F' := m_up (m_up F1 133 1 ((F 133 1 + 1) % 10)) 133 2 (i_mn (F 133 2 + 1) 10)) C1 hI (fun x y hx => by simp (disch := omega) only [up_na])
  refine hQ _ C2 (fun j t hj hji ht hc => ct2 j t hj ht (ct1 j t hj hji ht hc)) (ct2 i s hi hI cv1) ?_ ?_ ?_ (fun x y hx hxy => ?_)
  · exact st_le (st_tr T1 (st_I (n := 0) (s := 0) (fun x y h1 h2 => by simp (disch := omega) only [up_na]))) (by omega) (by omega)
  · simp (disch := omega) only [up_eq, up_na, up_nk]
  · simp (disch := omega) only [up_eq, up_na, up_nk]
  · rw [up_if, if_neg (by omega), up_if, if_neg (by omega)]
    exact f1 x y hx
set_option maxHeartbeats 4000000 in
theorem eB_146 {L : Nat} {xs : Nat → Int32} {d : Nat} {h : m_H} {w : Int64} {F : m_M} {Q : Option Value ⊕ Nat → m_H → Prop} {ow : Nat → Nat} {u p : Nat} {G : tx_G} {s : sp_R} (C : q_C0 ow h F u p G s) (hI : sp_I G 4 s) {v : Nat} (hv : q_sl h 10 = some v) (hQ : ∀ F' : m_M, q_C0 ow (m_setR h v 0 (some p)) F' u p G s → (∀ j t, j < 12 → ¬ j = 10 → sp_I G 4 t → c_ct h F p G j t → c_ct (m_setR h v 0 (some p)) F' p G j t) → c_ct (m_setR h v 0 (some p)) F' p G 10 s → q_sT h (m_setR h v 0 (some p)) F F' 0 0 → F' 0 6 = 1 → (∀ x y, x < 2 ∨ (133 ≤ x ∧ x < 157) → ¬ (x = 0 ∧ y = 6) → F' x y = F x y) → Q (.inl none) (m_hS (m_setR h v 0 (some p)) (w, F'))) : m_W (p_P L xs) (d + 2) 146 k_146_25 [some (.ref 0)] [] (m_hS h (w, F)) Q := by
  obtain ⟨⟨⟨⟨s1, s2⟩, k0, r00, k1, l1, r04, k133, r133, k134, l134⟩, st0, r03⟩, KQ0, ⟨K0, up, Z0⟩, c4⟩ := id C
  have hX : m_X = 1000000000 := rfl
  have ku := CW_uk K0.2.1
  have kp := PW_pk KQ0.2.1
  have un := CW_un K0.2.1
  have bn := CW_bn K0.2.1
  have pn := PW_pn KQ0.2.1
  have u1 := K0.1.1
  have p1 := KQ0.1.1
  have hb := bo_or u
  have hn := I_n hI
  obtain ⟨zn1, zn2, zn3⟩ := Z0.1
  have hi : 10 < 12 := by decide
  obtain ⟨ne, M, -⟩ := c4 10 hi v hv
  have kv := CW_uk M.2.1
  have vn := CW_un M.2.1
  have v1 := M.1.1
  have rv : m_R h 0 5 = some v := hv
  rw [k_146_25]
  simp (disch := first | omega | (simp (disch := first | omega | (simp only [h_n_setR, h_n_mk, hs_n]; first | done | omega)) only [i_lt0, i_tn, i_nn, m_cat_n, m_cat_i, m_cat_r, m_cat_z, m_cat_rv, m_cat_l, m_o_n, m_o_i, m_o_r, m_o_z, m_o_rv, m_o_f, hs_n, hs_k, hs_l, h_n_setR, h_n_mk, h_k_setR, h_l_setR, hk_old, hk_new, hl_old, hl_new, Nat.reduceLeDiff, not_false_eq_true, or_true, true_or, or_false, false_or, k0, r00, k1, l1, r04, k133, r133, k134, l134, r03, ku, up, kp, h_k_setR, h_l_setR, kv, rv]; first | done | omega) | exact Or.inl rfl | exact Or.inr rfl) only [k_146_25, w_aload_0, w_aloadz_0, w_aloadv_0, gf_709, m_rv_s, m_rv_n, gf_707, m_cat_n, m_cat_i, m_cat_r, m_cat_z, m_cat_rv, m_cat_l, Nat.zero_le, Nat.reduceLeDiff, Nat.reduceAdd, m_o_i, m_o_r, m_o_z, m_o_rv, m_C_inl, Option.toList_some, Option.toList_none, List.cons_append, List.nil_append, w_iconst, pf_710, w_vret, tg_146_25, w_icmp_eq, w_if_eq, hs_n, hs_k, hs_l, hs_R, hs_I, hs_L, hs_setI, hs_setL, hs_cpy, hs_setR, hs_mk, k0, r00, k1, l1, r04, k133, r133, k134, l134, r03, ku, up, kp, h_k_setR, h_l_setR, kv, rv, up_eq, up_na, up_nk, zr_eq, zr_na, sR_eq, sR_na, sR_nk, hR_old, hR_new, h_n_setR, h_n_mk, i_add, i_sub, i_mul, i_tn, i_nat, Int.reduceToNat, Int.reduceAdd, Int.reduceSub, Int.reduceMul, Int.reduceNeg, l_32, l_nat, l_c_lt, l_c_gt, l_c_eq, i_lt, i_eq, i_lt0, i_0lt, i_eq0, i_eq1, Int.reduceLT, Int.reduceEq, Int.reduceLE, Int.reduceNe, not_true_eq_false, not_false_eq_true, Nat.lt_irrefl, Int.lt_irrefl, eq_self, eq_self, Nat.reduceAdd, Nat.reduceMul, Nat.reduceSub, Nat.reduceDiv, Nat.reduceMod, Nat.reduceEqDiff, Nat.reduceLeDiff, Nat.reduceLT, Nat.zero_add, Nat.add_zero, Nat.zero_le, and_false, and_true, and_self, false_and, true_and, or_false, or_true, if_true, if_false, ite_true, ite_false, ↓reduceIte, Int.reduceToNat, Int.reduceAdd, Int.reduceSub, Int.reduceMul, Int.reduceNeg]
  simp (disch := first | omega | (simp (disch := first | omega | (simp only [h_n_setR, h_n_mk, hs_n]; first | done | omega)) only [i_lt0, i_tn, i_nn, m_cat_n, m_cat_i, m_cat_r, m_cat_z, m_cat_rv, m_cat_l, m_o_n, m_o_i, m_o_r, m_o_z, m_o_rv, m_o_f, hs_n, hs_k, hs_l, h_n_setR, h_n_mk, h_k_setR, h_l_setR, hk_old, hk_new, hl_old, hl_new, Nat.reduceLeDiff, not_false_eq_true, or_true, true_or, or_false, false_or, k0, r00, k1, l1, r04, k133, r133, k134, l134, r03, ku, up, kp, h_k_setR, h_l_setR, kv, rv]; first | done | omega) | exact Or.inl rfl | exact Or.inr rfl) only [cl_78, m_cat_n, m_cat_i, m_cat_r, m_cat_z, m_cat_rv, m_cat_l, Nat.zero_le, Nat.reduceLeDiff, Nat.reduceAdd, m_o_i, m_o_r, m_o_z, m_o_rv, hs_n, hs_k, h_n_setR, h_n_mk]
  refine e_78 M.2.1 K0.2.1 (KS_ap M K0 ne) up (by omega) (by omega) (fun F1 H1 => ?_)
  obtain ⟨C1, ct1, cv1, f1, T1, f9⟩ := C0_ci C hI hi hv H1
  have e1 : F1 133 1 = F 133 1 := f1 _ _ (by omega)
  have e2 : F1 133 2 = F 133 2 := f1 _ _ (by omega)
  simp (disch := first | omega | (simp (disch := first | omega | (simp only [h_n_setR, h_n_mk, hs_n]; first | done | omega)) only [i_lt0, i_tn, i_nn, m_cat_n, m_cat_i, m_cat_r, m_cat_z, m_cat_rv, m_cat_l, m_o_n, m_o_i, m_o_r, m_o_z, m_o_rv, m_o_f, hs_n, hs_k, hs_l, h_n_setR, h_n_mk, h_k_setR, h_l_setR, hk_old, hk_new, hl_old, hl_new, Nat.reduceLeDiff, not_false_eq_true, or_true, true_or, or_false, false_or, k0, r00, k1, l1, r04, k133, r133, k134, l134, r03, ku, up, kp, h_k_setR, h_l_setR, kv, rv]; first | done | omega) | exact Or.inl rfl | exact Or.inr rfl) only [k_146_25, w_aload_0, w_aloadz_0, w_aloadv_0, gf_709, m_rv_s, m_rv_n, gf_707, m_cat_n, m_cat_i, m_cat_r, m_cat_z, m_cat_rv, m_cat_l, Nat.zero_le, Nat.reduceLeDiff, Nat.reduceAdd, m_o_i, m_o_r, m_o_z, m_o_rv, m_C_inl, Option.toList_some, Option.toList_none, List.cons_append, List.nil_append, w_iconst, pf_710, w_vret, tg_146_25, w_icmp_eq, w_if_eq, hs_n, hs_k, hs_l, hs_R, hs_I, hs_L, hs_setI, hs_setL, hs_cpy, hs_setR, hs_mk, k0, r00, k1, l1, r04, k133, r133, k134, l134, r03, ku, up, kp, h_k_setR, h_l_setR, kv, rv, up_eq, up_na, up_nk, zr_eq, zr_na, sR_eq, sR_na, sR_nk, hR_old, hR_new, h_n_setR, h_n_mk, i_add, i_sub, i_mul, i_tn, i_nat, Int.reduceToNat, Int.reduceAdd, Int.reduceSub, Int.reduceMul, Int.reduceNeg, l_32, l_nat, l_c_lt, l_c_gt, l_c_eq, i_lt, i_eq, i_lt0, i_0lt, i_eq0, i_eq1, Int.reduceLT, Int.reduceEq, Int.reduceLE, Int.reduceNe, not_true_eq_false, not_false_eq_true, Nat.lt_irrefl, Int.lt_irrefl, eq_self, eq_self, Nat.reduceAdd, Nat.reduceMul, Nat.reduceSub, Nat.reduceDiv, Nat.reduceMod, Nat.reduceEqDiff, Nat.reduceLeDiff, Nat.reduceLT, Nat.zero_add, Nat.add_zero, Nat.zero_le, and_false, and_true, and_self, false_and, true_and, or_false, or_true, if_true, if_false, ite_true, ite_false, ↓reduceIte, Int.reduceToNat, Int.reduceAdd, Int.reduceSub, Int.reduceMul, Int.reduceNeg, e1, e2]
  obtain ⟨C2, ct2⟩ := C0_s (F' := m_up F1 0 6 1) C1 hI (fun x y hx => by simp (disch := omega) only [up_na])
  refine hQ _ C2 (fun j t hj hji ht hc => ct2 j t hj ht (ct1 j t hj hji ht hc)) (ct2 10 s hi hI cv1) ?_ ?_ (fun x y hx hxy => ?_)
  · exact st_le (st_tr T1 (st_I (n := 0) (s := 0) (fun x y h1 h2 => by simp (disch := omega) only [up_na]))) (by omega) (by omega)
  · simp (disch := omega) only [up_eq, up_na, up_nk]
  · rw [up_if, if_neg hxy]
    exact f1 x y hx
set_option maxHeartbeats 4000000 in
theorem eB_142 {L : Nat} {xs : Nat → Int32} {d : Nat} {h : m_H} {w : Int64} {F : m_M} {Q : Option Value ⊕ Nat → m_H → Prop} {ow : Nat → Nat} {u p : Nat} {G : tx_G} {s : sp_R} (C : q_C0 ow h F u p G s) (hI : sp_I G 4 s) {v : Nat} (hv : q_sl h 11 = some v) (hQ : ∀ F' : m_M, q_C0 ow (m_setR h v 0 (some p)) F' u p G s → (∀ j t, j < 12 → ¬ j = 11 → sp_I G 4 t → c_ct h F p G j t → c_ct (m_setR h v 0 (some p)) F' p G j t) → c_ct (m_setR h v 0 (some p)) F' p G 11 s → q_sT h (m_setR h v 0 (some p)) F F' 0 0 → (∀ x y, x < 2 ∨ (133 ≤ x ∧ x < 157) → F' x y = F x y) → Q (.inl (some (.ref v))) (m_hS (m_setR h v 0 (some p)) (w, F'))) : m_W (p_P L xs) (d + 2) 142 k_142_25 [some (.ref 0)] [] (m_hS h (w, F)) Q := by
  obtain ⟨⟨⟨⟨s1, s2⟩, k0, r00, k1, l1, r04, k133, r133, k134, l134⟩, st0, r03⟩, KQ0, ⟨K0, up, Z0⟩, c4⟩ := id C
  have hX : m_X = 1000000000 := rfl
  have ku := CW_uk K0.2.1
  have kp := PW_pk KQ0.2.1
  have un := CW_un K0.2.1
  have bn := CW_bn K0.2.1
  have pn := PW_pn KQ0.2.1
  have u1 := K0.1.1
  have p1 := KQ0.1.1
  have hb := bo_or u
  have hn := I_n hI
  obtain ⟨zn1, zn2, zn3⟩ := Z0.1
  have hi : 11 < 12 := by decide
  obtain ⟨ne, M, -⟩ := c4 11 hi v hv
  have kv := CW_uk M.2.1
  have vn := CW_un M.2.1
  have v1 := M.1.1
  have rv : m_R h 0 7 = some v := hv
  rw [k_142_25]
  simp (disch := first | omega | (simp (disch := first | omega | (simp only [h_n_setR, h_n_mk, hs_n]; first | done | omega)) only [i_lt0, i_tn, i_nn, m_cat_n, m_cat_i, m_cat_r, m_cat_z, m_cat_rv, m_cat_l, m_o_n, m_o_i, m_o_r, m_o_z, m_o_rv, m_o_f, hs_n, hs_k, hs_l, h_n_setR, h_n_mk, h_k_setR, h_l_setR, hk_old, hk_new, hl_old, hl_new, Nat.reduceLeDiff, not_false_eq_true, or_true, true_or, or_false, false_or, k0, r00, k1, l1, r04, k133, r133, k134, l134, r03, ku, up, kp, h_k_setR, h_l_setR, kv, rv]; first | done | omega) | exact Or.inl rfl | exact Or.inr rfl) only [k_142_25, w_aload_0, w_aloadz_0, w_aloadv_0, gf_711, m_rv_s, m_rv_n, gf_707, m_cat_n, m_cat_i, m_cat_r, m_cat_z, m_cat_rv, m_cat_l, Nat.zero_le, Nat.reduceLeDiff, Nat.reduceAdd, m_o_i, m_o_r, m_o_z, m_o_rv, m_C_inl, Option.toList_some, Option.toList_none, List.cons_append, List.nil_append, w_aret, w_aretz, w_aretv, tg_142_25, w_icmp_eq, w_if_eq, hs_n, hs_k, hs_l, hs_R, hs_I, hs_L, hs_setI, hs_setL, hs_cpy, hs_setR, hs_mk, k0, r00, k1, l1, r04, k133, r133, k134, l134, r03, ku, up, kp, h_k_setR, h_l_setR, kv, rv, up_eq, up_na, up_nk, zr_eq, zr_na, sR_eq, sR_na, sR_nk, hR_old, hR_new, h_n_setR, h_n_mk, i_add, i_sub, i_mul, i_tn, i_nat, Int.reduceToNat, Int.reduceAdd, Int.reduceSub, Int.reduceMul, Int.reduceNeg, l_32, l_nat, l_c_lt, l_c_gt, l_c_eq, i_lt, i_eq, i_lt0, i_0lt, i_eq0, i_eq1, Int.reduceLT, Int.reduceEq, Int.reduceLE, Int.reduceNe, not_true_eq_false, not_false_eq_true, Nat.lt_irrefl, Int.lt_irrefl, eq_self, eq_self, Nat.reduceAdd, Nat.reduceMul, Nat.reduceSub, Nat.reduceDiv, Nat.reduceMod, Nat.reduceEqDiff, Nat.reduceLeDiff, Nat.reduceLT, Nat.zero_add, Nat.add_zero, Nat.zero_le, and_false, and_true, and_self, false_and, true_and, or_false, or_true, if_true, if_false, ite_true, ite_false, ↓reduceIte, Int.reduceToNat, Int.reduceAdd, Int.reduceSub, Int.reduceMul, Int.reduceNeg]
  simp (disch := first | omega | (simp (disch := first | omega | (simp only [h_n_setR, h_n_mk, hs_n]; first | done | omega)) only [i_lt0, i_tn, i_nn, m_cat_n, m_cat_i, m_cat_r, m_cat_z, m_cat_rv, m_cat_l, m_o_n, m_o_i, m_o_r, m_o_z, m_o_rv, m_o_f, hs_n, hs_k, hs_l, h_n_setR, h_n_mk, h_k_setR, h_l_setR, hk_old, hk_new, hl_old, hl_new, Nat.reduceLeDiff, not_false_eq_true, or_true, true_or, or_false, false_or, k0, r00, k1, l1, r04, k133, r133, k134, l134, r03, ku, up, kp, h_k_setR, h_l_setR, kv, rv]; first | done | omega) | exact Or.inl rfl | exact Or.inr rfl) only [cl_78, m_cat_n, m_cat_i, m_cat_r, m_cat_z, m_cat_rv, m_cat_l, Nat.zero_le, Nat.reduceLeDiff, Nat.reduceAdd, m_o_i, m_o_r, m_o_z, m_o_rv, hs_n, hs_k, h_n_setR, h_n_mk]
  refine e_78 M.2.1 K0.2.1 (KS_ap M K0 ne) up (by omega) (by omega) (fun F1 H1 => ?_)
  obtain ⟨C1, ct1, cv1, f1, T1, f9⟩ := C0_ci C hI hi hv H1
  have e1 : F1 133 1 = F 133 1 := f1 _ _ (by omega)
  have e2 : F1 133 2 = F 133 2 := f1 _ _ (by omega)
  have rv2 : m_R (m_setR h v 0 (some p)) 0 7 = some v := by
    rw [sR_na (by omega)]
    exact rv
  simp (disch := first | omega | (simp (disch := first | omega | (simp only [h_n_setR, h_n_mk, hs_n]; first | done | omega)) only [i_lt0, i_tn, i_nn, m_cat_n, m_cat_i, m_cat_r, m_cat_z, m_cat_rv, m_cat_l, m_o_n, m_o_i, m_o_r, m_o_z, m_o_rv, m_o_f, hs_n, hs_k, hs_l, h_n_setR, h_n_mk, h_k_setR, h_l_setR, hk_old, hk_new, hl_old, hl_new, Nat.reduceLeDiff, not_false_eq_true, or_true, true_or, or_false, false_or, k0, r00, k1, l1, r04, k133, r133, k134, l134, r03, ku, up, kp, h_k_setR, h_l_setR, kv, rv2]; first | done | omega) | exact Or.inl rfl | exact Or.inr rfl) only [k_142_25, w_aload_0, w_aloadz_0, w_aloadv_0, gf_711, m_rv_s, m_rv_n, gf_707, m_cat_n, m_cat_i, m_cat_r, m_cat_z, m_cat_rv, m_cat_l, Nat.zero_le, Nat.reduceLeDiff, Nat.reduceAdd, m_o_i, m_o_r, m_o_z, m_o_rv, m_C_inl, Option.toList_some, Option.toList_none, List.cons_append, List.nil_append, w_aret, w_aretz, w_aretv, tg_142_25, w_icmp_eq, w_if_eq, hs_n, hs_k, hs_l, hs_R, hs_I, hs_L, hs_setI, hs_setL, hs_cpy, hs_setR, hs_mk, k0, r00, k1, l1, r04, k133, r133, k134, l134, r03, ku, up, kp, h_k_setR, h_l_setR, kv, rv2, up_eq, up_na, up_nk, zr_eq, zr_na, sR_eq, sR_na, sR_nk, hR_old, hR_new, h_n_setR, h_n_mk, i_add, i_sub, i_mul, i_tn, i_nat, Int.reduceToNat, Int.reduceAdd, Int.reduceSub, Int.reduceMul, Int.reduceNeg, l_32, l_nat, l_c_lt, l_c_gt, l_c_eq, i_lt, i_eq, i_lt0, i_0lt, i_eq0, i_eq1, Int.reduceLT, Int.reduceEq, Int.reduceLE, Int.reduceNe, not_true_eq_false, not_false_eq_true, Nat.lt_irrefl, Int.lt_irrefl, eq_self, eq_self, Nat.reduceAdd, Nat.reduceMul, Nat.reduceSub, Nat.reduceDiv, Nat.reduceMod, Nat.reduceEqDiff, Nat.reduceLeDiff, Nat.reduceLT, Nat.zero_add, Nat.add_zero, Nat.zero_le, and_false, and_true, and_self, false_and, true_and, or_false, or_true, if_true, if_false, ite_true, ite_false, ↓reduceIte, Int.reduceToNat, Int.reduceAdd, Int.reduceSub, Int.reduceMul, Int.reduceNeg, e1, e2]
  exact hQ _ C1 ct1 cv1 T1 f1
set_option maxHeartbeats 8000000 in
theorem e_21 {L : Nat} {xs : Nat → Int32} {d : Nat} {h : m_H} {w : Int64} {F : m_M} {Q : Option Value ⊕ Nat → m_H → Prop} {ow : Nat → Nat} {u p : Nat} {G : tx_G} {s : sp_R} (C : q_C0 ow h F u p G s) (hI : sp_I G 4 s) (s9 : m_n h ≤ 899000) (nx : 0 ≤ F 133 1 ∧ F 133 1 ≤ 9) (hQ : ∀ (ow' : Nat → Nat) (h' : m_H) (F' : m_M), q_C0 ow' h' F' u p G s → (∀ j t, j < 12 → ¬ j = (F 133 1).toNat → sp_I G 4 t → c_ct h F p G j t → c_ct h' F' p G j t) → c_ct h' F' p G (F 133 1).toNat s → q_sT h h' F F' 125 2743 → F' 133 1 = (F 133 1 + 1) % 10 → F' 133 2 = i_mn (F 133 2 + 1) 10 → (∀ x y, x < 2 ∨ (133 ≤ x ∧ x < 157) → ¬ (x = 133 ∧ (y = 1 ∨ y = 2)) → F' x y = F x y) → Q (.inl none) (m_hS h' (w, F'))) : m_W (p_P L xs) (d + 2) 21 k_21_0 [some (.ref 133), some (.ref u), none] [] (m_hS h (w, F)) Q := by
  obtain ⟨⟨⟨⟨s1, s2⟩, k0, r00, k1, l1, r04, k133, r133, k134, l134⟩, st0, r03⟩, KQ0, ⟨K0, up, Z0⟩, c4⟩ := id C
  have hX : m_X = 1000000000 := rfl
  have ku := CW_uk K0.2.1
  have kp := PW_pk KQ0.2.1
  have un := CW_un K0.2.1
  have bn := CW_bn K0.2.1
  have pn := PW_pn KQ0.2.1
  have u1 := K0.1.1
  have p1 := KQ0.1.1
  have hb := bo_or u
  have hn := I_n hI
  obtain ⟨zn1, zn2, zn3⟩ := Z0.1
  rcases hr : m_R h 134 (F 133 1).toNat with _ | v
  · have hs0 : q_sl h (F 133 1).toNat = none := by rw [sl_h (by omega)]; exact hr
    rw [k_21_0]
    simp (disch := first | omega | (simp (disch := first | omega | (simp only [h_n_setR, h_n_mk, hs_n]; first | done | omega)) only [i_lt0, i_tn, i_nn, m_cat_n, m_cat_i, m_cat_r, m_cat_z, m_cat_rv, m_cat_l, m_o_n, m_o_i, m_o_r, m_o_z, m_o_rv, m_o_f, hs_n, hs_k, hs_l, h_n_setR, h_n_mk, h_k_setR, h_l_setR, hk_old, hk_new, hl_old, hl_new, Nat.reduceLeDiff, not_false_eq_true, or_true, true_or, or_false, false_or, k0, r00, k1, l1, r04, k133, r133, k134, l134, r03, ku, up, kp, hr]; first | done | omega) | exact Or.inl rfl | exact Or.inr rfl) only [k_21_0, w_aload_0, w_aloadz_0, w_aloadv_0, gf_192, m_rv_s, m_rv_n, gf_193, w_aaload, w_astore_2, w_astorez_2, w_astorev_2, m_o_n, m_o_i, m_o_r, m_o_z, m_o_rv, m_o_f, w_aload_2, w_aloadz_2, w_aloadv_2, w_ifnn_z, w_ifnn_r, w_new, nf_10, w_dup_i, w_dup_r, w_dup_z, w_dup_v, w_aload_1, w_aloadz_1, w_aloadv_1, gf_640, m_cat_n, m_cat_i, m_cat_r, m_cat_z, m_cat_rv, m_cat_l, Nat.zero_le, Nat.reduceLeDiff, Nat.reduceAdd, m_C_inl, Option.toList_some, Option.toList_none, List.cons_append, List.nil_append, w_aastore, tg_21_36, w_icmp_eq, w_if_eq, hs_n, hs_k, hs_l, hs_R, hs_I, hs_L, hs_setI, hs_setL, hs_cpy, hs_setR, hs_mk, k0, r00, k1, l1, r04, k133, r133, k134, l134, r03, ku, up, kp, hr, up_eq, up_na, up_nk, zr_eq, zr_na, sR_eq, sR_na, sR_nk, hR_old, hR_new, h_n_setR, h_n_mk, i_add, i_sub, i_mul, i_tn, i_nat, Int.reduceToNat, Int.reduceAdd, Int.reduceSub, Int.reduceMul, Int.reduceNeg, l_32, l_nat, l_c_lt, l_c_gt, l_c_eq, i_lt, i_eq, i_lt0, i_0lt, i_eq0, i_eq1, Int.reduceLT, Int.reduceEq, Int.reduceLE, Int.reduceNe, not_true_eq_false, not_false_eq_true, Nat.lt_irrefl, Int.lt_irrefl, eq_self, eq_self, Nat.reduceAdd, Nat.reduceMul, Nat.reduceSub, Nat.reduceDiv, Nat.reduceMod, Nat.reduceEqDiff, Nat.reduceLeDiff, Nat.reduceLT, Nat.zero_add, Nat.add_zero, Nat.zero_le, and_false, and_true, and_self, false_and, true_and, or_false, or_true, if_true, if_false, ite_true, ite_false, ↓reduceIte, Int.reduceToNat, Int.reduceAdd, Int.reduceSub, Int.reduceMul, Int.reduceNeg]
    simp (disch := first | omega | (simp (disch := first | omega | (simp only [h_n_setR, h_n_mk, hs_n]; first | done | omega)) only [i_lt0, i_tn, i_nn, m_cat_n, m_cat_i, m_cat_r, m_cat_z, m_cat_rv, m_cat_l, m_o_n, m_o_i, m_o_r, m_o_z, m_o_rv, m_o_f, hs_n, hs_k, hs_l, h_n_setR, h_n_mk, h_k_setR, h_l_setR, hk_old, hk_new, hl_old, hl_new, Nat.reduceLeDiff, not_false_eq_true, or_true, true_or, or_false, false_or, k0, r00, k1, l1, r04, k133, r133, k134, l134, r03, ku, up, kp, hr]; first | done | omega) | exact Or.inl rfl | exact Or.inr rfl) only [cl_77, m_cat_n, m_cat_i, m_cat_r, m_cat_z, m_cat_rv, m_cat_l, Nat.zero_le, Nat.reduceLeDiff, Nat.reduceAdd, m_o_i, m_o_r, m_o_z, m_o_rv, hs_n, hs_k, h_n_setR, h_n_mk]
    refine n_77 (u := m_n h) (p := p) (by omega) (by rw [h_n_mk]; omega) (hk_new rfl) (by rw [h_n_mk]; omega) (by rw [hk_old (by omega)]; exact kp) (by rw [h_n_mk]; omega) (by rw [h_n_mk]; omega) (fun h' F' W' up' G' H' => ?_)
    rw [h_n_mk] at W' H'
    have kn := CW_uk W'
    have ff : ∀ x y, x < m_n h → F' x y = F x y := fun x y hx => by rw [H'.1 x y (by omega) (by omega), zr_na (by omega)]
    obtain ⟨C1, ct1, sl1, T1⟩ := C0_n (a := 134) (k := (F 133 1).toNat) (i := (F 133 1).toNat) C hI rfl s9 W' G' H' ff (Or.inl ⟨rfl, by omega, rfl⟩) hs0
    have e0 : F' 133 1 = F 133 1 := ff _ _ (by omega)
    have e02 : F' 133 2 = F 133 2 := ff _ _ (by omega)
    have G9 := G'
    obtain ⟨q1, q2, q3, q4, q5⟩ := G9
    rw [h_n_mk] at q1 q4 q5
    have ek9 : ∀ x, x < m_n h → m_k h' x = m_k h x ∧ m_l h' x = m_l h x := fun x hx => by rw [(q4 x (by omega)).1, (q4 x (by omega)).2, hk_old (by omega), hl_old (by omega)]; exact ⟨rfl, rfl⟩
    have eR9 : ∀ x y, x < m_n h → m_R h' x y = m_R h x y := fun x y hx => by rw [q5 x y (by omega) (by omega), hR_old (by omega)]
    have j0 : m_k h' 0 = 11 := (ek9 0 (by omega)).1.trans k0
    have j1 : m_R h' 0 0 = some 1 := (eR9 0 0 (by omega)).trans r00
    have j2 : m_R h' 0 4 = some 133 := (eR9 0 4 (by omega)).trans r04
    have j3 : m_k h' 133 = 3 := (ek9 133 (by omega)).1.trans k133
    have j4 : m_R h' 133 0 = some 134 := (eR9 133 0 (by omega)).trans r133
    have j5 : m_k h' 134 = 210 := (ek9 134 (by omega)).1.trans k134
    have j6 : m_l h' 134 = 10 := (ek9 134 (by omega)).2.trans l134
    have j7 : m_R h' 0 3 = some u := (eR9 0 3 (by omega)).trans r03
    simp (disch := first | omega | (simp (disch := first | omega | (simp only [h_n_setR, h_n_mk, hs_n]; first | done | omega)) only [i_lt0, i_tn, i_nn, m_cat_n, m_cat_i, m_cat_r, m_cat_z, m_cat_rv, m_cat_l, m_o_n, m_o_i, m_o_r, m_o_z, m_o_rv, m_o_f, hs_n, hs_k, hs_l, h_n_setR, h_n_mk, h_k_setR, h_l_setR, hk_old, hk_new, hl_old, hl_new, Nat.reduceLeDiff, not_false_eq_true, or_true, true_or, or_false, false_or, j0, j1, j2, j3, j4, j5, j6, j7, kn, q1]; first | done | omega) | exact Or.inl rfl | exact Or.inr rfl) only [k_21_0, w_aload_0, w_aloadz_0, w_aloadv_0, gf_192, m_rv_s, m_rv_n, gf_193, w_aaload, w_astore_2, w_astorez_2, w_astorev_2, m_o_n, m_o_i, m_o_r, m_o_z, m_o_rv, m_o_f, w_aload_2, w_aloadz_2, w_aloadv_2, w_ifnn_z, w_ifnn_r, w_new, nf_10, w_dup_i, w_dup_r, w_dup_z, w_dup_v, w_aload_1, w_aloadz_1, w_aloadv_1, gf_640, m_cat_n, m_cat_i, m_cat_r, m_cat_z, m_cat_rv, m_cat_l, Nat.zero_le, Nat.reduceLeDiff, Nat.reduceAdd, m_C_inl, Option.toList_some, Option.toList_none, List.cons_append, List.nil_append, w_aastore, tg_21_36, w_icmp_eq, w_if_eq, hs_n, hs_k, hs_l, hs_R, hs_I, hs_L, hs_setI, hs_setL, hs_cpy, hs_setR, hs_mk, j0, j1, j2, j3, j4, j5, j6, j7, kn, q1, up_eq, up_na, up_nk, zr_eq, zr_na, sR_eq, sR_na, sR_nk, hR_old, hR_new, h_n_setR, h_n_mk, i_add, i_sub, i_mul, i_tn, i_nat, Int.reduceToNat, Int.reduceAdd, Int.reduceSub, Int.reduceMul, Int.reduceNeg, l_32, l_nat, l_c_lt, l_c_gt, l_c_eq, i_lt, i_eq, i_lt0, i_0lt, i_eq0, i_eq1, Int.reduceLT, Int.reduceEq, Int.reduceLE, Int.reduceNe, not_true_eq_false, not_false_eq_true, Nat.lt_irrefl, Int.lt_irrefl, eq_self, eq_self, Nat.reduceAdd, Nat.reduceMul, Nat.reduceSub, Nat.reduceDiv, Nat.reduceMod, Nat.reduceEqDiff, Nat.reduceLeDiff, Nat.reduceLT, Nat.zero_add, Nat.add_zero, Nat.zero_le, and_false, and_true, and_self, false_and, true_and, or_false, or_true, if_true, if_false, ite_true, ite_false, ↓reduceIte, Int.reduceToNat, Int.reduceAdd, Int.reduceSub, Int.reduceMul, Int.reduceNeg, e0, w_aastore]
    exact eB_21 C1 hI (by omega) sl1 (by omega) (fun F2 C2 ct2 cv2 T2 a1 a2 a3 => hQ _ _ _ C2 (fun j t hj hji ht hc => ct2 j t hj hji ht (ct1 j t hj ht hc)) cv2 (st_le (st_tr T1 T2) (by omega) (by omega)) (by rw [a1, e0]) (by rw [a2, e02]) (fun x y hx hxy => (a3 x y hx hxy).trans (ff x y (by omega))))
  · have hs0 : q_sl h (F 133 1).toNat = some v := by rw [sl_h (by omega)]; exact hr
    rw [k_21_0]
    simp (disch := first | omega | (simp (disch := first | omega | (simp only [h_n_setR, h_n_mk, hs_n]; first | done | omega)) only [i_lt0, i_tn, i_nn, m_cat_n, m_cat_i, m_cat_r, m_cat_z, m_cat_rv, m_cat_l, m_o_n, m_o_i, m_o_r, m_o_z, m_o_rv, m_o_f, hs_n, hs_k, hs_l, h_n_setR, h_n_mk, h_k_setR, h_l_setR, hk_old, hk_new, hl_old, hl_new, Nat.reduceLeDiff, not_false_eq_true, or_true, true_or, or_false, false_or, k0, r00, k1, l1, r04, k133, r133, k134, l134, r03, ku, up, kp, hr]; first | done | omega) | exact Or.inl rfl | exact Or.inr rfl) only [k_21_0, w_aload_0, w_aloadz_0, w_aloadv_0, gf_192, m_rv_s, m_rv_n, gf_193, w_aaload, w_astore_2, w_astorez_2, w_astorev_2, m_o_n, m_o_i, m_o_r, m_o_z, m_o_rv, m_o_f, w_aload_2, w_aloadz_2, w_aloadv_2, w_ifnn_z, w_ifnn_r, w_new, nf_10, w_dup_i, w_dup_r, w_dup_z, w_dup_v, w_aload_1, w_aloadz_1, w_aloadv_1, gf_640, m_cat_n, m_cat_i, m_cat_r, m_cat_z, m_cat_rv, m_cat_l, Nat.zero_le, Nat.reduceLeDiff, Nat.reduceAdd, m_C_inl, Option.toList_some, Option.toList_none, List.cons_append, List.nil_append, w_aastore, tg_21_36, w_icmp_eq, w_if_eq, hs_n, hs_k, hs_l, hs_R, hs_I, hs_L, hs_setI, hs_setL, hs_cpy, hs_setR, hs_mk, k0, r00, k1, l1, r04, k133, r133, k134, l134, r03, ku, up, kp, hr, up_eq, up_na, up_nk, zr_eq, zr_na, sR_eq, sR_na, sR_nk, hR_old, hR_new, h_n_setR, h_n_mk, i_add, i_sub, i_mul, i_tn, i_nat, Int.reduceToNat, Int.reduceAdd, Int.reduceSub, Int.reduceMul, Int.reduceNeg, l_32, l_nat, l_c_lt, l_c_gt, l_c_eq, i_lt, i_eq, i_lt0, i_0lt, i_eq0, i_eq1, Int.reduceLT, Int.reduceEq, Int.reduceLE, Int.reduceNe, not_true_eq_false, not_false_eq_true, Nat.lt_irrefl, Int.lt_irrefl, eq_self, eq_self, Nat.reduceAdd, Nat.reduceMul, Nat.reduceSub, Nat.reduceDiv, Nat.reduceMod, Nat.reduceEqDiff, Nat.reduceLeDiff, Nat.reduceLT, Nat.zero_add, Nat.add_zero, Nat.zero_le, and_false, and_true, and_self, false_and, true_and, or_false, or_true, if_true, if_false, ite_true, ite_false, ↓reduceIte, Int.reduceToNat, Int.reduceAdd, Int.reduceSub, Int.reduceMul, Int.reduceNeg]
    exact eB_21 C hI (by omega) hs0 nx (fun F2 C2 ct2 cv2 T2 a1 a2 a3 => hQ _ _ _ C2 ct2 cv2 (st_le T2 (by omega) (by omega)) a1 a2 a3)
set_option maxHeartbeats 8000000 in
theorem e_146 {L : Nat} {xs : Nat → Int32} {d : Nat} {h : m_H} {w : Int64} {F : m_M} {Q : Option Value ⊕ Nat → m_H → Prop} {ow : Nat → Nat} {u p : Nat} {G : tx_G} {s : sp_R} (C : q_C0 ow h F u p G s) (hI : sp_I G 4 s) (s9 : m_n h ≤ 899000) (hQ : ∀ (ow' : Nat → Nat) (h' : m_H) (F' : m_M), q_C0 ow' h' F' u p G s → (∀ j t, j < 12 → ¬ j = 10 → sp_I G 4 t → c_ct h F p G j t → c_ct h' F' p G j t) → c_ct h' F' p G 10 s → q_sT h h' F F' 125 2743 → F' 0 6 = 1 → (∀ x y, x < 2 ∨ (133 ≤ x ∧ x < 157) → ¬ (x = 0 ∧ y = 6) → F' x y = F x y) → Q (.inl none) (m_hS h' (w, F'))) : m_W (p_P L xs) (d + 2) 146 k_146_0 [some (.ref 0)] [] (m_hS h (w, F)) Q := by
  obtain ⟨⟨⟨⟨s1, s2⟩, k0, r00, k1, l1, r04, k133, r133, k134, l134⟩, st0, r03⟩, KQ0, ⟨K0, up, Z0⟩, c4⟩ := id C
  have hX : m_X = 1000000000 := rfl
  have ku := CW_uk K0.2.1
  have kp := PW_pk KQ0.2.1
  have un := CW_un K0.2.1
  have bn := CW_bn K0.2.1
  have pn := PW_pn KQ0.2.1
  have u1 := K0.1.1
  have p1 := KQ0.1.1
  have hb := bo_or u
  have hn := I_n hI
  obtain ⟨zn1, zn2, zn3⟩ := Z0.1
  rcases hr : m_R h 0 5 with _ | v
  · have hs0 : q_sl h 10 = none := by exact hr
    rw [k_146_0]
    simp (disch := first | omega | (simp (disch := first | omega | (simp only [h_n_setR, h_n_mk, hs_n]; first | done | omega)) only [i_lt0, i_tn, i_nn, m_cat_n, m_cat_i, m_cat_r, m_cat_z, m_cat_rv, m_cat_l, m_o_n, m_o_i, m_o_r, m_o_z, m_o_rv, m_o_f, hs_n, hs_k, hs_l, h_n_setR, h_n_mk, h_k_setR, h_l_setR, hk_old, hk_new, hl_old, hl_new, Nat.reduceLeDiff, not_false_eq_true, or_true, true_or, or_false, false_or, k0, r00, k1, l1, r04, k133, r133, k134, l134, r03, ku, up, kp, hr]; first | done | omega) | exact Or.inl rfl | exact Or.inr rfl) only [k_146_0, w_aload_0, w_aloadz_0, w_aloadv_0, gf_709, m_rv_s, m_rv_n, w_ifnn_z, w_ifnn_r, w_new, nf_10, w_dup_i, w_dup_r, w_dup_z, w_dup_v, gf_707, gf_640, m_cat_n, m_cat_i, m_cat_r, m_cat_z, m_cat_rv, m_cat_l, Nat.zero_le, Nat.reduceLeDiff, Nat.reduceAdd, m_o_i, m_o_r, m_o_z, m_o_rv, m_C_inl, Option.toList_some, Option.toList_none, List.cons_append, List.nil_append, pf_709, pfz_709, pfv_709, tg_146_25, w_icmp_eq, w_if_eq, hs_n, hs_k, hs_l, hs_R, hs_I, hs_L, hs_setI, hs_setL, hs_cpy, hs_setR, hs_mk, k0, r00, k1, l1, r04, k133, r133, k134, l134, r03, ku, up, kp, hr, up_eq, up_na, up_nk, zr_eq, zr_na, sR_eq, sR_na, sR_nk, hR_old, hR_new, h_n_setR, h_n_mk, i_add, i_sub, i_mul, i_tn, i_nat, Int.reduceToNat, Int.reduceAdd, Int.reduceSub, Int.reduceMul, Int.reduceNeg, l_32, l_nat, l_c_lt, l_c_gt, l_c_eq, i_lt, i_eq, i_lt0, i_0lt, i_eq0, i_eq1, Int.reduceLT, Int.reduceEq, Int.reduceLE, Int.reduceNe, not_true_eq_false, not_false_eq_true, Nat.lt_irrefl, Int.lt_irrefl, eq_self, eq_self, Nat.reduceAdd, Nat.reduceMul, Nat.reduceSub, Nat.reduceDiv, Nat.reduceMod, Nat.reduceEqDiff, Nat.reduceLeDiff, Nat.reduceLT, Nat.zero_add, Nat.add_zero, Nat.zero_le, and_false, and_true, and_self, false_and, true_and, or_false, or_true, if_true, if_false, ite_true, ite_false, ↓reduceIte, Int.reduceToNat, Int.reduceAdd, Int.reduceSub, Int.reduceMul, Int.reduceNeg]
    simp (disch := first | omega | (simp (disch := first | omega | (simp only [h_n_setR, h_n_mk, hs_n]; first | done | omega)) only [i_lt0, i_tn, i_nn, m_cat_n, m_cat_i, m_cat_r, m_cat_z, m_cat_rv, m_cat_l, m_o_n, m_o_i, m_o_r, m_o_z, m_o_rv, m_o_f, hs_n, hs_k, hs_l, h_n_setR, h_n_mk, h_k_setR, h_l_setR, hk_old, hk_new, hl_old, hl_new, Nat.reduceLeDiff, not_false_eq_true, or_true, true_or, or_false, false_or, k0, r00, k1, l1, r04, k133, r133, k134, l134, r03, ku, up, kp, hr]; first | done | omega) | exact Or.inl rfl | exact Or.inr rfl) only [cl_77, m_cat_n, m_cat_i, m_cat_r, m_cat_z, m_cat_rv, m_cat_l, Nat.zero_le, Nat.reduceLeDiff, Nat.reduceAdd, m_o_i, m_o_r, m_o_z, m_o_rv, hs_n, hs_k, h_n_setR, h_n_mk]
    refine n_77 (u := m_n h) (p := p) (by omega) (by rw [h_n_mk]; omega) (hk_new rfl) (by rw [h_n_mk]; omega) (by rw [hk_old (by omega)]; exact kp) (by rw [h_n_mk]; omega) (by rw [h_n_mk]; omega) (fun h' F' W' up' G' H' => ?_)
    rw [h_n_mk] at W' H'
    have kn := CW_uk W'
    have ff : ∀ x y, x < m_n h → F' x y = F x y := fun x y hx => by rw [H'.1 x y (by omega) (by omega), zr_na (by omega)]
    obtain ⟨C1, ct1, sl1, T1⟩ := C0_n (a := 0) (k := 5) (i := 10) C hI rfl s9 W' G' H' ff (Or.inr (Or.inl ⟨rfl, rfl, rfl⟩)) hs0
    have e0 : F' 133 1 = F 133 1 := ff _ _ (by omega)
    have e02 : F' 133 2 = F 133 2 := ff _ _ (by omega)
    have G9 := G'
    obtain ⟨q1, q2, q3, q4, q5⟩ := G9
    rw [h_n_mk] at q1 q4 q5
    have ek9 : ∀ x, x < m_n h → m_k h' x = m_k h x ∧ m_l h' x = m_l h x := fun x hx => by rw [(q4 x (by omega)).1, (q4 x (by omega)).2, hk_old (by omega), hl_old (by omega)]; exact ⟨rfl, rfl⟩
    have eR9 : ∀ x y, x < m_n h → m_R h' x y = m_R h x y := fun x y hx => by rw [q5 x y (by omega) (by omega), hR_old (by omega)]
    have j0 : m_k h' 0 = 11 := (ek9 0 (by omega)).1.trans k0
    have j1 : m_R h' 0 0 = some 1 := (eR9 0 0 (by omega)).trans r00
    have j2 : m_R h' 0 4 = some 133 := (eR9 0 4 (by omega)).trans r04
    have j3 : m_k h' 133 = 3 := (ek9 133 (by omega)).1.trans k133
    have j4 : m_R h' 133 0 = some 134 := (eR9 133 0 (by omega)).trans r133
    have j5 : m_k h' 134 = 210 := (ek9 134 (by omega)).1.trans k134
    have j6 : m_l h' 134 = 10 := (ek9 134 (by omega)).2.trans l134
    have j7 : m_R h' 0 3 = some u := (eR9 0 3 (by omega)).trans r03
    simp (disch := first | omega | (simp (disch := first | omega | (simp only [h_n_setR, h_n_mk, hs_n]; first | done | omega)) only [i_lt0, i_tn, i_nn, m_cat_n, m_cat_i, m_cat_r, m_cat_z, m_cat_rv, m_cat_l, m_o_n, m_o_i, m_o_r, m_o_z, m_o_rv, m_o_f, hs_n, hs_k, hs_l, h_n_setR, h_n_mk, h_k_setR, h_l_setR, hk_old, hk_new, hl_old, hl_new, Nat.reduceLeDiff, not_false_eq_true, or_true, true_or, or_false, false_or, j0, j1, j2, j3, j4, j5, j6, j7, kn, q1]; first | done | omega) | exact Or.inl rfl | exact Or.inr rfl) only [k_146_0, w_aload_0, w_aloadz_0, w_aloadv_0, gf_709, m_rv_s, m_rv_n, w_ifnn_z, w_ifnn_r, w_new, nf_10, w_dup_i, w_dup_r, w_dup_z, w_dup_v, gf_707, gf_640, m_cat_n, m_cat_i, m_cat_r, m_cat_z, m_cat_rv, m_cat_l, Nat.zero_le, Nat.reduceLeDiff, Nat.reduceAdd, m_o_i, m_o_r, m_o_z, m_o_rv, m_C_inl, Option.toList_some, Option.toList_none, List.cons_append, List.nil_append, pf_709, pfz_709, pfv_709, tg_146_25, w_icmp_eq, w_if_eq, hs_n, hs_k, hs_l, hs_R, hs_I, hs_L, hs_setI, hs_setL, hs_cpy, hs_setR, hs_mk, j0, j1, j2, j3, j4, j5, j6, j7, kn, q1, up_eq, up_na, up_nk, zr_eq, zr_na, sR_eq, sR_na, sR_nk, hR_old, hR_new, h_n_setR, h_n_mk, i_add, i_sub, i_mul, i_tn, i_nat, Int.reduceToNat, Int.reduceAdd, Int.reduceSub, Int.reduceMul, Int.reduceNeg, l_32, l_nat, l_c_lt, l_c_gt, l_c_eq, i_lt, i_eq, i_lt0, i_0lt, i_eq0, i_eq1, Int.reduceLT, Int.reduceEq, Int.reduceLE, Int.reduceNe, not_true_eq_false, not_false_eq_true, Nat.lt_irrefl, Int.lt_irrefl, eq_self, eq_self, Nat.reduceAdd, Nat.reduceMul, Nat.reduceSub, Nat.reduceDiv, Nat.reduceMod, Nat.reduceEqDiff, Nat.reduceLeDiff, Nat.reduceLT, Nat.zero_add, Nat.add_zero, Nat.zero_le, and_false, and_true, and_self, false_and, true_and, or_false, or_true, if_true, if_false, ite_true, ite_false, ↓reduceIte, Int.reduceToNat, Int.reduceAdd, Int.reduceSub, Int.reduceMul, Int.reduceNeg, e0, w_aastore]
    exact eB_146 C1 hI sl1 (fun F2 C2 ct2 cv2 T2 a1 a3 => hQ _ _ _ C2 (fun j t hj hji ht hc => ct2 j t hj hji ht (ct1 j t hj ht hc)) cv2 (st_le (st_tr T1 T2) (by omega) (by omega)) a1 (fun x y hx hxy => (a3 x y hx hxy).trans (ff x y (by omega))))
  · have hs0 : q_sl h 10 = some v := by exact hr
    rw [k_146_0]
    simp (disch := first | omega | (simp (disch := first | omega | (simp only [h_n_setR, h_n_mk, hs_n]; first | done | omega)) only [i_lt0, i_tn, i_nn, m_cat_n, m_cat_i, m_cat_r, m_cat_z, m_cat_rv, m_cat_l, m_o_n, m_o_i, m_o_r, m_o_z, m_o_rv, m_o_f, hs_n, hs_k, hs_l, h_n_setR, h_n_mk, h_k_setR, h_l_setR, hk_old, hk_new, hl_old, hl_new, Nat.reduceLeDiff, not_false_eq_true, or_true, true_or, or_false, false_or, k0, r00, k1, l1, r04, k133, r133, k134, l134, r03, ku, up, kp, hr]; first | done | omega) | exact Or.inl rfl | exact Or.inr rfl) only [k_146_0, w_aload_0, w_aloadz_0, w_aloadv_0, gf_709, m_rv_s, m_rv_n, w_ifnn_z, w_ifnn_r, w_new, nf_10, w_dup_i, w_dup_r, w_dup_z, w_dup_v, gf_707, gf_640, m_cat_n, m_cat_i, m_cat_r, m_cat_z, m_cat_rv, m_cat_l, Nat.zero_le, Nat.reduceLeDiff, Nat.reduceAdd, m_o_i, m_o_r, m_o_z, m_o_rv, m_C_inl, Option.toList_some, Option.toList_none, List.cons_append, List.nil_append, pf_709, pfz_709, pfv_709, tg_146_25, w_icmp_eq, w_if_eq, hs_n, hs_k, hs_l, hs_R, hs_I, hs_L, hs_setI, hs_setL, hs_cpy, hs_setR, hs_mk, k0, r00, k1, l1, r04, k133, r133, k134, l134, r03, ku, up, kp, hr, up_eq, up_na, up_nk, zr_eq, zr_na, sR_eq, sR_na, sR_nk, hR_old, hR_new, h_n_setR, h_n_mk, i_add, i_sub, i_mul, i_tn, i_nat, Int.reduceToNat, Int.reduceAdd, Int.reduceSub, Int.reduceMul, Int.reduceNeg, l_32, l_nat, l_c_lt, l_c_gt, l_c_eq, i_lt, i_eq, i_lt0, i_0lt, i_eq0, i_eq1, Int.reduceLT, Int.reduceEq, Int.reduceLE, Int.reduceNe, not_true_eq_false, not_false_eq_true, Nat.lt_irrefl, Int.lt_irrefl, eq_self, eq_self, Nat.reduceAdd, Nat.reduceMul, Nat.reduceSub, Nat.reduceDiv, Nat.reduceMod, Nat.reduceEqDiff, Nat.reduceLeDiff, Nat.reduceLT, Nat.zero_add, Nat.add_zero, Nat.zero_le, and_false, and_true, and_self, false_and, true_and, or_false, or_true, if_true, if_false, ite_true, ite_false, ↓reduceIte, Int.reduceToNat, Int.reduceAdd, Int.reduceSub, Int.reduceMul, Int.reduceNeg]
    exact eB_146 C hI hs0 (fun F2 C2 ct2 cv2 T2 a1 a3 => hQ _ _ _ C2 ct2 cv2 (st_le T2 (by omega) (by omega)) a1 a3)
set_option maxHeartbeats 8000000 in
theorem e_142 {L : Nat} {xs : Nat → Int32} {d : Nat} {h : m_H} {w : Int64} {F : m_M} {Q : Option Value ⊕ Nat → m_H → Prop} {ow : Nat → Nat} {u p : Nat} {G : tx_G} {s : sp_R} (C : q_C0 ow h F u p G s) (hI : sp_I G 4 s) (s9 : m_n h ≤ 899000) (hQ : ∀ (ow' : Nat → Nat) (h' : m_H) (F' : m_M) (v : Nat), q_C0 ow' h' F' u p G s → (∀ j t, j < 12 → ¬ j = 11 → sp_I G 4 t → c_ct h F p G j t → c_ct h' F' p G j t) → c_ct h' F' p G 11 s → q_sl h' 11 = some v → q_sT h h' F F' 125 2743 → (q_sl h 11 = none ∨ m_n h' = m_n h ∧ m_c h' = m_c h ∧ m_s h' = m_s h) → (∀ x y, x < 2 ∨ (133 ≤ x ∧ x < 157) → F' x y = F x y) → Q (.inl (some (.ref v))) (m_hS h' (w, F'))) : m_W (p_P L xs) (d + 2) 142 k_142_0 [some (.ref 0)] [] (m_hS h (w, F)) Q := by
  obtain ⟨⟨⟨⟨s1, s2⟩, k0, r00, k1, l1, r04, k133, r133, k134, l134⟩, st0, r03⟩, KQ0, ⟨K0, up, Z0⟩, c4⟩ := id C
  have hX : m_X = 1000000000 := rfl
  have ku := CW_uk K0.2.1
  have kp := PW_pk KQ0.2.1
  have un := CW_un K0.2.1
  have bn := CW_bn K0.2.1
  have pn := PW_pn KQ0.2.1
  have u1 := K0.1.1
  have p1 := KQ0.1.1
  have hb := bo_or u
  have hn := I_n hI
  obtain ⟨zn1, zn2, zn3⟩ := Z0.1
  rcases hr : m_R h 0 7 with _ | v
  · have hs0 : q_sl h 11 = none := by exact hr
    rw [k_142_0]
    simp (disch := first | omega | (simp (disch := first | omega | (simp only [h_n_setR, h_n_mk, hs_n]; first | done | omega)) only [i_lt0, i_tn, i_nn, m_cat_n, m_cat_i, m_cat_r, m_cat_z, m_cat_rv, m_cat_l, m_o_n, m_o_i, m_o_r, m_o_z, m_o_rv, m_o_f, hs_n, hs_k, hs_l, h_n_setR, h_n_mk, h_k_setR, h_l_setR, hk_old, hk_new, hl_old, hl_new, Nat.reduceLeDiff, not_false_eq_true, or_true, true_or, or_false, false_or, k0, r00, k1, l1, r04, k133, r133, k134, l134, r03, ku, up, kp, hr]; first | done | omega) | exact Or.inl rfl | exact Or.inr rfl) only [k_142_0, w_aload_0, w_aloadz_0, w_aloadv_0, gf_711, m_rv_s, m_rv_n, w_ifnn_z, w_ifnn_r, w_new, nf_10, w_dup_i, w_dup_r, w_dup_z, w_dup_v, gf_707, gf_640, m_cat_n, m_cat_i, m_cat_r, m_cat_z, m_cat_rv, m_cat_l, Nat.zero_le, Nat.reduceLeDiff, Nat.reduceAdd, m_o_i, m_o_r, m_o_z, m_o_rv, m_C_inl, Option.toList_some, Option.toList_none, List.cons_append, List.nil_append, pf_711, pfz_711, pfv_711, tg_142_25, w_icmp_eq, w_if_eq, hs_n, hs_k, hs_l, hs_R, hs_I, hs_L, hs_setI, hs_setL, hs_cpy, hs_setR, hs_mk, k0, r00, k1, l1, r04, k133, r133, k134, l134, r03, ku, up, kp, hr, up_eq, up_na, up_nk, zr_eq, zr_na, sR_eq, sR_na, sR_nk, hR_old, hR_new, h_n_setR, h_n_mk, i_add, i_sub, i_mul, i_tn, i_nat, Int.reduceToNat, Int.reduceAdd, Int.reduceSub, Int.reduceMul, Int.reduceNeg, l_32, l_nat, l_c_lt, l_c_gt, l_c_eq, i_lt, i_eq, i_lt0, i_0lt, i_eq0, i_eq1, Int.reduceLT, Int.reduceEq, Int.reduceLE, Int.reduceNe, not_true_eq_false, not_false_eq_true, Nat.lt_irrefl, Int.lt_irrefl, eq_self, eq_self, Nat.reduceAdd, Nat.reduceMul, Nat.reduceSub, Nat.reduceDiv, Nat.reduceMod, Nat.reduceEqDiff, Nat.reduceLeDiff, Nat.reduceLT, Nat.zero_add, Nat.add_zero, Nat.zero_le, and_false, and_true, and_self, false_and, true_and, or_false, or_true, if_true, if_false, ite_true, ite_false, ↓reduceIte, Int.reduceToNat, Int.reduceAdd, Int.reduceSub, Int.reduceMul, Int.reduceNeg]
    simp (disch := first | omega | (simp (disch := first | omega | (simp only [h_n_setR, h_n_mk, hs_n]; first | done | omega)) only [i_lt0, i_tn, i_nn, m_cat_n, m_cat_i, m_cat_r, m_cat_z, m_cat_rv, m_cat_l, m_o_n, m_o_i, m_o_r, m_o_z, m_o_rv, m_o_f, hs_n, hs_k, hs_l, h_n_setR, h_n_mk, h_k_setR, h_l_setR, hk_old, hk_new, hl_old, hl_new, Nat.reduceLeDiff, not_false_eq_true, or_true, true_or, or_false, false_or, k0, r00, k1, l1, r04, k133, r133, k134, l134, r03, ku, up, kp, hr]; first | done | omega) | exact Or.inl rfl | exact Or.inr rfl) only [cl_77, m_cat_n, m_cat_i, m_cat_r, m_cat_z, m_cat_rv, m_cat_l, Nat.zero_le, Nat.reduceLeDiff, Nat.reduceAdd, m_o_i, m_o_r, m_o_z, m_o_rv, hs_n, hs_k, h_n_setR, h_n_mk]
    refine n_77 (u := m_n h) (p := p) (by omega) (by rw [h_n_mk]; omega) (hk_new rfl) (by rw [h_n_mk]; omega) (by rw [hk_old (by omega)]; exact kp) (by rw [h_n_mk]; omega) (by rw [h_n_mk]; omega) (fun h' F' W' up' G' H' => ?_)
    rw [h_n_mk] at W' H'
    have kn := CW_uk W'
    have ff : ∀ x y, x < m_n h → F' x y = F x y := fun x y hx => by rw [H'.1 x y (by omega) (by omega), zr_na (by omega)]
    obtain ⟨C1, ct1, sl1, T1⟩ := C0_n (a := 0) (k := 7) (i := 11) C hI rfl s9 W' G' H' ff (Or.inr (Or.inr ⟨rfl, rfl, rfl⟩)) hs0
    have e0 : F' 133 1 = F 133 1 := ff _ _ (by omega)
    have e02 : F' 133 2 = F 133 2 := ff _ _ (by omega)
    have G9 := G'
    obtain ⟨q1, q2, q3, q4, q5⟩ := G9
    rw [h_n_mk] at q1 q4 q5
    have ek9 : ∀ x, x < m_n h → m_k h' x = m_k h x ∧ m_l h' x = m_l h x := fun x hx => by rw [(q4 x (by omega)).1, (q4 x (by omega)).2, hk_old (by omega), hl_old (by omega)]; exact ⟨rfl, rfl⟩
    have eR9 : ∀ x y, x < m_n h → m_R h' x y = m_R h x y := fun x y hx => by rw [q5 x y (by omega) (by omega), hR_old (by omega)]
    have j0 : m_k h' 0 = 11 := (ek9 0 (by omega)).1.trans k0
    have j1 : m_R h' 0 0 = some 1 := (eR9 0 0 (by omega)).trans r00
    have j2 : m_R h' 0 4 = some 133 := (eR9 0 4 (by omega)).trans r04
    have j3 : m_k h' 133 = 3 := (ek9 133 (by omega)).1.trans k133
    have j4 : m_R h' 133 0 = some 134 := (eR9 133 0 (by omega)).trans r133
    have j5 : m_k h' 134 = 210 := (ek9 134 (by omega)).1.trans k134
    have j6 : m_l h' 134 = 10 := (ek9 134 (by omega)).2.trans l134
    have j7 : m_R h' 0 3 = some u := (eR9 0 3 (by omega)).trans r03
    simp (disch := first | omega | (simp (disch := first | omega | (simp only [h_n_setR, h_n_mk, hs_n]; first | done | omega)) only [i_lt0, i_tn, i_nn, m_cat_n, m_cat_i, m_cat_r, m_cat_z, m_cat_rv, m_cat_l, m_o_n, m_o_i, m_o_r, m_o_z, m_o_rv, m_o_f, hs_n, hs_k, hs_l, h_n_setR, h_n_mk, h_k_setR, h_l_setR, hk_old, hk_new, hl_old, hl_new, Nat.reduceLeDiff, not_false_eq_true, or_true, true_or, or_false, false_or, j0, j1, j2, j3, j4, j5, j6, j7, kn, q1]; first | done | omega) | exact Or.inl rfl | exact Or.inr rfl) only [k_142_0, w_aload_0, w_aloadz_0, w_aloadv_0, gf_711, m_rv_s, m_rv_n, w_ifnn_z, w_ifnn_r, w_new, nf_10, w_dup_i, w_dup_r, w_dup_z, w_dup_v, gf_707, gf_640, m_cat_n, m_cat_i, m_cat_r, m_cat_z, m_cat_rv, m_cat_l, Nat.zero_le, Nat.reduceLeDiff, Nat.reduceAdd, m_o_i, m_o_r, m_o_z, m_o_rv, m_C_inl, Option.toList_some, Option.toList_none, List.cons_append, List.nil_append, pf_711, pfz_711, pfv_711, tg_142_25, w_icmp_eq, w_if_eq, hs_n, hs_k, hs_l, hs_R, hs_I, hs_L, hs_setI, hs_setL, hs_cpy, hs_setR, hs_mk, j0, j1, j2, j3, j4, j5, j6, j7, kn, q1, up_eq, up_na, up_nk, zr_eq, zr_na, sR_eq, sR_na, sR_nk, hR_old, hR_new, h_n_setR, h_n_mk, i_add, i_sub, i_mul, i_tn, i_nat, Int.reduceToNat, Int.reduceAdd, Int.reduceSub, Int.reduceMul, Int.reduceNeg, l_32, l_nat, l_c_lt, l_c_gt, l_c_eq, i_lt, i_eq, i_lt0, i_0lt, i_eq0, i_eq1, Int.reduceLT, Int.reduceEq, Int.reduceLE, Int.reduceNe, not_true_eq_false, not_false_eq_true, Nat.lt_irrefl, Int.lt_irrefl, eq_self, eq_self, Nat.reduceAdd, Nat.reduceMul, Nat.reduceSub, Nat.reduceDiv, Nat.reduceMod, Nat.reduceEqDiff, Nat.reduceLeDiff, Nat.reduceLT, Nat.zero_add, Nat.add_zero, Nat.zero_le, and_false, and_true, and_self, false_and, true_and, or_false, or_true, if_true, if_false, ite_true, ite_false, ↓reduceIte, Int.reduceToNat, Int.reduceAdd, Int.reduceSub, Int.reduceMul, Int.reduceNeg, e0, w_aastore]
    exact eB_142 C1 hI sl1 (fun F2 C2 ct2 cv2 T2 a3 => hQ _ _ _ _ C2 (fun j t hj hji ht hc => ct2 j t hj hji ht (ct1 j t hj ht hc)) cv2 (by rw [sl_R (by omega) (by omega)]; exact sl1) (st_le (st_tr T1 T2) (by omega) (by omega)) (Or.inl hs0) (fun x y hx => (a3 x y hx).trans (ff x y (by omega))))
  · have hs0 : q_sl h 11 = some v := by exact hr
    rw [k_142_0]
    simp (disch := first | omega | (simp (disch := first | omega | (simp only [h_n_setR, h_n_mk, hs_n]; first | done | omega)) only [i_lt0, i_tn, i_nn, m_cat_n, m_cat_i, m_cat_r, m_cat_z, m_cat_rv, m_cat_l, m_o_n, m_o_i, m_o_r, m_o_z, m_o_rv, m_o_f, hs_n, hs_k, hs_l, h_n_setR, h_n_mk, h_k_setR, h_l_setR, hk_old, hk_new, hl_old, hl_new, Nat.reduceLeDiff, not_false_eq_true, or_true, true_or, or_false, false_or, k0, r00, k1, l1, r04, k133, r133, k134, l134, r03, ku, up, kp, hr]; first | done | omega) | exact Or.inl rfl | exact Or.inr rfl) only [k_142_0, w_aload_0, w_aloadz_0, w_aloadv_0, gf_711, m_rv_s, m_rv_n, w_ifnn_z, w_ifnn_r, w_new, nf_10, w_dup_i, w_dup_r, w_dup_z, w_dup_v, gf_707, gf_640, m_cat_n, m_cat_i, m_cat_r, m_cat_z, m_cat_rv, m_cat_l, Nat.zero_le, Nat.reduceLeDiff, Nat.reduceAdd, m_o_i, m_o_r, m_o_z, m_o_rv, m_C_inl, Option.toList_some, Option.toList_none, List.cons_append, List.nil_append, pf_711, pfz_711, pfv_711, tg_142_25, w_icmp_eq, w_if_eq, hs_n, hs_k, hs_l, hs_R, hs_I, hs_L, hs_setI, hs_setL, hs_cpy, hs_setR, hs_mk, k0, r00, k1, l1, r04, k133, r133, k134, l134, r03, ku, up, kp, hr, up_eq, up_na, up_nk, zr_eq, zr_na, sR_eq, sR_na, sR_nk, hR_old, hR_new, h_n_setR, h_n_mk, i_add, i_sub, i_mul, i_tn, i_nat, Int.reduceToNat, Int.reduceAdd, Int.reduceSub, Int.reduceMul, Int.reduceNeg, l_32, l_nat, l_c_lt, l_c_gt, l_c_eq, i_lt, i_eq, i_lt0, i_0lt, i_eq0, i_eq1, Int.reduceLT, Int.reduceEq, Int.reduceLE, Int.reduceNe, not_true_eq_false, not_false_eq_true, Nat.lt_irrefl, Int.lt_irrefl, eq_self, eq_self, Nat.reduceAdd, Nat.reduceMul, Nat.reduceSub, Nat.reduceDiv, Nat.reduceMod, Nat.reduceEqDiff, Nat.reduceLeDiff, Nat.reduceLT, Nat.zero_add, Nat.add_zero, Nat.zero_le, and_false, and_true, and_self, false_and, true_and, or_false, or_true, if_true, if_false, ite_true, ite_false, ↓reduceIte, Int.reduceToNat, Int.reduceAdd, Int.reduceSub, Int.reduceMul, Int.reduceNeg]
    exact eB_142 C hI hs0 (fun F2 C2 ct2 cv2 T2 a3 => hQ _ _ _ _ C2 ct2 cv2 (by rw [sl_R (by have := (c4 11 (by decide) v hs0).2.1.1.1; omega) (by have := (c4 11 (by decide) v hs0).2.1.1.1; omega)]; exact hs0) (st_le T2 (by omega) (by omega)) (Or.inr ⟨by rw [h_n_setR], by rw [h_c_setR], by rw [h_s_setR]⟩) a3)
