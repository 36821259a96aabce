/-! load -/
/-- cells more, which nothing of the class knows -/
theorem CI_ext {ow : Nat → Nat} {h h' : m_H} {F F' : m_M} {u p : Nat} (I : q_CI ow h F u p) (en : m_n h ≤ m_n h') (e9 : m_n h' ≤ 900000) (ek : ∀ x, x < m_n h → m_k h' x = m_k h x ∧ m_l h' x = m_l h x) (eR : ∀ x y, x < m_n h → m_R h' x y = m_R h x y) (eF : ∀ x y, x < m_n h → F' x y = F x y) : q_CI ow h' F' u p := by
  obtain ⟨⟨⟨s1, s2⟩, k0, r00, k1, l1, r04, k133, r133, k134, l134⟩, i2, i3, i4, i5, i6⟩ := I
  have hX : m_X = 1000000000 := rfl
  have o0 := i3 0 (by omega)
  have K : ∀ w r, KP ow h F w r → KP ow h' F' w r := fun w r M => KP_0 M o0 en (by omega) ek (fun _ _ => rfl) (fun x y hx _ => eR x y hx) (fun x y hx _ => eF x y hx)
  refine ⟨⟨by omega, by rw [(ek _ (by omega)).1]; exact k0, by rw [eR _ _ (by omega)]; exact r00, by rw [(ek _ (by omega)).1]; exact k1, by rw [(ek _ (by omega)).2]; exact l1, by rw [eR _ _ (by omega)]; exact r04, by rw [(ek _ (by omega)).1]; exact k133, by rw [eR _ _ (by omega)]; exact r133, by rw [(ek _ (by omega)).1]; exact k134, by rw [(ek _ (by omega)).2]; exact l134⟩, ?_, i3, by rw [eR _ _ (by omega)]; exact i4, K u p i5, fun w hw => ?_⟩
  · unfold q_SI
    rw [eF _ _ (by omega), eF _ _ (by omega), eF _ _ (by omega), eF _ _ (by omega)]
    exact i2
  · have hw' : q_O h w := by
      rcases hw with e | e | ⟨i, hi, e⟩
      · rw [eR _ _ (by omega)] at e
        exact Or.inl e
      · rw [eR _ _ (by omega)] at e
        exact Or.inr (Or.inl e)
      · rw [eR _ _ (by omega)] at e
        exact Or.inr (Or.inr ⟨i, hi, e⟩)
    exact ⟨(i6 w hw').1, (i6 w hw').2.elim (fun r M => ⟨r, K w r M⟩)⟩
theorem RS_PW {h : m_H} {r l : Nat} (S : RS h r l) : PW h (r + 7) := by
  obtain ⟨pk, pr2, pr10, ck, cl, ok, o0, o1, o3, sk, sl, ak, al, bk, bl⟩ := RS_p S
  have n := RS_n S
  exact ⟨by omega, RS_X S, pk, pr2, pr10, ck, cl, ok, o0, o1, o3, sk, sl, ak, bk, bl.trans al.symm⟩
/-- whose a cell is, with a reader at r and a World at n -/
def o_l (ow : Nat → Nat) (r n : Nat) : Nat → Nat := fun x => if x < r then ow x else if x < n then (if r + 7 ≤ x ∧ x < r + 13 then r + 7 else x) else n
/-- a text's program taken over by a new World -/
theorem CI_ld {ow : Nat → Nat} {h h3 h5 : m_H} {F F3 F6 : m_M} {u p r l n : Nat} (I : q_CI ow h F u p) (hr : r = m_n h) (S : RS h3 r l) (B : q_B r l F3) (C : q_cmd h3 (r + 7) (F3 (r + 7) 1)) (D : 1 ≤ F3 (r + 7) 0 ∧ F3 (r + 7) 0 ≤ 4) (b3 : ∀ x, x < r → m_k h3 x = m_k h x ∧ m_l h3 x = m_l h x ∧ ∀ y, m_R h3 x y = m_R h x y) (c3 : ∀ x y, x < r → F3 x y = F x y) (hn : n = m_n h3) (n9 : n ≤ 899000) (W : CW h5 n (n + 1)) (up : m_R h5 n 0 = some (r + 7)) (G : q_gr (m_mk h3 10 0 7) h5 n 124 2736) (U : ∀ nd nc, q_u n (n + 1) nd nc F6) (f6 : ∀ x y, x < n → ¬ x = 0 → ¬ x = 133 → F6 x y = F3 x y) (s6 : q_SI F6) : q_CI (o_l ow r n) (m_setR h5 0 3 (some n)) F6 n (r + 7) := by
  subst hn
  obtain ⟨⟨⟨s1, s2⟩, k0, r00, k1, l1, r04, k133, r133, k134, l134⟩, i2, i3, i4, i5, i6⟩ := I
  have hX : m_X = 1000000000 := rfl
  obtain ⟨g1, g2, g3, g4, g5⟩ := G
  rw [h_n_mk] at g1 g4 g5
  have sn := RS_n S
  have ek : ∀ x, x < m_n h3 → m_k h5 x = m_k h3 x ∧ m_l h5 x = m_l h3 x := fun x hx => by rw [(g4 x (by omega)).1, (g4 x (by omega)).2, hk_old (by omega), hl_old (by omega)]; exact ⟨rfl, rfl⟩
  have eR : ∀ x y, x < m_n h3 → m_R h5 x y = m_R h3 x y := fun x y hx => by rw [g5 x y (by omega) (by omega), hR_old (by omega)]
  have ek2 : ∀ x, x < m_n h → m_k h5 x = m_k h x ∧ m_l h5 x = m_l h x := fun x hx => by rw [(ek x (by omega)).1, (ek x (by omega)).2, (b3 x (by omega)).1, (b3 x (by omega)).2.1]; exact ⟨rfl, rfl⟩
  have eR2 : ∀ x y, x < m_n h → m_R h5 x y = m_R h x y := fun x y hx => by rw [eR x y (by omega), (b3 x (by omega)).2.2 y]
  have eR3 : ∀ x y, x < m_n h → ¬ (x = 0 ∧ y = 3) → m_R (m_setR h5 0 3 (some (m_n h3))) x y = m_R h x y := fun x y hx h1 => by rw [h_R_setR, if_neg h1]; exact eR2 x y hx
  have o0 := i3 0 (by omega)
  have olo : ∀ x, x < r → o_l ow r (m_n h3) x = ow x := fun x hx => if_pos hx
  have K : ∀ w q, KP ow h F w q → KP (o_l ow r (m_n h3)) (m_setR h5 0 3 (some (m_n h3))) F6 w q := fun w q M => KP_0 M o0 (by rw [h_n_setR]; omega) (by rw [h_n_setR]; omega) ek2 (fun x hx => olo x (by omega)) (fun x y hx h0 => eR3 x y hx (fun e => h0 (by rw [e.1]; exact o0))) (fun x y hx h0 => by rw [f6 x y (by omega) (fun e => h0 (by rw [e]; exact o0)) (fun e => h0 (by rw [e]; exact i3 133 (by omega)))]; exact c3 x y (by omega))
  have b1 : bo (m_n h3) = m_n h3 + 1 := by have := bo_or (m_n h3); omega
  have b4 := B.2.2.2.1
  have b7 := B.2.2.2.2.2.2
  have l9 := RS_l9 S
  have al : m_l h3 (r + 11) = l := (RS_p S).2.2.2.2.2.2.2.2.2.2.2.2.1
  have fp : ∀ x y, r ≤ x → x < m_n h3 → F6 x y = F3 x y := fun x y h1 h2 => f6 x y h2 (by omega) (by omega)
  have e70 := fp (r + 7) 0 (by omega) (by omega)
  have e71 := fp (r + 7) 1 (by omega) (by omega)
  have e92 := fp (r + 9) 2 (by omega) (by omega)
  refine ⟨⟨by rw [h_n_setR]; omega, by rw [h_k_setR, (ek2 _ (by omega)).1]; exact k0, by rw [eR3 _ _ (by omega) (by omega)]; exact r00, by rw [h_k_setR, (ek2 _ (by omega)).1]; exact k1, by rw [h_l_setR, (ek2 _ (by omega)).2]; exact l1, by rw [eR3 _ _ (by omega) (by omega)]; exact r04, by rw [h_k_setR, (ek2 _ (by omega)).1]; exact k133, by rw [eR3 _ _ (by omega) (by omega)]; exact r133, by rw [h_k_setR, (ek2 _ (by omega)).1]; exact k134, by rw [h_l_setR, (ek2 _ (by omega)).2]; exact l134⟩, s6, fun x hx => by rw [olo x (by omega)]; exact i3 x hx, sR_eq rfl rfl, ⟨⟨Or.inr (by omega), ?_, fun x h1 h2 => ?_⟩, ⟨Or.inr (by omega), fun x h1 h2 => ?_⟩, ?_, by rw [b1]; exact U _ _⟩, fun w hw => ?_⟩
  · unfold o_l
    rw [if_neg (by omega), if_neg (by omega)]
  · unfold o_l
    rw [if_neg (by omega), if_neg (by omega)]
  · unfold o_l
    rw [if_neg (by omega), if_pos (by omega), if_pos (by omega)]
  · rw [b1]
    have P : PW (m_setR h5 0 3 (some (m_n h3))) (r + 7) := PW_cg (RS_PW S) (by rw [h_n_setR]; omega) (by rw [h_n_setR]; omega) ek (fun x y hx h1 => by rw [sR_na (by omega)]; exact eR x y hx)
    refine ⟨CW_cg W (by rw [h_n_setR]; omega) (by rw [h_n_setR]; omega) (fun _ _ => ⟨rfl, rfl⟩) (fun x y hx h1 => sR_na (by omega)), P, by rw [sR_na (by omega)]; exact up, by omega, ?_, by rw [e70, e71]; omega, ?_⟩
    · intro c hc
      rw [e71] at hc
      obtain ⟨k, r1, r2, r3⟩ := C c hc
      exact ⟨k, by rw [sR_na (by omega), eR _ _ (by omega)]; exact r1, by rw [h_n_setR]; omega, by rw [h_k_setR, (ek _ r2).1]; exact r3⟩
    · rw [show r + 7 + 2 = r + 9 by omega, show r + 7 + 4 = r + 11 by omega, e92, h_l_setR, (ek _ (by omega)).2, al]
      omega
  · have hw' : q_O h w := by
      rcases hw with e | e | ⟨i, hi, e⟩
      · rw [eR3 _ _ (by omega) (by omega)] at e
        exact Or.inl e
      · rw [eR3 _ _ (by omega) (by omega)] at e
        exact Or.inr (Or.inl e)
      · rw [eR3 _ _ (by omega) (by omega)] at e
        exact Or.inr (Or.inr ⟨i, hi, e⟩)
    obtain ⟨q, M⟩ := (i6 w hw').2
    have := (KP_n M).1
    exact ⟨by omega, q, K w q M⟩
set_option maxHeartbeats 8000000 in
theorem t_107 {L : Nat} {xs : Nat → Int32} {d : Nat} {h : m_H} {w : Int64} {F : m_M} {Q : Option Value ⊕ Nat → m_H → Prop} {ow : Nat → Nat} {u p : Nat} (I : q_CI ow h F u p) (s9 : m_n h ≤ 898000) {x : Int} (x0 : -2147483648 ≤ x) (x9 : x ≤ 2147483647) (hQ : 0 ≤ x → x ≤ F 0 1 → ∀ (v : Int32) (ow' : Nat → Nat) (h' : m_H) (F' : m_M) (u' p' : Nat), q_CI ow' h' F' u' p' → q_sT h h' F F' 150 9300 → F' 0 1 = 0 → Q (.inl (some (.int v))) (m_hS h' (w, F'))) (hE : ¬ (0 ≤ x ∧ x ≤ F 0 1) → Q (.inr 1) (m_hS (m_bump h) (w, F))) : m_W (p_P L xs) (d + 51) 107 k_107_0 [some (.ref 0), some (.int (Int32.ofInt x)), none] [] (m_hS h (w, F)) Q := by
  have I0 := I
  obtain ⟨⟨⟨s1, s2⟩, k0, r00, k1, l1, r04, k133, r133, k134, l134⟩, ⟨⟨f1, f2⟩, f6, ⟨n1, n2⟩, ⟨c1, c2⟩⟩, i3, r03, KU, i6⟩ := I
  have hX : m_X = 1000000000 := rfl
  have ku := CW_uk KU.2.2.1.1
  have up : m_R h u 0 = some p := KU.2.2.1.2.2.1
  have kp := PW_pk KU.2.2.1.2.1
  have un := KP_n KU
  have u1 := KU.1.1
  have p1 := KU.2.1.1
  have hb := bo_or u
  by_cases c : 0 ≤ x ∧ x ≤ F 0 1
  · obtain ⟨x1, x2⟩ := c
    obtain ⟨l, rfl⟩ : ∃ l : Nat, x = (l : Int) := ⟨x.toNat, by omega⟩
    have xe1 : ¬ (l : Int) < 0 := by omega
    have xe2 : ¬ F 0 1 < (l : Int) := by omega
    rw [k_107_0]
    simp (disch := first | omega | (simp (disch := first | omega | (simp only [h_n_setR, h_n_mk, hs_n]; first | done | omega)) only [i_lt0, i_tn, i_nn, m_cat_n, m_cat_i, m_cat_r, m_cat_z, m_cat_rv, m_cat_l, m_o_n, m_o_i, m_o_r, m_o_z, m_o_rv, m_o_f, hs_n, hs_k, hs_l, h_n_setR, h_n_mk, h_k_setR, h_l_setR, hk_old, hk_new, hl_old, hl_new, Nat.reduceLeDiff, not_false_eq_true, or_true, true_or, or_false, false_or, k0, r00, k1, l1, r04, k133, r133, k134, l134, r03, ku, up, kp]; first | done | omega) | exact Or.inl rfl | exact Or.inr rfl) only [k_107_0, w_iload_1, w_if_lt, w_aload_0, w_aloadz_0, w_aloadv_0, gf_705, m_rv_s, m_rv_n, w_icmp_le, tg_107_12, tg_107_22, tg_107_77, m_C_inl, Option.toList_some, Option.toList_none, List.cons_append, List.nil_append, w_icmp_eq, w_if_eq, hs_n, hs_k, hs_l, hs_R, hs_I, hs_L, hs_setI, hs_setL, hs_cpy, hs_setR, hs_mk, k0, r00, k1, l1, r04, k133, r133, k134, l134, r03, ku, up, kp, up_eq, up_na, up_nk, zr_eq, zr_na, sR_eq, sR_na, sR_nk, hR_old, hR_new, h_n_setR, h_n_mk, i_add, i_sub, i_mul, i_tn, i_nat, Int.reduceToNat, Int.reduceAdd, Int.reduceSub, Int.reduceMul, Int.reduceNeg, l_32, l_nat, l_c_lt, l_c_gt, l_c_eq, i_lt, i_eq, i_lt0, i_0lt, i_eq0, i_eq1, Int.reduceLT, Int.reduceEq, Int.reduceLE, Int.reduceNe, not_true_eq_false, not_false_eq_true, Nat.lt_irrefl, Int.lt_irrefl, eq_self, eq_self, Nat.reduceAdd, Nat.reduceMul, Nat.reduceSub, Nat.reduceDiv, Nat.reduceMod, Nat.reduceEqDiff, Nat.reduceLeDiff, Nat.reduceLT, Nat.zero_add, Nat.add_zero, Nat.zero_le, and_false, and_true, and_self, false_and, true_and, or_false, or_true, if_true, if_false, ite_true, ite_false, ↓reduceIte, Int.reduceToNat, Int.reduceAdd, Int.reduceSub, Int.reduceMul, Int.reduceNeg, xe1, xe2]
    rw [k_107_22]
    simp (disch := first | omega | (simp (disch := first | omega | (simp only [h_n_setR, h_n_mk, hs_n]; first | done | omega)) only [i_lt0, i_tn, i_nn, m_cat_n, m_cat_i, m_cat_r, m_cat_z, m_cat_rv, m_cat_l, m_o_n, m_o_i, m_o_r, m_o_z, m_o_rv, m_o_f, hs_n, hs_k, hs_l, h_n_setR, h_n_mk, h_k_setR, h_l_setR, hk_old, hk_new, hl_old, hl_new, Nat.reduceLeDiff, not_false_eq_true, or_true, true_or, or_false, false_or, k0, r00, k1, l1, r04, k133, r133, k134, l134, r03, ku, up, kp]; first | done | omega) | exact Or.inl rfl | exact Or.inr rfl) only [k_107_22, w_new, nf_6, w_dup_i, w_dup_r, w_dup_z, w_dup_v, w_aload_0, w_aloadz_0, w_aloadv_0, gf_704, m_rv_s, m_rv_n, w_iload_1, w_iconst, m_cat_n, m_cat_i, m_cat_r, m_cat_z, m_cat_rv, m_cat_l, Nat.zero_le, Nat.reduceLeDiff, Nat.reduceAdd, m_o_i, m_o_r, m_o_z, m_o_rv, m_C_inl, Option.toList_some, Option.toList_none, List.cons_append, List.nil_append, w_astore_2, w_astorez_2, w_astorev_2, m_o_n, m_o_f, w_aload_2, w_aloadz_2, w_aloadv_2, pf_705, gf_384, gf_522, pf_706, gf_521, w_if_eq, w_isub, w_iret, tg_107_12, tg_107_22, tg_107_77, w_icmp_eq, hs_n, hs_k, hs_l, hs_R, hs_I, hs_L, hs_setI, hs_setL, hs_cpy, hs_setR, hs_mk, k0, r00, k1, l1, r04, k133, r133, k134, l134, r03, ku, up, kp, up_eq, up_na, up_nk, zr_eq, zr_na, sR_eq, sR_na, sR_nk, hR_old, hR_new, h_n_setR, h_n_mk, i_add, i_sub, i_mul, i_tn, i_nat, Int.reduceToNat, Int.reduceAdd, Int.reduceSub, Int.reduceMul, Int.reduceNeg, l_32, l_nat, l_c_lt, l_c_gt, l_c_eq, i_lt, i_eq, i_lt0, i_0lt, i_eq0, i_eq1, Int.reduceLT, Int.reduceEq, Int.reduceLE, Int.reduceNe, not_true_eq_false, not_false_eq_true, Nat.lt_irrefl, Int.lt_irrefl, eq_self, eq_self, Nat.reduceAdd, Nat.reduceMul, Nat.reduceSub, Nat.reduceDiv, Nat.reduceMod, Nat.reduceEqDiff, Nat.reduceLeDiff, Nat.reduceLT, Nat.zero_add, Nat.add_zero, Nat.zero_le, and_false, and_true, and_self, false_and, true_and, or_false, or_true, if_true, if_false, ite_true, ite_false, ↓reduceIte, Int.reduceToNat, Int.reduceAdd, Int.reduceSub, Int.reduceMul, Int.reduceNeg]
    simp (disch := first | omega | (simp (disch := first | omega | (simp only [h_n_setR, h_n_mk, hs_n]; first | done | omega)) only [i_lt0, i_tn, i_nn, m_cat_n, m_cat_i, m_cat_r, m_cat_z, m_cat_rv, m_cat_l, m_o_n, m_o_i, m_o_r, m_o_z, m_o_rv, m_o_f, hs_n, hs_k, hs_l, h_n_setR, h_n_mk, h_k_setR, h_l_setR, hk_old, hk_new, hl_old, hl_new, Nat.reduceLeDiff, not_false_eq_true, or_true, true_or, or_false, false_or, k0, r00, k1, l1, r04, k133, r133, k134, l134, r03, ku, up, kp]; first | done | omega) | exact Or.inl rfl | exact Or.inr rfl) only [cl_31, m_cat_n, m_cat_i, m_cat_r, m_cat_z, m_cat_rv, m_cat_l, Nat.zero_le, Nat.reduceLeDiff, Nat.reduceAdd, m_o_i, m_o_r, m_o_z, m_o_rv, hs_n, hs_k, h_n_setR, h_n_mk]
    refine t_31 (r := m_n h) (l := l) (as := 0) (Or.inl rfl) (by omega) (by rw [h_n_mk]) (hk_new rfl) (by omega) (by rw [hk_old (by omega)]; exact k1) (by rw [hl_old (by omega)]; exact l1) (by rw [h_n_mk]; omega) (fun h2 F2 S2 B2 p2 z2 b2 c2' => ?_)
    have kr2 := RS_k S2
    have n2' := RS_n S2
    simp (disch := first | omega | (simp (disch := first | omega | (simp only [h_n_setR, h_n_mk, hs_n]; first | done | omega)) only [i_lt0, i_tn, i_nn, m_cat_n, m_cat_i, m_cat_r, m_cat_z, m_cat_rv, m_cat_l, m_o_n, m_o_i, m_o_r, m_o_z, m_o_rv, m_o_f, hs_n, hs_k, hs_l, h_n_setR, h_n_mk, h_k_setR, h_l_setR, hk_old, hk_new, hl_old, hl_new, Nat.reduceLeDiff, not_false_eq_true, or_true, true_or, or_false, false_or, kr2]; first | done | omega) | exact Or.inl rfl | exact Or.inr rfl) only [k_107_22, w_new, nf_6, w_dup_i, w_dup_r, w_dup_z, w_dup_v, w_aload_0, w_aloadz_0, w_aloadv_0, gf_704, m_rv_s, m_rv_n, w_iload_1, w_iconst, m_cat_n, m_cat_i, m_cat_r, m_cat_z, m_cat_rv, m_cat_l, Nat.zero_le, Nat.reduceLeDiff, Nat.reduceAdd, m_o_i, m_o_r, m_o_z, m_o_rv, m_C_inl, Option.toList_some, Option.toList_none, List.cons_append, List.nil_append, w_astore_2, w_astorez_2, w_astorev_2, m_o_n, m_o_f, w_aload_2, w_aloadz_2, w_aloadv_2, pf_705, gf_384, gf_522, pf_706, gf_521, w_if_eq, w_isub, w_iret, tg_107_12, tg_107_22, tg_107_77, w_icmp_eq, hs_n, hs_k, hs_l, hs_R, hs_I, hs_L, hs_setI, hs_setL, hs_cpy, hs_setR, hs_mk, kr2, up_eq, up_na, up_nk, zr_eq, zr_na, sR_eq, sR_na, sR_nk, hR_old, hR_new, h_n_setR, h_n_mk, i_add, i_sub, i_mul, i_tn, i_nat, Int.reduceToNat, Int.reduceAdd, Int.reduceSub, Int.reduceMul, Int.reduceNeg, l_32, l_nat, l_c_lt, l_c_gt, l_c_eq, i_lt, i_eq, i_lt0, i_0lt, i_eq0, i_eq1, Int.reduceLT, Int.reduceEq, Int.reduceLE, Int.reduceNe, not_true_eq_false, not_false_eq_true, Nat.lt_irrefl, Int.lt_irrefl, eq_self, eq_self, Nat.reduceAdd, Nat.reduceMul, Nat.reduceSub, Nat.reduceDiv, Nat.reduceMod, Nat.reduceEqDiff, Nat.reduceLeDiff, Nat.reduceLT, Nat.zero_add, Nat.add_zero, Nat.zero_le, and_false, and_true, and_self, false_and, true_and, or_false, or_true, if_true, if_false, ite_true, ite_false, ↓reduceIte, Int.reduceToNat, Int.reduceAdd, Int.reduceSub, Int.reduceMul, Int.reduceNeg]
    simp (disch := first | omega | (simp (disch := first | omega | (simp only [h_n_setR, h_n_mk, hs_n]; first | done | omega)) only [i_lt0, i_tn, i_nn, m_cat_n, m_cat_i, m_cat_r, m_cat_z, m_cat_rv, m_cat_l, m_o_n, m_o_i, m_o_r, m_o_z, m_o_rv, m_o_f, hs_n, hs_k, hs_l, h_n_setR, h_n_mk, h_k_setR, h_l_setR, hk_old, hk_new, hl_old, hl_new, Nat.reduceLeDiff, not_false_eq_true, or_true, true_or, or_false, false_or, kr2]; first | done | omega) | exact Or.inl rfl | exact Or.inr rfl) only [cl_32, m_cat_n, m_cat_i, m_cat_r, m_cat_z, m_cat_rv, m_cat_l, Nat.zero_le, Nat.reduceLeDiff, Nat.reduceAdd, m_o_i, m_o_r, m_o_z, m_o_rv, hs_n, hs_k, h_n_setR, h_n_mk]
    rw [h_n_mk, h_c_mk, h_s_mk] at z2
    refine t_32 S2 B2 p2 (by omega) (fun h3 F3 T3 => ?_)
    obtain ⟨S3, B3, C3, ⟨y1, y2, y3⟩, b3, c3, D3⟩ := T3
    have b7 := B3.2.2.2.2.2.2
    have sn := RS_n S3
    have kl : ∀ x, x < m_n h → m_k h3 x = m_k h x ∧ m_l h3 x = m_l h x ∧ ∀ y, m_R h3 x y = m_R h x y := fun x hx => ⟨by rw [(b3 x hx).1, (b2 x hx).1, hk_old (by omega)], by rw [(b3 x hx).2.1, (b2 x hx).2.1, hl_old (by omega)], fun y => by rw [(b3 x hx).2.2 y, (b2 x hx).2.2 y, hR_old (by omega)]⟩
    have fl : ∀ x y, x < m_n h → F3 x y = F x y := fun x y hx => by rw [c3 x y hx, c2' x y hx, zr_na (by omega)]
    have kr3 := RS_k S3
    have rr0 := RS_r0 S3
    have rr2 := RS_r2 S3
    have rtk := RS_tk S3
    have rpk := (RS_p S3).1
    have k03 : m_k h3 0 = 11 := by rw [(kl 0 (by omega)).1]; exact k0
    have g02 : F3 133 1 = F 133 1 := fl _ _ (by omega)
    have g03 : F3 133 2 = F 133 2 := fl _ _ (by omega)
    have g06 : F3 0 6 = F 0 6 := fl _ _ (by omega)
    by_cases ce : Int32.ofInt (F3 (m_n h + 1) 9) = 0
    · simp (disch := first | omega | (simp (disch := first | omega | (simp only [h_n_setR, h_n_mk, hs_n]; first | done | omega)) only [i_lt0, i_tn, i_nn, m_cat_n, m_cat_i, m_cat_r, m_cat_z, m_cat_rv, m_cat_l, m_o_n, m_o_i, m_o_r, m_o_z, m_o_rv, m_o_f, hs_n, hs_k, hs_l, h_n_setR, h_n_mk, h_k_setR, h_l_setR, hk_old, hk_new, hl_old, hl_new, Nat.reduceLeDiff, not_false_eq_true, or_true, true_or, or_false, false_or, kr3, rr0, rr2, rtk, k03]; first | done | omega) | exact Or.inl rfl | exact Or.inr rfl) only [k_107_22, w_new, nf_6, w_dup_i, w_dup_r, w_dup_z, w_dup_v, w_aload_0, w_aloadz_0, w_aloadv_0, gf_704, m_rv_s, m_rv_n, w_iload_1, w_iconst, m_cat_n, m_cat_i, m_cat_r, m_cat_z, m_cat_rv, m_cat_l, Nat.zero_le, Nat.reduceLeDiff, Nat.reduceAdd, m_o_i, m_o_r, m_o_z, m_o_rv, m_C_inl, Option.toList_some, Option.toList_none, List.cons_append, List.nil_append, w_astore_2, w_astorez_2, w_astorev_2, m_o_n, m_o_f, w_aload_2, w_aloadz_2, w_aloadv_2, pf_705, gf_384, gf_522, pf_706, gf_521, w_if_eq, w_isub, w_iret, tg_107_12, tg_107_22, tg_107_77, w_icmp_eq, hs_n, hs_k, hs_l, hs_R, hs_I, hs_L, hs_setI, hs_setL, hs_cpy, hs_setR, hs_mk, kr3, rr0, rr2, rtk, k03, up_eq, up_na, up_nk, zr_eq, zr_na, sR_eq, sR_na, sR_nk, hR_old, hR_new, h_n_setR, h_n_mk, i_add, i_sub, i_mul, i_tn, i_nat, Int.reduceToNat, Int.reduceAdd, Int.reduceSub, Int.reduceMul, Int.reduceNeg, l_32, l_nat, l_c_lt, l_c_gt, l_c_eq, i_lt, i_eq, i_lt0, i_0lt, i_eq0, i_eq1, Int.reduceLT, Int.reduceEq, Int.reduceLE, Int.reduceNe, not_true_eq_false, not_false_eq_true, Nat.lt_irrefl, Int.lt_irrefl, eq_self, eq_self, Nat.reduceAdd, Nat.reduceMul, Nat.reduceSub, Nat.reduceDiv, Nat.reduceMod, Nat.reduceEqDiff, Nat.reduceLeDiff, Nat.reduceLT, Nat.zero_add, Nat.add_zero, Nat.zero_le, and_false, and_true, and_self, false_and, true_and, or_false, or_true, if_true, if_false, ite_true, ite_false, ↓reduceIte, Int.reduceToNat, Int.reduceAdd, Int.reduceSub, Int.reduceMul, Int.reduceNeg, ce]
      rw [k_107_77]
      simp (disch := first | omega | (simp (disch := first | omega | (simp only [h_n_setR, h_n_mk, hs_n]; first | done | omega)) only [i_lt0, i_tn, i_nn, m_cat_n, m_cat_i, m_cat_r, m_cat_z, m_cat_rv, m_cat_l, m_o_n, m_o_i, m_o_r, m_o_z, m_o_rv, m_o_f, hs_n, hs_k, hs_l, h_n_setR, h_n_mk, h_k_setR, h_l_setR, hk_old, hk_new, hl_old, hl_new, Nat.reduceLeDiff, not_false_eq_true, or_true, true_or, or_false, false_or, kr3, rr0, rr2, rtk, k03]; first | done | omega) | exact Or.inl rfl | exact Or.inr rfl) only [k_107_77, w_aload_0, w_aloadz_0, w_aloadv_0, w_new, nf_10, w_dup_i, w_dup_r, w_dup_z, w_dup_v, w_aload_2, w_aloadz_2, w_aloadv_2, gf_386, m_rv_s, m_rv_n, m_cat_n, m_cat_i, m_cat_r, m_cat_z, m_cat_rv, m_cat_l, Nat.zero_le, Nat.reduceLeDiff, Nat.reduceAdd, m_o_i, m_o_r, m_o_z, m_o_rv, m_C_inl, Option.toList_some, Option.toList_none, List.cons_append, List.nil_append, pf_707, pfz_707, pfv_707, gf_708, w_iconst, pf_710, gf_321, w_iret, tg_107_12, tg_107_22, tg_107_77, w_icmp_eq, w_if_eq, hs_n, hs_k, hs_l, hs_R, hs_I, hs_L, hs_setI, hs_setL, hs_cpy, hs_setR, hs_mk, kr3, rr0, rr2, rtk, k03, up_eq, up_na, up_nk, zr_eq, zr_na, sR_eq, sR_na, sR_nk, hR_old, hR_new, h_n_setR, h_n_mk, i_add, i_sub, i_mul, i_tn, i_nat, Int.reduceToNat, Int.reduceAdd, Int.reduceSub, Int.reduceMul, Int.reduceNeg, l_32, l_nat, l_c_lt, l_c_gt, l_c_eq, i_lt, i_eq, i_lt0, i_0lt, i_eq0, i_eq1, Int.reduceLT, Int.reduceEq, Int.reduceLE, Int.reduceNe, not_true_eq_false, not_false_eq_true, Nat.lt_irrefl, Int.lt_irrefl, eq_self, eq_self, Nat.reduceAdd, Nat.reduceMul, Nat.reduceSub, Nat.reduceDiv, Nat.reduceMod, Nat.reduceEqDiff, Nat.reduceLeDiff, Nat.reduceLT, Nat.zero_add, Nat.add_zero, Nat.zero_le, and_false, and_true, and_self, false_and, true_and, or_false, or_true, if_true, if_false, ite_true, ite_false, ↓reduceIte, Int.reduceToNat, Int.reduceAdd, Int.reduceSub, Int.reduceMul, Int.reduceNeg]
      simp (disch := first | omega | (simp (disch := first | omega | (simp only [h_n_setR, h_n_mk, hs_n]; first | done | omega)) only [i_lt0, i_tn, i_nn, m_cat_n, m_cat_i, m_cat_r, m_cat_z, m_cat_rv, m_cat_l, m_o_n, m_o_i, m_o_r, m_o_z, m_o_rv, m_o_f, hs_n, hs_k, hs_l, h_n_setR, h_n_mk, h_k_setR, h_l_setR, hk_old, hk_new, hl_old, hl_new, Nat.reduceLeDiff, not_false_eq_true, or_true, true_or, or_false, false_or, kr3, rr0, rr2, rtk, k03]; first | done | omega) | exact Or.inl rfl | exact Or.inr rfl) only [cl_77, m_cat_n, m_cat_i, m_cat_r, m_cat_z, m_cat_rv, m_cat_l, Nat.zero_le, Nat.reduceLeDiff, Nat.reduceAdd, m_o_i, m_o_r, m_o_z, m_o_rv, hs_n, hs_k, h_n_setR, h_n_mk]
      refine t_77 (u := m_n h3) (p := m_n h + 7) (by rw [h_n_mk]; omega) (hk_new rfl) (by rw [h_n_mk]; omega) (by rw [hk_old (by omega)]; exact rpk) (by rw [h_n_mk]; omega) (by rw [h_n_mk]; omega) (fun h5 F5 W5 up5 G5 U0 U5 e5 f5 => ?_)
      rw [h_n_mk] at W5 U5 f5
      have G6 := G5
      obtain ⟨q1, q2, q3, q4, q5⟩ := G6
      rw [h_n_mk] at q1 q4 q5
      rw [h_c_mk] at q2
      rw [h_s_mk] at q3
      have ek5 : ∀ x, x < m_n h3 → m_k h5 x = m_k h3 x ∧ m_l h5 x = m_l h3 x := fun x hx => by rw [(q4 x (by omega)).1, (q4 x (by omega)).2, hk_old (by omega), hl_old (by omega)]; exact ⟨rfl, rfl⟩
      have eR5 : ∀ x y, x < m_n h3 → m_R h5 x y = m_R h3 x y := fun x y hx => by rw [q5 x y (by omega) (by omega), hR_old (by omega)]
      have k05 : m_k h5 0 = 11 := by rw [(ek5 0 (by omega)).1]; exact k03
      have k135 : m_k h5 133 = 3 := by rw [(ek5 133 (by omega)).1, (kl 133 (by omega)).1]; exact k133
      have r045 : m_R (m_setR h5 0 3 (some (m_n h3))) 0 4 = some 133 := by rw [sR_nk (by omega), eR5 0 4 (by omega), (kl 0 (by omega)).2.2 4]; exact r04
      have kr5 : m_k h5 (m_n h) = 6 := by rw [(ek5 _ (by omega)).1]; exact kr3
      have rr25 : m_R (m_setR h5 0 3 (some (m_n h3))) (m_n h) 2 = some (m_n h + 7) := by rw [sR_na (by omega), eR5 _ _ (by omega)]; exact rr2
      have kp5 : m_k h5 (m_n h + 7) = 5 := by rw [(ek5 _ (by omega)).1]; exact rpk
      simp (disch := first | omega | (simp (disch := first | omega | (simp only [h_n_setR, h_n_mk, hs_n]; first | done | omega)) only [i_lt0, i_tn, i_nn, m_cat_n, m_cat_i, m_cat_r, m_cat_z, m_cat_rv, m_cat_l, m_o_n, m_o_i, m_o_r, m_o_z, m_o_rv, m_o_f, hs_n, hs_k, hs_l, h_n_setR, h_n_mk, h_k_setR, h_l_setR, hk_old, hk_new, hl_old, hl_new, Nat.reduceLeDiff, not_false_eq_true, or_true, true_or, or_false, false_or, k05, k135, r045, kr5, rr25, kp5, h_k_setR, h_l_setR]; first | done | omega) | exact Or.inl rfl | exact Or.inr rfl) only [k_107_77, w_aload_0, w_aloadz_0, w_aloadv_0, w_new, nf_10, w_dup_i, w_dup_r, w_dup_z, w_dup_v, w_aload_2, w_aloadz_2, w_aloadv_2, gf_386, m_rv_s, m_rv_n, m_cat_n, m_cat_i, m_cat_r, m_cat_z, m_cat_rv, m_cat_l, Nat.zero_le, Nat.reduceLeDiff, Nat.reduceAdd, m_o_i, m_o_r, m_o_z, m_o_rv, m_C_inl, Option.toList_some, Option.toList_none, List.cons_append, List.nil_append, pf_707, pfz_707, pfv_707, gf_708, cl_20, w_iconst, pf_710, gf_321, w_iret, tg_107_12, tg_107_22, tg_107_77, k_20_0, pf_194, w_vret, w_icmp_eq, w_if_eq, hs_n, hs_k, hs_l, hs_R, hs_I, hs_L, hs_setI, hs_setL, hs_cpy, hs_setR, hs_mk, k05, k135, r045, kr5, rr25, kp5, h_k_setR, h_l_setR, up_eq, up_na, up_nk, zr_eq, zr_na, sR_eq, sR_na, sR_nk, hR_old, hR_new, h_n_setR, h_n_mk, i_add, i_sub, i_mul, i_tn, i_nat, Int.reduceToNat, Int.reduceAdd, Int.reduceSub, Int.reduceMul, Int.reduceNeg, l_32, l_nat, l_c_lt, l_c_gt, l_c_eq, i_lt, i_eq, i_lt0, i_0lt, i_eq0, i_eq1, Int.reduceLT, Int.reduceEq, Int.reduceLE, Int.reduceNe, not_true_eq_false, not_false_eq_true, Nat.lt_irrefl, Int.lt_irrefl, eq_self, eq_self, Nat.reduceAdd, Nat.reduceMul, Nat.reduceSub, Nat.reduceDiv, Nat.reduceMod, Nat.reduceEqDiff, Nat.reduceLeDiff, Nat.reduceLT, Nat.zero_add, Nat.add_zero, Nat.zero_le, and_false, and_true, and_self, false_and, true_and, or_false, or_true, if_true, if_false, ite_true, ite_false, ↓reduceIte, Int.reduceToNat, Int.reduceAdd, Int.reduceSub, Int.reduceMul, Int.reduceNeg]
      have ff : ∀ x y, x < m_n h3 → ¬ x = 0 → F5 x y = F3 x y := fun x y hx h1 => by rw [f5 x y (by omega) (by omega), zr_na (by omega)]; simp (disch := omega) only [up_na]
      have f01 : F5 0 1 = 0 := by rw [f5 _ _ (by omega) (by omega), zr_na (by omega)]; simp (disch := omega) only [up_eq, up_na, up_nk]
      refine hQ x1 x2 _ _ _ _ _ _ (CI_ld (n := m_n h3) I0 rfl S3 B3 C3 D3 kl fl rfl (by omega) W5 up5 G5 ?_ ?_ ⟨?_, ?_, ?_, ?_⟩) ⟨?_, ?_, ?_, ?_, fun x h1 h2 => ⟨?_, ?_, fun y => ?_⟩, fun x y h1 h2 => ?_⟩ ?_
      · intro nd nc
        refine q_u_cg (fun x y hc => ?_) (U5 nd nc)
        unfold q_uc at hc
        simp (disch := omega) only [up_na]
      · intro x y hx h1 h2
        simp (disch := omega) only [up_na]
        exact ff x y hx h1
      · simp (disch := omega) only [up_eq, up_na, up_nk, f01]
        omega
      · simp (disch := omega) only [up_eq, up_na, up_nk, true_or]
      · simp (disch := omega) only [up_eq, up_na, up_nk]
        rw [ff _ _ (by omega) (by omega), g02]
        omega
      · simp (disch := omega) only [up_eq, up_na, up_nk]
        omega
      · rw [h_n_setR]; omega
      · rw [h_n_setR]; omega
      · rw [h_c_setR]; omega
      · rw [h_s_setR]; omega
      · rw [h_k_setR, (ek5 x (by omega)).1]
        exact (kl x (by omega)).1
      · rw [h_l_setR, (ek5 x (by omega)).2]
        exact (kl x (by omega)).2.1
      · rw [sR_na (by omega), eR5 x y (by omega)]
        exact (kl x (by omega)).2.2 y
      · simp (disch := omega) only [up_na]
        rw [ff x y (by omega) (by omega)]
        exact fl x y (by omega)
      · simp (disch := omega) only [up_eq, up_na, up_nk, f01]
    · simp (disch := first | omega | (simp (disch := first | omega | (simp only [h_n_setR, h_n_mk, hs_n]; first | done | omega)) only [i_lt0, i_tn, i_nn, m_cat_n, m_cat_i, m_cat_r, m_cat_z, m_cat_rv, m_cat_l, m_o_n, m_o_i, m_o_r, m_o_z, m_o_rv, m_o_f, hs_n, hs_k, hs_l, h_n_setR, h_n_mk, h_k_setR, h_l_setR, hk_old, hk_new, hl_old, hl_new, Nat.reduceLeDiff, not_false_eq_true, or_true, true_or, or_false, false_or, kr3, rr0, rr2, rtk, k03]; first | done | omega) | exact Or.inl rfl | exact Or.inr rfl) only [k_107_22, w_new, nf_6, w_dup_i, w_dup_r, w_dup_z, w_dup_v, w_aload_0, w_aloadz_0, w_aloadv_0, gf_704, m_rv_s, m_rv_n, w_iload_1, w_iconst, m_cat_n, m_cat_i, m_cat_r, m_cat_z, m_cat_rv, m_cat_l, Nat.zero_le, Nat.reduceLeDiff, Nat.reduceAdd, m_o_i, m_o_r, m_o_z, m_o_rv, m_C_inl, Option.toList_some, Option.toList_none, List.cons_append, List.nil_append, w_astore_2, w_astorez_2, w_astorev_2, m_o_n, m_o_f, w_aload_2, w_aloadz_2, w_aloadv_2, pf_705, gf_384, gf_522, pf_706, gf_521, w_if_eq, w_isub, w_iret, tg_107_12, tg_107_22, tg_107_77, w_icmp_eq, hs_n, hs_k, hs_l, hs_R, hs_I, hs_L, hs_setI, hs_setL, hs_cpy, hs_setR, hs_mk, kr3, rr0, rr2, rtk, k03, up_eq, up_na, up_nk, zr_eq, zr_na, sR_eq, sR_na, sR_nk, hR_old, hR_new, h_n_setR, h_n_mk, i_add, i_sub, i_mul, i_tn, i_nat, Int.reduceToNat, Int.reduceAdd, Int.reduceSub, Int.reduceMul, Int.reduceNeg, l_32, l_nat, l_c_lt, l_c_gt, l_c_eq, i_lt, i_eq, i_lt0, i_0lt, i_eq0, i_eq1, Int.reduceLT, Int.reduceEq, Int.reduceLE, Int.reduceNe, not_true_eq_false, not_false_eq_true, Nat.lt_irrefl, Int.lt_irrefl, eq_self, eq_self, Nat.reduceAdd, Nat.reduceMul, Nat.reduceSub, Nat.reduceDiv, Nat.reduceMod, Nat.reduceEqDiff, Nat.reduceLeDiff, Nat.reduceLT, Nat.zero_add, Nat.add_zero, Nat.zero_le, and_false, and_true, and_self, false_and, true_and, or_false, or_true, if_true, if_false, ite_true, ite_false, ↓reduceIte, Int.reduceToNat, Int.reduceAdd, Int.reduceSub, Int.reduceMul, Int.reduceNeg, ce]
      have IE := CI_ext (F' := F3) I0 (by omega) (by omega) (fun x hx => ⟨(kl x hx).1, (kl x hx).2.1⟩) (fun x y hx => (kl x hx).2.2 y) fl
      refine hQ x1 x2 _ _ _ _ _ _ (CI_I IE (fun x y h1 h2 h3 => by simp (disch := omega) only [up_na]) ⟨?_, ?_, ?_, ?_⟩) ⟨by omega, by omega, by omega, by omega, fun x h1 h2 => kl x (by omega), fun x y h1 h2 => ?_⟩ ?_
      · simp (disch := omega) only [up_eq, up_na, up_nk]
        omega
      · simp (disch := omega) only [up_eq, up_na, up_nk, g06]
        exact f6
      · simp (disch := omega) only [up_eq, up_na, up_nk, g02]
        omega
      · simp (disch := omega) only [up_eq, up_na, up_nk, g03]
        omega
      · simp (disch := omega) only [up_na]
        exact fl x y (by omega)
      · simp (disch := omega) only [up_eq, up_na, up_nk]
  · rw [k_107_0]
    (repeat' (first | (simp (disch := first | omega | (simp (disch := omega) only [i_lt0, i_tn, i_nn, m_cat_n, m_cat_i, m_cat_r, m_cat_z, m_cat_rv, m_cat_l, m_o_n, m_o_i, m_o_r, m_o_z, m_o_rv, m_o_f, hs_n, hs_k, hs_l, Nat.reduceLeDiff, not_false_eq_true, or_true, true_or, or_false, false_or, k0, r00, k1, l1, r04, k133, r133, k134, l134, r03, ku, up, kp]; first | done | omega) | exact Or.inl rfl | exact Or.inr rfl) only [w_iload_1, w_if_lt, w_aload_0, w_aloadz_0, w_aloadv_0, gf_705, m_rv_s, m_rv_n, w_icmp_le, tg_107_12, tg_107_22, tg_107_77, m_C_inl, Option.toList_some, Option.toList_none, List.cons_append, List.nil_append, w_icmp_eq, w_if_eq, hs_n, hs_k, hs_l, hs_R, hs_I, hs_L, hs_setI, hs_setL, hs_cpy, k0, r00, k1, l1, r04, k133, r133, k134, l134, r03, ku, up, kp, up_up, up_sw, up_sa, up_eq, up_na, up_nk, cp_na, i_add, i_sub, i_mul, i_tn, i_nat, Int.reduceToNat, Int.reduceAdd, Int.reduceSub, Int.reduceMul, Int.reduceNeg, l_32, l_nat, l_c_lt, l_c_gt, l_c_eq, i_lt, i_eq, i_lt0, i_0lt, i_eq0, i_eq1, Int.reduceLT, Int.reduceEq, Int.reduceLE, Int.reduceNe, not_true_eq_false, not_false_eq_true, Nat.lt_irrefl, Int.lt_irrefl, eq_self, eq_self, Nat.reduceAdd, Nat.reduceMul, Nat.reduceSub, Nat.reduceDiv, Nat.reduceMod, Nat.reduceEqDiff, Nat.reduceLeDiff, Nat.reduceLT, Nat.zero_add, Nat.add_zero, Nat.zero_le, and_false, and_true, and_self, false_and, true_and, or_false, or_true, if_true, if_false, ite_true, ite_false, ↓reduceIte, Int.reduceToNat, Int.reduceAdd, Int.reduceSub, Int.reduceMul, Int.reduceNeg, hs_bump]) | split | (simp (disch := first | omega | (simp (disch := omega) only [i_lt0, i_tn, i_nn, m_cat_n, m_cat_i, m_cat_r, m_cat_z, m_cat_rv, m_cat_l, m_o_n, m_o_i, m_o_r, m_o_z, m_o_rv, m_o_f, hs_n, hs_k, hs_l, Nat.reduceLeDiff, not_false_eq_true, or_true, true_or, or_false, false_or, k0, r00, k1, l1, r04, k133, r133, k134, l134, r03, ku, up, kp]; first | done | omega) | exact Or.inl rfl | exact Or.inr rfl) only [k_107_12, wt_107, mc_107, m_cat_n, m_cat_i, m_cat_r, m_cat_z, m_cat_rv, Nat.zero_le, Nat.reduceLeDiff, Nat.reduceAdd, tg_107_12, tg_107_22, tg_107_77, m_C_inl, Option.toList_some, Option.toList_none, List.cons_append, List.nil_append, w_icmp_eq, w_if_eq, hs_n, hs_k, hs_l, hs_R, hs_I, hs_L, hs_setI, hs_setL, hs_cpy, k0, r00, k1, l1, r04, k133, r133, k134, l134, r03, ku, up, kp, up_up, up_sw, up_sa, up_eq, up_na, up_nk, cp_na, i_add, i_sub, i_mul, i_tn, i_nat, Int.reduceToNat, Int.reduceAdd, Int.reduceSub, Int.reduceMul, Int.reduceNeg, l_32, l_nat, l_c_lt, l_c_gt, l_c_eq, i_lt, i_eq, i_lt0, i_0lt, i_eq0, i_eq1, Int.reduceLT, Int.reduceEq, Int.reduceLE, Int.reduceNe, not_true_eq_false, not_false_eq_true, Nat.lt_irrefl, Int.lt_irrefl, eq_self, eq_self, Nat.reduceAdd, Nat.reduceMul, Nat.reduceSub, Nat.reduceDiv, Nat.reduceMod, Nat.reduceEqDiff, Nat.reduceLeDiff, Nat.reduceLT, Nat.zero_add, Nat.add_zero, Nat.zero_le, and_false, and_true, and_self, false_and, true_and, or_false, or_true, if_true, if_false, ite_true, ite_false, ↓reduceIte, Int.reduceToNat, Int.reduceAdd, Int.reduceSub, Int.reduceMul, Int.reduceNeg, hs_bump])))
    all_goals first
      | (exfalso; omega)
      | exact hE c
