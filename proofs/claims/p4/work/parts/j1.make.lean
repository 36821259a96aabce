/-! objects made, exactly -/
/-- a new driver's numbers -/
def q_dz (F : m_M) (a c : Nat) (x : Int) : Prop := (F a 0 = x ∧ F a 1 = 0 ∧ F a 3 = 0 ∧ F a 4 = 0 ∧ F a 8 = 0 ∧ F a 9 = -1 ∧ F a 10 = -1 ∧ F a 11 = 0 ∧ F a 12 = 2147483647 ∧ F a 13 = 0 ∧ F a 14 = 0 ∧ F a 15 = 0) ∧ ∀ k, F c k = 0 ∧ F (c + 1) k = 0 ∧ F (c + 2) k = 0
theorem dz_cg {F F' : m_M} {a c : Nat} {x : Int} (h : ∀ i k, (i = a ∨ i = c ∨ i = c + 1 ∨ i = c + 2) → F' i k = F i k) (z : q_dz F a c x) : q_dz F' a c x := by
  obtain ⟨⟨a0, a1, a3, a4, a8, a9, a10, a11, a12, a13, a14, a15⟩, b⟩ := z
  have e : ∀ k, F' a k = F a k := fun k => h a k (Or.inl rfl)
  refine ⟨⟨(e 0).trans a0, (e 1).trans a1, (e 3).trans a3, (e 4).trans a4, (e 8).trans a8, (e 9).trans a9, (e 10).trans a10, (e 11).trans a11, (e 12).trans a12, (e 13).trans a13, (e 14).trans a14, (e 15).trans a15⟩, fun k => ?_⟩
  rw [h c k (by omega), h (c + 1) k (by omega), h (c + 2) k (by omega)]
  exact b k
/-- h' is h grown by n cells and s slots; of what was, only references of a changed -/
def q_gr (h h' : m_H) (a n s : Nat) : Prop := m_n h' = m_n h + n ∧ m_c h' = m_c h + n ∧ m_s h' = m_s h + s ∧ (∀ x, x < m_n h → m_k h' x = m_k h x ∧ m_l h' x = m_l h x) ∧ (∀ x y, x < m_n h → ¬ x = a → m_R h' x y = m_R h x y)
set_option maxHeartbeats 4000000 in
theorem n_6 {L : Nat} {xs : Nat → Int32} {d : Nat} {h : m_H} {w : Int64} {F : m_M} {Q : Option Value ⊕ Nat → m_H → Prop} {a : Nat} {x : Int} (h1 : a < m_n h) (h2 : m_k h a = 2) (h3 : m_n h + 4 < m_X) (h5 : 135 < m_n h ∨ m_n h + 4 < 135) (hQ : ∀ (h' : m_H) (F' : m_M), q_gr h h' a 3 38 → (m_R h' a 5 = some (m_n h) ∧ m_R h' a 6 = some (m_n h + 1) ∧ m_R h' a 7 = some (m_n h + 2)) → (m_k h' (m_n h) = 100 ∧ m_l h' (m_n h) = 14 ∧ m_k h' (m_n h + 1) = 100 ∧ m_l h' (m_n h + 1) = 4 ∧ m_k h' (m_n h + 2) = 100 ∧ m_l h' (m_n h + 2) = 20) → (∀ x y, x < m_n h → ¬ x = a → F' x y = F x y) → q_dz F' a (m_n h) x → Q (.inl none) (m_hS h' (w, F'))) : m_W (p_P L xs) d 6 k_6_0 [some (.ref a), some (.int (Int32.ofInt x))] [] (m_hS h (w, F)) Q := by
  rw [k_6_0]
  simp (disch := first | omega | (simp (disch := first | omega | (simp only [h_n_setR, h_n_mk, hs_n]; first | done | omega)) only [i_lt0, i_tn, i_nn, m_cat_n, m_cat_i, m_cat_r, m_cat_z, m_cat_rv, m_cat_l, m_o_n, m_o_i, m_o_r, m_o_z, m_o_rv, m_o_f, hs_n, hs_k, hs_l, h_n_setR, h_n_mk, h_k_setR, h_l_setR, hk_old, hk_new, hl_old, hl_new, Nat.reduceLeDiff, not_false_eq_true, or_true, true_or, or_false, false_or, h2]; first | done | omega) | exact Or.inl rfl | exact Or.inr rfl) only [k_6_0, w_aload_0, w_aloadz_0, w_aloadv_0, m_cat_n, m_cat_i, m_cat_r, m_cat_z, m_cat_rv, m_cat_l, Nat.zero_le, Nat.reduceLeDiff, Nat.reduceAdd, w_obj, w_iconst, pf_129, pf_130, pf_131, pf_132, w_new_int, pf_133, pfz_133, pfv_133, pf_134, pfz_134, pfv_134, pf_135, pfz_135, pfv_135, pf_136, pf_137, pf_138, pf_139, pf_140, pf_141, pf_142, pf_143, w_iload_1, pf_128, w_vret, m_C_inl, Option.toList_some, Option.toList_none, List.cons_append, List.nil_append, w_icmp_eq, w_if_eq, hs_n, hs_k, hs_l, hs_R, hs_I, hs_L, hs_setI, hs_setL, hs_cpy, hs_setR, hs_mk, h2, up_eq, up_na, up_nk, zr_eq, zr_na, sR_eq, sR_na, sR_nk, hR_old, hR_new, h_n_setR, h_n_mk, i_add, i_sub, i_mul, i_tn, i_nat, Int.reduceToNat, Int.reduceAdd, Int.reduceSub, Int.reduceMul, Int.reduceNeg, l_32, l_nat, l_c_lt, l_c_gt, l_c_eq, i_lt, i_eq, i_lt0, i_0lt, i_eq0, i_eq1, Int.reduceLT, Int.reduceEq, Int.reduceLE, Int.reduceNe, not_true_eq_false, not_false_eq_true, Nat.lt_irrefl, Int.lt_irrefl, eq_self, eq_self, Nat.reduceAdd, Nat.reduceMul, Nat.reduceSub, Nat.reduceDiv, Nat.reduceMod, Nat.reduceEqDiff, Nat.reduceLeDiff, Nat.reduceLT, Nat.zero_add, Nat.add_zero, Nat.zero_le, and_false, and_true, and_self, false_and, true_and, or_false, or_true, if_true, if_false, ite_true, ite_false, ↓reduceIte, Int.reduceToNat, Int.reduceAdd, Int.reduceSub, Int.reduceMul, Int.reduceNeg]
  refine hQ _ _ ⟨?_, ?_, ?_, fun y hy => ⟨?_, ?_⟩, fun y k hy hk => ?_⟩ ⟨?_, ?_, ?_⟩ ⟨?_, ?_, ?_, ?_, ?_, ?_⟩ (fun y k hy hk => ?_) ⟨⟨?_, ?_, ?_, ?_, ?_, ?_, ?_, ?_, ?_, ?_, ?_, ?_⟩, fun k => ⟨?_, ?_, ?_⟩⟩
  all_goals simp (disch := first | omega | (simp only [h_n_setR, h_n_mk]; first | done | omega)) only [h_k_setR, h_l_setR, hk_old, hk_new, hl_old, hl_new, sR_na, sR_nk, sR_eq, hR_old, hR_new, h_n_setR, h_n_mk, h_c_setR, h_c_mk, h_s_setR, h_s_mk, up_eq, up_na, up_nk, zr_eq, zr_na, Nat.add_assoc, Nat.reduceAdd]
set_option maxHeartbeats 4000000 in
theorem n_51 {L : Nat} {xs : Nat → Int32} {d : Nat} {h : m_H} {w : Int64} {F : m_M} {Q : Option Value ⊕ Nat → m_H → Prop} {a : Nat} {x : Int} (h1 : a < m_n h) (h2 : m_k h a = 7) (hQ : ∀ (F' : m_M), (∀ x y, ¬ x = a → F' x y = F x y) → F' a 0 = x → Q (.inl none) (m_hS h (w, F'))) : m_W (p_P L xs) d 51 k_51_0 [some (.ref a), some (.int (Int32.ofInt x))] [] (m_hS h (w, F)) Q := by
  rw [k_51_0]
  simp (disch := first | omega | (simp (disch := first | omega | (simp only [h_n_setR, h_n_mk, hs_n]; first | done | omega)) only [i_lt0, i_tn, i_nn, m_cat_n, m_cat_i, m_cat_r, m_cat_z, m_cat_rv, m_cat_l, m_o_n, m_o_i, m_o_r, m_o_z, m_o_rv, m_o_f, hs_n, hs_k, hs_l, h_n_setR, h_n_mk, h_k_setR, h_l_setR, hk_old, hk_new, hl_old, hl_new, Nat.reduceLeDiff, not_false_eq_true, or_true, true_or, or_false, false_or, h2]; first | done | omega) | exact Or.inl rfl | exact Or.inr rfl) only [k_51_0, w_aload_0, w_aloadz_0, w_aloadv_0, m_cat_n, m_cat_i, m_cat_r, m_cat_z, m_cat_rv, m_cat_l, Nat.zero_le, Nat.reduceLeDiff, Nat.reduceAdd, w_obj, w_iconst, pf_449, pf_450, pf_451, pf_452, pf_453, pf_454, pf_455, pf_456, pf_457, pf_458, pf_459, pf_460, pf_461, pf_462, pf_463, w_iload_1, pf_448, w_vret, m_C_inl, Option.toList_some, Option.toList_none, List.cons_append, List.nil_append, w_icmp_eq, w_if_eq, hs_n, hs_k, hs_l, hs_R, hs_I, hs_L, hs_setI, hs_setL, hs_cpy, hs_setR, hs_mk, h2, up_eq, up_na, up_nk, zr_eq, zr_na, sR_eq, sR_na, sR_nk, hR_old, hR_new, h_n_setR, h_n_mk, i_add, i_sub, i_mul, i_tn, i_nat, Int.reduceToNat, Int.reduceAdd, Int.reduceSub, Int.reduceMul, Int.reduceNeg, l_32, l_nat, l_c_lt, l_c_gt, l_c_eq, i_lt, i_eq, i_lt0, i_0lt, i_eq0, i_eq1, Int.reduceLT, Int.reduceEq, Int.reduceLE, Int.reduceNe, not_true_eq_false, not_false_eq_true, Nat.lt_irrefl, Int.lt_irrefl, eq_self, eq_self, Nat.reduceAdd, Nat.reduceMul, Nat.reduceSub, Nat.reduceDiv, Nat.reduceMod, Nat.reduceEqDiff, Nat.reduceLeDiff, Nat.reduceLT, Nat.zero_add, Nat.add_zero, Nat.zero_le, and_false, and_true, and_self, false_and, true_and, or_false, or_true, if_true, if_false, ite_true, ite_false, ↓reduceIte, Int.reduceToNat, Int.reduceAdd, Int.reduceSub, Int.reduceMul, Int.reduceNeg]
  refine hQ _ (fun y k hk => ?_) ?_
  all_goals simp (disch := omega) only [up_eq, up_na, up_nk]
/-- a World in the making: i drivers and k requests stand -/
def CV (h : m_H) (u b i k : Nat) : Prop := (u < b ∧ m_n h = b + 8 + 4 * i + k) ∧ (m_k h u = 10 ∧ m_R h u 4 = some b ∧ m_R h u 5 = some (b + 1) ∧ m_R h u 6 = some (b + 2) ∧ m_k h b = 202 ∧ m_l h b = 4 ∧ m_k h (b + 1) = 207 ∧ m_l h (b + 1) = 100 ∧ m_k h (b + 2) = 4 ∧ m_R h (b + 2) 0 = some (b + 3) ∧ m_k h (b + 3) = 100 ∧ m_l h (b + 3) = 200 ∧ m_R h (b + 2) 1 = some (b + 4) ∧ m_k h (b + 4) = 100 ∧ m_l h (b + 4) = 200 ∧ m_R h (b + 2) 2 = some (b + 5) ∧ m_k h (b + 5) = 100 ∧ m_l h (b + 5) = 200 ∧ m_R h (b + 2) 3 = some (b + 6) ∧ m_k h (b + 6) = 100 ∧ m_l h (b + 6) = 200 ∧ m_R h (b + 2) 4 = some (b + 7) ∧ m_k h (b + 7) = 100 ∧ m_l h (b + 7) = 9) ∧ (∀ d, d < i → m_R h b d = some (b + 8 + 4 * d) ∧ m_k h (b + 8 + 4 * d) = 2 ∧ m_R h (b + 8 + 4 * d) 5 = some (b + 9 + 4 * d) ∧ m_R h (b + 8 + 4 * d) 6 = some (b + 10 + 4 * d) ∧ m_R h (b + 8 + 4 * d) 7 = some (b + 11 + 4 * d) ∧ m_k h (b + 9 + 4 * d) = 100 ∧ m_l h (b + 9 + 4 * d) = 14 ∧ m_k h (b + 10 + 4 * d) = 100 ∧ m_l h (b + 10 + 4 * d) = 4 ∧ m_k h (b + 11 + 4 * d) = 100 ∧ m_l h (b + 11 + 4 * d) = 20) ∧ (∀ q, q < k → m_R h (b + 1) q = some (b + 24 + q) ∧ m_k h (b + 24 + q) = 7)
theorem CV_CW {h : m_H} {u b : Nat} (hX : m_n h ≤ m_X) (V : CV h u b 4 100) : CW h u b := by
  obtain ⟨⟨v1, v2⟩, ⟨e0, e1, e2, e3, e4, e5, e6, e7, e8, e9, e10, e11, e12, e13, e14, e15, e16, e17, e18, e19, e20, e21, e22, e23⟩, D, Q⟩ := V
  exact ⟨by omega, by omega, hX, v1, e0, e1, e2, e3, e4, e5, e6, e7, e8, e9, e10, e11, e12, e13, e14, e15, e16, e17, e18, e19, e20, e21, e22, e23, D, Q⟩
/-- one more, out of h by way of a heap in which all below m_n h but one reference (r, i) stands as it was -/
theorem CV_cg {h h' : m_H} {u b i k r y : Nat} (V : CV h u b i k) (hr : r = b ∧ i ≤ y ∨ r = b + 1 ∧ k ≤ y) (hi : i ≤ 4) (h1 : ∀ x, x < m_n h → m_k h' x = m_k h x ∧ m_l h' x = m_l h x) (h2 : ∀ x z, x < m_n h → ¬ (x = r ∧ z = y) → m_R h' x z = m_R h x z) : (m_k h' u = 10 ∧ m_R h' u 4 = some b ∧ m_R h' u 5 = some (b + 1) ∧ m_R h' u 6 = some (b + 2) ∧ m_k h' b = 202 ∧ m_l h' b = 4 ∧ m_k h' (b + 1) = 207 ∧ m_l h' (b + 1) = 100 ∧ m_k h' (b + 2) = 4 ∧ m_R h' (b + 2) 0 = some (b + 3) ∧ m_k h' (b + 3) = 100 ∧ m_l h' (b + 3) = 200 ∧ m_R h' (b + 2) 1 = some (b + 4) ∧ m_k h' (b + 4) = 100 ∧ m_l h' (b + 4) = 200 ∧ m_R h' (b + 2) 2 = some (b + 5) ∧ m_k h' (b + 5) = 100 ∧ m_l h' (b + 5) = 200 ∧ m_R h' (b + 2) 3 = some (b + 6) ∧ m_k h' (b + 6) = 100 ∧ m_l h' (b + 6) = 200 ∧ m_R h' (b + 2) 4 = some (b + 7) ∧ m_k h' (b + 7) = 100 ∧ m_l h' (b + 7) = 9) ∧ (∀ d, d < i → m_R h' b d = some (b + 8 + 4 * d) ∧ m_k h' (b + 8 + 4 * d) = 2 ∧ m_R h' (b + 8 + 4 * d) 5 = some (b + 9 + 4 * d) ∧ m_R h' (b + 8 + 4 * d) 6 = some (b + 10 + 4 * d) ∧ m_R h' (b + 8 + 4 * d) 7 = some (b + 11 + 4 * d) ∧ m_k h' (b + 9 + 4 * d) = 100 ∧ m_l h' (b + 9 + 4 * d) = 14 ∧ m_k h' (b + 10 + 4 * d) = 100 ∧ m_l h' (b + 10 + 4 * d) = 4 ∧ m_k h' (b + 11 + 4 * d) = 100 ∧ m_l h' (b + 11 + 4 * d) = 20) ∧ (∀ q, q < k → 4 ≤ i → m_R h' (b + 1) q = some (b + 24 + q) ∧ m_k h' (b + 24 + q) = 7) := by
  obtain ⟨⟨v1, v2⟩, ⟨e0, e1, e2, e3, e4, e5, e6, e7, e8, e9, e10, e11, e12, e13, e14, e15, e16, e17, e18, e19, e20, e21, e22, e23⟩, D, Q⟩ := V
  have K : ∀ x, x < m_n h → m_k h' x = m_k h x := fun x hx => (h1 x hx).1
  have M : ∀ x, x < m_n h → m_l h' x = m_l h x := fun x hx => (h1 x hx).2
  refine ⟨⟨?_, ?_, ?_, ?_, ?_, ?_, ?_, ?_, ?_, ?_, ?_, ?_, ?_, ?_, ?_, ?_, ?_, ?_, ?_, ?_, ?_, ?_, ?_, ?_⟩, fun d hd => ?_, fun q hq q4 => ?_⟩
  · rw [K _ (by omega)]
    exact e0
  · rw [h2 _ _ (by omega) (by omega)]
    exact e1
  · rw [h2 _ _ (by omega) (by omega)]
    exact e2
  · rw [h2 _ _ (by omega) (by omega)]
    exact e3
  · rw [K _ (by omega)]
    exact e4
  · rw [M _ (by omega)]
    exact e5
  · rw [K _ (by omega)]
    exact e6
  · rw [M _ (by omega)]
    exact e7
  · rw [K _ (by omega)]
    exact e8
  · rw [h2 _ _ (by omega) (by omega)]
    exact e9
  · rw [K _ (by omega)]
    exact e10
  · rw [M _ (by omega)]
    exact e11
  · rw [h2 _ _ (by omega) (by omega)]
    exact e12
  · rw [K _ (by omega)]
    exact e13
  · rw [M _ (by omega)]
    exact e14
  · rw [h2 _ _ (by omega) (by omega)]
    exact e15
  · rw [K _ (by omega)]
    exact e16
  · rw [M _ (by omega)]
    exact e17
  · rw [h2 _ _ (by omega) (by omega)]
    exact e18
  · rw [K _ (by omega)]
    exact e19
  · rw [M _ (by omega)]
    exact e20
  · rw [h2 _ _ (by omega) (by omega)]
    exact e21
  · rw [K _ (by omega)]
    exact e22
  · rw [M _ (by omega)]
    exact e23
  · have := D d hd
    rw [h2 _ _ (by omega) (by omega), K _ (by omega), h2 _ _ (by omega) (by omega), h2 _ _ (by omega) (by omega), h2 _ _ (by omega) (by omega), K _ (by omega), M _ (by omega), K _ (by omega), M _ (by omega), K _ (by omega), M _ (by omega)]
    exact this
  · have := Q q hq
    rw [h2 _ _ (by omega) (by omega), K _ (by omega)]
    exact this
/-- the ints of a World in the making -/
def q_fv (u b p i k N : Nat) (F0 F : m_M) : Prop := (∀ x y, x < N → ¬ x = u → F x y = F0 x y) ∧ (F u 1 = 0 ∧ F u 2 = 0 ∧ F u 3 = F0 p 3) ∧ (F (b + 2) 5 = 0 ∧ F (b + 2) 6 = 0 ∧ ∀ k, F (b + 7) k = 0) ∧ (∀ d : Nat, d < i → q_dz F (b + 8 + 4 * d) (b + 9 + 4 * d) d) ∧ (∀ q : Nat, q < k → F (b + 24 + q) 0 = q)
def q_gv (h0 h : m_H) (u p b i k : Nat) : Prop := (m_c h = m_c h0 + 8 + 4 * i + k ∧ m_s h = m_s h0 + 920 + 54 * i + 16 * k ∧ (∀ x, x < b → m_k h x = m_k h0 x ∧ m_l h x = m_l h0 x) ∧ (∀ x y, x < b → ¬ x = u → m_R h x y = m_R h0 x y) ∧ m_R h u 0 = some p)
set_option maxHeartbeats 4000000 in
theorem nQ_77 {L : Nat} {xs : Nat → Int32} {d : Nat} {w : Int64} {Q : Option Value ⊕ Nat → m_H → Prop} {h0 : m_H} {F0 : m_M} {u b p : Nat} (hb : 135 < b ∨ b + 124 < 135) (hX : b + 124 ≤ m_X) (hQ : ∀ (h : m_H) (F : m_M), CV h u b 4 100 → q_gv h0 h u p b 4 100 → q_fv u b p 4 100 b F0 F → Q (.inl none) (m_hS h (w, F))) : ∀ (n k : Nat) (h : m_H) (F : m_M), CV h u b 4 k → q_gv h0 h u p b 4 k → q_fv u b p 4 k b F0 F → k ≤ 100 → 100 - k ≤ n → m_W (p_P L xs) (d + 1) 77 k_77_88 [some (.ref u), some (.ref p), some (.int (Int32.ofInt (k : Int)))] [] (m_hS h (w, F)) Q := by
  intro n
  induction n with
  | zero =>
    intro k h F V G H h0 h1
    obtain rfl : k = 100 := by omega
    have V0 := V
    obtain ⟨⟨v1, v2⟩, ⟨e0, e1, e2, e3, e4, e5, e6, e7, e8, e9, e10, e11, e12, e13, e14, e15, e16, e17, e18, e19, e20, e21, e22, e23⟩, D, Qq⟩ := V
    rw [k_77_88]
    simp (disch := first | omega | (simp (disch := first | omega | (simp only [h_n_setR, h_n_mk, hs_n]; first | done | omega)) only [i_lt0, i_tn, i_nn, m_cat_n, m_cat_i, m_cat_r, m_cat_z, m_cat_rv, m_cat_l, m_o_n, m_o_i, m_o_r, m_o_z, m_o_rv, m_o_f, hs_n, hs_k, hs_l, h_n_setR, h_n_mk, h_k_setR, h_l_setR, hk_old, hk_new, hl_old, hl_new, Nat.reduceLeDiff, not_false_eq_true, or_true, true_or, or_false, false_or, e0, e1, e2, e3, e4, e5, e6, e7, e8, e9, e10, e11, e12, e13, e14, e15, e16, e17, e18, e19, e20, e21, e22, e23]; first | done | omega) | exact Or.inl rfl | exact Or.inr rfl) only [k_77_88, k_77_117, w_iload_2, w_aload_0, w_aloadz_0, w_aloadv_0, gf_645, m_rv_s, m_rv_n, w_len, w_slen, w_icmp_ge, w_new, nf_7, w_dup_i, w_dup_r, w_dup_z, w_dup_v, m_cat_n, m_cat_i, m_cat_r, m_cat_z, m_cat_rv, m_cat_l, Nat.zero_le, Nat.reduceLeDiff, Nat.reduceAdd, m_o_i, m_o_r, m_o_z, m_o_rv, m_C_inl, Option.toList_some, Option.toList_none, List.cons_append, List.nil_append, w_aastore, w_iinc_2, m_o_n, m_o_f, w_goto, w_vret, tg_77_57, tg_77_86, tg_77_88, tg_77_117, w_icmp_eq, w_if_eq, hs_n, hs_k, hs_l, hs_R, hs_I, hs_L, hs_setI, hs_setL, hs_cpy, hs_setR, hs_mk, e0, e1, e2, e3, e4, e5, e6, e7, e8, e9, e10, e11, e12, e13, e14, e15, e16, e17, e18, e19, e20, e21, e22, e23, up_eq, up_na, up_nk, zr_eq, zr_na, sR_eq, sR_na, sR_nk, hR_old, hR_new, h_n_setR, h_n_mk, i_add, i_sub, i_mul, i_tn, i_nat, Int.reduceToNat, Int.reduceAdd, Int.reduceSub, Int.reduceMul, Int.reduceNeg, l_32, l_nat, l_c_lt, l_c_gt, l_c_eq, i_lt, i_eq, i_lt0, i_0lt, i_eq0, i_eq1, Int.reduceLT, Int.reduceEq, Int.reduceLE, Int.reduceNe, not_true_eq_false, not_false_eq_true, Nat.lt_irrefl, Int.lt_irrefl, eq_self, eq_self, Nat.reduceAdd, Nat.reduceMul, Nat.reduceSub, Nat.reduceDiv, Nat.reduceMod, Nat.reduceEqDiff, Nat.reduceLeDiff, Nat.reduceLT, Nat.zero_add, Nat.add_zero, Nat.zero_le, and_false, and_true, and_self, false_and, true_and, or_false, or_true, if_true, if_false, ite_true, ite_false, ↓reduceIte, Int.reduceToNat, Int.reduceAdd, Int.reduceSub, Int.reduceMul, Int.reduceNeg, Int.reduceLT]
    exact hQ h F V0 G H
  | succ n ih =>
    intro k h F V G H h0 h1
    have V0 := V
    obtain ⟨⟨v1, v2⟩, ⟨e0, e1, e2, e3, e4, e5, e6, e7, e8, e9, e10, e11, e12, e13, e14, e15, e16, e17, e18, e19, e20, e21, e22, e23⟩, D, Qq⟩ := V
    by_cases e : k = 100
    · subst e
      rw [k_77_88]
      simp (disch := first | omega | (simp (disch := first | omega | (simp only [h_n_setR, h_n_mk, hs_n]; first | done | omega)) only [i_lt0, i_tn, i_nn, m_cat_n, m_cat_i, m_cat_r, m_cat_z, m_cat_rv, m_cat_l, m_o_n, m_o_i, m_o_r, m_o_z, m_o_rv, m_o_f, hs_n, hs_k, hs_l, h_n_setR, h_n_mk, h_k_setR, h_l_setR, hk_old, hk_new, hl_old, hl_new, Nat.reduceLeDiff, not_false_eq_true, or_true, true_or, or_false, false_or, e0, e1, e2, e3, e4, e5, e6, e7, e8, e9, e10, e11, e12, e13, e14, e15, e16, e17, e18, e19, e20, e21, e22, e23]; first | done | omega) | exact Or.inl rfl | exact Or.inr rfl) only [k_77_88, k_77_117, w_iload_2, w_aload_0, w_aloadz_0, w_aloadv_0, gf_645, m_rv_s, m_rv_n, w_len, w_slen, w_icmp_ge, w_new, nf_7, w_dup_i, w_dup_r, w_dup_z, w_dup_v, m_cat_n, m_cat_i, m_cat_r, m_cat_z, m_cat_rv, m_cat_l, Nat.zero_le, Nat.reduceLeDiff, Nat.reduceAdd, m_o_i, m_o_r, m_o_z, m_o_rv, m_C_inl, Option.toList_some, Option.toList_none, List.cons_append, List.nil_append, w_aastore, w_iinc_2, m_o_n, m_o_f, w_goto, w_vret, tg_77_57, tg_77_86, tg_77_88, tg_77_117, w_icmp_eq, w_if_eq, hs_n, hs_k, hs_l, hs_R, hs_I, hs_L, hs_setI, hs_setL, hs_cpy, hs_setR, hs_mk, e0, e1, e2, e3, e4, e5, e6, e7, e8, e9, e10, e11, e12, e13, e14, e15, e16, e17, e18, e19, e20, e21, e22, e23, up_eq, up_na, up_nk, zr_eq, zr_na, sR_eq, sR_na, sR_nk, hR_old, hR_new, h_n_setR, h_n_mk, i_add, i_sub, i_mul, i_tn, i_nat, Int.reduceToNat, Int.reduceAdd, Int.reduceSub, Int.reduceMul, Int.reduceNeg, l_32, l_nat, l_c_lt, l_c_gt, l_c_eq, i_lt, i_eq, i_lt0, i_0lt, i_eq0, i_eq1, Int.reduceLT, Int.reduceEq, Int.reduceLE, Int.reduceNe, not_true_eq_false, not_false_eq_true, Nat.lt_irrefl, Int.lt_irrefl, eq_self, eq_self, Nat.reduceAdd, Nat.reduceMul, Nat.reduceSub, Nat.reduceDiv, Nat.reduceMod, Nat.reduceEqDiff, Nat.reduceLeDiff, Nat.reduceLT, Nat.zero_add, Nat.add_zero, Nat.zero_le, and_false, and_true, and_self, false_and, true_and, or_false, or_true, if_true, if_false, ite_true, ite_false, ↓reduceIte, Int.reduceToNat, Int.reduceAdd, Int.reduceSub, Int.reduceMul, Int.reduceNeg, Int.reduceLT]
      exact hQ h F V0 G H
    · have e9 : (k : Int) < ((100 : Nat) : Int) := by omega
      rw [k_77_88]
      simp (disch := first | omega | (simp (disch := first | omega | (simp only [h_n_setR, h_n_mk, hs_n]; first | done | omega)) only [i_lt0, i_tn, i_nn, m_cat_n, m_cat_i, m_cat_r, m_cat_z, m_cat_rv, m_cat_l, m_o_n, m_o_i, m_o_r, m_o_z, m_o_rv, m_o_f, hs_n, hs_k, hs_l, h_n_setR, h_n_mk, h_k_setR, h_l_setR, hk_old, hk_new, hl_old, hl_new, Nat.reduceLeDiff, not_false_eq_true, or_true, true_or, or_false, false_or, e0, e1, e2, e3, e4, e5, e6, e7, e8, e9, e10, e11, e12, e13, e14, e15, e16, e17, e18, e19, e20, e21, e22, e23]; first | done | omega) | exact Or.inl rfl | exact Or.inr rfl) only [w_iload_2, w_aload_0, w_aloadz_0, w_aloadv_0, gf_645, m_rv_s, m_rv_n, w_len, w_slen, w_icmp_ge, w_new, nf_7, w_dup_i, w_dup_r, w_dup_z, w_dup_v, m_cat_n, m_cat_i, m_cat_r, m_cat_z, m_cat_rv, m_cat_l, Nat.zero_le, Nat.reduceLeDiff, Nat.reduceAdd, m_o_i, m_o_r, m_o_z, m_o_rv, m_C_inl, Option.toList_some, Option.toList_none, List.cons_append, List.nil_append, w_aastore, w_iinc_2, m_o_n, m_o_f, w_goto, tg_77_57, tg_77_86, tg_77_88, tg_77_117, w_icmp_eq, w_if_eq, hs_n, hs_k, hs_l, hs_R, hs_I, hs_L, hs_setI, hs_setL, hs_cpy, hs_setR, hs_mk, e0, e1, e2, e3, e4, e5, e6, e7, e8, e9, e10, e11, e12, e13, e14, e15, e16, e17, e18, e19, e20, e21, e22, e23, up_eq, up_na, up_nk, zr_eq, zr_na, sR_eq, sR_na, sR_nk, hR_old, hR_new, h_n_setR, h_n_mk, i_add, i_sub, i_mul, i_tn, i_nat, Int.reduceToNat, Int.reduceAdd, Int.reduceSub, Int.reduceMul, Int.reduceNeg, l_32, l_nat, l_c_lt, l_c_gt, l_c_eq, i_lt, i_eq, i_lt0, i_0lt, i_eq0, i_eq1, Int.reduceLT, Int.reduceEq, Int.reduceLE, Int.reduceNe, not_true_eq_false, not_false_eq_true, Nat.lt_irrefl, Int.lt_irrefl, eq_self, eq_self, Nat.reduceAdd, Nat.reduceMul, Nat.reduceSub, Nat.reduceDiv, Nat.reduceMod, Nat.reduceEqDiff, Nat.reduceLeDiff, Nat.reduceLT, Nat.zero_add, Nat.add_zero, Nat.zero_le, and_false, and_true, and_self, false_and, true_and, or_false, or_true, if_true, if_false, ite_true, ite_false, ↓reduceIte, Int.reduceToNat, Int.reduceAdd, Int.reduceSub, Int.reduceMul, Int.reduceNeg, e9, Int.toNat_natCast]
      simp (disch := first | omega | (simp (disch := first | omega | (simp only [h_n_setR, h_n_mk, hs_n]; first | done | omega)) only [i_lt0, i_tn, i_nn, m_cat_n, m_cat_i, m_cat_r, m_cat_z, m_cat_rv, m_cat_l, m_o_n, m_o_i, m_o_r, m_o_z, m_o_rv, m_o_f, hs_n, hs_k, hs_l, h_n_setR, h_n_mk, h_k_setR, h_l_setR, hk_old, hk_new, hl_old, hl_new, Nat.reduceLeDiff, not_false_eq_true, or_true, true_or, or_false, false_or, e0, e1, e2, e3, e4, e5, e6, e7, e8, e9, e10, e11, e12, e13, e14, e15, e16, e17, e18, e19, e20, e21, e22, e23]; first | done | omega) | exact Or.inl rfl | exact Or.inr rfl) only [cl_51, m_cat_n, m_cat_i, m_cat_r, m_cat_z, m_cat_rv, m_cat_l, Nat.zero_le, Nat.reduceLeDiff, Nat.reduceAdd, m_o_i, m_o_r, m_o_z, m_o_rv, hs_n, hs_k]
      refine n_51 (by simp only [h_n_mk]; omega) (hk_new rfl) (fun F' g1 g2 => ?_)
      simp (disch := first | omega | (simp (disch := first | omega | (simp only [h_n_setR, h_n_mk, hs_n]; first | done | omega)) only [i_lt0, i_tn, i_nn, m_cat_n, m_cat_i, m_cat_r, m_cat_z, m_cat_rv, m_cat_l, m_o_n, m_o_i, m_o_r, m_o_z, m_o_rv, m_o_f, hs_n, hs_k, hs_l, h_n_setR, h_n_mk, h_k_setR, h_l_setR, hk_old, hk_new, hl_old, hl_new, Nat.reduceLeDiff, not_false_eq_true, or_true, true_or, or_false, false_or, e0, e1, e2, e3, e4, e5, e6, e7, e8, e9, e10, e11, e12, e13, e14, e15, e16, e17, e18, e19, e20, e21, e22, e23]; first | done | omega) | exact Or.inl rfl | exact Or.inr rfl) only [w_iload_2, w_aload_0, w_aloadz_0, w_aloadv_0, gf_645, m_rv_s, m_rv_n, w_len, w_slen, w_icmp_ge, w_new, nf_7, w_dup_i, w_dup_r, w_dup_z, w_dup_v, m_cat_n, m_cat_i, m_cat_r, m_cat_z, m_cat_rv, m_cat_l, Nat.zero_le, Nat.reduceLeDiff, Nat.reduceAdd, m_o_i, m_o_r, m_o_z, m_o_rv, m_C_inl, Option.toList_some, Option.toList_none, List.cons_append, List.nil_append, w_aastore, w_iinc_2, m_o_n, m_o_f, w_goto, tg_77_57, tg_77_86, tg_77_88, tg_77_117, w_icmp_eq, w_if_eq, hs_n, hs_k, hs_l, hs_R, hs_I, hs_L, hs_setI, hs_setL, hs_cpy, hs_setR, hs_mk, e0, e1, e2, e3, e4, e5, e6, e7, e8, e9, e10, e11, e12, e13, e14, e15, e16, e17, e18, e19, e20, e21, e22, e23, up_eq, up_na, up_nk, zr_eq, zr_na, sR_eq, sR_na, sR_nk, hR_old, hR_new, h_n_setR, h_n_mk, i_add, i_sub, i_mul, i_tn, i_nat, Int.reduceToNat, Int.reduceAdd, Int.reduceSub, Int.reduceMul, Int.reduceNeg, l_32, l_nat, l_c_lt, l_c_gt, l_c_eq, i_lt, i_eq, i_lt0, i_0lt, i_eq0, i_eq1, Int.reduceLT, Int.reduceEq, Int.reduceLE, Int.reduceNe, not_true_eq_false, not_false_eq_true, Nat.lt_irrefl, Int.lt_irrefl, eq_self, eq_self, Nat.reduceAdd, Nat.reduceMul, Nat.reduceSub, Nat.reduceDiv, Nat.reduceMod, Nat.reduceEqDiff, Nat.reduceLeDiff, Nat.reduceLT, Nat.zero_add, Nat.add_zero, Nat.zero_le, and_false, and_true, and_self, false_and, true_and, or_false, or_true, if_true, if_false, ite_true, ite_false, ↓reduceIte, Int.reduceToNat, Int.reduceAdd, Int.reduceSub, Int.reduceMul, Int.reduceNeg, e9, Int.toNat_natCast]
      obtain ⟨c1, c2, c3, c4, c5⟩ := G
      obtain ⟨f1, ⟨f2, f2b, f2c⟩, ⟨f3, f4, f7⟩, f5, f6⟩ := H
      refine ih (k + 1) _ F' ?_ ?_ ?_ (by omega) (by omega)
      · have Z := CV_cg (h' := m_setR (m_mk h 7 0 16) (b + 1) k (some (m_n h))) V0 (Or.inr ⟨rfl, Nat.le_refl k⟩) (by omega) (fun x hx => ?_) (fun x z hx hz => ?_)
        · refine ⟨⟨v1, ?_⟩, Z.1, Z.2.1, fun q hq => ?_⟩
          · simp (disch := first | omega | (simp only [h_n_setR, h_n_mk]; first | done | omega)) only [h_k_setR, h_l_setR, hk_old, hk_new, hl_old, hl_new, sR_na, sR_nk, sR_eq, hR_old, hR_new, h_n_setR, h_n_mk, h_c_setR, h_c_mk, h_s_setR, h_s_mk, up_eq, up_na, up_nk, zr_eq, zr_na, Nat.add_assoc, Nat.reduceAdd]
            omega
          · by_cases c : q = k
            · subst c
              refine ⟨?_, ?_⟩
              · rw [sR_eq rfl rfl, v2]
              · rw [h_k_setR, hk_new (by omega)]
            · exact Z.2.2 q (by omega) (by omega)
        · rw [h_k_setR, h_l_setR, hk_old (by omega), hl_old (by omega)]
          exact ⟨rfl, rfl⟩
        · rw [h_R_setR, if_neg hz, hR_old (by omega)]
      · refine ⟨?_, ?_, fun x hx => ?_, fun x y hx hxu => ?_, ?_⟩
        · simp (disch := first | omega | (simp only [h_n_setR, h_n_mk]; first | done | omega)) only [h_k_setR, h_l_setR, hk_old, hk_new, hl_old, hl_new, sR_na, sR_nk, sR_eq, hR_old, hR_new, h_n_setR, h_n_mk, h_c_setR, h_c_mk, h_s_setR, h_s_mk, up_eq, up_na, up_nk, zr_eq, zr_na, Nat.add_assoc, Nat.reduceAdd]
          omega
        · simp (disch := first | omega | (simp only [h_n_setR, h_n_mk]; first | done | omega)) only [h_k_setR, h_l_setR, hk_old, hk_new, hl_old, hl_new, sR_na, sR_nk, sR_eq, hR_old, hR_new, h_n_setR, h_n_mk, h_c_setR, h_c_mk, h_s_setR, h_s_mk, up_eq, up_na, up_nk, zr_eq, zr_na, Nat.add_assoc, Nat.reduceAdd]
          omega
        · rw [h_k_setR, h_l_setR, hk_old (by omega), hl_old (by omega)]
          exact c3 x hx
        · rw [sR_na (by omega), hR_old (by omega)]
          exact c4 x y hx hxu
        · rw [sR_na (by omega), hR_old (by omega)]
          exact c5
      · have gg : ∀ x y, x < m_n h → F' x y = F x y := fun x y hx => by rw [g1 _ _ (by omega), zr_na (by omega)]
        refine ⟨fun x y hx hu => (gg _ _ (by omega)).trans (f1 x y hx hu), ⟨(gg _ _ (by omega)).trans f2, (gg _ _ (by omega)).trans f2b, (gg _ _ (by omega)).trans f2c⟩, ⟨(gg _ _ (by omega)).trans f3, (gg _ _ (by omega)).trans f4, fun k => (gg _ _ (by omega)).trans (f7 k)⟩, fun e he => dz_cg (fun i k hi => gg i k (by omega)) (f5 e he), fun q hq => ?_⟩
        · by_cases c : q = k
          · subst c
            rw [show b + 24 + q = m_n h by omega]
            exact g2
          · rw [g1 _ _ (by omega), zr_na (by omega)]
            exact f6 q (by omega)
set_option maxHeartbeats 4000000 in
theorem nD_77 {L : Nat} {xs : Nat → Int32} {d : Nat} {w : Int64} {Q : Option Value ⊕ Nat → m_H → Prop} {h0 : m_H} {F0 : m_M} {u b p : Nat} (hb : 135 < b ∨ b + 124 < 135) (hX : b + 124 ≤ m_X) (hQ : ∀ (h : m_H) (F : m_M), CV h u b 4 100 → q_gv h0 h u p b 4 100 → q_fv u b p 4 100 b F0 F → Q (.inl none) (m_hS h (w, F))) : ∀ (n i : Nat) (h : m_H) (F : m_M), CV h u b i 0 → q_gv h0 h u p b i 0 → q_fv u b p i 0 b F0 F → i ≤ 4 → 4 - i ≤ n → m_W (p_P L xs) (d + 1) 77 k_77_57 [some (.ref u), some (.ref p), some (.int (Int32.ofInt (i : Int)))] [] (m_hS h (w, F)) Q := by
  intro n
  induction n with
  | zero =>
    intro i h F V G H h0 h1
    obtain rfl : i = 4 := by omega
    have V0 := V
    obtain ⟨⟨v1, v2⟩, ⟨e0, e1, e2, e3, e4, e5, e6, e7, e8, e9, e10, e11, e12, e13, e14, e15, e16, e17, e18, e19, e20, e21, e22, e23⟩, D, Qq⟩ := V
    rw [k_77_57]
    simp (disch := first | omega | (simp (disch := first | omega | (simp only [h_n_setR, h_n_mk, hs_n]; first | done | omega)) only [i_lt0, i_tn, i_nn, m_cat_n, m_cat_i, m_cat_r, m_cat_z, m_cat_rv, m_cat_l, m_o_n, m_o_i, m_o_r, m_o_z, m_o_rv, m_o_f, hs_n, hs_k, hs_l, h_n_setR, h_n_mk, h_k_setR, h_l_setR, hk_old, hk_new, hl_old, hl_new, Nat.reduceLeDiff, not_false_eq_true, or_true, true_or, or_false, false_or, e0, e1, e2, e3, e4, e5, e6, e7, e8, e9, e10, e11, e12, e13, e14, e15, e16, e17, e18, e19, e20, e21, e22, e23]; first | done | omega) | exact Or.inl rfl | exact Or.inr rfl) only [k_77_57, k_77_86, w_iload_2, w_aload_0, w_aloadz_0, w_aloadv_0, gf_644, m_rv_s, m_rv_n, w_len, w_slen, w_icmp_ge, w_new, nf_2, w_dup_i, w_dup_r, w_dup_z, w_dup_v, m_cat_n, m_cat_i, m_cat_r, m_cat_z, m_cat_rv, m_cat_l, Nat.zero_le, Nat.reduceLeDiff, Nat.reduceAdd, m_o_i, m_o_r, m_o_z, m_o_rv, m_C_inl, Option.toList_some, Option.toList_none, List.cons_append, List.nil_append, w_aastore, w_iinc_2, m_o_n, m_o_f, w_goto, w_iconst, w_istore_2, tg_77_57, tg_77_86, tg_77_88, tg_77_117, w_icmp_eq, w_if_eq, hs_n, hs_k, hs_l, hs_R, hs_I, hs_L, hs_setI, hs_setL, hs_cpy, hs_setR, hs_mk, e0, e1, e2, e3, e4, e5, e6, e7, e8, e9, e10, e11, e12, e13, e14, e15, e16, e17, e18, e19, e20, e21, e22, e23, up_eq, up_na, up_nk, zr_eq, zr_na, sR_eq, sR_na, sR_nk, hR_old, hR_new, h_n_setR, h_n_mk, i_add, i_sub, i_mul, i_tn, i_nat, Int.reduceToNat, Int.reduceAdd, Int.reduceSub, Int.reduceMul, Int.reduceNeg, l_32, l_nat, l_c_lt, l_c_gt, l_c_eq, i_lt, i_eq, i_lt0, i_0lt, i_eq0, i_eq1, Int.reduceLT, Int.reduceEq, Int.reduceLE, Int.reduceNe, not_true_eq_false, not_false_eq_true, Nat.lt_irrefl, Int.lt_irrefl, eq_self, eq_self, Nat.reduceAdd, Nat.reduceMul, Nat.reduceSub, Nat.reduceDiv, Nat.reduceMod, Nat.reduceEqDiff, Nat.reduceLeDiff, Nat.reduceLT, Nat.zero_add, Nat.add_zero, Nat.zero_le, and_false, and_true, and_self, false_and, true_and, or_false, or_true, if_true, if_false, ite_true, ite_false, ↓reduceIte, Int.reduceToNat, Int.reduceAdd, Int.reduceSub, Int.reduceMul, Int.reduceNeg, Int.reduceLT]
    exact nQ_77 hb hX hQ 100 0 h F V0 G H (by omega) (by omega)
  | succ n ih =>
    intro i h F V G H h0 h1
    have V0 := V
    obtain ⟨⟨v1, v2⟩, ⟨e0, e1, e2, e3, e4, e5, e6, e7, e8, e9, e10, e11, e12, e13, e14, e15, e16, e17, e18, e19, e20, e21, e22, e23⟩, D, Qq⟩ := V
    by_cases e : i = 4
    · subst e
      rw [k_77_57]
      simp (disch := first | omega | (simp (disch := first | omega | (simp only [h_n_setR, h_n_mk, hs_n]; first | done | omega)) only [i_lt0, i_tn, i_nn, m_cat_n, m_cat_i, m_cat_r, m_cat_z, m_cat_rv, m_cat_l, m_o_n, m_o_i, m_o_r, m_o_z, m_o_rv, m_o_f, hs_n, hs_k, hs_l, h_n_setR, h_n_mk, h_k_setR, h_l_setR, hk_old, hk_new, hl_old, hl_new, Nat.reduceLeDiff, not_false_eq_true, or_true, true_or, or_false, false_or, e0, e1, e2, e3, e4, e5, e6, e7, e8, e9, e10, e11, e12, e13, e14, e15, e16, e17, e18, e19, e20, e21, e22, e23]; first | done | omega) | exact Or.inl rfl | exact Or.inr rfl) only [k_77_57, k_77_86, w_iload_2, w_aload_0, w_aloadz_0, w_aloadv_0, gf_644, m_rv_s, m_rv_n, w_len, w_slen, w_icmp_ge, w_new, nf_2, w_dup_i, w_dup_r, w_dup_z, w_dup_v, m_cat_n, m_cat_i, m_cat_r, m_cat_z, m_cat_rv, m_cat_l, Nat.zero_le, Nat.reduceLeDiff, Nat.reduceAdd, m_o_i, m_o_r, m_o_z, m_o_rv, m_C_inl, Option.toList_some, Option.toList_none, List.cons_append, List.nil_append, w_aastore, w_iinc_2, m_o_n, m_o_f, w_goto, w_iconst, w_istore_2, tg_77_57, tg_77_86, tg_77_88, tg_77_117, w_icmp_eq, w_if_eq, hs_n, hs_k, hs_l, hs_R, hs_I, hs_L, hs_setI, hs_setL, hs_cpy, hs_setR, hs_mk, e0, e1, e2, e3, e4, e5, e6, e7, e8, e9, e10, e11, e12, e13, e14, e15, e16, e17, e18, e19, e20, e21, e22, e23, up_eq, up_na, up_nk, zr_eq, zr_na, sR_eq, sR_na, sR_nk, hR_old, hR_new, h_n_setR, h_n_mk, i_add, i_sub, i_mul, i_tn, i_nat, Int.reduceToNat, Int.reduceAdd, Int.reduceSub, Int.reduceMul, Int.reduceNeg, l_32, l_nat, l_c_lt, l_c_gt, l_c_eq, i_lt, i_eq, i_lt0, i_0lt, i_eq0, i_eq1, Int.reduceLT, Int.reduceEq, Int.reduceLE, Int.reduceNe, not_true_eq_false, not_false_eq_true, Nat.lt_irrefl, Int.lt_irrefl, eq_self, eq_self, Nat.reduceAdd, Nat.reduceMul, Nat.reduceSub, Nat.reduceDiv, Nat.reduceMod, Nat.reduceEqDiff, Nat.reduceLeDiff, Nat.reduceLT, Nat.zero_add, Nat.add_zero, Nat.zero_le, and_false, and_true, and_self, false_and, true_and, or_false, or_true, if_true, if_false, ite_true, ite_false, ↓reduceIte, Int.reduceToNat, Int.reduceAdd, Int.reduceSub, Int.reduceMul, Int.reduceNeg, Int.reduceLT]
      exact nQ_77 hb hX hQ 100 0 h F V0 G H (by omega) (by omega)
    · have e9 : (i : Int) < ((4 : Nat) : Int) := by omega
      rw [k_77_57]
      simp (disch := first | omega | (simp (disch := first | omega | (simp only [h_n_setR, h_n_mk, hs_n]; first | done | omega)) only [i_lt0, i_tn, i_nn, m_cat_n, m_cat_i, m_cat_r, m_cat_z, m_cat_rv, m_cat_l, m_o_n, m_o_i, m_o_r, m_o_z, m_o_rv, m_o_f, hs_n, hs_k, hs_l, h_n_setR, h_n_mk, h_k_setR, h_l_setR, hk_old, hk_new, hl_old, hl_new, Nat.reduceLeDiff, not_false_eq_true, or_true, true_or, or_false, false_or, e0, e1, e2, e3, e4, e5, e6, e7, e8, e9, e10, e11, e12, e13, e14, e15, e16, e17, e18, e19, e20, e21, e22, e23]; first | done | omega) | exact Or.inl rfl | exact Or.inr rfl) only [w_iload_2, w_aload_0, w_aloadz_0, w_aloadv_0, gf_644, m_rv_s, m_rv_n, w_len, w_slen, w_icmp_ge, w_new, nf_2, w_dup_i, w_dup_r, w_dup_z, w_dup_v, m_cat_n, m_cat_i, m_cat_r, m_cat_z, m_cat_rv, m_cat_l, Nat.zero_le, Nat.reduceLeDiff, Nat.reduceAdd, m_o_i, m_o_r, m_o_z, m_o_rv, m_C_inl, Option.toList_some, Option.toList_none, List.cons_append, List.nil_append, w_aastore, w_iinc_2, m_o_n, m_o_f, w_goto, tg_77_57, tg_77_86, tg_77_88, tg_77_117, w_icmp_eq, w_if_eq, hs_n, hs_k, hs_l, hs_R, hs_I, hs_L, hs_setI, hs_setL, hs_cpy, hs_setR, hs_mk, e0, e1, e2, e3, e4, e5, e6, e7, e8, e9, e10, e11, e12, e13, e14, e15, e16, e17, e18, e19, e20, e21, e22, e23, up_eq, up_na, up_nk, zr_eq, zr_na, sR_eq, sR_na, sR_nk, hR_old, hR_new, h_n_setR, h_n_mk, i_add, i_sub, i_mul, i_tn, i_nat, Int.reduceToNat, Int.reduceAdd, Int.reduceSub, Int.reduceMul, Int.reduceNeg, l_32, l_nat, l_c_lt, l_c_gt, l_c_eq, i_lt, i_eq, i_lt0, i_0lt, i_eq0, i_eq1, Int.reduceLT, Int.reduceEq, Int.reduceLE, Int.reduceNe, not_true_eq_false, not_false_eq_true, Nat.lt_irrefl, Int.lt_irrefl, eq_self, eq_self, Nat.reduceAdd, Nat.reduceMul, Nat.reduceSub, Nat.reduceDiv, Nat.reduceMod, Nat.reduceEqDiff, Nat.reduceLeDiff, Nat.reduceLT, Nat.zero_add, Nat.add_zero, Nat.zero_le, and_false, and_true, and_self, false_and, true_and, or_false, or_true, if_true, if_false, ite_true, ite_false, ↓reduceIte, Int.reduceToNat, Int.reduceAdd, Int.reduceSub, Int.reduceMul, Int.reduceNeg, e9, Int.toNat_natCast]
      simp (disch := first | omega | (simp (disch := first | omega | (simp only [h_n_setR, h_n_mk, hs_n]; first | done | omega)) only [i_lt0, i_tn, i_nn, m_cat_n, m_cat_i, m_cat_r, m_cat_z, m_cat_rv, m_cat_l, m_o_n, m_o_i, m_o_r, m_o_z, m_o_rv, m_o_f, hs_n, hs_k, hs_l, h_n_setR, h_n_mk, h_k_setR, h_l_setR, hk_old, hk_new, hl_old, hl_new, Nat.reduceLeDiff, not_false_eq_true, or_true, true_or, or_false, false_or, e0, e1, e2, e3, e4, e5, e6, e7, e8, e9, e10, e11, e12, e13, e14, e15, e16, e17, e18, e19, e20, e21, e22, e23]; first | done | omega) | exact Or.inl rfl | exact Or.inr rfl) only [cl_6, m_cat_n, m_cat_i, m_cat_r, m_cat_z, m_cat_rv, m_cat_l, Nat.zero_le, Nat.reduceLeDiff, Nat.reduceAdd, m_o_i, m_o_r, m_o_z, m_o_rv, hs_n, hs_k]
      refine n_6 (by simp only [h_n_mk]; omega) (hk_new rfl) (by simp only [h_n_mk]; omega) (by simp only [h_n_mk]; omega) (fun h' F' g1 g2 g3 g4 g5 => ?_)
      obtain ⟨q1, q2, q3, q4, q5⟩ := g1
      rw [h_n_mk] at q1 q4 q5 g2 g3 g4
      rw [h_c_mk] at q2
      rw [h_s_mk] at q3
      have ka : m_k h' (m_n h) = 2 := by rw [(q4 _ (by omega)).1, hk_new rfl]
      have kb : m_k h' b = 202 := by
        rw [(q4 _ (by omega)).1, hk_old (by omega)]
        assumption
      have lb : m_l h' b = 4 := by
        rw [(q4 _ (by omega)).2, hl_old (by omega)]
        assumption
      simp (disch := first | omega | (simp (disch := first | omega | (simp only [h_n_setR, h_n_mk, hs_n]; first | done | omega)) only [i_lt0, i_tn, i_nn, m_cat_n, m_cat_i, m_cat_r, m_cat_z, m_cat_rv, m_cat_l, m_o_n, m_o_i, m_o_r, m_o_z, m_o_rv, m_o_f, hs_n, hs_k, hs_l, h_n_setR, h_n_mk, h_k_setR, h_l_setR, hk_old, hk_new, hl_old, hl_new, Nat.reduceLeDiff, not_false_eq_true, or_true, true_or, or_false, false_or, ka, kb, lb]; first | done | omega) | exact Or.inl rfl | exact Or.inr rfl) only [w_iload_2, w_aload_0, w_aloadz_0, w_aloadv_0, gf_644, m_rv_s, m_rv_n, w_len, w_slen, w_icmp_ge, w_new, nf_2, w_dup_i, w_dup_r, w_dup_z, w_dup_v, m_cat_n, m_cat_i, m_cat_r, m_cat_z, m_cat_rv, m_cat_l, Nat.zero_le, Nat.reduceLeDiff, Nat.reduceAdd, m_o_i, m_o_r, m_o_z, m_o_rv, m_C_inl, Option.toList_some, Option.toList_none, List.cons_append, List.nil_append, w_aastore, w_iinc_2, m_o_n, m_o_f, w_goto, tg_77_57, tg_77_86, tg_77_88, tg_77_117, w_icmp_eq, w_if_eq, hs_n, hs_k, hs_l, hs_R, hs_I, hs_L, hs_setI, hs_setL, hs_cpy, hs_setR, hs_mk, ka, kb, lb, up_eq, up_na, up_nk, zr_eq, zr_na, sR_eq, sR_na, sR_nk, hR_old, hR_new, h_n_setR, h_n_mk, i_add, i_sub, i_mul, i_tn, i_nat, Int.reduceToNat, Int.reduceAdd, Int.reduceSub, Int.reduceMul, Int.reduceNeg, l_32, l_nat, l_c_lt, l_c_gt, l_c_eq, i_lt, i_eq, i_lt0, i_0lt, i_eq0, i_eq1, Int.reduceLT, Int.reduceEq, Int.reduceLE, Int.reduceNe, not_true_eq_false, not_false_eq_true, Nat.lt_irrefl, Int.lt_irrefl, eq_self, eq_self, Nat.reduceAdd, Nat.reduceMul, Nat.reduceSub, Nat.reduceDiv, Nat.reduceMod, Nat.reduceEqDiff, Nat.reduceLeDiff, Nat.reduceLT, Nat.zero_add, Nat.add_zero, Nat.zero_le, and_false, and_true, and_self, false_and, true_and, or_false, or_true, if_true, if_false, ite_true, ite_false, ↓reduceIte, Int.reduceToNat, Int.reduceAdd, Int.reduceSub, Int.reduceMul, Int.reduceNeg, e9, Int.toNat_natCast]
      obtain ⟨c1, c2, c3, c4, c5⟩ := G
      obtain ⟨f1, ⟨f2, f2b, f2c⟩, ⟨f3, f4, f7⟩, f5, f6⟩ := H
      refine ih (i + 1) _ F' ?_ ?_ ?_ (by omega) (by omega)
      · have Z := CV_cg (h' := m_setR h' b i (some (m_n h))) V0 (Or.inl ⟨rfl, Nat.le_refl i⟩) (by omega) (fun x hx => ?_) (fun x z hx hz => ?_)
        · refine ⟨⟨v1, ?_⟩, Z.1, fun d hd => ?_, fun q hq => by omega⟩
          · rw [h_n_setR]
            omega
          · by_cases c : d = i
            · subst c
              rw [h_k_setR, h_l_setR, sR_eq rfl rfl, sR_na (by omega), sR_na (by omega), sR_na (by omega), show b + 8 + 4 * d = m_n h by omega, show b + 9 + 4 * d = m_n h + 1 by omega, show b + 10 + 4 * d = m_n h + 1 + 1 by omega, show b + 11 + 4 * d = m_n h + 1 + 2 by omega]
              exact ⟨rfl, ka, g2.1, g2.2.1, g2.2.2, g3⟩
            · exact Z.2.1 d (by omega)
        · rw [h_k_setR, h_l_setR, (q4 x (by omega)).1, (q4 x (by omega)).2, hk_old (by omega), hl_old (by omega)]
          exact ⟨rfl, rfl⟩
        · rw [h_R_setR, if_neg hz, q5 x z (by omega) (by omega), hR_old (by omega)]
      · refine ⟨?_, ?_, fun x hx => ?_, fun x y hx hxu => ?_, ?_⟩
        · rw [h_c_setR]
          omega
        · rw [h_s_setR]
          omega
        · rw [h_k_setR, h_l_setR, (q4 x (by omega)).1, (q4 x (by omega)).2, hk_old (by omega), hl_old (by omega)]
          exact c3 x hx
        · rw [sR_na (by omega), q5 x y (by omega) (by omega), hR_old (by omega)]
          exact c4 x y hx hxu
        · rw [sR_na (by omega), q5 u 0 (by omega) (by omega), hR_old (by omega)]
          exact c5
      · have gg : ∀ x y, x < m_n h → F' x y = F x y := fun x y hx => by rw [g4 _ _ (by omega) (by omega), zr_na (by omega)]
        refine ⟨fun x y hx hu => (gg _ _ (by omega)).trans (f1 x y hx hu), ⟨(gg _ _ (by omega)).trans f2, (gg _ _ (by omega)).trans f2b, (gg _ _ (by omega)).trans f2c⟩, ⟨(gg _ _ (by omega)).trans f3, (gg _ _ (by omega)).trans f4, fun k => (gg _ _ (by omega)).trans (f7 k)⟩, fun d hd => ?_, fun q hq => by omega⟩
        by_cases c : d = i
        · subst c
          rw [show b + 8 + 4 * d = m_n h by omega, show b + 9 + 4 * d = m_n h + 1 by omega]
          rw [h_n_mk] at g5
          exact g5
        · exact dz_cg (fun i k hi => gg i k (by omega)) (f5 d (by omega))
set_option maxHeartbeats 8000000 in
/-- a new World -/
theorem n_77 {L : Nat} {xs : Nat → Int32} {d : Nat} {h : m_H} {w : Int64} {F : m_M} {Q : Option Value ⊕ Nat → m_H → Prop} {u p : Nat} (pu : ¬ p = u) (hu : u < m_n h) (ku : m_k h u = 10) (hp : p < m_n h) (kp : m_k h p = 5) (hb : 135 < m_n h ∨ m_n h + 124 < 135) (hX : m_n h + 124 ≤ m_X) (hQ : ∀ (h' : m_H) (F' : m_M), CW h' u (m_n h) → m_R h' u 0 = some p → q_gr h h' u 124 2736 → q_fv u (m_n h) p 4 100 (m_n h) F F' → Q (.inl none) (m_hS h' (w, F'))) : m_W (p_P L xs) (d + 1) 77 k_77_0 [some (.ref u), some (.ref p), none] [] (m_hS h (w, F)) Q := by
  rw [k_77_0]
  simp (disch := first | omega | (simp (disch := first | omega | (simp only [h_n_setR, h_n_mk, hs_n]; first | done | omega)) only [i_lt0, i_tn, i_nn, m_cat_n, m_cat_i, m_cat_r, m_cat_z, m_cat_rv, m_cat_l, m_o_n, m_o_i, m_o_r, m_o_z, m_o_rv, m_o_f, hs_n, hs_k, hs_l, h_n_setR, h_n_mk, h_k_setR, h_l_setR, hk_old, hk_new, hl_old, hl_new, Nat.reduceLeDiff, not_false_eq_true, or_true, true_or, or_false, false_or, ku, kp]; first | done | omega) | exact Or.inl rfl | exact Or.inr rfl) only [k_77_0, w_aload_0, w_aloadz_0, w_aloadv_0, m_cat_n, m_cat_i, m_cat_r, m_cat_z, m_cat_rv, m_cat_l, Nat.zero_le, Nat.reduceLeDiff, Nat.reduceAdd, w_obj, w_iconst, pf_641, pf_642, w_anew, pf_644, pfz_644, pfv_644, pf_645, pfz_645, pfv_645, w_new, nf_4, w_dup_i, w_dup_r, w_dup_z, w_dup_v, cl_23, m_o_i, m_o_r, m_o_z, m_o_rv, m_C_inl, Option.toList_some, Option.toList_none, List.cons_append, List.nil_append, pf_646, pfz_646, pfv_646, w_aload_1, w_aloadz_1, w_aloadv_1, pf_640, pfz_640, pfv_640, gf_323, m_rv_s, m_rv_n, pf_643, w_istore_2, m_o_n, m_o_f, tg_77_57, tg_77_86, tg_77_88, tg_77_117, k_23_0, w_new_int, pf_256, pfz_256, pfv_256, pf_257, pfz_257, pfv_257, pf_258, pfz_258, pfv_258, pf_259, pfz_259, pfv_259, pf_260, pfz_260, pfv_260, pf_261, pf_262, w_vret, w_icmp_eq, w_if_eq, hs_n, hs_k, hs_l, hs_R, hs_I, hs_L, hs_setI, hs_setL, hs_cpy, hs_setR, hs_mk, ku, kp, up_eq, up_na, up_nk, zr_eq, zr_na, sR_eq, sR_na, sR_nk, hR_old, hR_new, h_n_setR, h_n_mk, i_add, i_sub, i_mul, i_tn, i_nat, Int.reduceToNat, Int.reduceAdd, Int.reduceSub, Int.reduceMul, Int.reduceNeg, l_32, l_nat, l_c_lt, l_c_gt, l_c_eq, i_lt, i_eq, i_lt0, i_0lt, i_eq0, i_eq1, Int.reduceLT, Int.reduceEq, Int.reduceLE, Int.reduceNe, not_true_eq_false, not_false_eq_true, Nat.lt_irrefl, Int.lt_irrefl, eq_self, eq_self, Nat.reduceAdd, Nat.reduceMul, Nat.reduceSub, Nat.reduceDiv, Nat.reduceMod, Nat.reduceEqDiff, Nat.reduceLeDiff, Nat.reduceLT, Nat.zero_add, Nat.add_zero, Nat.zero_le, and_false, and_true, and_self, false_and, true_and, or_false, or_true, if_true, if_false, ite_true, ite_false, ↓reduceIte, Int.reduceToNat, Int.reduceAdd, Int.reduceSub, Int.reduceMul, Int.reduceNeg]
  refine nD_77 (h0 := h) (F0 := F) (u := u) (b := m_n h) (p := p) hb hX (fun h' F' V G H => ?_) 4 0 _ _ ⟨⟨hu, ?_⟩, ⟨?_, ?_, ?_, ?_, ?_, ?_, ?_, ?_, ?_, ?_, ?_, ?_, ?_, ?_, ?_, ?_, ?_, ?_, ?_, ?_, ?_, ?_, ?_, ?_⟩, fun d hd => by omega, fun q hq => by omega⟩ ⟨?_, ?_, fun x hx => ⟨?_, ?_⟩, fun x y hx hxu => ?_, ?_⟩ ⟨fun x y hx hxu => ?_, ⟨?_, ?_, ?_⟩, ⟨?_, ?_, fun k => ?_⟩, fun d hd => by omega, fun q hq => by omega⟩ (by omega) (by omega)
  · have v2 := V.1.2
    obtain ⟨c1, c2, c3, c4, c5⟩ := G
    exact hQ h' F' (CV_CW (by omega) V) c5 ⟨by omega, by omega, by omega, c3, c4⟩ H
  all_goals first
    | (simp (disch := first | omega | (simp only [h_n_setR, h_n_mk]; first | done | omega)) only [h_k_setR, h_l_setR, hk_old, hk_new, hl_old, hl_new, sR_na, sR_nk, sR_eq, hR_old, hR_new, h_n_setR, h_n_mk, h_c_setR, h_c_mk, h_s_setR, h_s_mk, up_eq, up_na, up_nk, zr_eq, zr_na, Nat.add_assoc, Nat.reduceAdd]; done)
    | (simp (disch := first | omega | (simp only [h_n_setR, h_n_mk]; first | done | omega)) only [h_k_setR, h_l_setR, hk_old, hk_new, hl_old, hl_new, sR_na, sR_nk, sR_eq, hR_old, hR_new, h_n_setR, h_n_mk, h_c_setR, h_c_mk, h_s_setR, h_s_mk, up_eq, up_na, up_nk, zr_eq, zr_na, Nat.add_assoc, Nat.reduceAdd]; omega)
    | assumption
/-- a new World: nothing has happened -/
theorem Z_nw {u b p N : Nat} {G : tx_G} {F0 F : m_M} (H : q_fv u b p 4 100 N F0 F) (h3 : F0 p 3 = G.1 2) : q_zz u b G (-1) F sp_r0 := by
  obtain ⟨f1, ⟨f2, f2b, f2c⟩, ⟨f3, f4, f7⟩, f5, f6⟩ := H
  have r : ∀ k : Nat, ¬ (28 ≤ k ∧ k < 36) → sp_r0 k = 0 := fun k hk => if_neg hk
  have r1 : sp_r0 1 = 0 := r 1 (by omega)
  have r2 : sp_r0 2 = 0 := r 2 (by omega)
  refine ⟨⟨f2.trans (r 0 (by omega)).symm, f2b.trans r1.symm, f2c.trans h3⟩, fun d hd => ?_, fun d hd => ?_, fun d k hd hk => ?_, fun d hd => ?_, fun q hq => ?_, fun q hq => ?_, ⟨by rw [f3]; decide, f4.trans r2.symm, fun e he => (f7 e).trans (r _ (by omega)).symm, fun i hi => ?_⟩, fun q hq => f6 q hq, ⟨fun d hd => ⟨?_, fun h => ?_, fun h => ?_⟩, fun q hq => ?_, by rw [r1]; decide, by rw [r1]; decide⟩, fun d k hd hk => ?_⟩
  · obtain ⟨⟨a0, a1, a3, a4, a8, a9, a10, a11, a12, a13, a14, a15⟩, b⟩ := f5 d hd
    have e12 := r (12 + (d : Int)).toNat (by omega)
    exact ⟨a0, a1.trans e12.symm, fun h => absurd (h.symm.trans e12) (by decide), a3.trans (r _ (by omega)).symm, a4.trans (r _ (by omega)).symm, a8.trans (r _ (by omega)).symm, a9.trans (if_pos (by omega)).symm, a10.trans (if_pos (by omega)).symm, a13.trans (r _ (by omega)).symm⟩
  · obtain ⟨-, bb⟩ := f5 d hd
    refine ⟨fun j hj => ((bb j).1).trans (r _ (by omega)).symm, fun j hj => ((bb (8 + j)).1).trans (r _ (by omega)).symm, fun j hj => ?_⟩
    have := (bb j).2.1
    rw [show b + 9 + 4 * d + 1 = b + 10 + 4 * d by omega] at this
    exact this.trans (r _ (by omega)).symm
  · rw [r (44 + (d : Int)).toNat (by omega)] at hk
    omega
  · obtain ⟨⟨a0, a1, a3, a4, a8, a9, a10, a11, a12, a13, a14, a15⟩, b⟩ := f5 d hd
    unfold zS1
    rw [r1]
    refine ⟨a11, a14, a15, by omega, fun q hq => by omega⟩
  · rw [r1] at hq
    omega
  · rw [r1] at hq
    omega
  · rw [r2] at hi
    omega
  · rw [r (12 + (d : Int)).toNat (by omega)]
    decide
  · exact absurd (if_pos (by omega)) h
  · exact absurd (if_pos (by omega)) h
  · rw [r1] at hq
    omega
  · rw [r (44 + (d : Int)).toNat (by omega)] at hk
    omega
