/-! the reference: sums -/
def stk : Bool → Int → List (Bool × Int) → List Int
  | m, a, [] => aa a ++ mm m
  | m, a, g :: gs => stk g.1 g.2 gs ++ (2 :: (aa a ++ mm m))
def ok_a (a : Int) : Prop := a = 0 ∨ a = 26 ∨ a = 27
theorem aa_mem {a x : Int} (h : ok_a a) (hx : x ∈ aa a) : x = 26 ∨ x = 27 := by
  unfold aa at hx
  split at hx
  · cases hx
  · rcases h with h | h | h
    · contradiction
    · exact Or.inl ((List.mem_singleton.mp hx).trans h)
    · exact Or.inr ((List.mem_singleton.mp hx).trans h)
theorem mm_mem {m : Bool} {x : Int} (hx : x ∈ mm m) : x = 28 := by
  cases m
  · cases hx
  · exact List.mem_singleton.mp hx
theorem stk_mem : ∀ (gs : List (Bool × Int)) (m : Bool) (a x : Int), ok_a a → (∀ g, g ∈ gs → ok_a g.2) → x ∈ stk m a gs → x = 2 ∨ x = 26 ∨ x = 27 ∨ x = 28
  | [], m, a, x, h, _, hx => by
    rcases List.mem_append.mp hx with hx | hx
    · have := aa_mem h hx; omega
    · have := mm_mem hx; omega
  | g :: gs, m, a, x, h, hg, hx => by
    rcases List.mem_append.mp hx with hx | hx
    · exact stk_mem gs g.1 g.2 x (hg g (List.mem_cons_self ..)) (fun y hy => hg y (List.mem_cons_of_mem _ hy)) hx
    · rcases List.mem_cons.mp hx with hx | hx
      · exact Or.inl hx
      · rcases List.mem_append.mp hx with hx | hx
        · have := aa_mem h hx; omega
        · have := mm_mem hx; omega
theorem has2 {Wb S : List Int} : (∃ k, Wb.length ≤ k ∧ k < (Wb ++ S).length ∧ (Wb ++ S).getD k 0 = 2) ↔ 2 ∈ S := by
  constructor
  · rintro ⟨k, k1, k2, k3⟩
    rw [List.length_append] at k2
    rw [List.getD_eq_getElem?_getD, List.getElem?_append_right k1, List.getElem?_eq_getElem (by omega), Option.getD_some] at k3
    rw [← k3]
    exact List.getElem_mem _
  · intro h
    obtain ⟨i, hi, e⟩ := List.getElem_of_mem h
    refine ⟨Wb.length + i, by omega, by rw [List.length_append]; omega, ?_⟩
    rw [List.getD_eq_getElem?_getD, List.getElem?_append_right (by omega), show Wb.length + i - Wb.length = i by omega, List.getElem?_eq_getElem hi, Option.getD_some]
    exact e
theorem bd_W {Wb S : List Int} (h1 : ∀ x, x ∈ Wb → 0 ≤ x ∧ x ≤ 100) (h2 : ∀ x, x ∈ S → 0 ≤ x ∧ x ≤ 100) (k : Nat) (hk : k < (Wb ++ S).length) : 0 ≤ (Wb ++ S).getD k 0 ∧ (Wb ++ S).getD k 0 ≤ 100 := by
  rw [List.getD_eq_getElem?_getD, List.getElem?_eq_getElem hk, Option.getD_some]
  rcases List.mem_append.mp (List.getElem_mem hk) with h | h
  · exact h1 _ h
  · exact h2 _ h
theorem no2 {m : Bool} {a : Int} (h : ok_a a) : ¬ (2 : Int) ∈ stk m a [] := fun hx => by
  rcases List.mem_append.mp hx with hx | hx
  · have := aa_mem h hx; omega
  · have := mm_mem hx; omega
theorem is2 {m : Bool} {a : Int} {g : Bool × Int} {gs : List (Bool × Int)} : (2 : Int) ∈ stk m a (g :: gs) := List.mem_append.mpr (Or.inr (List.mem_cons_self ..))
theorem rv_m {m : Bool} : (mm m).reverse = mm m := by cases m <;> rfl
theorem rv_a {a : Int} : (aa a).reverse = aa a := by
  unfold aa
  split <;> rfl
set_option maxHeartbeats 4000000 in
theorem v_190 {L : Nat} {xs : Nat → Int32} {d : Nat} {h : m_H} {w : Int64} {F : m_M} {Q : Option Value ⊕ Nat → m_H → Prop} (I : RF h) {b : Nat → Int} {n : Nat} {e : Int} {p : Nat} (V : q_V F w b n (e, p)) (hQ : ∀ c : Int, (c = 28 ∧ e = 0 ∧ tx_g b n p 42 = true) ∨ (c = 26 ∧ e = 0 ∧ tx_g b n p 43 = true) ∨ (c = 27 ∧ e = 0 ∧ ¬ tx_g b n p 43 = true ∧ tx_g b n p 45 = true) ∨ (c = 0 ∧ (e = 0 → ¬ tx_g b n p 42 = true ∧ ¬ tx_g b n p 43 = true ∧ ¬ tx_g b n p 45 = true)) → Q (.inl (some (.int (Int32.ofInt c)))) (m_hS h (w, F))) : m_W (p_P L xs) (d + 3) 190 k_190_0 [some (.ref 135)] [] (m_hS h (w, F)) Q := by
  (repeat' (first | (simp (disch := first | omega | (simp (disch := omega) only [i_lt0, i_tn, i_nn, m_cat_n, m_cat_i, m_cat_r, m_cat_z, m_cat_rv, m_cat_l, m_o_n, m_o_i, m_o_r, m_o_z, m_o_rv, m_o_f, hs_n, hs_k, hs_l, f_k_135 I, n_135 I, Nat.reduceLeDiff, not_false_eq_true, or_true, true_or, or_false, false_or]; first | done | omega) | exact Or.inl rfl | exact Or.inr rfl) only [k_190_0, k_190_14, k_190_28, k_190_42, k_190_43, w_aload_0, w_aloadz_0, w_aloadv_0, w_iconst, m_cat_n, m_cat_i, m_cat_r, m_cat_z, m_cat_rv, m_cat_l, Nat.zero_le, Nat.reduceLeDiff, Nat.reduceAdd, m_o_i, m_o_r, m_o_z, m_o_rv, m_C_inl, Option.toList_some, Option.toList_none, List.cons_append, List.nil_append, w_if_eq, w_goto, w_iret, tg_190_14, tg_190_28, tg_190_42, tg_190_43, w_icmp_eq, hs_n, hs_k, hs_l, hs_R, hs_I, hs_L, hs_setI, hs_setL, hs_cpy, f_k_135 I, n_135 I, up_up, up_sw, up_sa, up_if, i_add, i_sub, i_mul, i_tn, i_nat, Int.reduceToNat, Int.reduceAdd, Int.reduceSub, Int.reduceMul, Int.reduceNeg, l_32, l_nat, l_c_lt, l_c_gt, l_c_eq, i_lt, i_eq, i_lt0, i_0lt, i_eq0, i_eq1, Int.reduceLT, Int.reduceEq, Int.reduceLE, Int.reduceNe, not_true_eq_false, not_false_eq_true, Nat.lt_irrefl, Int.lt_irrefl, eq_self, eq_self, Nat.reduceAdd, Nat.reduceMul, Nat.reduceSub, Nat.reduceDiv, Nat.reduceMod, Nat.reduceEqDiff, Nat.reduceLeDiff, Nat.reduceLT, Nat.zero_add, Nat.add_zero, Nat.zero_le, and_false, and_true, and_self, false_and, true_and, or_false, or_true, if_true, if_false, ite_true, ite_false, ↓reduceIte, Int.reduceToNat, Int.reduceAdd, Int.reduceSub, Int.reduceMul, Int.reduceNeg]) | split | (simp (disch := first | omega | (simp (disch := omega) only [i_lt0, i_tn, i_nn, m_cat_n, m_cat_i, m_cat_r, m_cat_z, m_cat_rv, m_cat_l, m_o_n, m_o_i, m_o_r, m_o_z, m_o_rv, m_o_f, hs_n, hs_k, hs_l, f_k_135 I, n_135 I, Nat.reduceLeDiff, not_false_eq_true, or_true, true_or, or_false, false_or]; first | done | omega) | exact Or.inl rfl | exact Or.inr rfl) only [cl_174, m_cat_n, m_cat_i, m_cat_r, m_cat_z, m_cat_rv, m_cat_l, Nat.zero_le, Nat.reduceLeDiff, Nat.reduceAdd, m_o_i, m_o_r, m_o_z, m_o_rv, hs_n, hs_k, f_k_135 I, n_135 I]; refine v_174 I V (by decide) (by decide) rfl rfl ?_ ?_; all_goals first | (intro q1 q2) | (intro q0))))
  all_goals first
    | (exfalso; omega)
    | exact hQ 28 (Or.inl ⟨rfl, q1, q2⟩)
    | exact hQ 26 (Or.inr (Or.inl ⟨rfl, q1, q2⟩))
    | exact hQ 27 (Or.inr (Or.inr (Or.inl ⟨rfl, q1, q0 q1, q2⟩)))
    | exact hQ 0 (Or.inr (Or.inr (Or.inr ⟨rfl, fun y => ⟨by rename_i r1 r2; first | exact r1 y | exact r2 y, by rename_i r1 r2; first | exact r2 y | exact r1 y, q0 y⟩⟩)))
