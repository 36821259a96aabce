/-! Journal, World -/
def q_Jrn (h : m_H) (a : Nat) : m_H := ((m_n h + 5, m_c h + 5, m_s h + 809), (fun c => if m_n h ≤ c ∧ c < m_n h + 5 then 100 else m_k h c), (fun c => if c = m_n h + 4 then 9 else if m_n h ≤ c ∧ c < m_n h + 5 then 200 else m_l h c), (fun c k => if c = a ∧ (k = 5 ∨ k = 6) then Int32.ofInt 0 else if m_n h ≤ c ∧ c < m_n h + 5 then 0 else m_I h c k), (fun c k => if m_n h ≤ c ∧ c < m_n h + 5 then 0 else m_L h c k), (fun c k => if m_n h ≤ c ∧ c < m_n h + 5 then 0 else m_D h c k), (fun c k => if c = a ∧ k < 5 then some (m_n h + k) else if m_n h ≤ c ∧ c < m_n h + 5 then none else m_R h c k))
theorem h_n_Jrn (h : m_H) (a : Nat) : m_n (q_Jrn h a) = m_n h + 5 := of_eq_true (eq_self _)
theorem h_c_Jrn (h : m_H) (a : Nat) : m_c (q_Jrn h a) = m_c h + 5 := of_eq_true (eq_self _)
theorem h_s_Jrn (h : m_H) (a : Nat) : m_s (q_Jrn h a) = m_s h + 809 := of_eq_true (eq_self _)
theorem h_k_Jrn (h : m_H) (a : Nat) (c : Nat) : m_k (q_Jrn h a) c = if m_n h ≤ c ∧ c < m_n h + 5 then 100 else m_k h c := of_eq_true (eq_self _)
theorem h_l_Jrn (h : m_H) (a : Nat) (c : Nat) : m_l (q_Jrn h a) c = if c = m_n h + 4 then 9 else if m_n h ≤ c ∧ c < m_n h + 5 then 200 else m_l h c := of_eq_true (eq_self _)
theorem h_I_Jrn (h : m_H) (a : Nat) (c k : Nat) : m_I (q_Jrn h a) c k = if c = a ∧ (k = 5 ∨ k = 6) then Int32.ofInt 0 else if m_n h ≤ c ∧ c < m_n h + 5 then 0 else m_I h c k := of_eq_true (eq_self _)
theorem h_L_Jrn (h : m_H) (a : Nat) (c k : Nat) : m_L (q_Jrn h a) c k = if m_n h ≤ c ∧ c < m_n h + 5 then 0 else m_L h c k := of_eq_true (eq_self _)
theorem h_D_Jrn (h : m_H) (a : Nat) (c k : Nat) : m_D (q_Jrn h a) c k = if m_n h ≤ c ∧ c < m_n h + 5 then 0 else m_D h c k := of_eq_true (eq_self _)
theorem h_R_Jrn (h : m_H) (a : Nat) (c k : Nat) : m_R (q_Jrn h a) c k = if c = a ∧ k < 5 then some (m_n h + k) else if m_n h ≤ c ∧ c < m_n h + 5 then none else m_R h c k := of_eq_true (eq_self _)
theorem ct_23 {L : Nat} {xs : Nat → Int32} {d : Nat} {h : m_H} {Q : Option Value ⊕ Nat → m_H → Prop} {a : Nat} (h1 : a < m_n h) (h2 : m_k h a = 4) (h3 : m_n h + 6 < m_X) : m_W (p_P L xs) d 23 k_23_0 [some (.ref a)] [] h Q = Q (.inl none) (q_Jrn h a) := by
  simp (disch := first | omega | (simp (disch := first | omega | (simp only [h_n_setI, h_n_setL, h_n_setD, h_n_setR, h_n_cpy, h_n_fill, h_n_mk, h_n_bump, h_n_Req, h_n_Drv, h_n_Rq, h_n_Dr, h_n_Jrn]; first | done | omega)) only [i_lt0, i_tn, i_nn, m_cat_n, m_cat_i, m_cat_r, m_cat_z, m_cat_rv, m_cat_l, m_o_n, m_o_i, m_o_r, m_o_z, m_o_rv, m_o_f, h_n_setI, h_n_setL, h_n_setD, h_n_setR, h_n_cpy, h_n_fill, h_n_mk, h_n_bump, h_n_Req, h_n_Drv, h_n_Rq, h_n_Dr, h_n_Jrn, h_k_setI, h_k_setL, h_k_setD, h_k_setR, h_k_cpy, h_k_fill, h_k_bump, h_l_setI, h_l_setL, h_l_setD, h_l_setR, h_l_cpy, h_l_fill, h_l_bump, hk_old, hk_new, hl_old, hl_new, h_k_Req, h_l_Req, h2]; first | done | omega)) only [k_23_0, w_aload_0, w_aloadz_0, w_aloadv_0, m_cat_n, m_cat_i, m_cat_r, m_cat_z, m_cat_rv, m_cat_l, Nat.zero_le, Nat.reduceLeDiff, Nat.reduceAdd, w_obj, w_iconst, w_new_int, pf_256, pfz_256, pfv_256, pf_257, pfz_257, pfv_257, pf_258, pfz_258, pfv_258, pf_259, pfz_259, pfv_259, pf_260, pfz_260, pfv_260, pf_261, pf_262, w_vret, h_n_setI, h_n_setL, h_n_setD, h_n_setR, h_n_cpy, h_n_fill, h_n_mk, h_n_bump, h_n_Req, h_n_Drv, h_n_Rq, h_n_Dr, h_n_Jrn, i_add, i_sub, i_mul, i_tn, i_nat, Int.reduceToNat, Int.reduceAdd, Int.reduceSub, Int.reduceMul, Int.reduceNeg]
  refine congrArg (Q (Sum.inl none)) (m_H_ex ?_ ?_ ?_ ?_ ?_ ?_ ?_ ?_ ?_)
  · simp only [h_n_setI, h_n_setR, h_n_mk, h_n_Jrn]
  · simp only [h_c_setI, h_c_setR, h_c_mk, h_c_Jrn]
  · simp only [h_s_setI, h_s_setR, h_s_mk, h_s_Jrn]
  · funext c
    simp only [h_k_setI, h_k_setR, h_k_mk, h_k_Jrn, h_n_setI, h_n_setL, h_n_setD, h_n_setR, h_n_cpy, h_n_fill, h_n_mk, h_n_bump, h_n_Req, h_n_Drv, h_n_Rq, h_n_Dr, h_n_Jrn]
    rcases (show c = m_n h ∨ c = m_n h + 1 ∨ c = m_n h + 2 ∨ c = m_n h + 3 ∨ c = m_n h + 4 ∨ (c < m_n h ∨ m_n h + 5 ≤ c) by omega) with e | e | e | e | e | e <;> simp (disch := omega) only [↓reduceIte, true_and, and_true, true_or, or_true, Nat.add_zero, if_pos, if_neg]
  · funext c
    simp only [h_l_setI, h_l_setR, h_l_mk, h_l_Jrn, h_n_setI, h_n_setL, h_n_setD, h_n_setR, h_n_cpy, h_n_fill, h_n_mk, h_n_bump, h_n_Req, h_n_Drv, h_n_Rq, h_n_Dr, h_n_Jrn]
    rcases (show c = m_n h ∨ c = m_n h + 1 ∨ c = m_n h + 2 ∨ c = m_n h + 3 ∨ c = m_n h + 4 ∨ (c < m_n h ∨ m_n h + 5 ≤ c) by omega) with e | e | e | e | e | e <;> simp (disch := omega) only [↓reduceIte, true_and, and_true, true_or, or_true, Nat.add_zero, if_pos, if_neg]
  · funext c k
    simp only [h_I_setI, h_I_setR, h_I_mk, h_I_Jrn, h_n_setI, h_n_setL, h_n_setD, h_n_setR, h_n_cpy, h_n_fill, h_n_mk, h_n_bump, h_n_Req, h_n_Drv, h_n_Rq, h_n_Dr, h_n_Jrn]
    by_cases hc : c = a
    · subst hc
      rcases (show k = 5 ∨ k = 6 ∨ (¬ k = 5 ∧ ¬ k = 6) by omega) with e | e | e <;> simp (disch := omega) only [↓reduceIte, true_and, and_true, true_or, or_true, Nat.add_zero, if_pos, if_neg]
    · rcases (show c = m_n h ∨ c = m_n h + 1 ∨ c = m_n h + 2 ∨ c = m_n h + 3 ∨ c = m_n h + 4 ∨ (c < m_n h ∨ m_n h + 5 ≤ c) by omega) with e | e | e | e | e | e <;> simp (disch := omega) only [↓reduceIte, true_and, and_true, true_or, or_true, Nat.add_zero, if_pos, if_neg]
  · funext c k
    simp only [h_L_setI, h_L_setR, h_L_mk, h_L_Jrn, h_n_setI, h_n_setL, h_n_setD, h_n_setR, h_n_cpy, h_n_fill, h_n_mk, h_n_bump, h_n_Req, h_n_Drv, h_n_Rq, h_n_Dr, h_n_Jrn]
    rcases (show c = m_n h ∨ c = m_n h + 1 ∨ c = m_n h + 2 ∨ c = m_n h + 3 ∨ c = m_n h + 4 ∨ (c < m_n h ∨ m_n h + 5 ≤ c) by omega) with e | e | e | e | e | e <;> simp (disch := omega) only [↓reduceIte, true_and, and_true, true_or, or_true, Nat.add_zero, if_pos, if_neg]
  · funext c k
    simp only [h_D_setI, h_D_setR, h_D_mk, h_D_Jrn, h_n_setI, h_n_setL, h_n_setD, h_n_setR, h_n_cpy, h_n_fill, h_n_mk, h_n_bump, h_n_Req, h_n_Drv, h_n_Rq, h_n_Dr, h_n_Jrn]
    rcases (show c = m_n h ∨ c = m_n h + 1 ∨ c = m_n h + 2 ∨ c = m_n h + 3 ∨ c = m_n h + 4 ∨ (c < m_n h ∨ m_n h + 5 ≤ c) by omega) with e | e | e | e | e | e <;> simp (disch := omega) only [↓reduceIte, true_and, and_true, true_or, or_true, Nat.add_zero, if_pos, if_neg]
  · funext c k
    simp only [h_R_setI, h_R_setR, h_R_mk, h_R_Jrn, h_n_setI, h_n_setL, h_n_setD, h_n_setR, h_n_cpy, h_n_fill, h_n_mk, h_n_bump, h_n_Req, h_n_Drv, h_n_Rq, h_n_Dr, h_n_Jrn]
    by_cases hc : c = a
    · subst hc
      rcases (show k = 0 ∨ k = 1 ∨ k = 2 ∨ k = 3 ∨ k = 4 ∨ 5 ≤ k by omega) with e | e | e | e | e | e <;> (try subst e) <;> simp (disch := omega) only [↓reduceIte, true_and, and_true, true_or, or_true, Nat.add_zero, if_pos, if_neg]
    · rcases (show c = m_n h ∨ c = m_n h + 1 ∨ c = m_n h + 2 ∨ c = m_n h + 3 ∨ c = m_n h + 4 ∨ (c < m_n h ∨ m_n h + 5 ≤ c) by omega) with e | e | e | e | e | e <;> simp (disch := omega) only [↓reduceIte, true_and, and_true, true_or, or_true, Nat.add_zero, if_pos, if_neg]
def q_Wp (h : m_H) (w p : Nat) : m_H := m_setI (m_setR (m_setR (q_Jrn (m_mk (m_setR (m_mk (m_setR (m_mk (m_setI (m_setI h w 1 (Int32.ofInt 0)) w 2 (Int32.ofInt 0)) 202 4 4) w 4 (some (m_n h))) 207 100 100) w 5 (some (m_n h + 1))) 4 0 7) (m_n h + 2)) w 6 (some (m_n h + 2))) w 0 (some p)) w 3 (m_I h p 3)
theorem h_n_Wp (h : m_H) (w p : Nat) : m_n (q_Wp h w p) = m_n h + 8 := by
  unfold q_Wp
  simp only [h_n_setI, h_n_setR, h_n_mk, h_n_Jrn]
def q_Wd (h : m_H) (w p : Nat) : m_H := q_Rq (q_Dr (q_Wp h w p) (m_n h) 4) (m_n h + 1) 100
theorem q_Rq_0 (h : m_H) (row : Nat) : q_Rq h row 0 = h := by
  refine m_H_ex ?_ ?_ ?_ ?_ ?_ ?_ ?_ ?_ ?_
  · simp only [h_n_Rq, Nat.add_zero]
  · simp only [h_c_Rq, Nat.add_zero]
  · simp only [h_s_Rq, Nat.mul_zero, Nat.add_zero]
  · funext c; rw [h_k_Rq, if_neg (by omega)]
  · funext c; rw [h_l_Rq, if_neg (by omega)]
  · funext c k; rw [h_I_Rq, if_neg (by omega)]
  · funext c k; rw [h_L_Rq, if_neg (by omega)]
  · funext c k; rw [h_D_Rq, if_neg (by omega)]
  · funext c k; rw [h_R_Rq, if_neg (by omega), if_neg (by omega)]
theorem q_Dr_0 (h : m_H) (row : Nat) : q_Dr h row 0 = h := by
  refine m_H_ex ?_ ?_ ?_ ?_ ?_ ?_ ?_ ?_ ?_
  · simp only [h_n_Dr, Nat.mul_zero, Nat.add_zero]
  · simp only [h_c_Dr, Nat.mul_zero, Nat.add_zero]
  · simp only [h_s_Dr, Nat.mul_zero, Nat.add_zero]
  · funext c; rw [h_k_Dr, if_neg (by omega)]
  · funext c; rw [h_l_Dr, if_neg (by omega)]
  · funext c k; rw [h_I_Dr, if_neg (by omega)]
  · funext c k; rw [h_L_Dr, if_neg (by omega)]
  · funext c k; rw [h_D_Dr, if_neg (by omega)]
  · funext c k; rw [h_R_Dr, if_neg (by omega), if_neg (by omega)]
theorem kJrn_old {h : m_H} {a c : Nat} (hc : c < m_n h) : m_k (q_Jrn h a) c = m_k h c := by rw [h_k_Jrn, if_neg (by omega)]
theorem lJrn_old {h : m_H} {a c : Nat} (hc : c < m_n h) : m_l (q_Jrn h a) c = m_l h c := by rw [h_l_Jrn, if_neg (by omega), if_neg (by omega)]
theorem IJrn_old {h : m_H} {a c k : Nat} (hc : c < m_n h) (ha : ¬ c = a) : m_I (q_Jrn h a) c k = m_I h c k := by rw [h_I_Jrn, if_neg (fun e => ha e.1), if_neg (by omega)]
theorem RJrn_old {h : m_H} {a c k : Nat} (hc : c < m_n h) (ha : ¬ c = a) : m_R (q_Jrn h a) c k = m_R h c k := by rw [h_R_Jrn, if_neg (fun e => ha e.1), if_neg (by omega)]
section WPF
variable {h : m_H} {w p : Nat} (hw : w < m_n h) (hk : m_k h w = 10)
theorem wp_1 (hw : w < m_n h) (hk : m_k h w = 10) : m_k (q_Wp h w p) w = 10 := by
  unfold q_Wp
  simp (disch := first | omega | (simp only [h_n_setI, h_n_setL, h_n_setD, h_n_setR, h_n_cpy, h_n_fill, h_n_mk, h_n_bump, h_n_Req, h_n_Drv, h_n_Rq, h_n_Dr, h_n_Jrn]; first | done | omega)) only [h_k_setI, h_k_setR, h_l_setI, h_l_setR, h_R_setI, h_R_setR, kJrn_old, lJrn_old, RJrn_old, hk_old, hk_new, hl_old, hl_new, hR_old, hR_new, hI_old, hI_new, h_n_setI, h_n_setL, h_n_setD, h_n_setR, h_n_cpy, h_n_fill, h_n_mk, h_n_bump, h_n_Req, h_n_Drv, h_n_Rq, h_n_Dr, h_n_Jrn, hk, ↓reduceIte, true_and, and_true, Nat.reduceEqDiff, and_false, and_self, if_neg]
theorem wp_2 (hw : w < m_n h) (hk : m_k h w = 10) : m_R (q_Wp h w p) w 4 = some (m_n h) ∧ m_R (q_Wp h w p) w 5 = some (m_n h + 1) := by
  unfold q_Wp
  simp (disch := first | omega | (simp only [h_n_setI, h_n_setL, h_n_setD, h_n_setR, h_n_cpy, h_n_fill, h_n_mk, h_n_bump, h_n_Req, h_n_Drv, h_n_Rq, h_n_Dr, h_n_Jrn]; first | done | omega)) only [h_k_setI, h_k_setR, h_l_setI, h_l_setR, h_R_setI, h_R_setR, kJrn_old, lJrn_old, RJrn_old, hk_old, hk_new, hl_old, hl_new, hR_old, hR_new, hI_old, hI_new, h_n_setI, h_n_setL, h_n_setD, h_n_setR, h_n_cpy, h_n_fill, h_n_mk, h_n_bump, h_n_Req, h_n_Drv, h_n_Rq, h_n_Dr, h_n_Jrn, hk, ↓reduceIte, true_and, and_true, Nat.reduceEqDiff, and_false, and_self, if_neg]
theorem wp_3 (hw : w < m_n h) (hk : m_k h w = 10) : m_k (q_Wp h w p) (m_n h) = 202 ∧ m_l (q_Wp h w p) (m_n h) = 4 := by
  unfold q_Wp
  simp (disch := first | omega | (simp only [h_n_setI, h_n_setL, h_n_setD, h_n_setR, h_n_cpy, h_n_fill, h_n_mk, h_n_bump, h_n_Req, h_n_Drv, h_n_Rq, h_n_Dr, h_n_Jrn]; first | done | omega)) only [h_k_setI, h_k_setR, h_l_setI, h_l_setR, h_R_setI, h_R_setR, kJrn_old, lJrn_old, RJrn_old, hk_old, hk_new, hl_old, hl_new, hR_old, hR_new, hI_old, hI_new, h_n_setI, h_n_setL, h_n_setD, h_n_setR, h_n_cpy, h_n_fill, h_n_mk, h_n_bump, h_n_Req, h_n_Drv, h_n_Rq, h_n_Dr, h_n_Jrn, hk, ↓reduceIte, true_and, and_true, Nat.reduceEqDiff, and_false, and_self, if_neg]
theorem wp_4 (hw : w < m_n h) (hk : m_k h w = 10) : m_k (q_Wp h w p) (m_n h + 1) = 207 ∧ m_l (q_Wp h w p) (m_n h + 1) = 100 := by
  unfold q_Wp
  simp (disch := first | omega | (simp only [h_n_setI, h_n_setL, h_n_setD, h_n_setR, h_n_cpy, h_n_fill, h_n_mk, h_n_bump, h_n_Req, h_n_Drv, h_n_Rq, h_n_Dr, h_n_Jrn]; first | done | omega)) only [h_k_setI, h_k_setR, h_l_setI, h_l_setR, h_R_setI, h_R_setR, kJrn_old, lJrn_old, RJrn_old, hk_old, hk_new, hl_old, hl_new, hR_old, hR_new, hI_old, hI_new, h_n_setI, h_n_setL, h_n_setD, h_n_setR, h_n_cpy, h_n_fill, h_n_mk, h_n_bump, h_n_Req, h_n_Drv, h_n_Rq, h_n_Dr, h_n_Jrn, hk, ↓reduceIte, true_and, and_true, Nat.reduceEqDiff, and_false, and_self, if_neg]
end WPF
theorem ct_77 {L : Nat} {xs : Nat → Int32} {d : Nat} {h : m_H} {Q : Option Value ⊕ Nat → m_H → Prop} {w p : Nat} (hw : w < m_n h) (hk : m_k h w = 10) (hp : p < m_n h) (hkp : m_k h p = 5) (hX : m_n h + 200 < m_X) : m_W (p_P L xs) (d + 1) 77 k_77_0 [some (.ref w), some (.ref p), none] [] h Q = Q (.inl none) (q_Wd h w p) := by
  have hne : ¬ p = w := by intro e; subst e; omega
  simp (disch := first | omega | (simp (disch := first | omega | (simp only [h_n_setI, h_n_setL, h_n_setD, h_n_setR, h_n_cpy, h_n_fill, h_n_mk, h_n_bump, h_n_Req, h_n_Drv, h_n_Rq, h_n_Dr, h_n_Jrn]; first | done | omega)) only [i_lt0, i_tn, i_nn, m_cat_n, m_cat_i, m_cat_r, m_cat_z, m_cat_rv, m_cat_l, m_o_n, m_o_i, m_o_r, m_o_z, m_o_rv, m_o_f, h_n_setI, h_n_setL, h_n_setD, h_n_setR, h_n_cpy, h_n_fill, h_n_mk, h_n_bump, h_n_Req, h_n_Drv, h_n_Rq, h_n_Dr, h_n_Jrn, h_k_setI, h_k_setL, h_k_setD, h_k_setR, h_k_cpy, h_k_fill, h_k_bump, h_l_setI, h_l_setL, h_l_setD, h_l_setR, h_l_cpy, h_l_fill, h_l_bump, hk_old, hk_new, hl_old, hl_new, h_k_Req, h_l_Req, hk, hkp, kJrn_old, lJrn_old]; first | done | omega)) only [k_77_0, tg_77_57, tg_77_86, tg_77_88, k_77_117, tg_77_117, w_aload_0, w_aloadz_0, w_aloadv_0, m_cat_n, m_cat_i, m_cat_r, m_cat_z, m_cat_rv, m_cat_l, Nat.zero_le, Nat.reduceLeDiff, Nat.reduceAdd, w_obj, w_iconst, pf_641, pf_642, w_anew, pf_644, pfz_644, pfv_644, pf_645, pfz_645, pfv_645, w_new, nf_4, w_dup_i, w_dup_r, w_dup_z, w_dup_v, cl_23, m_o_i, m_o_r, m_o_z, m_o_rv, m_C_inl, Option.toList_some, Option.toList_none, List.cons_append, List.nil_append, pf_646, pfz_646, pfv_646, w_aload_1, w_aloadz_1, w_aloadv_1, pf_640, pfz_640, pfv_640, gf_323, m_rv_s, m_rv_n, pf_643, w_istore_2, m_o_n, m_o_f, w_iload_2, gf_644, w_len, w_slen, w_icmp_ge, nf_2, cl_6, w_aastore, w_iinc_2, w_goto, gf_645, nf_7, cl_51, w_vret, h_n_setI, h_n_setL, h_n_setD, h_n_setR, h_n_cpy, h_n_fill, h_n_mk, h_n_bump, h_n_Req, h_n_Drv, h_n_Rq, h_n_Dr, h_n_Jrn, i_add, i_sub, i_mul, i_tn, i_nat, Int.reduceToNat, Int.reduceAdd, Int.reduceSub, Int.reduceMul, Int.reduceNeg, ct_23, h_I_setI, h_I_setR, hI_old, IJrn_old, hne, false_and, ↓reduceIte]
  have hn := h_n_Wp h w p
  have k := lp_77d (L := L) (xs := xs) (d := d) (Q := Q) (h := q_Wp h w p) (w := w) (row := m_n h) (p := p) (by omega) (wp_1 hw hk) (by omega) (by omega) (wp_2 hw hk).1 (wp_3 hw hk).1 (wp_3 hw hk).2 (by omega) 4 0 rfl
  rw [q_Dr_0] at k
  refine Eq.trans k ?_
  rw [k_77_86]
  simp (disch := first | omega | (simp (disch := first | omega | (simp only [h_n_setI, h_n_setL, h_n_setD, h_n_setR, h_n_cpy, h_n_fill, h_n_mk, h_n_bump, h_n_Req, h_n_Drv, h_n_Rq, h_n_Dr, h_n_Jrn]; first | done | omega)) only [i_lt0, i_tn, i_nn, m_cat_n, m_cat_i, m_cat_r, m_cat_z, m_cat_rv, m_cat_l, m_o_n, m_o_i, m_o_r, m_o_z, m_o_rv, m_o_f, h_n_setI, h_n_setL, h_n_setD, h_n_setR, h_n_cpy, h_n_fill, h_n_mk, h_n_bump, h_n_Req, h_n_Drv, h_n_Rq, h_n_Dr, h_n_Jrn, h_k_setI, h_k_setL, h_k_setD, h_k_setR, h_k_cpy, h_k_fill, h_k_bump, h_l_setI, h_l_setL, h_l_setD, h_l_setR, h_l_cpy, h_l_fill, h_l_bump, hk_old, hk_new, hl_old, hl_new, h_k_Req, h_l_Req]; first | done | omega)) only [w_iconst, w_istore_2]
  have hn2 : m_n (q_Dr (q_Wp h w p) (m_n h) 4) = m_n h + 24 := by rw [h_n_Dr, hn]
  have k2 := lp_77r (L := L) (xs := xs) (d := d) (Q := Q) (h := q_Dr (q_Wp h w p) (m_n h) 4) (w := w) (row := m_n h + 1) (p := p) (by omega) (by rw [h_k_Dr, if_neg (by omega)]; exact wp_1 hw hk) (by omega) (by omega) (by rw [h_R_Dr, if_neg (by omega), if_neg (by omega)]; exact (wp_2 hw hk).2) (by rw [h_k_Dr, if_neg (by omega)]; exact (wp_4 hw hk).1) (by rw [h_l_Dr, if_neg (by omega)]; exact (wp_4 hw hk).2) (by omega) 100 0 rfl
  rw [q_Rq_0] at k2
  exact k2
