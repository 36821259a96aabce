/-! Request and Driver made -/
def q_rI (x : Int32) (k : Nat) (old : Int32) : Int32 := if k = 0 then x else if k = 15 then Int32.ofInt (-1) else if k = 14 then Int32.ofInt 0 else if k = 13 then Int32.ofInt 0 else if k = 12 then Int32.ofInt 0 else if k = 11 then Int32.ofInt 0 else if k = 10 then Int32.ofInt 0 else if k = 9 then Int32.ofInt 0 else if k = 8 then Int32.ofInt 0 else if k = 7 then Int32.ofInt 0 else if k = 6 then Int32.ofInt 0 else if k = 5 then Int32.ofInt 0 else if k = 4 then Int32.ofInt 0 else if k = 3 then Int32.ofInt 0 else if k = 2 then Int32.ofInt 0 else if k = 1 then Int32.ofInt 0 else old
def q_dI (x : Int32) (k : Nat) (old : Int32) : Int32 := if k = 0 then x else if k = 15 then Int32.ofInt 0 else if k = 14 then Int32.ofInt 0 else if k = 13 then Int32.ofInt 0 else if k = 12 then Int32.ofInt 2147483647 else if k = 11 then Int32.ofInt 0 else if k = 10 then Int32.ofInt (-1) else if k = 9 then Int32.ofInt (-1) else if k = 8 then Int32.ofInt 0 else if k = 4 then Int32.ofInt 0 else if k = 3 then Int32.ofInt 0 else if k = 2 then Int32.ofInt (-1) else if k = 1 then Int32.ofInt 0 else old
def q_dR (n k : Nat) (old : Option Nat) : Option Nat := if k = 7 then some (n + 2) else if k = 6 then some (n + 1) else if k = 5 then some n else old
def q_Req (h : m_H) (a : Nat) (x : Int32) : m_H := ((m_n h, m_c h, m_s h), m_k h, m_l h, (fun c k => if c = a then q_rI x k (m_I h a k) else m_I h c k), m_L h, m_D h, m_R h)
theorem h_n_Req (h : m_H) (a : Nat) (x : Int32) : m_n (q_Req h a x) = m_n h := of_eq_true (eq_self _)
theorem h_c_Req (h : m_H) (a : Nat) (x : Int32) : m_c (q_Req h a x) = m_c h := of_eq_true (eq_self _)
theorem h_s_Req (h : m_H) (a : Nat) (x : Int32) : m_s (q_Req h a x) = m_s h := of_eq_true (eq_self _)
theorem h_k_Req (h : m_H) (a : Nat) (x : Int32) : m_k (q_Req h a x) = m_k h := of_eq_true (eq_self _)
theorem h_l_Req (h : m_H) (a : Nat) (x : Int32) : m_l (q_Req h a x) = m_l h := of_eq_true (eq_self _)
theorem h_I_Req (h : m_H) (a : Nat) (x : Int32) (c k : Nat) : m_I (q_Req h a x) c k = if c = a then q_rI x k (m_I h a k) else m_I h c k := of_eq_true (eq_self _)
theorem h_L_Req (h : m_H) (a : Nat) (x : Int32) : m_L (q_Req h a x) = m_L h := of_eq_true (eq_self _)
theorem h_D_Req (h : m_H) (a : Nat) (x : Int32) : m_D (q_Req h a x) = m_D h := of_eq_true (eq_self _)
theorem h_R_Req (h : m_H) (a : Nat) (x : Int32) : m_R (q_Req h a x) = m_R h := of_eq_true (eq_self _)
def q_Drv (h : m_H) (a : Nat) (x : Int32) : m_H := ((m_n h + 3, m_c h + 3, m_s h + 38), (fun c => if c = m_n h + 2 ∨ c = m_n h + 1 ∨ c = m_n h then 100 else m_k h c), (fun c => if c = m_n h + 2 then 20 else if c = m_n h + 1 then 4 else if c = m_n h then 14 else m_l h c), (fun c k => if c = a then q_dI x k (m_I h a k) else if c = m_n h + 2 ∨ c = m_n h + 1 ∨ c = m_n h then 0 else m_I h c k), (fun c k => if c = m_n h + 2 ∨ c = m_n h + 1 ∨ c = m_n h then 0 else m_L h c k), (fun c k => if c = m_n h + 2 ∨ c = m_n h + 1 ∨ c = m_n h then 0 else m_D h c k), (fun c k => if c = a then q_dR (m_n h) k (m_R h a k) else if c = m_n h + 2 ∨ c = m_n h + 1 ∨ c = m_n h then none else m_R h c k))
theorem h_n_Drv (h : m_H) (a : Nat) (x : Int32) : m_n (q_Drv h a x) = m_n h + 3 := of_eq_true (eq_self _)
theorem h_c_Drv (h : m_H) (a : Nat) (x : Int32) : m_c (q_Drv h a x) = m_c h + 3 := of_eq_true (eq_self _)
theorem h_s_Drv (h : m_H) (a : Nat) (x : Int32) : m_s (q_Drv h a x) = m_s h + 38 := of_eq_true (eq_self _)
theorem h_k_Drv (h : m_H) (a : Nat) (x : Int32) (c : Nat) : m_k (q_Drv h a x) c = if c = m_n h + 2 ∨ c = m_n h + 1 ∨ c = m_n h then 100 else m_k h c := of_eq_true (eq_self _)
theorem h_l_Drv (h : m_H) (a : Nat) (x : Int32) (c : Nat) : m_l (q_Drv h a x) c = if c = m_n h + 2 then 20 else if c = m_n h + 1 then 4 else if c = m_n h then 14 else m_l h c := of_eq_true (eq_self _)
theorem h_I_Drv (h : m_H) (a : Nat) (x : Int32) (c k : Nat) : m_I (q_Drv h a x) c k = if c = a then q_dI x k (m_I h a k) else if c = m_n h + 2 ∨ c = m_n h + 1 ∨ c = m_n h then 0 else m_I h c k := of_eq_true (eq_self _)
theorem h_L_Drv (h : m_H) (a : Nat) (x : Int32) (c k : Nat) : m_L (q_Drv h a x) c k = if c = m_n h + 2 ∨ c = m_n h + 1 ∨ c = m_n h then 0 else m_L h c k := of_eq_true (eq_self _)
theorem h_D_Drv (h : m_H) (a : Nat) (x : Int32) (c k : Nat) : m_D (q_Drv h a x) c k = if c = m_n h + 2 ∨ c = m_n h + 1 ∨ c = m_n h then 0 else m_D h c k := of_eq_true (eq_self _)
theorem h_R_Drv (h : m_H) (a : Nat) (x : Int32) (c k : Nat) : m_R (q_Drv h a x) c k = if c = a then q_dR (m_n h) k (m_R h a k) else if c = m_n h + 2 ∨ c = m_n h + 1 ∨ c = m_n h then none else m_R h c k := of_eq_true (eq_self _)
theorem q_if3 {α : Type} {c n : Nat} {u v : α} : (if c = n + 1 + 1 then u else if c = n + 1 then u else if c = n then u else v) = if c = n + 2 ∨ c = n + 1 ∨ c = n then u else v := by
  by_cases e2 : c = n + 2
  · rw [if_pos (show c = n + 1 + 1 from e2), if_pos (Or.inl e2)]
  · rw [if_neg (show ¬ c = n + 1 + 1 from e2)]
    by_cases e1 : c = n + 1
    · rw [if_pos e1, if_pos (Or.inr (Or.inl e1))]
    · rw [if_neg e1]
      by_cases e0 : c = n
      · rw [if_pos e0, if_pos (Or.inr (Or.inr e0))]
      · rw [if_neg e0, if_neg (fun e => e.elim e2 (fun e => e.elim e1 e0))]
theorem ct_51 {L : Nat} {xs : Nat → Int32} {d : Nat} {h : m_H} {Q : Option Value ⊕ Nat → m_H → Prop} {a : Nat} {x : Int32} (h1 : a < m_n h) (h2 : m_k h a = 7) : m_W (p_P L xs) d 51 k_51_0 [some (.ref a), some (.int x)] [] h Q = Q (.inl none) (q_Req h a x) := by
  simp (disch := first | omega | (simp (disch := first | omega | (simp only [h_n_setI, h_n_setL, h_n_setD, h_n_setR, h_n_cpy, h_n_fill, h_n_mk, h_n_bump]; omega)) only [i_lt0, i_tn, i_nn, m_cat_n, m_cat_i, m_cat_r, m_cat_z, m_cat_rv, m_cat_l, m_o_n, m_o_i, m_o_r, m_o_z, m_o_rv, m_o_f, h_n_setI, h_n_setL, h_n_setD, h_n_setR, h_n_cpy, h_n_fill, h_n_mk, h_n_bump, h_k_setI, h_k_setL, h_k_setD, h_k_setR, h_k_cpy, h_k_fill, h_k_bump, h_l_setI, h_l_setL, h_l_setD, h_l_setR, h_l_cpy, h_l_fill, h_l_bump, hk_old, hk_new, hl_old, hl_new, h2]; first | done | omega)) only [k_51_0, w_aload_0, w_aloadz_0, w_aloadv_0, m_cat_n, m_cat_i, m_cat_r, m_cat_z, m_cat_rv, m_cat_l, Nat.zero_le, Nat.reduceLeDiff, Nat.reduceAdd, w_obj, w_iconst, pf_449, pf_450, pf_451, pf_452, pf_453, pf_454, pf_455, pf_456, pf_457, pf_458, pf_459, pf_460, pf_461, pf_462, pf_463, w_iload_1, pf_448, w_vret, h_n_setI, h_n_setL, h_n_setD, h_n_setR, h_n_cpy, h_n_fill, h_n_mk, h_n_bump, i_add, i_sub, i_mul, i_tn, i_nat, Int.reduceToNat, Int.reduceAdd, Int.reduceSub, Int.reduceMul, Int.reduceNeg]
  refine congrArg (Q (Sum.inl none)) (m_H_ex ?_ ?_ ?_ ?_ ?_ ?_ ?_ ?_ ?_)
  · simp only [h_n_setI, h_n_Req]
  · simp only [h_c_setI, h_c_Req]
  · simp only [h_s_setI, h_s_Req]
  · simp only [h_k_setI, h_k_Req]
  · simp only [h_l_setI, h_l_Req]
  · funext c k
    simp only [h_I_setI, h_I_Req]
    by_cases hc : c = a
    · subst hc
      simp only [true_and, ↓reduceIte, q_rI]
    · simp only [hc, false_and, ↓reduceIte]
  · simp only [h_L_setI, h_L_Req]
  · simp only [h_D_setI, h_D_Req]
  · simp only [h_R_setI, h_R_Req]
theorem ct_6 {L : Nat} {xs : Nat → Int32} {d : Nat} {h : m_H} {Q : Option Value ⊕ Nat → m_H → Prop} {a : Nat} {x : Int32} (h1 : a < m_n h) (h2 : m_k h a = 2) (h3 : m_n h + 4 < m_X) : m_W (p_P L xs) d 6 k_6_0 [some (.ref a), some (.int x)] [] h Q = Q (.inl none) (q_Drv h a x) := by
  simp (disch := first | omega | (simp (disch := first | omega | (simp only [h_n_setI, h_n_setL, h_n_setD, h_n_setR, h_n_cpy, h_n_fill, h_n_mk, h_n_bump]; omega)) only [i_lt0, i_tn, i_nn, m_cat_n, m_cat_i, m_cat_r, m_cat_z, m_cat_rv, m_cat_l, m_o_n, m_o_i, m_o_r, m_o_z, m_o_rv, m_o_f, h_n_setI, h_n_setL, h_n_setD, h_n_setR, h_n_cpy, h_n_fill, h_n_mk, h_n_bump, h_k_setI, h_k_setL, h_k_setD, h_k_setR, h_k_cpy, h_k_fill, h_k_bump, h_l_setI, h_l_setL, h_l_setD, h_l_setR, h_l_cpy, h_l_fill, h_l_bump, hk_old, hk_new, hl_old, hl_new, h2]; first | done | omega)) only [k_6_0, w_aload_0, w_aloadz_0, w_aloadv_0, m_cat_n, m_cat_i, m_cat_r, m_cat_z, m_cat_rv, m_cat_l, Nat.zero_le, Nat.reduceLeDiff, Nat.reduceAdd, w_obj, w_iconst, pf_129, pf_130, pf_131, pf_132, w_new_int, pf_133, pfz_133, pfv_133, pf_134, pfz_134, pfv_134, pf_135, pfz_135, pfv_135, pf_136, pf_137, pf_138, pf_139, pf_140, pf_141, pf_142, pf_143, w_iload_1, pf_128, w_vret, h_n_setI, h_n_setL, h_n_setD, h_n_setR, h_n_cpy, h_n_fill, h_n_mk, h_n_bump, i_add, i_sub, i_mul, i_tn, i_nat, Int.reduceToNat, Int.reduceAdd, Int.reduceSub, Int.reduceMul, Int.reduceNeg]
  have f0 : ¬ a = m_n h := by omega
  have f1 : ¬ a = m_n h + 1 := by omega
  have f2 : ¬ a = m_n h + 1 + 1 := by omega
  refine congrArg (Q (Sum.inl none)) (m_H_ex ?_ ?_ ?_ ?_ ?_ ?_ ?_ ?_ ?_)
  · simp only [h_n_setI, h_n_setR, h_n_mk, h_n_Drv]
  · simp only [h_c_setI, h_c_setR, h_c_mk, h_c_Drv]
  · simp only [h_s_setI, h_s_setR, h_s_mk, h_s_Drv]
  · funext c
    simp only [h_k_setI, h_k_setR, h_k_mk, h_k_Drv, h_n_setI, h_n_setL, h_n_setD, h_n_setR, h_n_cpy, h_n_fill, h_n_mk, h_n_bump, q_if3]
  · funext c
    simp only [h_l_setI, h_l_setR, h_l_mk, h_l_Drv, h_n_setI, h_n_setL, h_n_setD, h_n_setR, h_n_cpy, h_n_fill, h_n_mk, h_n_bump]
  · funext c k
    simp only [h_I_setI, h_I_setR, h_I_mk, h_I_Drv, h_n_setI, h_n_setL, h_n_setD, h_n_setR, h_n_cpy, h_n_fill, h_n_mk, h_n_bump, q_if3]
    by_cases hc : c = a
    · subst hc
      simp only [true_and, ↓reduceIte, q_dI, f0, f1, show ¬ c = m_n h + 2 from f2, or_self]
    · simp only [hc, false_and, ↓reduceIte]
  · funext c k
    simp only [h_L_setI, h_L_setR, h_L_mk, h_L_Drv, h_n_setI, h_n_setL, h_n_setD, h_n_setR, h_n_cpy, h_n_fill, h_n_mk, h_n_bump, q_if3]
  · funext c k
    simp only [h_D_setI, h_D_setR, h_D_mk, h_D_Drv, h_n_setI, h_n_setL, h_n_setD, h_n_setR, h_n_cpy, h_n_fill, h_n_mk, h_n_bump, q_if3]
  · funext c k
    simp only [h_R_setI, h_R_setR, h_R_mk, h_R_Drv, h_n_setI, h_n_setL, h_n_setD, h_n_setR, h_n_cpy, h_n_fill, h_n_mk, h_n_bump, q_if3]
    by_cases hc : c = a
    · subst hc
      simp only [true_and, ↓reduceIte, q_dR, f0, f1, f2]
    · simp only [hc, false_and, ↓reduceIte, q_if3]
