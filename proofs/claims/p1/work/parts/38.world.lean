/-! the rows of World: j requests, j drivers made -/
def q_Rq (h : m_H) (row j : Nat) : m_H := ((m_n h + j, m_c h + j, m_s h + 16 * j), (fun c => if m_n h ≤ c ∧ c < m_n h + j then 7 else m_k h c), (fun c => if m_n h ≤ c ∧ c < m_n h + j then 0 else m_l h c), (fun c k => if m_n h ≤ c ∧ c < m_n h + j then q_rI (Int32.ofInt ((c - m_n h : Nat) : Int)) k 0 else m_I h c k), (fun c k => if m_n h ≤ c ∧ c < m_n h + j then 0 else m_L h c k), (fun c k => if m_n h ≤ c ∧ c < m_n h + j then 0 else m_D h c k), (fun c k => if c = row ∧ k < j then some (m_n h + k) else if m_n h ≤ c ∧ c < m_n h + j then none else m_R h c k))
theorem h_n_Rq (h : m_H) (row j : Nat) : m_n (q_Rq h row j) = m_n h + j := of_eq_true (eq_self _)
theorem h_c_Rq (h : m_H) (row j : Nat) : m_c (q_Rq h row j) = m_c h + j := of_eq_true (eq_self _)
theorem h_s_Rq (h : m_H) (row j : Nat) : m_s (q_Rq h row j) = m_s h + 16 * j := of_eq_true (eq_self _)
theorem h_k_Rq (h : m_H) (row j : Nat) (c : Nat) : m_k (q_Rq h row j) c = if m_n h ≤ c ∧ c < m_n h + j then 7 else m_k h c := of_eq_true (eq_self _)
theorem h_l_Rq (h : m_H) (row j : Nat) (c : Nat) : m_l (q_Rq h row j) c = if m_n h ≤ c ∧ c < m_n h + j then 0 else m_l h c := of_eq_true (eq_self _)
theorem h_I_Rq (h : m_H) (row j : Nat) (c k : Nat) : m_I (q_Rq h row j) c k = if m_n h ≤ c ∧ c < m_n h + j then q_rI (Int32.ofInt ((c - m_n h : Nat) : Int)) k 0 else m_I h c k := of_eq_true (eq_self _)
theorem h_L_Rq (h : m_H) (row j : Nat) (c k : Nat) : m_L (q_Rq h row j) c k = if m_n h ≤ c ∧ c < m_n h + j then 0 else m_L h c k := of_eq_true (eq_self _)
theorem h_D_Rq (h : m_H) (row j : Nat) (c k : Nat) : m_D (q_Rq h row j) c k = if m_n h ≤ c ∧ c < m_n h + j then 0 else m_D h c k := of_eq_true (eq_self _)
theorem h_R_Rq (h : m_H) (row j : Nat) (c k : Nat) : m_R (q_Rq h row j) c k = if c = row ∧ k < j then some (m_n h + k) else if m_n h ≤ c ∧ c < m_n h + j then none else m_R h c k := of_eq_true (eq_self _)
def q_dl (r : Nat) : Nat := if r = 3 then 20 else if r = 2 then 4 else if r = 1 then 14 else 0
def q_Dr (h : m_H) (row j : Nat) : m_H := ((m_n h + 4 * j, m_c h + 4 * j, m_s h + 54 * j), (fun c => if m_n h ≤ c ∧ c < m_n h + 4 * j then (if (c - m_n h) % 4 = 0 then 2 else 100) else m_k h c), (fun c => if m_n h ≤ c ∧ c < m_n h + 4 * j then q_dl ((c - m_n h) % 4) else m_l h c), (fun c k => if m_n h ≤ c ∧ c < m_n h + 4 * j then (if (c - m_n h) % 4 = 0 then q_dI (Int32.ofInt (((c - m_n h) / 4 : Nat) : Int)) k 0 else 0) else m_I h c k), (fun c k => if m_n h ≤ c ∧ c < m_n h + 4 * j then 0 else m_L h c k), (fun c k => if m_n h ≤ c ∧ c < m_n h + 4 * j then 0 else m_D h c k), (fun c k => if c = row ∧ k < j then some (m_n h + 4 * k) else if m_n h ≤ c ∧ c < m_n h + 4 * j then (if (c - m_n h) % 4 = 0 then q_dR (c + 1) k none else none) else m_R h c k))
theorem h_n_Dr (h : m_H) (row j : Nat) : m_n (q_Dr h row j) = m_n h + 4 * j := of_eq_true (eq_self _)
theorem h_c_Dr (h : m_H) (row j : Nat) : m_c (q_Dr h row j) = m_c h + 4 * j := of_eq_true (eq_self _)
theorem h_s_Dr (h : m_H) (row j : Nat) : m_s (q_Dr h row j) = m_s h + 54 * j := of_eq_true (eq_self _)
theorem h_k_Dr (h : m_H) (row j : Nat) (c : Nat) : m_k (q_Dr h row j) c = if m_n h ≤ c ∧ c < m_n h + 4 * j then (if (c - m_n h) % 4 = 0 then 2 else 100) else m_k h c := of_eq_true (eq_self _)
theorem h_l_Dr (h : m_H) (row j : Nat) (c : Nat) : m_l (q_Dr h row j) c = if m_n h ≤ c ∧ c < m_n h + 4 * j then q_dl ((c - m_n h) % 4) else m_l h c := of_eq_true (eq_self _)
theorem h_I_Dr (h : m_H) (row j : Nat) (c k : Nat) : m_I (q_Dr h row j) c k = if m_n h ≤ c ∧ c < m_n h + 4 * j then (if (c - m_n h) % 4 = 0 then q_dI (Int32.ofInt (((c - m_n h) / 4 : Nat) : Int)) k 0 else 0) else m_I h c k := of_eq_true (eq_self _)
theorem h_L_Dr (h : m_H) (row j : Nat) (c k : Nat) : m_L (q_Dr h row j) c k = if m_n h ≤ c ∧ c < m_n h + 4 * j then 0 else m_L h c k := of_eq_true (eq_self _)
theorem h_D_Dr (h : m_H) (row j : Nat) (c k : Nat) : m_D (q_Dr h row j) c k = if m_n h ≤ c ∧ c < m_n h + 4 * j then 0 else m_D h c k := of_eq_true (eq_self _)
theorem h_R_Dr (h : m_H) (row j : Nat) (c k : Nat) : m_R (q_Dr h row j) c k = if c = row ∧ k < j then some (m_n h + 4 * k) else if m_n h ≤ c ∧ c < m_n h + 4 * j then (if (c - m_n h) % 4 = 0 then q_dR (c + 1) k none else none) else m_R h c k := of_eq_true (eq_self _)
theorem q_Rq_s {h : m_H} {row j : Nat} (hr : row < m_n h) : m_setR (q_Req (m_mk (q_Rq h row j) 7 0 16) (m_n h + j) (Int32.ofInt j)) row j (some (m_n h + j)) = q_Rq h row (j + 1) := by
  refine m_H_ex ?_ ?_ ?_ ?_ ?_ ?_ ?_ ?_ ?_
  · simp only [h_n_setR, h_n_Req, h_n_mk, h_n_Rq]; omega
  · simp only [h_c_setR, h_c_Req, h_c_mk, h_c_Rq]; omega
  · simp only [h_s_setR, h_s_Req, h_s_mk, h_s_Rq]; omega
  · funext c
    simp only [h_k_setR, h_k_Req, h_k_mk, h_k_Rq, h_n_setI, h_n_setL, h_n_setD, h_n_setR, h_n_cpy, h_n_fill, h_n_mk, h_n_bump, h_n_Req, h_n_Drv, h_n_Rq, h_n_Dr]
    by_cases e0 : m_n h + j ≤ c ∧ c < m_n h + (j + 1)
    · rcases (show c = m_n h + j by omega) with e
      · subst e
        simp (disch := omega) only [↓reduceIte, true_and, and_true, true_or, or_true, if_pos, if_neg]
    · by_cases e2 : m_n h ≤ c ∧ c < m_n h + j
      · simp (disch := omega) only [↓reduceIte, true_and, and_true, true_or, or_true, if_pos, if_neg]
      · simp (disch := omega) only [↓reduceIte, true_and, and_true, true_or, or_true, if_pos, if_neg]
  · funext c
    simp only [h_l_setR, h_l_Req, h_l_mk, h_l_Rq, h_n_setI, h_n_setL, h_n_setD, h_n_setR, h_n_cpy, h_n_fill, h_n_mk, h_n_bump, h_n_Req, h_n_Drv, h_n_Rq, h_n_Dr]
    by_cases e0 : m_n h + j ≤ c ∧ c < m_n h + (j + 1)
    · rcases (show c = m_n h + j by omega) with e
      · subst e
        simp (disch := omega) only [↓reduceIte, true_and, and_true, true_or, or_true, if_pos, if_neg]
    · by_cases e2 : m_n h ≤ c ∧ c < m_n h + j
      · simp (disch := omega) only [↓reduceIte, true_and, and_true, true_or, or_true, if_pos, if_neg]
      · simp (disch := omega) only [↓reduceIte, true_and, and_true, true_or, or_true, if_pos, if_neg]
  · funext c k
    simp only [h_I_setR, h_I_Req, h_I_mk, h_I_Rq, h_n_setI, h_n_setL, h_n_setD, h_n_setR, h_n_cpy, h_n_fill, h_n_mk, h_n_bump, h_n_Req, h_n_Drv, h_n_Rq, h_n_Dr]
    by_cases e0 : m_n h + j ≤ c ∧ c < m_n h + (j + 1)
    · rcases (show c = m_n h + j by omega) with e
      · subst e
        have e1 : m_n h + j - m_n h = j := by omega
        simp (disch := omega) only [↓reduceIte, true_and, and_true, true_or, or_true, if_pos, if_neg, e1]
    · by_cases e2 : m_n h ≤ c ∧ c < m_n h + j
      · simp (disch := omega) only [↓reduceIte, true_and, and_true, true_or, or_true, if_pos, if_neg]
      · simp (disch := omega) only [↓reduceIte, true_and, and_true, true_or, or_true, if_pos, if_neg]
  · funext c k
    simp only [h_L_setR, h_L_Req, h_L_mk, h_L_Rq, h_n_setI, h_n_setL, h_n_setD, h_n_setR, h_n_cpy, h_n_fill, h_n_mk, h_n_bump, h_n_Req, h_n_Drv, h_n_Rq, h_n_Dr]
    by_cases e0 : m_n h + j ≤ c ∧ c < m_n h + (j + 1)
    · rcases (show c = m_n h + j by omega) with e
      · subst e
        simp (disch := omega) only [↓reduceIte, true_and, and_true, true_or, or_true, if_pos, if_neg]
    · by_cases e2 : m_n h ≤ c ∧ c < m_n h + j
      · simp (disch := omega) only [↓reduceIte, true_and, and_true, true_or, or_true, if_pos, if_neg]
      · simp (disch := omega) only [↓reduceIte, true_and, and_true, true_or, or_true, if_pos, if_neg]
  · funext c k
    simp only [h_D_setR, h_D_Req, h_D_mk, h_D_Rq, h_n_setI, h_n_setL, h_n_setD, h_n_setR, h_n_cpy, h_n_fill, h_n_mk, h_n_bump, h_n_Req, h_n_Drv, h_n_Rq, h_n_Dr]
    by_cases e0 : m_n h + j ≤ c ∧ c < m_n h + (j + 1)
    · rcases (show c = m_n h + j by omega) with e
      · subst e
        simp (disch := omega) only [↓reduceIte, true_and, and_true, true_or, or_true, if_pos, if_neg]
    · by_cases e2 : m_n h ≤ c ∧ c < m_n h + j
      · simp (disch := omega) only [↓reduceIte, true_and, and_true, true_or, or_true, if_pos, if_neg]
      · simp (disch := omega) only [↓reduceIte, true_and, and_true, true_or, or_true, if_pos, if_neg]
  · funext c k
    simp only [h_R_setR, h_R_Req, h_R_mk, h_R_Rq, h_n_setI, h_n_setL, h_n_setD, h_n_setR, h_n_cpy, h_n_fill, h_n_mk, h_n_bump, h_n_Req, h_n_Drv, h_n_Rq, h_n_Dr]
    by_cases er : c = row
    · subst er
      by_cases ek : k = j
      · subst ek
        simp (disch := omega) only [↓reduceIte, true_and, and_true, true_or, or_true, if_pos, if_neg, true_and, and_self]
      · by_cases el : k < j
        · simp (disch := omega) only [↓reduceIte, true_and, and_true, true_or, or_true, if_pos, if_neg]
        · simp (disch := omega) only [↓reduceIte, true_and, and_true, true_or, or_true, if_pos, if_neg]
    · by_cases e0 : m_n h + j ≤ c ∧ c < m_n h + (j + 1)
      · rcases (show c = m_n h + j by omega) with e
        · subst e
          simp (disch := omega) only [↓reduceIte, true_and, and_true, true_or, or_true, if_pos, if_neg]
      · by_cases e2 : m_n h ≤ c ∧ c < m_n h + j
        · simp (disch := omega) only [↓reduceIte, true_and, and_true, true_or, or_true, if_pos, if_neg]
        · simp (disch := omega) only [↓reduceIte, true_and, and_true, true_or, or_true, if_pos, if_neg]
theorem q_Dr_s {h : m_H} {row j : Nat} (hr : row < m_n h) : m_setR (q_Drv (m_mk (q_Dr h row j) 2 0 16) (m_n h + 4 * j) (Int32.ofInt j)) row j (some (m_n h + 4 * j)) = q_Dr h row (j + 1) := by
  refine m_H_ex ?_ ?_ ?_ ?_ ?_ ?_ ?_ ?_ ?_
  · simp only [h_n_setR, h_n_Drv, h_n_mk, h_n_Dr]; omega
  · simp only [h_c_setR, h_c_Drv, h_c_mk, h_c_Dr]; omega
  · simp only [h_s_setR, h_s_Drv, h_s_mk, h_s_Dr]; omega
  · funext c
    simp only [h_k_setR, h_k_Drv, h_k_mk, h_k_Dr, h_n_setI, h_n_setL, h_n_setD, h_n_setR, h_n_cpy, h_n_fill, h_n_mk, h_n_bump, h_n_Req, h_n_Drv, h_n_Rq, h_n_Dr]
    by_cases e0 : m_n h + 4 * j ≤ c ∧ c < m_n h + 4 * (j + 1)
    · rcases (show c = m_n h + 4 * j ∨ c = m_n h + 4 * j + 1 ∨ c = m_n h + 4 * j + 2 ∨ c = m_n h + 4 * j + 3 by omega) with e | e | e | e
      · subst e
        simp (disch := omega) only [↓reduceIte, true_and, and_true, true_or, or_true, if_pos, if_neg]
      · subst e
        simp (disch := omega) only [↓reduceIte, true_and, and_true, true_or, or_true, if_pos, if_neg]
      · subst e
        simp (disch := omega) only [↓reduceIte, true_and, and_true, true_or, or_true, if_pos, if_neg]
      · subst e
        simp (disch := omega) only [↓reduceIte, true_and, and_true, true_or, or_true, if_pos, if_neg]
    · by_cases e2 : m_n h ≤ c ∧ c < m_n h + 4 * j
      · simp (disch := omega) only [↓reduceIte, true_and, and_true, true_or, or_true, if_pos, if_neg]
      · simp (disch := omega) only [↓reduceIte, true_and, and_true, true_or, or_true, if_pos, if_neg]
  · funext c
    simp only [h_l_setR, h_l_Drv, h_l_mk, h_l_Dr, h_n_setI, h_n_setL, h_n_setD, h_n_setR, h_n_cpy, h_n_fill, h_n_mk, h_n_bump, h_n_Req, h_n_Drv, h_n_Rq, h_n_Dr]
    by_cases e0 : m_n h + 4 * j ≤ c ∧ c < m_n h + 4 * (j + 1)
    · rcases (show c = m_n h + 4 * j ∨ c = m_n h + 4 * j + 1 ∨ c = m_n h + 4 * j + 2 ∨ c = m_n h + 4 * j + 3 by omega) with e | e | e | e
      · subst e
        have e1 : (m_n h + 4 * j - m_n h) % 4 = 0 := by omega
        simp (disch := omega) only [↓reduceIte, true_and, and_true, true_or, or_true, if_pos, if_neg, e1, q_dl]
      · subst e
        have e1 : (m_n h + 4 * j + 1 - m_n h) % 4 = 1 := by omega
        simp (disch := omega) only [↓reduceIte, true_and, and_true, true_or, or_true, if_pos, if_neg, e1, q_dl]
      · subst e
        have e1 : (m_n h + 4 * j + 2 - m_n h) % 4 = 2 := by omega
        simp (disch := omega) only [↓reduceIte, true_and, and_true, true_or, or_true, if_pos, if_neg, e1, q_dl]
      · subst e
        have e1 : (m_n h + 4 * j + 3 - m_n h) % 4 = 3 := by omega
        simp (disch := omega) only [↓reduceIte, true_and, and_true, true_or, or_true, if_pos, if_neg, e1, q_dl]
    · by_cases e2 : m_n h ≤ c ∧ c < m_n h + 4 * j
      · simp (disch := omega) only [↓reduceIte, true_and, and_true, true_or, or_true, if_pos, if_neg]
      · simp (disch := omega) only [↓reduceIte, true_and, and_true, true_or, or_true, if_pos, if_neg]
  · funext c k
    simp only [h_I_setR, h_I_Drv, h_I_mk, h_I_Dr, h_n_setI, h_n_setL, h_n_setD, h_n_setR, h_n_cpy, h_n_fill, h_n_mk, h_n_bump, h_n_Req, h_n_Drv, h_n_Rq, h_n_Dr]
    by_cases e0 : m_n h + 4 * j ≤ c ∧ c < m_n h + 4 * (j + 1)
    · rcases (show c = m_n h + 4 * j ∨ c = m_n h + 4 * j + 1 ∨ c = m_n h + 4 * j + 2 ∨ c = m_n h + 4 * j + 3 by omega) with e | e | e | e
      · subst e
        have e1 : (m_n h + 4 * j - m_n h) / 4 = j := by omega
        simp (disch := omega) only [↓reduceIte, true_and, and_true, true_or, or_true, if_pos, if_neg, e1]
      · subst e
        have e1 : (m_n h + 4 * j + 1 - m_n h) / 4 = j := by omega
        simp (disch := omega) only [↓reduceIte, true_and, and_true, true_or, or_true, if_pos, if_neg, e1]
      · subst e
        have e1 : (m_n h + 4 * j + 2 - m_n h) / 4 = j := by omega
        simp (disch := omega) only [↓reduceIte, true_and, and_true, true_or, or_true, if_pos, if_neg, e1]
      · subst e
        have e1 : (m_n h + 4 * j + 3 - m_n h) / 4 = j := by omega
        simp (disch := omega) only [↓reduceIte, true_and, and_true, true_or, or_true, if_pos, if_neg, e1]
    · by_cases e2 : m_n h ≤ c ∧ c < m_n h + 4 * j
      · simp (disch := omega) only [↓reduceIte, true_and, and_true, true_or, or_true, if_pos, if_neg]
      · simp (disch := omega) only [↓reduceIte, true_and, and_true, true_or, or_true, if_pos, if_neg]
  · funext c k
    simp only [h_L_setR, h_L_Drv, h_L_mk, h_L_Dr, h_n_setI, h_n_setL, h_n_setD, h_n_setR, h_n_cpy, h_n_fill, h_n_mk, h_n_bump, h_n_Req, h_n_Drv, h_n_Rq, h_n_Dr]
    by_cases e0 : m_n h + 4 * j ≤ c ∧ c < m_n h + 4 * (j + 1)
    · rcases (show c = m_n h + 4 * j ∨ c = m_n h + 4 * j + 1 ∨ c = m_n h + 4 * j + 2 ∨ c = m_n h + 4 * j + 3 by omega) with e | e | e | e
      · subst e
        simp (disch := omega) only [↓reduceIte, true_and, and_true, true_or, or_true, if_pos, if_neg]
      · subst e
        simp (disch := omega) only [↓reduceIte, true_and, and_true, true_or, or_true, if_pos, if_neg]
      · subst e
        simp (disch := omega) only [↓reduceIte, true_and, and_true, true_or, or_true, if_pos, if_neg]
      · subst e
        simp (disch := omega) only [↓reduceIte, true_and, and_true, true_or, or_true, if_pos, if_neg]
    · by_cases e2 : m_n h ≤ c ∧ c < m_n h + 4 * j
      · simp (disch := omega) only [↓reduceIte, true_and, and_true, true_or, or_true, if_pos, if_neg]
      · simp (disch := omega) only [↓reduceIte, true_and, and_true, true_or, or_true, if_pos, if_neg]
  · funext c k
    simp only [h_D_setR, h_D_Drv, h_D_mk, h_D_Dr, h_n_setI, h_n_setL, h_n_setD, h_n_setR, h_n_cpy, h_n_fill, h_n_mk, h_n_bump, h_n_Req, h_n_Drv, h_n_Rq, h_n_Dr]
    by_cases e0 : m_n h + 4 * j ≤ c ∧ c < m_n h + 4 * (j + 1)
    · rcases (show c = m_n h + 4 * j ∨ c = m_n h + 4 * j + 1 ∨ c = m_n h + 4 * j + 2 ∨ c = m_n h + 4 * j + 3 by omega) with e | e | e | e
      · subst e
        simp (disch := omega) only [↓reduceIte, true_and, and_true, true_or, or_true, if_pos, if_neg]
      · subst e
        simp (disch := omega) only [↓reduceIte, true_and, and_true, true_or, or_true, if_pos, if_neg]
      · subst e
        simp (disch := omega) only [↓reduceIte, true_and, and_true, true_or, or_true, if_pos, if_neg]
      · subst e
        simp (disch := omega) only [↓reduceIte, true_and, and_true, true_or, or_true, if_pos, if_neg]
    · by_cases e2 : m_n h ≤ c ∧ c < m_n h + 4 * j
      · simp (disch := omega) only [↓reduceIte, true_and, and_true, true_or, or_true, if_pos, if_neg]
      · simp (disch := omega) only [↓reduceIte, true_and, and_true, true_or, or_true, if_pos, if_neg]
  · funext c k
    simp only [h_R_setR, h_R_Drv, h_R_mk, h_R_Dr, h_n_setI, h_n_setL, h_n_setD, h_n_setR, h_n_cpy, h_n_fill, h_n_mk, h_n_bump, h_n_Req, h_n_Drv, h_n_Rq, h_n_Dr]
    by_cases er : c = row
    · subst er
      by_cases ek : k = j
      · subst ek
        simp (disch := omega) only [↓reduceIte, true_and, and_true, true_or, or_true, if_pos, if_neg, true_and, and_self]
      · by_cases el : k < j
        · simp (disch := omega) only [↓reduceIte, true_and, and_true, true_or, or_true, if_pos, if_neg]
        · simp (disch := omega) only [↓reduceIte, true_and, and_true, true_or, or_true, if_pos, if_neg]
    · by_cases e0 : m_n h + 4 * j ≤ c ∧ c < m_n h + 4 * (j + 1)
      · rcases (show c = m_n h + 4 * j ∨ c = m_n h + 4 * j + 1 ∨ c = m_n h + 4 * j + 2 ∨ c = m_n h + 4 * j + 3 by omega) with e | e | e | e
        · subst e
          simp (disch := omega) only [↓reduceIte, true_and, and_true, true_or, or_true, if_pos, if_neg]
        · subst e
          simp (disch := omega) only [↓reduceIte, true_and, and_true, true_or, or_true, if_pos, if_neg]
        · subst e
          simp (disch := omega) only [↓reduceIte, true_and, and_true, true_or, or_true, if_pos, if_neg]
        · subst e
          simp (disch := omega) only [↓reduceIte, true_and, and_true, true_or, or_true, if_pos, if_neg]
      · by_cases e2 : m_n h ≤ c ∧ c < m_n h + 4 * j
        · simp (disch := omega) only [↓reduceIte, true_and, and_true, true_or, or_true, if_pos, if_neg]
        · simp (disch := omega) only [↓reduceIte, true_and, and_true, true_or, or_true, if_pos, if_neg]
