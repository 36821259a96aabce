/-! heaps that agree in all are one; rows copied and cleared place by place -/
theorem m_H_ext {h g : m_H} (e0 : h.1 = g.1) (ek : m_k h = m_k g) (el : m_l h = m_l g) (eI : m_I h = m_I g) (eL : m_L h = m_L g) (eD : m_D h = m_D g) (eR : m_R h = m_R g) : h = g := by
  obtain ⟨h0, hk, hl, hI, hL, hD, hR⟩ := h
  obtain ⟨g0, gk, gl, gI, gL, gD, gR⟩ := g
  cases e0; cases ek; cases el; cases eI; cases eL; cases eD; cases eR
  rfl
/-- n ints of a row set to v -/
def m_fill (h : m_H) (a i n : Nat) (v : Int32) : m_H := (h.1, m_k h, m_l h, (fun x y => if x = a ∧ i ≤ y ∧ y < i + n then v else m_I h x y), m_L h, m_D h, m_R h)
theorem h_n_fill (h : m_H) (a i n : Nat) (v : Int32) : m_n (m_fill h a i n v) = m_n h := of_eq_true (eq_self _)
theorem h_c_fill (h : m_H) (a i n : Nat) (v : Int32) : m_c (m_fill h a i n v) = m_c h := of_eq_true (eq_self _)
theorem h_s_fill (h : m_H) (a i n : Nat) (v : Int32) : m_s (m_fill h a i n v) = m_s h := of_eq_true (eq_self _)
theorem h_k_fill (h : m_H) (a i n : Nat) (v : Int32) : m_k (m_fill h a i n v) = m_k h := of_eq_true (eq_self _)
theorem h_l_fill (h : m_H) (a i n : Nat) (v : Int32) : m_l (m_fill h a i n v) = m_l h := of_eq_true (eq_self _)
theorem h_L_fill (h : m_H) (a i n : Nat) (v : Int32) : m_L (m_fill h a i n v) = m_L h := of_eq_true (eq_self _)
theorem h_D_fill (h : m_H) (a i n : Nat) (v : Int32) : m_D (m_fill h a i n v) = m_D h := of_eq_true (eq_self _)
theorem h_R_fill (h : m_H) (a i n : Nat) (v : Int32) : m_R (m_fill h a i n v) = m_R h := of_eq_true (eq_self _)
theorem h_I_fill (h : m_H) (a i n : Nat) (v : Int32) (x y : Nat) : m_I (m_fill h a i n v) x y = if x = a ∧ i ≤ y ∧ y < i + n then v else m_I h x y := of_eq_true (eq_self _)
theorem m_cpy_0 (h : m_H) (a i b j : Nat) : m_cpy h a i b j 0 = h := by
  refine m_H_ext rfl rfl rfl ?_ rfl rfl rfl
  funext x y
  rw [h_I_cpy, if_neg (by omega)]
theorem m_fill_0 (h : m_H) (a i : Nat) (v : Int32) : m_fill h a i 0 v = h := by
  refine m_H_ext rfl rfl rfl ?_ rfl rfl rfl
  funext x y
  rw [h_I_fill, if_neg (by omega)]
theorem m_cpy_s {h : m_H} {a i b j n p q : Nat} (hp : p = j + n) (hq : q = i + n) (hne : a ≠ b ∨ ¬ (j ≤ i + n ∧ i + n < j + n)) : m_setI (m_cpy h a i b j n) b p (m_I (m_cpy h a i b j n) a q) = m_cpy h a i b j (n + 1) := by
  subst hp hq
  refine m_H_ext rfl rfl rfl ?_ rfl rfl rfl
  funext x y
  rw [h_I_setI, h_I_cpy, h_I_cpy, h_I_cpy]
  rw [if_neg (show ¬ (a = b ∧ j ≤ i + n ∧ i + n < j + n) by omega)]
  by_cases e : x = b ∧ y = j + n
  · obtain ⟨rfl, rfl⟩ := e
    rw [if_pos ⟨rfl, rfl⟩, if_pos (by omega)]
    congr 1
    omega
  · rw [if_neg e]
    by_cases e2 : x = b ∧ j ≤ y ∧ y < j + n
    · rw [if_pos e2, if_pos (by omega)]
    · rw [if_neg e2, if_neg (by omega)]
theorem m_fill_s {h : m_H} {a i n p : Nat} {v : Int32} (hp : p = i + n) : m_setI (m_fill h a i n v) a p v = m_fill h a i (n + 1) v := by
  subst hp
  refine m_H_ext rfl rfl rfl ?_ rfl rfl rfl
  funext x y
  rw [h_I_setI, h_I_fill, h_I_fill]
  by_cases e : x = a ∧ y = i + n
  · rw [if_pos e, if_pos (by omega)]
  · rw [if_neg e]
    by_cases e2 : x = a ∧ i ≤ y ∧ y < i + n
    · rw [if_pos e2, if_pos (by omega)]
    · rw [if_neg e2, if_neg (by omega)]
theorem m_H_ex {h g : m_H} (en : m_n h = m_n g) (ec : m_c h = m_c g) (es : m_s h = m_s g) (ek : m_k h = m_k g) (el : m_l h = m_l g) (eI : m_I h = m_I g) (eL : m_L h = m_L g) (eD : m_D h = m_D g) (eR : m_R h = m_R g) : h = g := by
  refine m_H_ext ?_ ek el eI eL eD eR
  obtain ⟨⟨h1, h2, h3⟩, h'⟩ := h
  obtain ⟨⟨g1, g2, g3⟩, g'⟩ := g
  cases en; cases ec; cases es
  rfl
