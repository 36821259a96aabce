/-! the reader of the class: its shape, its ints -/
def RS (h : m_H) (r l : Nat) : Prop := r + 13 ≤ m_n h ∧ m_n h ≤ m_X ∧ 135 < r ∧ l ≤ 900 ∧ m_k h r = 6 ∧ m_R h r 0 = some (r + 1) ∧ m_R h r 2 = some (r + 7) ∧ m_R h r 3 = some (r + 9) ∧ m_k h (r + 1) = 8 ∧ m_R h (r + 1) 0 = some 1 ∧ m_k h 1 = 101 ∧ m_l h 1 = 900 ∧ m_R h (r + 1) 2 = some (r + 2) ∧ m_k h (r + 2) = 100 ∧ m_l h (r + 2) = l ∧ m_R h (r + 1) 3 = some (r + 3) ∧ m_k h (r + 3) = 100 ∧ m_l h (r + 3) = l ∧ m_R h (r + 1) 4 = some (r + 4) ∧ m_k h (r + 4) = 100 ∧ m_l h (r + 4) = l ∧ m_R h (r + 1) 5 = some (r + 5) ∧ m_k h (r + 5) = 100 ∧ m_l h (r + 5) = l ∧ m_R h (r + 1) 6 = some (r + 6) ∧ m_k h (r + 6) = 209 ∧ m_l h (r + 6) = l ∧ (m_k h (r + 7) = 5 ∧ m_R h (r + 7) 2 = some (r + 8) ∧ m_R h (r + 7) 10 = some (r + 9) ∧ m_k h (r + 8) = 201 ∧ m_l h (r + 8) = 8 ∧ m_k h (r + 9) = 0 ∧ m_R h (r + 9) 0 = some (r + 11) ∧ m_R h (r + 9) 1 = some (r + 12) ∧ m_R h (r + 9) 3 = some (r + 10) ∧ m_k h (r + 10) = 100 ∧ m_l h (r + 10) = 64 ∧ m_k h (r + 11) = 100 ∧ m_l h (r + 11) = l ∧ m_k h (r + 12) = 100 ∧ m_l h (r + 12) = l) ∧ (∀ i, m_isK (m_rv (m_R h (r + 6) i)) = true)
theorem RS_n {h : m_H} {r l : Nat} (S : RS h r l) : r + 13 ≤ m_n h := S.1
theorem RS_X {h : m_H} {r l : Nat} (S : RS h r l) : m_n h ≤ m_X := S.2.1
theorem RS_o {h : m_H} {r l : Nat} (S : RS h r l) : 135 < r := S.2.2.1
theorem RS_l9 {h : m_H} {r l : Nat} (S : RS h r l) : l ≤ 900 := S.2.2.2.1
theorem RS_k {h : m_H} {r l : Nat} (S : RS h r l) : m_k h r = 6 := S.2.2.2.2.1
theorem RS_r0 {h : m_H} {r l : Nat} (S : RS h r l) : m_R h r 0 = some (r + 1) := S.2.2.2.2.2.1
theorem RS_r2 {h : m_H} {r l : Nat} (S : RS h r l) : m_R h r 2 = some (r + 7) := S.2.2.2.2.2.2.1
theorem RS_r3 {h : m_H} {r l : Nat} (S : RS h r l) : m_R h r 3 = some (r + 9) := S.2.2.2.2.2.2.2.1
theorem RS_tk {h : m_H} {r l : Nat} (S : RS h r l) : m_k h (r + 1) = 8 := S.2.2.2.2.2.2.2.2.1
theorem RS_t0 {h : m_H} {r l : Nat} (S : RS h r l) : m_R h (r + 1) 0 = some 1 := S.2.2.2.2.2.2.2.2.2.1
theorem RS_bk {h : m_H} {r l : Nat} (S : RS h r l) : m_k h 1 = 101 := S.2.2.2.2.2.2.2.2.2.2.1
theorem RS_bl {h : m_H} {r l : Nat} (S : RS h r l) : m_l h 1 = 900 := S.2.2.2.2.2.2.2.2.2.2.2.1
theorem RS_t2 {h : m_H} {r l : Nat} (S : RS h r l) : m_R h (r + 1) 2 = some (r + 2) := S.2.2.2.2.2.2.2.2.2.2.2.2.1
theorem RS_k0 {h : m_H} {r l : Nat} (S : RS h r l) : m_k h (r + 2) = 100 := S.2.2.2.2.2.2.2.2.2.2.2.2.2.1
theorem RS_l0 {h : m_H} {r l : Nat} (S : RS h r l) : m_l h (r + 2) = l := S.2.2.2.2.2.2.2.2.2.2.2.2.2.2.1
theorem RS_t3 {h : m_H} {r l : Nat} (S : RS h r l) : m_R h (r + 1) 3 = some (r + 3) := S.2.2.2.2.2.2.2.2.2.2.2.2.2.2.2.1
theorem RS_k1 {h : m_H} {r l : Nat} (S : RS h r l) : m_k h (r + 3) = 100 := S.2.2.2.2.2.2.2.2.2.2.2.2.2.2.2.2.1
theorem RS_l1 {h : m_H} {r l : Nat} (S : RS h r l) : m_l h (r + 3) = l := S.2.2.2.2.2.2.2.2.2.2.2.2.2.2.2.2.2.1
theorem RS_t4 {h : m_H} {r l : Nat} (S : RS h r l) : m_R h (r + 1) 4 = some (r + 4) := S.2.2.2.2.2.2.2.2.2.2.2.2.2.2.2.2.2.2.1
theorem RS_k2 {h : m_H} {r l : Nat} (S : RS h r l) : m_k h (r + 4) = 100 := S.2.2.2.2.2.2.2.2.2.2.2.2.2.2.2.2.2.2.2.1
theorem RS_l2 {h : m_H} {r l : Nat} (S : RS h r l) : m_l h (r + 4) = l := S.2.2.2.2.2.2.2.2.2.2.2.2.2.2.2.2.2.2.2.2.1
theorem RS_t5 {h : m_H} {r l : Nat} (S : RS h r l) : m_R h (r + 1) 5 = some (r + 5) := S.2.2.2.2.2.2.2.2.2.2.2.2.2.2.2.2.2.2.2.2.2.1
theorem RS_k3 {h : m_H} {r l : Nat} (S : RS h r l) : m_k h (r + 5) = 100 := S.2.2.2.2.2.2.2.2.2.2.2.2.2.2.2.2.2.2.2.2.2.2.1
theorem RS_l3 {h : m_H} {r l : Nat} (S : RS h r l) : m_l h (r + 5) = l := S.2.2.2.2.2.2.2.2.2.2.2.2.2.2.2.2.2.2.2.2.2.2.2.1
theorem RS_t6 {h : m_H} {r l : Nat} (S : RS h r l) : m_R h (r + 1) 6 = some (r + 6) := S.2.2.2.2.2.2.2.2.2.2.2.2.2.2.2.2.2.2.2.2.2.2.2.2.1
theorem RS_k4 {h : m_H} {r l : Nat} (S : RS h r l) : m_k h (r + 6) = 209 := S.2.2.2.2.2.2.2.2.2.2.2.2.2.2.2.2.2.2.2.2.2.2.2.2.2.1
theorem RS_l4 {h : m_H} {r l : Nat} (S : RS h r l) : m_l h (r + 6) = l := S.2.2.2.2.2.2.2.2.2.2.2.2.2.2.2.2.2.2.2.2.2.2.2.2.2.2.1
theorem RS_p {h : m_H} {r l : Nat} (S : RS h r l) : (m_k h (r + 7) = 5 ∧ m_R h (r + 7) 2 = some (r + 8) ∧ m_R h (r + 7) 10 = some (r + 9) ∧ m_k h (r + 8) = 201 ∧ m_l h (r + 8) = 8 ∧ m_k h (r + 9) = 0 ∧ m_R h (r + 9) 0 = some (r + 11) ∧ m_R h (r + 9) 1 = some (r + 12) ∧ m_R h (r + 9) 3 = some (r + 10) ∧ m_k h (r + 10) = 100 ∧ m_l h (r + 10) = 64 ∧ m_k h (r + 11) = 100 ∧ m_l h (r + 11) = l ∧ m_k h (r + 12) = 100 ∧ m_l h (r + 12) = l) := S.2.2.2.2.2.2.2.2.2.2.2.2.2.2.2.2.2.2.2.2.2.2.2.2.2.2.2.1
theorem RS_w {h : m_H} {r l : Nat} (S : RS h r l) : (∀ i, m_isK (m_rv (m_R h (r + 6) i)) = true) := S.2.2.2.2.2.2.2.2.2.2.2.2.2.2.2.2.2.2.2.2.2.2.2.2.2.2.2.2
/-- the ints of a reader with l bytes -/
def q_B (r l : Nat) (F : m_M) : Prop := F (r + 1) 1 = l ∧ (0 ≤ F (r + 1) 7 ∧ F (r + 1) 7 ≤ l) ∧ (0 ≤ F (r + 1) 8 ∧ F (r + 1) 8 ≤ F (r + 1) 7) ∧ (0 ≤ F (r + 9) 2 ∧ F (r + 9) 2 ≤ l) ∧ (0 ≤ F r 5 ∧ F r 5 ≤ 6) ∧ (∀ t : Nat, (t : Int) < F (r + 1) 7 → 0 ≤ F (r + 3) t ∧ F (r + 3) t ≤ F (r + 4) t ∧ F (r + 4) t ≤ l) ∧ (0 ≤ F (r + 7) 1 ∧ F (r + 7) 1 ≤ 8)
/-- what reading changes: the place among the tokens, an error, the code -/
def q_r (r l : Nat) (F F' : m_M) : Prop := (∀ x y, ¬ x = r + 1 → ¬ x = r + 9 → ¬ x = r + 11 → ¬ x = r + 12 → F' x y = F x y) ∧ (∀ y, ¬ (y = 8 ∨ y = 9 ∨ y = 10) → F' (r + 1) y = F (r + 1) y) ∧ (0 ≤ F' (r + 1) 8 ∧ F' (r + 1) 8 ≤ F' (r + 1) 7) ∧ (0 ≤ F' (r + 9) 2 ∧ F' (r + 9) 2 ≤ l)
theorem r_tr {r l : Nat} {F F' G : m_M} (h1 : q_r r l F F') (h2 : q_r r l F' G) : q_r r l F G := ⟨fun x y x1 x2 x3 x4 => (h2.1 x y x1 x2 x3 x4).trans (h1.1 x y x1 x2 x3 x4), fun y hy => (h2.2.1 y hy).trans (h1.2.1 y hy), h2.2.2.1, h2.2.2.2⟩
theorem r_rf {r l : Nat} {F : m_M} (B : q_B r l F) : q_r r l F F := ⟨fun _ _ _ _ _ _ => rfl, fun _ _ => rfl, B.2.2.1, B.2.2.2.1⟩
theorem r_B {r l : Nat} {F F' : m_M} (B : q_B r l F) (h : q_r r l F F') : q_B r l F' := by
  obtain ⟨b1, b2, b3, b4, b5, b6, b7⟩ := B
  obtain ⟨f, g, h3, h4⟩ := h
  refine ⟨(g 1 (by omega)).trans b1, by rw [g 7 (by omega)]; exact b2, h3, h4, by rw [f r 5 (by omega) (by omega) (by omega) (by omega)]; exact b5, fun t ht => ?_, by rw [f (r + 7) 1 (by omega) (by omega) (by omega) (by omega)]; exact b7⟩
  rw [g 7 (by omega)] at ht
  rw [f (r + 3) t (by omega) (by omega) (by omega) (by omega), f (r + 4) t (by omega) (by omega) (by omega) (by omega)]
  exact b6 t ht
/-- one bracket or 'not' less -/
theorem r_dn {r l : Nat} {F G : m_M} (h : q_r r l (m_up F r 5 (F r 5 + 1)) G) : q_r r l F (m_up G r 5 (G r 5 - 1)) := by
  obtain ⟨f, g, h3, h4⟩ := h
  refine ⟨fun x y x1 x2 x3 x4 => ?_, fun y hy => ?_, ?_, ?_⟩
  · have := f x y x1 x2 x3 x4
    by_cases c : x = r ∧ y = 5
    · obtain ⟨rfl, rfl⟩ := c
      rw [up_eq rfl rfl] at this
      rw [up_eq rfl rfl]
      omega
    · rw [up_if, if_neg c]
      rw [up_if, if_neg c] at this
      exact this
  · have := g y hy
    rw [up_na (by omega)] at this
    rw [up_na (by omega)]
    exact this
  · rw [up_na (by omega), up_na (by omega)]
    exact h3
  · rw [up_na (by omega)]
    exact h4
theorem B_up {r l : Nat} {F : m_M} (B : q_B r l F) (h : F r 5 < 6) : q_B r l (m_up F r 5 (F r 5 + 1)) := by
  obtain ⟨b1, b2, b3, b4, b5, b6, b7⟩ := B
  have e : ∀ x y, ¬ x = r → m_up F r 5 (F r 5 + 1) x y = F x y := fun x y hx => up_na hx
  refine ⟨(e _ _ (by omega)).trans b1, by rw [e _ _ (by omega)]; exact b2, by rw [e _ _ (by omega), e _ _ (by omega)]; exact b3, by rw [e _ _ (by omega)]; exact b4, by rw [up_eq rfl rfl]; omega, fun t ht => ?_, by rw [e _ _ (by omega)]; exact b7⟩
  rw [e _ _ (by omega)] at ht
  rw [e _ _ (by omega), e _ _ (by omega)]
  exact b6 t ht
