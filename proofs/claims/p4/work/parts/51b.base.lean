/-! what lies between calls: pieces -/
def q_bf (F : m_M) : Prop := (0 ≤ F 135 19 ∧ F 135 19 ≤ 900) ∧ (∀ k, k < 900 → 0 ≤ F 151 k ∧ F 151 k ≤ 255) ∧ (0 ≤ F 135 24 ∧ F 135 24 ≤ 1000000) ∧ ∀ k, k < 900 → 0 ≤ F 152 k ∧ F 152 k ≤ 100
def q_xf (F F' : m_M) : Prop := ∀ x y, ¬ (135 ≤ x ∧ x ≤ 154) → F' x y = F x y
theorem q_xf_rf {F : m_M} : q_xf F F := fun _ _ _ => rfl
theorem q_xf_tr {F G K : m_M} (h1 : q_xf F G) (h2 : q_xf G K) : q_xf F K := fun x y hxy => (h2 x y hxy).trans (h1 x y hxy)
theorem vo_n : m_vo .null = none := of_eq_true (eq_self _)
theorem vo_r {k : Nat} : m_vo (.ref k) = some k := of_eq_true (eq_self _)
theorem isK_n : m_isK .null = true := of_eq_true (eq_self _)
theorem isK_r {k : Nat} : m_isK (.ref k) = m_kon k := of_eq_true (eq_self _)
theorem kon_2 : m_kon 1000000002 = true := by decide
theorem kon_15 : m_kon 1000000015 = true := by decide
theorem kon_16 : m_kon 1000000016 = true := by decide
theorem kon_17 : m_kon 1000000017 = true := by decide
theorem kon_18 : m_kon 1000000018 = true := by decide
theorem kon_19 : m_kon 1000000019 = true := by decide
