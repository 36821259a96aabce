/-! A WORD'S NUMBER, as the reference has it -/
def tx_h (f : Nat → Int) : Nat → Int
  | 0 => 0
  | k + 1 => 27 * tx_h f k + f k
theorem tx_h_cg {f g : Nat → Int} : ∀ k, (∀ i, i < k → f i = g i) → tx_h f k = tx_h g k
  | 0, _ => rfl
  | k + 1, h => by
    show 27 * tx_h f k + f k = 27 * tx_h g k + g k
    rw [tx_h_cg k (fun i hi => h i (by omega)), h k (Nat.lt_succ_self k)]
theorem tx_h_nn {f : Nat → Int} : ∀ k, (∀ i, i < k → 1 ≤ f i ∧ f i ≤ 26) → 0 ≤ tx_h f k
  | 0, _ => Int.le_refl 0
  | k + 1, h => by
    have a := tx_h_nn k (fun i hi => h i (by omega))
    have c := h k (Nat.lt_succ_self k)
    show 0 ≤ 27 * tx_h f k + f k
    omega
theorem tx_h_inj {f g : Nat → Int} : ∀ k j, (∀ i, i < k → 1 ≤ f i ∧ f i ≤ 26) → (∀ i, i < j → 1 ≤ g i ∧ g i ≤ 26) → tx_h f k = tx_h g j → k = j ∧ ∀ i, i < k → f i = g i
  | 0, 0, _, _, _ => ⟨rfl, fun i hi => absurd hi (Nat.not_lt_zero i)⟩
  | 0, j + 1, _, hg, e => by
    have a := tx_h_nn (f := g) j (fun i hi => hg i (by omega))
    have c := hg j (Nat.lt_succ_self j)
    have e : (0 : Int) = 27 * tx_h g j + g j := e
    omega
  | k + 1, 0, hf, _, e => by
    have a := tx_h_nn (f := f) k (fun i hi => hf i (by omega))
    have c := hf k (Nat.lt_succ_self k)
    have e : 27 * tx_h f k + f k = (0 : Int) := e
    omega
  | k + 1, j + 1, hf, hg, e => by
    have c1 := hf k (Nat.lt_succ_self k)
    have c2 := hg j (Nat.lt_succ_self j)
    have e : 27 * tx_h f k + f k = 27 * tx_h g j + g j := e
    obtain ⟨r1, r2⟩ := tx_h_inj k j (fun i hi => hf i (by omega)) (fun i hi => hg i (by omega)) (by omega)
    subst r1
    refine ⟨rfl, fun i hi => ?_⟩
    by_cases c : i = k
    · subst c
      omega
    · exact r2 i (by omega)
/-- the quoted words' letters, their numbers -/
def tx_lt (j i : Nat) : Int := ((m_let.getD j []).getD i 0).toInt
def tx_ln (j : Nat) : Nat := (m_let.getD j []).length
def tx_cw : List Int := [1813182427, 1384660795, 400577, 14006, 220309, 423, 1111, 10631, 13264, 16083, 1222, 13276, 257011, 3379448, 2232979, 60115, 283616030, 237745544, 3094387, 84273568011, 330728, 670208, 305537, 1755524, 212302449, 67154904, 223456, 1831780, 17545784537, 174476693248, 10492313, 2343906806, 261327161, 44960072472307, 1421453197]
theorem tx_cw_ok : ∀ j, j < 35 → tx_h (fun i => tx_lt j i - 96) (tx_ln j) = tx_cw.getD j 0 ∧ tx_ln j ≤ 10 := by decide +kernel
theorem tx_lt_ok : ∀ j, j < 35 → ∀ i, i < tx_ln j → 97 ≤ tx_lt j i ∧ tx_lt j i ≤ 122 := by decide +kernel
theorem tx_ln_ne : ∀ i, i < 35 → ∀ j, j < 35 → ¬ i = j → tx_ln i = tx_ln j → ∃ q, q < tx_ln i ∧ ¬ tx_lt i q = tx_lt j q := by decide +kernel
section STX
variable {b : Nat → Int} {n p j : Nat}
theorem tx_te_in (hk : tx_k b n p = 1) (q : Nat) (h1 : p ≤ q) (h2 : q < tx_te b n p) : q < n ∧ 97 ≤ b q ∧ b q ≤ 122 := by
  obtain ⟨h3, h4⟩ := tx_k1.mp hk
  have e : tx_te b n p = tx_w tx_L b n p := by
    unfold tx_te
    rw [if_pos h4]
  rw [e] at h2
  have := tx_w_in h1 h2
  exact ⟨this.1, tx_L_iff.mp this.2⟩
theorem st_iff (hk : tx_k b n p = 1) (hn : n ≤ 900) : p_stands (fun k => Int32.ofInt (b k)) (Int32.ofNat p) (Int32.ofNat (tx_te b n p)) (m_let.getD j []) = true ↔ tx_te b n p - p = tx_ln j ∧ ∀ i, i < tx_ln j → b (p + i) = tx_lt j i := by
  obtain ⟨hp, -⟩ := tx_k1.mp hk
  have gt := tx_te_gt (b := b) hp
  have le := tx_te_le (b := b) hp
  have hl : (m_let.getD j []).length < 2147483648 := by
    by_cases hj : j < 35
    · exact (f_sm j hj).1
    · have : m_let.getD j [] = [] := by
        rw [List.getD_eq_getElem?_getD, List.getElem?_eq_none (by rw [f_len35]; omega)]
        rfl
      rw [this]
      decide
  constructor
  · intro h
    unfold p_stands at h
    rw [show (Int32.ofNat p).toNatClampNeg = p from nI_clamp (by omega)] at h
    simp only [Bool.and_eq_true, decide_eq_true_eq, List.all_eq_true, List.mem_range] at h
    obtain ⟨h1, h2⟩ := h
    have e := f_sub (F := p) (E := tx_te b n p) (n := (m_let.getD j []).length) (by omega) (by omega) hl h1
    refine ⟨by show _ = (m_let.getD j []).length; omega, fun i hi => ?_⟩
    have hb := tx_te_in hk (p + i) (by omega) (by have : i < (m_let.getD j []).length := hi; omega)
    have h3 := congrArg Int32.toInt (h2 i hi)
    rw [Int32.toInt_ofInt_of_le (by omega) (by omega)] at h3
    exact h3
  · rintro ⟨h1, h2⟩
    have h1 : tx_te b n p - p = (m_let.getD j []).length := h1
    refine f_st1 (F := p) (E := tx_te b n p) (by omega) (by omega) hl ?_ (fun i hi => ?_)
    · have e : tx_te b n p = (m_let.getD j []).length + p := by omega
      rw [e, ← nI_add, Int32.add_sub_cancel]
    · show Int32.ofInt (b (p + i)) = _
      rw [h2 i hi]
      exact Int32.ofInt_toInt _
theorem tx_wd_iff (hk : tx_k b n p = 1) (hn : n ≤ 900) (hj : j < 35) : tx_wd b n p = some (m_X + 1 + j) ↔ tx_te b n p - p ≤ 10 ∧ tx_h (fun i => b (p + i) - 96) (tx_te b n p - p) = tx_cw.getD j 0 := by
  have hp := tx_k1.mp hk
  obtain ⟨c1, c2⟩ := tx_cw_ok j hj
  have e0 : tx_wd b n p = p_find (fun k => Int32.ofInt (b k)) 0 (Int32.ofNat p) (Int32.ofNat (tx_te b n p)) := by
    unfold tx_wd
    rw [if_pos hp]
  rw [e0]
  constructor
  · intro h
    have hs : p_stands (fun k => Int32.ofInt (b k)) (Int32.ofNat p) (Int32.ofNat (tx_te b n p)) (m_let.getD j []) = true := by
      unfold p_find at h
      rw [f_let] at h
      cases hc : m_let.findIdx? (p_stands (fun k => Int32.ofInt (b k)) (Int32.ofNat p) (Int32.ofNat (tx_te b n p))) with
      | none => rw [hc] at h; cases h
      | some i =>
        rw [hc] at h
        have e9 : m_X + 1 + i = m_X + 1 + j := Option.some.inj h
        have e9 : i = j := by omega
        subst e9
        obtain ⟨hi, h2, -⟩ := List.findIdx?_eq_some_iff_getElem.mp hc
        rw [List.getD_eq_getElem?_getD, List.getElem?_eq_getElem hi, Option.getD_some]
        exact h2
    obtain ⟨s1, s2⟩ := (st_iff hk hn).mp hs
    refine ⟨by omega, ?_⟩
    rw [s1, ← c1]
    exact tx_h_cg _ (fun i hi => by rw [s2 i hi])
  · rintro ⟨h1, h2⟩
    rw [← c1] at h2
    obtain ⟨s1, s2⟩ := tx_h_inj _ _ (fun i hi => by have := tx_te_in hk (p + i) (by omega) (by omega); omega) (fun i hi => by have := tx_lt_ok j hj i hi; omega) h2
    have hs := (st_iff (j := j) hk hn).mpr ⟨s1, fun i hi => by have := s2 i (by omega); omega⟩
    refine f_some hj (fun i hi hs9 => ?_) hs
    obtain ⟨r1, r2⟩ := (st_iff (j := i) hk hn).mp hs9
    obtain ⟨q, q1, q2⟩ := tx_ln_ne i (by omega) j hj (by omega) (by omega)
    have a1 := r2 q q1
    have a2 := s2 q (by omega)
    omega
end STX
