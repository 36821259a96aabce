/-! the class's codes gone through, exactly -/
/-- a code that a command's text may yield -/
def sp_c3 (x : Int) : Prop := x ≤ 13 ∨ (20 ≤ x ∧ x ≤ 28) ∨ (40 ≤ x ∧ x ≤ 47) ∨ (50 ≤ x ∧ x ≤ 53) ∨ 1000 ≤ x
/-- the class's codes from place i on -/
def sc_at (F : m_M) (p : Nat) : Int → List Int → Prop
  | _, [] => True
  | i, x :: cs => (F (p + 4) i.toNat = tx_op x ∧ F (p + 5) i.toNat = tx_od x) ∧ sc_at F p (i + 1) cs
theorem sc_fr {F F' : m_M} {p : Nat} (h : ∀ j, F' (p + 4) j = F (p + 4) j ∧ F' (p + 5) j = F (p + 5) j) : ∀ (cs : List Int) (i : Int), sc_at F p i cs → sc_at F' p i cs
  | [], _, _ => trivial
  | x :: cs, i, hc => ⟨⟨(h _).1.trans hc.1.1, (h _).2.trans hc.1.2⟩, sc_fr h cs (i + 1) hc.2⟩
/-- the class's stack -/
def sc_sk (F : m_M) (p : Nat) : List Int → Prop
  | [] => True
  | x :: st => F (p + 3) st.length = x ∧ sc_sk F p st
theorem cs_fr {F F' : m_M} {p : Nat} : ∀ (st : List Int), (∀ j, j < st.length → F' (p + 3) j = F (p + 3) j) → sc_sk F p st → sc_sk F' p st
  | [], _, _ => trivial
  | x :: st, h, hs => ⟨(h st.length (Nat.lt_succ_self _)).trans hs.1, cs_fr st (fun j hj => h j (Nat.lt_succ_of_lt hj)) hs.2⟩
/-- a driver's cells, as codes see them -/
def sq_c (K : Nat → Int) (s : sp_R) (dr ar re : Int) : Prop := (∀ j : Nat, j < 8 → K j = s (48 + 8 * dr + j).toNat) ∧ (∀ j : Nat, j < 4 → K (8 + j) = s (80 + 4 * dr + j).toNat) ∧ K 12 = ar ∧ K 13 = re
theorem sq_op {K : Nat → Int} {s : sp_R} {dr ar re x : Int} (h : sq_c K s dr ar re) (x0 : 0 ≤ x) (x1 : x ≤ 13) : sp_op dr ar re x s = K x.toNat := by
  obtain ⟨h1, h2, h3, h4⟩ := h
  unfold sp_op
  rw [if_neg (by omega)]
  by_cases c8 : x < 8
  · rw [if_pos c8, h1 x.toNat (by omega), show 48 + 8 * dr + ((x.toNat : Nat) : Int) = 48 + 8 * dr + x by omega]
  · rw [if_neg c8]
    by_cases c12 : x < 12
    · have := h2 (x - 8).toNat (by omega)
      rw [show 8 + (x - 8).toNat = x.toNat by omega, show 80 + 4 * dr + (((x - 8).toNat : Nat) : Int) = 80 + 4 * dr + x - 8 by omega] at this
      rw [if_pos c12, this]
    · rw [if_neg c12]
      by_cases c : x = 12
      · rw [if_pos c, c]; exact h3.symm
      · rw [if_neg c, show x.toNat = 13 by omega]; exact h4.symm
theorem sq_s4 {K : Nat → Int} {s : sp_R} {dr ar re x v : Int} (d0 : 0 ≤ dr) (d4 : dr < 4) (h : sq_c K s dr ar re) (x0 : 40 ≤ x) (x1 : x ≤ 47) : sq_c (tx_u1 K (x - 40).toNat v) (tx_u1 s (48 + 8 * dr + x - 40).toNat v) dr ar re := by
  obtain ⟨h1, h2, h3, h4⟩ := h
  refine ⟨fun j hj => ?_, fun j hj => ?_, ?_, ?_⟩
  · by_cases e : j = (x - 40).toNat
    · rw [e, u1_e, show (48 + 8 * dr + (((x - 40).toNat : Nat) : Int)).toNat = (48 + 8 * dr + x - 40).toNat by omega, u1_e]
    · rw [u1_n e, u1_n (by omega)]; exact h1 j hj
  · rw [u1_n (by omega), u1_n (by omega)]; exact h2 j hj
  · rw [u1_n (by omega)]; exact h3
  · rw [u1_n (by omega)]; exact h4
theorem sq_s5 {K : Nat → Int} {s : sp_R} {dr ar re x v : Int} (d0 : 0 ≤ dr) (d4 : dr < 4) (h : sq_c K s dr ar re) (x0 : 50 ≤ x) (x1 : x ≤ 53) : sq_c (tx_u1 K (x - 42).toNat v) (tx_u1 s (80 + 4 * dr + x - 50).toNat v) dr ar re := by
  obtain ⟨h1, h2, h3, h4⟩ := h
  refine ⟨fun j hj => ?_, fun j hj => ?_, ?_, ?_⟩
  · rw [u1_n (by omega), u1_n (by omega)]; exact h1 j hj
  · by_cases e : 8 + j = (x - 42).toNat
    · rw [e, u1_e, show (80 + 4 * dr + (j : Int)).toNat = (80 + 4 * dr + x - 50).toNat by omega, u1_e]
    · rw [u1_n e, u1_n (by omega)]; exact h2 j hj
  · rw [u1_n (by omega)]; exact h3
  · rw [u1_n (by omega)]; exact h4
