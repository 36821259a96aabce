/-! the shape of a World: the object u, its rows and objects from b on; of a Program p -/
def CW (h : m_H) (u b : Nat) : Prop := u < m_n h ∧ b + 124 ≤ m_n h ∧ m_n h ≤ m_X ∧ u < b ∧ m_k h u = 10 ∧ m_R h u 4 = some b ∧ m_R h u 5 = some (b + 1) ∧ m_R h u 6 = some (b + 2) ∧ m_k h b = 202 ∧ m_l h b = 4 ∧ m_k h (b + 1) = 207 ∧ m_l h (b + 1) = 100 ∧ m_k h (b + 2) = 4 ∧ m_R h (b + 2) 0 = some (b + 3) ∧ m_k h (b + 3) = 100 ∧ m_l h (b + 3) = 200 ∧ m_R h (b + 2) 1 = some (b + 4) ∧ m_k h (b + 4) = 100 ∧ m_l h (b + 4) = 200 ∧ m_R h (b + 2) 2 = some (b + 5) ∧ m_k h (b + 5) = 100 ∧ m_l h (b + 5) = 200 ∧ m_R h (b + 2) 3 = some (b + 6) ∧ m_k h (b + 6) = 100 ∧ m_l h (b + 6) = 200 ∧ m_R h (b + 2) 4 = some (b + 7) ∧ m_k h (b + 7) = 100 ∧ m_l h (b + 7) = 9 ∧ (∀ d, d < 4 → m_R h b d = some (b + 8 + 4 * d) ∧ m_k h (b + 8 + 4 * d) = 2 ∧ m_R h (b + 8 + 4 * d) 5 = some (b + 9 + 4 * d) ∧ m_R h (b + 8 + 4 * d) 6 = some (b + 10 + 4 * d) ∧ m_R h (b + 8 + 4 * d) 7 = some (b + 11 + 4 * d) ∧ m_k h (b + 9 + 4 * d) = 100 ∧ m_l h (b + 9 + 4 * d) = 14 ∧ m_k h (b + 10 + 4 * d) = 100 ∧ m_l h (b + 10 + 4 * d) = 4 ∧ m_k h (b + 11 + 4 * d) = 100 ∧ m_l h (b + 11 + 4 * d) = 20) ∧ (∀ q, q < 100 → m_R h (b + 1) q = some (b + 24 + q) ∧ m_k h (b + 24 + q) = 7)
theorem CW_un {h : m_H} {u b : Nat} (W : CW h u b) : u < m_n h := W.1
theorem CW_bn {h : m_H} {u b : Nat} (W : CW h u b) : b + 124 ≤ m_n h := W.2.1
theorem CW_X {h : m_H} {u b : Nat} (W : CW h u b) : m_n h ≤ m_X := W.2.2.1
theorem CW_ub {h : m_H} {u b : Nat} (W : CW h u b) : u < b := W.2.2.2.1
theorem CW_uk {h : m_H} {u b : Nat} (W : CW h u b) : m_k h u = 10 := W.2.2.2.2.1
theorem CW_u4 {h : m_H} {u b : Nat} (W : CW h u b) : m_R h u 4 = some b := W.2.2.2.2.2.1
theorem CW_u5 {h : m_H} {u b : Nat} (W : CW h u b) : m_R h u 5 = some (b + 1) := W.2.2.2.2.2.2.1
theorem CW_u6 {h : m_H} {u b : Nat} (W : CW h u b) : m_R h u 6 = some (b + 2) := W.2.2.2.2.2.2.2.1
theorem CW_dk {h : m_H} {u b : Nat} (W : CW h u b) : m_k h b = 202 := W.2.2.2.2.2.2.2.2.1
theorem CW_dl {h : m_H} {u b : Nat} (W : CW h u b) : m_l h b = 4 := W.2.2.2.2.2.2.2.2.2.1
theorem CW_qk {h : m_H} {u b : Nat} (W : CW h u b) : m_k h (b + 1) = 207 := W.2.2.2.2.2.2.2.2.2.2.1
theorem CW_ql {h : m_H} {u b : Nat} (W : CW h u b) : m_l h (b + 1) = 100 := W.2.2.2.2.2.2.2.2.2.2.2.1
theorem CW_jk {h : m_H} {u b : Nat} (W : CW h u b) : m_k h (b + 2) = 4 := W.2.2.2.2.2.2.2.2.2.2.2.2.1
theorem CW_j0 {h : m_H} {u b : Nat} (W : CW h u b) : m_R h (b + 2) 0 = some (b + 3) := W.2.2.2.2.2.2.2.2.2.2.2.2.2.1
theorem CW_jk0 {h : m_H} {u b : Nat} (W : CW h u b) : m_k h (b + 3) = 100 := W.2.2.2.2.2.2.2.2.2.2.2.2.2.2.1
theorem CW_jl0 {h : m_H} {u b : Nat} (W : CW h u b) : m_l h (b + 3) = 200 := W.2.2.2.2.2.2.2.2.2.2.2.2.2.2.2.1
theorem CW_j1 {h : m_H} {u b : Nat} (W : CW h u b) : m_R h (b + 2) 1 = some (b + 4) := W.2.2.2.2.2.2.2.2.2.2.2.2.2.2.2.2.1
theorem CW_jk1 {h : m_H} {u b : Nat} (W : CW h u b) : m_k h (b + 4) = 100 := W.2.2.2.2.2.2.2.2.2.2.2.2.2.2.2.2.2.1
theorem CW_jl1 {h : m_H} {u b : Nat} (W : CW h u b) : m_l h (b + 4) = 200 := W.2.2.2.2.2.2.2.2.2.2.2.2.2.2.2.2.2.2.1
theorem CW_j2 {h : m_H} {u b : Nat} (W : CW h u b) : m_R h (b + 2) 2 = some (b + 5) := W.2.2.2.2.2.2.2.2.2.2.2.2.2.2.2.2.2.2.2.1
theorem CW_jk2 {h : m_H} {u b : Nat} (W : CW h u b) : m_k h (b + 5) = 100 := W.2.2.2.2.2.2.2.2.2.2.2.2.2.2.2.2.2.2.2.2.1
theorem CW_jl2 {h : m_H} {u b : Nat} (W : CW h u b) : m_l h (b + 5) = 200 := W.2.2.2.2.2.2.2.2.2.2.2.2.2.2.2.2.2.2.2.2.2.1
theorem CW_j3 {h : m_H} {u b : Nat} (W : CW h u b) : m_R h (b + 2) 3 = some (b + 6) := W.2.2.2.2.2.2.2.2.2.2.2.2.2.2.2.2.2.2.2.2.2.2.1
theorem CW_jk3 {h : m_H} {u b : Nat} (W : CW h u b) : m_k h (b + 6) = 100 := W.2.2.2.2.2.2.2.2.2.2.2.2.2.2.2.2.2.2.2.2.2.2.2.1
theorem CW_jl3 {h : m_H} {u b : Nat} (W : CW h u b) : m_l h (b + 6) = 200 := W.2.2.2.2.2.2.2.2.2.2.2.2.2.2.2.2.2.2.2.2.2.2.2.2.1
theorem CW_j4 {h : m_H} {u b : Nat} (W : CW h u b) : m_R h (b + 2) 4 = some (b + 7) := W.2.2.2.2.2.2.2.2.2.2.2.2.2.2.2.2.2.2.2.2.2.2.2.2.2.1
theorem CW_jk4 {h : m_H} {u b : Nat} (W : CW h u b) : m_k h (b + 7) = 100 := W.2.2.2.2.2.2.2.2.2.2.2.2.2.2.2.2.2.2.2.2.2.2.2.2.2.2.1
theorem CW_jl4 {h : m_H} {u b : Nat} (W : CW h u b) : m_l h (b + 7) = 9 := W.2.2.2.2.2.2.2.2.2.2.2.2.2.2.2.2.2.2.2.2.2.2.2.2.2.2.2.1
theorem CW_D {h : m_H} {u b : Nat} (W : CW h u b) : (∀ d, d < 4 → m_R h b d = some (b + 8 + 4 * d) ∧ m_k h (b + 8 + 4 * d) = 2 ∧ m_R h (b + 8 + 4 * d) 5 = some (b + 9 + 4 * d) ∧ m_R h (b + 8 + 4 * d) 6 = some (b + 10 + 4 * d) ∧ m_R h (b + 8 + 4 * d) 7 = some (b + 11 + 4 * d) ∧ m_k h (b + 9 + 4 * d) = 100 ∧ m_l h (b + 9 + 4 * d) = 14 ∧ m_k h (b + 10 + 4 * d) = 100 ∧ m_l h (b + 10 + 4 * d) = 4 ∧ m_k h (b + 11 + 4 * d) = 100 ∧ m_l h (b + 11 + 4 * d) = 20) := W.2.2.2.2.2.2.2.2.2.2.2.2.2.2.2.2.2.2.2.2.2.2.2.2.2.2.2.2.1
theorem CW_Q {h : m_H} {u b : Nat} (W : CW h u b) : (∀ q, q < 100 → m_R h (b + 1) q = some (b + 24 + q) ∧ m_k h (b + 24 + q) = 7) := W.2.2.2.2.2.2.2.2.2.2.2.2.2.2.2.2.2.2.2.2.2.2.2.2.2.2.2.2.2
def PW (h : m_H) (p : Nat) : Prop := p + 6 ≤ m_n h ∧ m_n h ≤ m_X ∧ m_k h p = 5 ∧ m_R h p 2 = some (p + 1) ∧ m_R h p 10 = some (p + 2) ∧ m_k h (p + 1) = 201 ∧ m_l h (p + 1) = 8 ∧ m_k h (p + 2) = 0 ∧ m_R h (p + 2) 0 = some (p + 4) ∧ m_R h (p + 2) 1 = some (p + 5) ∧ m_R h (p + 2) 3 = some (p + 3) ∧ m_k h (p + 3) = 100 ∧ m_l h (p + 3) = 64 ∧ m_k h (p + 4) = 100 ∧ m_k h (p + 5) = 100 ∧ m_l h (p + 5) = m_l h (p + 4)
theorem PW_pn {h : m_H} {p : Nat} (W : PW h p) : p + 6 ≤ m_n h := W.1
theorem PW_pX {h : m_H} {p : Nat} (W : PW h p) : m_n h ≤ m_X := W.2.1
theorem PW_pk {h : m_H} {p : Nat} (W : PW h p) : m_k h p = 5 := W.2.2.1
theorem PW_p2 {h : m_H} {p : Nat} (W : PW h p) : m_R h p 2 = some (p + 1) := W.2.2.2.1
theorem PW_p10 {h : m_H} {p : Nat} (W : PW h p) : m_R h p 10 = some (p + 2) := W.2.2.2.2.1
theorem PW_ck {h : m_H} {p : Nat} (W : PW h p) : m_k h (p + 1) = 201 := W.2.2.2.2.2.1
theorem PW_cl {h : m_H} {p : Nat} (W : PW h p) : m_l h (p + 1) = 8 := W.2.2.2.2.2.2.1
theorem PW_ok {h : m_H} {p : Nat} (W : PW h p) : m_k h (p + 2) = 0 := W.2.2.2.2.2.2.2.1
theorem PW_o0 {h : m_H} {p : Nat} (W : PW h p) : m_R h (p + 2) 0 = some (p + 4) := W.2.2.2.2.2.2.2.2.1
theorem PW_o1 {h : m_H} {p : Nat} (W : PW h p) : m_R h (p + 2) 1 = some (p + 5) := W.2.2.2.2.2.2.2.2.2.1
theorem PW_o3 {h : m_H} {p : Nat} (W : PW h p) : m_R h (p + 2) 3 = some (p + 3) := W.2.2.2.2.2.2.2.2.2.2.1
theorem PW_sk {h : m_H} {p : Nat} (W : PW h p) : m_k h (p + 3) = 100 := W.2.2.2.2.2.2.2.2.2.2.2.1
theorem PW_sl {h : m_H} {p : Nat} (W : PW h p) : m_l h (p + 3) = 64 := W.2.2.2.2.2.2.2.2.2.2.2.2.1
theorem PW_ak {h : m_H} {p : Nat} (W : PW h p) : m_k h (p + 4) = 100 := W.2.2.2.2.2.2.2.2.2.2.2.2.2.1
theorem PW_bk {h : m_H} {p : Nat} (W : PW h p) : m_k h (p + 5) = 100 := W.2.2.2.2.2.2.2.2.2.2.2.2.2.2.1
theorem PW_al {h : m_H} {p : Nat} (W : PW h p) : m_l h (p + 5) = m_l h (p + 4) := W.2.2.2.2.2.2.2.2.2.2.2.2.2.2.2
/-- the ints of a World at u, b under nd drivers and nc commands -/
def q_u (u b : Nat) (nd nc : Int) (F : m_M) : Prop := (0 ≤ F u 2 ∧ F u 2 ≤ 100) ∧ (0 ≤ F (b + 2) 5 ∧ F (b + 2) 5 < 200 ∧ 0 ≤ F (b + 2) 6 ∧ F (b + 2) 6 ≤ 200) ∧ (∀ d : Nat, d < 4 → F (b + 8 + 4 * d) 0 = d ∧ (-1 ≤ F (b + 8 + 4 * d) 9 ∧ F (b + 8 + 4 * d) 9 < F u 2) ∧ (-1 ≤ F (b + 8 + 4 * d) 10 ∧ F (b + 8 + 4 * d) 10 < F u 2) ∧ (0 ≤ F (b + 8 + 4 * d) 8 ∧ F (b + 8 + 4 * d) 8 ≤ 20)) ∧ (∀ d k : Nat, d < 4 → (k : Int) < F (b + 8 + 4 * d) 8 → 0 ≤ F (b + 11 + 4 * d) k ∧ F (b + 11 + 4 * d) k < F u 2) ∧ (∀ q : Nat, q < 100 → F (b + 24 + q) 0 = q) ∧ (∀ q : Nat, (q : Int) < F u 2 → (0 ≤ F (b + 24 + q) 1 ∧ F (b + 24 + q) 1 < nd) ∧ (0 ≤ F (b + 24 + q) 2 ∧ F (b + 24 + q) 2 < nc))
/-- the cells of which q_u speaks -/
def q_uc (u b x y : Nat) : Prop := (x = u ∧ y = 2) ∨ (x = b + 2 ∧ (y = 5 ∨ y = 6)) ∨ (b + 8 ≤ x ∧ x < b + 24 ∧ (x - (b + 8)) % 4 = 0 ∧ (y = 0 ∨ (8 ≤ y ∧ y ≤ 10))) ∨ (b + 8 ≤ x ∧ x < b + 24 ∧ (x - (b + 8)) % 4 = 3) ∨ (b + 24 ≤ x ∧ x < b + 124 ∧ y ≤ 2)
theorem q_u_cg {u b : Nat} {nd nc : Int} {F F' : m_M} (h : ∀ x y, q_uc u b x y → F' x y = F x y) (hq : q_u u b nd nc F) : q_u u b nd nc F' := by
  obtain ⟨b1, b2, b3, b4, b5, b6⟩ := hq
  have e2 := h u 2 (by unfold q_uc; omega)
  refine ⟨by rw [e2]; exact b1, ?_, fun d hd => ?_, fun d k hd hk => ?_, fun q hq => ?_, fun q hq => ?_⟩
  · rw [h (b + 2) 5 (by unfold q_uc; omega), h (b + 2) 6 (by unfold q_uc; omega)]
    exact b2
  · rw [e2, h (b + 8 + 4 * d) 0 (by unfold q_uc; omega), h (b + 8 + 4 * d) 9 (by unfold q_uc; omega), h (b + 8 + 4 * d) 10 (by unfold q_uc; omega), h (b + 8 + 4 * d) 8 (by unfold q_uc; omega)]
    exact b3 d hd
  · rw [h (b + 8 + 4 * d) 8 (by unfold q_uc; omega)] at hk
    rw [e2, h (b + 11 + 4 * d) k (by unfold q_uc; omega)]
    exact b4 d k hd hk
  · rw [h (b + 24 + q) 0 (by unfold q_uc; omega)]
    exact b5 q hq
  · rw [e2] at hq
    rw [h (b + 24 + q) 1 (by unfold q_uc; omega), h (b + 24 + q) 2 (by unfold q_uc; omega)]
    exact b6 q hq
/-- from F0 to F only the World's cells (and s, a stack) changed, and it is a World with as many requests -/
def q_v (u b s : Nat) (nd nc : Int) (F0 F : m_M) : Prop := (∀ x y, ¬ x = u → ¬ (b ≤ x ∧ x < b + 124) → ¬ x = s → F x y = F0 x y) ∧ q_u u b nd nc F ∧ F u 2 = F0 u 2
section VV
variable {u b s x y : Nat} {nd nc v : Int} {F0 F F' : m_M}
theorem v_cg (h1 : ∀ x y, ¬ x = u → ¬ (b ≤ x ∧ x < b + 124) → ¬ x = s → F' x y = F x y) (h2 : ∀ x y, q_uc u b x y → F' x y = F x y) (hV : q_v u b s nd nc F0 F) : q_v u b s nd nc F0 F' :=
  ⟨fun x y x1 x2 x3 => (h1 x y x1 x2 x3).trans (hV.1 x y x1 x2 x3), q_u_cg h2 hV.2.1, (h2 u 2 (by unfold q_uc; omega)).trans hV.2.2⟩
theorem v_nc (h1 : x = u ∨ (b ≤ x ∧ x < b + 124) ∨ x = s) (h2 : ¬ q_uc u b x y) (hV : q_v u b s nd nc F0 F) : q_v u b s nd nc F0 (m_up F x y v) := by
  refine v_cg (fun a c a1 a2 a3 => up_na (by omega)) (fun a c hc => ?_) hV
  rw [up_if, if_neg]
  rintro ⟨rfl, rfl⟩
  exact h2 hc
theorem v_rf (hq : q_u u b nd nc F) : q_v u b s nd nc F F := ⟨fun _ _ _ _ _ => rfl, hq, rfl⟩
end VV
