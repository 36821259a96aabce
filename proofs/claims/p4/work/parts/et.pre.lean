/-! small rules for what makes objects -/
def i_mn (a b : Int) : Int := if Int32.ofInt b < Int32.ofInt a then b else a
def i_mx (a b : Int) : Int := if Int32.ofInt a < Int32.ofInt b then b else a
theorem w_min2 {P : m_P} {d y : Nat} {is : List Instr} {ls : m_F} {st : List Value} {h : m_H} {Q : Option Value ⊕ Nat → m_H → Prop} {a b : Int} (h2 : m_cat st ≤ 8) : m_W P d y (.invokestatic 9001 :: is) ls (.int (Int32.ofInt b) :: .int (Int32.ofInt a) :: st) h Q = m_W P d y is ls (.int (Int32.ofInt (i_mn a b)) :: st) h Q := by
  rw [w_min h2]
  unfold i_mn
  split <;> rfl
theorem w_max2 {P : m_P} {d y : Nat} {is : List Instr} {ls : m_F} {st : List Value} {h : m_H} {Q : Option Value ⊕ Nat → m_H → Prop} {a b : Int} (h2 : m_cat st ≤ 8) : m_W P d y (.invokestatic 9002 :: is) ls (.int (Int32.ofInt b) :: .int (Int32.ofInt a) :: st) h Q = m_W P d y is ls (.int (Int32.ofInt (i_mx a b)) :: st) h Q := by
  rw [w_max h2]
  unfold i_mx
  split <;> rfl
theorem i_mn_e {a b : Int} (h1 : -2147483648 ≤ a) (h2 : a ≤ 2147483647) (h3 : -2147483648 ≤ b) (h4 : b ≤ 2147483647) : i_mn a b = if b < a then b else a := by
  unfold i_mn
  simp only [i_lt h3 h4 h1 h2]
theorem i_mx_e {a b : Int} (h1 : -2147483648 ≤ a) (h2 : a ≤ 2147483647) (h3 : -2147483648 ≤ b) (h4 : b ≤ 2147483647) : i_mx a b = if a < b then b else a := by
  unfold i_mx
  simp only [i_lt h1 h2 h3 h4]
theorem hs_setR {h : m_H} {S : m_S} {a k : Nat} {r : Option Nat} : m_setR (m_hS h S) a k r = m_hS (m_setR h a k r) S := of_eq_true (eq_self _)
theorem hs_mk {h : m_H} {w : Int64} {F : m_M} {kd len z : Nat} (hn : ¬ m_n h = 135) : m_mk (m_hS h (w, F)) kd len z = m_hS (m_mk h kd len z) (w, m_zr F (m_n h) 0) := by
  refine m_H_ex rfl rfl rfl rfl rfl ?_ ?_ rfl rfl
  · funext x y
    show (if x = m_n h then (0 : Int32) else Int32.ofInt (F x y)) = Int32.ofInt (if x = m_n h then 0 else F x y)
    split <;> rfl
  · funext x y
    show (if x = m_n h then (0 : Int64) else (if x = 135 ∧ y = 25 then w else m_L h x y)) = if x = 135 ∧ y = 25 then w else (if x = m_n h then 0 else m_L h x y)
    by_cases c1 : x = m_n h
    · rw [if_pos c1, if_neg (by omega), if_pos c1]
    · rw [if_neg c1, if_neg c1]
theorem zr_if {α : Type} {f : Nat → Nat → α} {v : α} {a x y : Nat} : m_zr f a v x y = if x = a then v else f x y := of_eq_true (eq_self _)
theorem zr_eq {α : Type} {f : Nat → Nat → α} {v : α} {a x y : Nat} (h : x = a) : m_zr f a v x y = v := by rw [zr_if, if_pos h]
theorem zr_na {α : Type} {f : Nat → Nat → α} {v : α} {a x y : Nat} (h : ¬ x = a) : m_zr f a v x y = f x y := by rw [zr_if, if_neg h]
theorem sR_eq {h : m_H} {a k x y : Nat} {r : Option Nat} (h1 : x = a) (h2 : y = k) : m_R (m_setR h a k r) x y = r := by rw [h_R_setR, if_pos ⟨h1, h2⟩]
theorem sR_na {h : m_H} {a k x y : Nat} {r : Option Nat} (h1 : ¬ x = a) : m_R (m_setR h a k r) x y = m_R h x y := by rw [h_R_setR, if_neg (fun q => h1 q.1)]
theorem sR_nk {h : m_H} {a k x y : Nat} {r : Option Nat} (h1 : ¬ y = k) : m_R (m_setR h a k r) x y = m_R h x y := by rw [h_R_setR, if_neg (fun q => h1 q.2)]
