/-! MEMORY: the ints of a heap as whole numbers, and the long of the reference's word -/
abbrev m_M : Type := Nat → Nat → Int
abbrev m_S : Type := Int64 × m_M
/-- the heap h with these ints, and this long -/
def m_hS (h : m_H) (S : m_S) : m_H := (h.1, m_k h, m_l h, (fun a k => Int32.ofInt (S.2 a k)), m_up (m_L h) 135 25 S.1, m_D h, m_R h)
def m_cpM (F : m_M) (a i b j n : Nat) : m_M := fun x y => if x = b ∧ j ≤ y ∧ y < j + n then F a (i + (y - j)) else F x y
section MEM
variable {h : m_H} {S : m_S} {w : Int64} {F : m_M} {a k x y : Nat} {v : Int}
theorem hs_n : m_n (m_hS h S) = m_n h := of_eq_true (eq_self _)
theorem hs_c : m_c (m_hS h S) = m_c h := of_eq_true (eq_self _)
theorem hs_s : m_s (m_hS h S) = m_s h := of_eq_true (eq_self _)
theorem hs_k : m_k (m_hS h S) = m_k h := of_eq_true (eq_self _)
theorem hs_l : m_l (m_hS h S) = m_l h := of_eq_true (eq_self _)
theorem hs_D : m_D (m_hS h S) = m_D h := of_eq_true (eq_self _)
theorem hs_R : m_R (m_hS h S) = m_R h := of_eq_true (eq_self _)
theorem hs_I : m_I (m_hS h (w, F)) a k = Int32.ofInt (F a k) := of_eq_true (eq_self _)
theorem hs_L : m_L (m_hS h (w, F)) 135 25 = w := of_eq_true (eq_self _)
theorem hs_setI : m_setI (m_hS h (w, F)) a k (Int32.ofInt v) = m_hS h (w, m_up F a k v) := by
  have e : m_up (fun a k => Int32.ofInt (F a k)) a k (Int32.ofInt v) = fun x y => Int32.ofInt (m_up F a k v x y) := by
    funext x y
    unfold m_up
    split <;> rfl
  show ((h.1, m_k h, m_l h, m_up (fun a k => Int32.ofInt (F a k)) a k (Int32.ofInt v), _, _, _) : m_H) = _
  rw [e]
  rfl
theorem hs_setL {u : Int64} : m_setL (m_hS h (w, F)) 135 25 u = m_hS h (u, F) := by
  have e : m_up (m_up (m_L h) 135 25 w) 135 25 u = m_up (m_L h) 135 25 u := by
    funext x y
    unfold m_up
    split <;> rfl
  show ((h.1, m_k h, m_l h, _, m_up (m_up (m_L h) 135 25 w) 135 25 u, _, _) : m_H) = _
  rw [e]
  rfl
theorem hs_cpy {i b j n : Nat} : m_cpy (m_hS h (w, F)) a i b j n = m_hS h (w, m_cpM F a i b j n) := by
  have e : (fun x y => if x = b ∧ j ≤ y ∧ y < j + n then m_I (m_hS h (w, F)) a (i + (y - j)) else m_I (m_hS h (w, F)) x y) = fun x y => Int32.ofInt (m_cpM F a i b j n x y) := by
    funext x y
    unfold m_cpM
    split <;> rfl
  show ((h.1, m_k h, m_l h, (fun x y => if x = b ∧ j ≤ y ∧ y < j + n then m_I (m_hS h (w, F)) a (i + (y - j)) else m_I (m_hS h (w, F)) x y), _, _, _) : m_H) = _
  rw [e]
  rfl
/-- every heap is one of its own memory -/
theorem hs_any (h : m_H) : m_hS h (m_L h 135 25, fun a k => (m_I h a k).toInt) = h := by
  have e1 : m_up (m_L h) 135 25 (m_L h 135 25) = m_L h := by
    funext x y
    unfold m_up
    split
    · next q => rw [q.1, q.2]
    · rfl
  have e2 : (fun a k => Int32.ofInt ((m_I h a k).toInt)) = m_I h := by
    funext a k
    exact Int32.ofInt_toInt _
  show ((h.1, m_k h, m_l h, (fun a k => Int32.ofInt ((m_I h a k).toInt)), m_up (m_L h) 135 25 (m_L h 135 25), m_D h, m_R h) : m_H) = h
  rw [e1, e2]
  rfl
theorem up_if {α : Type} {f : Nat → Nat → α} {v : α} : m_up f a k v x y = if x = a ∧ y = k then v else f x y := of_eq_true (eq_self _)
theorem up_eq {α : Type} {f : Nat → Nat → α} {v : α} (h1 : x = a) (h2 : y = k) : m_up f a k v x y = v := by rw [up_if, if_pos ⟨h1, h2⟩]
theorem up_na {α : Type} {f : Nat → Nat → α} {v : α} (h1 : ¬ x = a) : m_up f a k v x y = f x y := by rw [up_if, if_neg (fun q => h1 q.1)]
theorem up_nk {α : Type} {f : Nat → Nat → α} {v : α} (h1 : ¬ y = k) : m_up f a k v x y = f x y := by rw [up_if, if_neg (fun q => h1 q.2)]
theorem up_up {α : Type} {f : Nat → Nat → α} {u v : α} : m_up (m_up f a k u) a k v = m_up f a k v := by
  funext x y
  unfold m_up
  split <;> rfl
theorem up_sw {α : Type} {f : Nat → Nat → α} {u v : α} {j : Nat} (hj : j < k) : m_up (m_up f a k u) a j v = m_up (m_up f a j v) a k u := by
  funext x y
  simp only [up_if]
  by_cases h1 : x = a ∧ y = j
  · rw [if_pos h1, if_pos h1, if_neg (fun q => by omega)]
  · rw [if_neg h1, if_neg h1]
theorem up_sa {α : Type} {f : Nat → Nat → α} {u v : α} {b j : Nat} (hj : b < a) : m_up (m_up f a k u) b j v = m_up (m_up f b j v) a k u := by
  funext x y
  simp only [up_if]
  by_cases h1 : x = b ∧ y = j
  · rw [if_pos h1, if_pos h1, if_neg (fun q => by omega)]
  · rw [if_neg h1, if_neg h1]
theorem up_self {α : Type} {f : Nat → Nat → α} : m_up f a k (f a k) = f := by
  funext x y
  unfold m_up
  split
  · next q => rw [q.1, q.2]
  · rfl
end MEM
/-- the shape of the reference -/
def RF (h : m_H) : Prop := 155 ≤ m_n h ∧ m_k h 135 = 12 ∧ m_R h 135 1 = some 136 ∧ m_R h 135 2 = some 137 ∧ m_R h 135 3 = some 138 ∧ m_R h 135 4 = some 139 ∧ m_R h 135 5 = some 140 ∧ m_R h 135 6 = some 141 ∧ m_R h 135 7 = some 142 ∧ m_R h 135 8 = some 143 ∧ m_R h 135 9 = some 144 ∧ m_R h 135 10 = some 145 ∧ m_R h 135 11 = some 146 ∧ m_R h 135 12 = some 147 ∧ m_R h 135 13 = some 148 ∧ m_R h 135 14 = some 149 ∧ m_R h 135 15 = some 150 ∧ m_R h 135 18 = some 151 ∧ m_R h 135 28 = some 152 ∧ m_R h 135 29 = some 153 ∧ m_R h 135 30 = some 154 ∧ m_k h 136 = 100 ∧ m_l h 136 = 20 ∧ m_k h 137 = 100 ∧ m_l h 137 = 16 ∧ m_k h 138 = 100 ∧ m_l h 138 = 16 ∧ m_k h 139 = 100 ∧ m_l h 139 = 16 ∧ m_k h 140 = 100 ∧ m_l h 140 = 16 ∧ m_k h 141 = 100 ∧ m_l h 141 = 16 ∧ m_k h 142 = 100 ∧ m_l h 142 = 16 ∧ m_k h 143 = 100 ∧ m_l h 143 = 16 ∧ m_k h 144 = 100 ∧ m_l h 144 = 2400 ∧ m_k h 145 = 100 ∧ m_l h 145 = 8 ∧ m_k h 146 = 100 ∧ m_l h 146 = 8 ∧ m_k h 147 = 100 ∧ m_l h 147 = 2392 ∧ m_k h 148 = 100 ∧ m_l h 148 = 2392 ∧ m_k h 149 = 100 ∧ m_l h 149 = 2392 ∧ m_k h 150 = 100 ∧ m_l h 150 = 23920 ∧ m_k h 151 = 100 ∧ m_l h 151 = 900 ∧ m_k h 152 = 100 ∧ m_l h 152 = 900 ∧ m_k h 153 = 100 ∧ m_l h 153 = 900 ∧ m_k h 154 = 100 ∧ m_l h 154 = 200
theorem f_n135 {h : m_H} (I : RF h) : 155 ≤ m_n h := I.1
theorem f_k_135 {h : m_H} (I : RF h) : m_k h 135 = 12 := I.2.1
theorem f_R_135_1 {h : m_H} (I : RF h) : m_R h 135 1 = some 136 := I.2.2.1
theorem f_R_135_2 {h : m_H} (I : RF h) : m_R h 135 2 = some 137 := I.2.2.2.1
theorem f_R_135_3 {h : m_H} (I : RF h) : m_R h 135 3 = some 138 := I.2.2.2.2.1
theorem f_R_135_4 {h : m_H} (I : RF h) : m_R h 135 4 = some 139 := I.2.2.2.2.2.1
theorem f_R_135_5 {h : m_H} (I : RF h) : m_R h 135 5 = some 140 := I.2.2.2.2.2.2.1
theorem f_R_135_6 {h : m_H} (I : RF h) : m_R h 135 6 = some 141 := I.2.2.2.2.2.2.2.1
theorem f_R_135_7 {h : m_H} (I : RF h) : m_R h 135 7 = some 142 := I.2.2.2.2.2.2.2.2.1
theorem f_R_135_8 {h : m_H} (I : RF h) : m_R h 135 8 = some 143 := I.2.2.2.2.2.2.2.2.2.1
theorem f_R_135_9 {h : m_H} (I : RF h) : m_R h 135 9 = some 144 := I.2.2.2.2.2.2.2.2.2.2.1
theorem f_R_135_10 {h : m_H} (I : RF h) : m_R h 135 10 = some 145 := I.2.2.2.2.2.2.2.2.2.2.2.1
theorem f_R_135_11 {h : m_H} (I : RF h) : m_R h 135 11 = some 146 := I.2.2.2.2.2.2.2.2.2.2.2.2.1
theorem f_R_135_12 {h : m_H} (I : RF h) : m_R h 135 12 = some 147 := I.2.2.2.2.2.2.2.2.2.2.2.2.2.1
theorem f_R_135_13 {h : m_H} (I : RF h) : m_R h 135 13 = some 148 := I.2.2.2.2.2.2.2.2.2.2.2.2.2.2.1
theorem f_R_135_14 {h : m_H} (I : RF h) : m_R h 135 14 = some 149 := I.2.2.2.2.2.2.2.2.2.2.2.2.2.2.2.1
theorem f_R_135_15 {h : m_H} (I : RF h) : m_R h 135 15 = some 150 := I.2.2.2.2.2.2.2.2.2.2.2.2.2.2.2.2.1
theorem f_R_135_18 {h : m_H} (I : RF h) : m_R h 135 18 = some 151 := I.2.2.2.2.2.2.2.2.2.2.2.2.2.2.2.2.2.1
theorem f_R_135_28 {h : m_H} (I : RF h) : m_R h 135 28 = some 152 := I.2.2.2.2.2.2.2.2.2.2.2.2.2.2.2.2.2.2.1
theorem f_R_135_29 {h : m_H} (I : RF h) : m_R h 135 29 = some 153 := I.2.2.2.2.2.2.2.2.2.2.2.2.2.2.2.2.2.2.2.1
theorem f_R_135_30 {h : m_H} (I : RF h) : m_R h 135 30 = some 154 := I.2.2.2.2.2.2.2.2.2.2.2.2.2.2.2.2.2.2.2.2.1
theorem f_k_136 {h : m_H} (I : RF h) : m_k h 136 = 100 := I.2.2.2.2.2.2.2.2.2.2.2.2.2.2.2.2.2.2.2.2.2.1
theorem f_l_136 {h : m_H} (I : RF h) : m_l h 136 = 20 := I.2.2.2.2.2.2.2.2.2.2.2.2.2.2.2.2.2.2.2.2.2.2.1
theorem f_k_137 {h : m_H} (I : RF h) : m_k h 137 = 100 := I.2.2.2.2.2.2.2.2.2.2.2.2.2.2.2.2.2.2.2.2.2.2.2.1
theorem f_l_137 {h : m_H} (I : RF h) : m_l h 137 = 16 := I.2.2.2.2.2.2.2.2.2.2.2.2.2.2.2.2.2.2.2.2.2.2.2.2.1
theorem f_k_138 {h : m_H} (I : RF h) : m_k h 138 = 100 := I.2.2.2.2.2.2.2.2.2.2.2.2.2.2.2.2.2.2.2.2.2.2.2.2.2.1
theorem f_l_138 {h : m_H} (I : RF h) : m_l h 138 = 16 := I.2.2.2.2.2.2.2.2.2.2.2.2.2.2.2.2.2.2.2.2.2.2.2.2.2.2.1
theorem f_k_139 {h : m_H} (I : RF h) : m_k h 139 = 100 := I.2.2.2.2.2.2.2.2.2.2.2.2.2.2.2.2.2.2.2.2.2.2.2.2.2.2.2.1
theorem f_l_139 {h : m_H} (I : RF h) : m_l h 139 = 16 := I.2.2.2.2.2.2.2.2.2.2.2.2.2.2.2.2.2.2.2.2.2.2.2.2.2.2.2.2.1
theorem f_k_140 {h : m_H} (I : RF h) : m_k h 140 = 100 := I.2.2.2.2.2.2.2.2.2.2.2.2.2.2.2.2.2.2.2.2.2.2.2.2.2.2.2.2.2.1
theorem f_l_140 {h : m_H} (I : RF h) : m_l h 140 = 16 := I.2.2.2.2.2.2.2.2.2.2.2.2.2.2.2.2.2.2.2.2.2.2.2.2.2.2.2.2.2.2.1
theorem f_k_141 {h : m_H} (I : RF h) : m_k h 141 = 100 := I.2.2.2.2.2.2.2.2.2.2.2.2.2.2.2.2.2.2.2.2.2.2.2.2.2.2.2.2.2.2.2.1
theorem f_l_141 {h : m_H} (I : RF h) : m_l h 141 = 16 := I.2.2.2.2.2.2.2.2.2.2.2.2.2.2.2.2.2.2.2.2.2.2.2.2.2.2.2.2.2.2.2.2.1
theorem f_k_142 {h : m_H} (I : RF h) : m_k h 142 = 100 := I.2.2.2.2.2.2.2.2.2.2.2.2.2.2.2.2.2.2.2.2.2.2.2.2.2.2.2.2.2.2.2.2.2.1
theorem f_l_142 {h : m_H} (I : RF h) : m_l h 142 = 16 := I.2.2.2.2.2.2.2.2.2.2.2.2.2.2.2.2.2.2.2.2.2.2.2.2.2.2.2.2.2.2.2.2.2.2.1
theorem f_k_143 {h : m_H} (I : RF h) : m_k h 143 = 100 := I.2.2.2.2.2.2.2.2.2.2.2.2.2.2.2.2.2.2.2.2.2.2.2.2.2.2.2.2.2.2.2.2.2.2.2.1
theorem f_l_143 {h : m_H} (I : RF h) : m_l h 143 = 16 := I.2.2.2.2.2.2.2.2.2.2.2.2.2.2.2.2.2.2.2.2.2.2.2.2.2.2.2.2.2.2.2.2.2.2.2.2.1
theorem f_k_144 {h : m_H} (I : RF h) : m_k h 144 = 100 := I.2.2.2.2.2.2.2.2.2.2.2.2.2.2.2.2.2.2.2.2.2.2.2.2.2.2.2.2.2.2.2.2.2.2.2.2.2.1
theorem f_l_144 {h : m_H} (I : RF h) : m_l h 144 = 2400 := I.2.2.2.2.2.2.2.2.2.2.2.2.2.2.2.2.2.2.2.2.2.2.2.2.2.2.2.2.2.2.2.2.2.2.2.2.2.2.1
theorem f_k_145 {h : m_H} (I : RF h) : m_k h 145 = 100 := I.2.2.2.2.2.2.2.2.2.2.2.2.2.2.2.2.2.2.2.2.2.2.2.2.2.2.2.2.2.2.2.2.2.2.2.2.2.2.2.1
theorem f_l_145 {h : m_H} (I : RF h) : m_l h 145 = 8 := I.2.2.2.2.2.2.2.2.2.2.2.2.2.2.2.2.2.2.2.2.2.2.2.2.2.2.2.2.2.2.2.2.2.2.2.2.2.2.2.2.1
theorem f_k_146 {h : m_H} (I : RF h) : m_k h 146 = 100 := I.2.2.2.2.2.2.2.2.2.2.2.2.2.2.2.2.2.2.2.2.2.2.2.2.2.2.2.2.2.2.2.2.2.2.2.2.2.2.2.2.2.1
theorem f_l_146 {h : m_H} (I : RF h) : m_l h 146 = 8 := I.2.2.2.2.2.2.2.2.2.2.2.2.2.2.2.2.2.2.2.2.2.2.2.2.2.2.2.2.2.2.2.2.2.2.2.2.2.2.2.2.2.2.1
theorem f_k_147 {h : m_H} (I : RF h) : m_k h 147 = 100 := I.2.2.2.2.2.2.2.2.2.2.2.2.2.2.2.2.2.2.2.2.2.2.2.2.2.2.2.2.2.2.2.2.2.2.2.2.2.2.2.2.2.2.2.1
theorem f_l_147 {h : m_H} (I : RF h) : m_l h 147 = 2392 := I.2.2.2.2.2.2.2.2.2.2.2.2.2.2.2.2.2.2.2.2.2.2.2.2.2.2.2.2.2.2.2.2.2.2.2.2.2.2.2.2.2.2.2.2.1
theorem f_k_148 {h : m_H} (I : RF h) : m_k h 148 = 100 := I.2.2.2.2.2.2.2.2.2.2.2.2.2.2.2.2.2.2.2.2.2.2.2.2.2.2.2.2.2.2.2.2.2.2.2.2.2.2.2.2.2.2.2.2.2.1
theorem f_l_148 {h : m_H} (I : RF h) : m_l h 148 = 2392 := I.2.2.2.2.2.2.2.2.2.2.2.2.2.2.2.2.2.2.2.2.2.2.2.2.2.2.2.2.2.2.2.2.2.2.2.2.2.2.2.2.2.2.2.2.2.2.1
theorem f_k_149 {h : m_H} (I : RF h) : m_k h 149 = 100 := I.2.2.2.2.2.2.2.2.2.2.2.2.2.2.2.2.2.2.2.2.2.2.2.2.2.2.2.2.2.2.2.2.2.2.2.2.2.2.2.2.2.2.2.2.2.2.2.1
theorem f_l_149 {h : m_H} (I : RF h) : m_l h 149 = 2392 := I.2.2.2.2.2.2.2.2.2.2.2.2.2.2.2.2.2.2.2.2.2.2.2.2.2.2.2.2.2.2.2.2.2.2.2.2.2.2.2.2.2.2.2.2.2.2.2.2.1
theorem f_k_150 {h : m_H} (I : RF h) : m_k h 150 = 100 := I.2.2.2.2.2.2.2.2.2.2.2.2.2.2.2.2.2.2.2.2.2.2.2.2.2.2.2.2.2.2.2.2.2.2.2.2.2.2.2.2.2.2.2.2.2.2.2.2.2.1
theorem f_l_150 {h : m_H} (I : RF h) : m_l h 150 = 23920 := I.2.2.2.2.2.2.2.2.2.2.2.2.2.2.2.2.2.2.2.2.2.2.2.2.2.2.2.2.2.2.2.2.2.2.2.2.2.2.2.2.2.2.2.2.2.2.2.2.2.2.1
theorem f_k_151 {h : m_H} (I : RF h) : m_k h 151 = 100 := I.2.2.2.2.2.2.2.2.2.2.2.2.2.2.2.2.2.2.2.2.2.2.2.2.2.2.2.2.2.2.2.2.2.2.2.2.2.2.2.2.2.2.2.2.2.2.2.2.2.2.2.1
theorem f_l_151 {h : m_H} (I : RF h) : m_l h 151 = 900 := I.2.2.2.2.2.2.2.2.2.2.2.2.2.2.2.2.2.2.2.2.2.2.2.2.2.2.2.2.2.2.2.2.2.2.2.2.2.2.2.2.2.2.2.2.2.2.2.2.2.2.2.2.1
theorem f_k_152 {h : m_H} (I : RF h) : m_k h 152 = 100 := I.2.2.2.2.2.2.2.2.2.2.2.2.2.2.2.2.2.2.2.2.2.2.2.2.2.2.2.2.2.2.2.2.2.2.2.2.2.2.2.2.2.2.2.2.2.2.2.2.2.2.2.2.2.1
theorem f_l_152 {h : m_H} (I : RF h) : m_l h 152 = 900 := I.2.2.2.2.2.2.2.2.2.2.2.2.2.2.2.2.2.2.2.2.2.2.2.2.2.2.2.2.2.2.2.2.2.2.2.2.2.2.2.2.2.2.2.2.2.2.2.2.2.2.2.2.2.2.1
theorem f_k_153 {h : m_H} (I : RF h) : m_k h 153 = 100 := I.2.2.2.2.2.2.2.2.2.2.2.2.2.2.2.2.2.2.2.2.2.2.2.2.2.2.2.2.2.2.2.2.2.2.2.2.2.2.2.2.2.2.2.2.2.2.2.2.2.2.2.2.2.2.2.1
theorem f_l_153 {h : m_H} (I : RF h) : m_l h 153 = 900 := I.2.2.2.2.2.2.2.2.2.2.2.2.2.2.2.2.2.2.2.2.2.2.2.2.2.2.2.2.2.2.2.2.2.2.2.2.2.2.2.2.2.2.2.2.2.2.2.2.2.2.2.2.2.2.2.2.1
theorem f_k_154 {h : m_H} (I : RF h) : m_k h 154 = 100 := I.2.2.2.2.2.2.2.2.2.2.2.2.2.2.2.2.2.2.2.2.2.2.2.2.2.2.2.2.2.2.2.2.2.2.2.2.2.2.2.2.2.2.2.2.2.2.2.2.2.2.2.2.2.2.2.2.2.1
theorem f_l_154 {h : m_H} (I : RF h) : m_l h 154 = 200 := I.2.2.2.2.2.2.2.2.2.2.2.2.2.2.2.2.2.2.2.2.2.2.2.2.2.2.2.2.2.2.2.2.2.2.2.2.2.2.2.2.2.2.2.2.2.2.2.2.2.2.2.2.2.2.2.2.2.2
theorem x_135 : ¬ 135 = m_X := by decide
theorem x_136 : ¬ 136 = m_X := by decide
theorem x_137 : ¬ 137 = m_X := by decide
theorem x_138 : ¬ 138 = m_X := by decide
theorem x_139 : ¬ 139 = m_X := by decide
theorem x_140 : ¬ 140 = m_X := by decide
theorem x_141 : ¬ 141 = m_X := by decide
theorem x_142 : ¬ 142 = m_X := by decide
theorem x_143 : ¬ 143 = m_X := by decide
theorem x_144 : ¬ 144 = m_X := by decide
theorem x_145 : ¬ 145 = m_X := by decide
theorem x_146 : ¬ 146 = m_X := by decide
theorem x_147 : ¬ 147 = m_X := by decide
theorem x_148 : ¬ 148 = m_X := by decide
theorem x_149 : ¬ 149 = m_X := by decide
theorem x_150 : ¬ 150 = m_X := by decide
theorem x_151 : ¬ 151 = m_X := by decide
theorem x_152 : ¬ 152 = m_X := by decide
theorem x_153 : ¬ 153 = m_X := by decide
theorem x_154 : ¬ 154 = m_X := by decide
theorem n_135 {h : m_H} (I : RF h) : 135 < m_n h := Nat.lt_of_lt_of_le (by decide) I.1
theorem n_136 {h : m_H} (I : RF h) : 136 < m_n h := Nat.lt_of_lt_of_le (by decide) I.1
theorem n_137 {h : m_H} (I : RF h) : 137 < m_n h := Nat.lt_of_lt_of_le (by decide) I.1
theorem n_138 {h : m_H} (I : RF h) : 138 < m_n h := Nat.lt_of_lt_of_le (by decide) I.1
theorem n_139 {h : m_H} (I : RF h) : 139 < m_n h := Nat.lt_of_lt_of_le (by decide) I.1
theorem n_140 {h : m_H} (I : RF h) : 140 < m_n h := Nat.lt_of_lt_of_le (by decide) I.1
theorem n_141 {h : m_H} (I : RF h) : 141 < m_n h := Nat.lt_of_lt_of_le (by decide) I.1
theorem n_142 {h : m_H} (I : RF h) : 142 < m_n h := Nat.lt_of_lt_of_le (by decide) I.1
theorem n_143 {h : m_H} (I : RF h) : 143 < m_n h := Nat.lt_of_lt_of_le (by decide) I.1
theorem n_144 {h : m_H} (I : RF h) : 144 < m_n h := Nat.lt_of_lt_of_le (by decide) I.1
theorem n_145 {h : m_H} (I : RF h) : 145 < m_n h := Nat.lt_of_lt_of_le (by decide) I.1
theorem n_146 {h : m_H} (I : RF h) : 146 < m_n h := Nat.lt_of_lt_of_le (by decide) I.1
theorem n_147 {h : m_H} (I : RF h) : 147 < m_n h := Nat.lt_of_lt_of_le (by decide) I.1
theorem n_148 {h : m_H} (I : RF h) : 148 < m_n h := Nat.lt_of_lt_of_le (by decide) I.1
theorem n_149 {h : m_H} (I : RF h) : 149 < m_n h := Nat.lt_of_lt_of_le (by decide) I.1
theorem n_150 {h : m_H} (I : RF h) : 150 < m_n h := Nat.lt_of_lt_of_le (by decide) I.1
theorem n_151 {h : m_H} (I : RF h) : 151 < m_n h := Nat.lt_of_lt_of_le (by decide) I.1
theorem n_152 {h : m_H} (I : RF h) : 152 < m_n h := Nat.lt_of_lt_of_le (by decide) I.1
theorem n_153 {h : m_H} (I : RF h) : 153 < m_n h := Nat.lt_of_lt_of_le (by decide) I.1
theorem n_154 {h : m_H} (I : RF h) : 154 < m_n h := Nat.lt_of_lt_of_le (by decide) I.1
