/-! RULES: m_W at an instruction is m_W at the next; what a rule needs stands as a premise -/
def m_o (v : Option Value) : Bool := match v with | some v => v.category == 1 | none => true
theorem m_o_n : m_o none = true := of_eq_true (eq_self _)
theorem m_o_i {x : Int32} : m_o (some (.int x)) = true := of_eq_true (eq_self _)
theorem m_o_r {x : Nat} : m_o (some (.ref x)) = true := of_eq_true (eq_self _)
theorem m_o_f {x : UInt32} : m_o (some (.float x)) = true := of_eq_true (eq_self _)
theorem m_o_z : m_o (some .null) = true := of_eq_true (eq_self _)
theorem m_o_rv {r : Option Nat} : m_o (some (m_rv r)) = true := by cases r <;> rfl
theorem m_rv_s {a : Nat} : m_rv (some a) = .ref a := of_eq_true (eq_self _)
theorem m_rv_n : m_rv none = .null := of_eq_true (eq_self _)
theorem m_cat_n : m_cat [] = 0 := of_eq_true (eq_self _)
theorem m_cat_i {x : Int32} {st : List Value} : m_cat (.int x :: st) = 1 + m_cat st := by simp [m_cat, Value.category]
theorem m_cat_r {x : Nat} {st : List Value} : m_cat (.ref x :: st) = 1 + m_cat st := by simp [m_cat, Value.category]
theorem m_cat_z {st : List Value} : m_cat (.null :: st) = 1 + m_cat st := by simp [m_cat, Value.category]
theorem m_cat_rv {r : Option Nat} {st : List Value} : m_cat (m_rv r :: st) = 1 + m_cat st := by cases r <;> simp [m_cat, m_rv, Value.category]
theorem m_cat_l {x : Int64} {st : List Value} : m_cat (.long x :: st) = 2 + m_cat st := by simp [m_cat, Value.category]
theorem m_cat_d {x : UInt64} {st : List Value} : m_cat (.double x :: st) = 2 + m_cat st := by simp [m_cat, Value.category]
theorem m_cat_f {x : UInt32} {st : List Value} : m_cat (.float x :: st) = 1 + m_cat st := by simp [m_cat, Value.category]
theorem h_n_setI (h : m_H) (a k : Nat) (v : Int32) : m_n (m_setI h a k v) = m_n h := of_eq_true (eq_self _)
theorem h_c_setI (h : m_H) (a k : Nat) (v : Int32) : m_c (m_setI h a k v) = m_c h := of_eq_true (eq_self _)
theorem h_s_setI (h : m_H) (a k : Nat) (v : Int32) : m_s (m_setI h a k v) = m_s h := of_eq_true (eq_self _)
theorem h_k_setI (h : m_H) (a k : Nat) (v : Int32) : m_k (m_setI h a k v) = m_k h := of_eq_true (eq_self _)
theorem h_l_setI (h : m_H) (a k : Nat) (v : Int32) : m_l (m_setI h a k v) = m_l h := of_eq_true (eq_self _)
theorem h_I_setI (h : m_H) (a k : Nat) (v : Int32) (x y : Nat) : m_I (m_setI h a k v) x y = if x = a ∧ y = k then v else m_I h x y := of_eq_true (eq_self _)
theorem h_L_setI (h : m_H) (a k : Nat) (v : Int32) : m_L (m_setI h a k v) = m_L h := of_eq_true (eq_self _)
theorem h_D_setI (h : m_H) (a k : Nat) (v : Int32) : m_D (m_setI h a k v) = m_D h := of_eq_true (eq_self _)
theorem h_R_setI (h : m_H) (a k : Nat) (v : Int32) : m_R (m_setI h a k v) = m_R h := of_eq_true (eq_self _)
theorem h_n_setL (h : m_H) (a k : Nat) (v : Int64) : m_n (m_setL h a k v) = m_n h := of_eq_true (eq_self _)
theorem h_c_setL (h : m_H) (a k : Nat) (v : Int64) : m_c (m_setL h a k v) = m_c h := of_eq_true (eq_self _)
theorem h_s_setL (h : m_H) (a k : Nat) (v : Int64) : m_s (m_setL h a k v) = m_s h := of_eq_true (eq_self _)
theorem h_k_setL (h : m_H) (a k : Nat) (v : Int64) : m_k (m_setL h a k v) = m_k h := of_eq_true (eq_self _)
theorem h_l_setL (h : m_H) (a k : Nat) (v : Int64) : m_l (m_setL h a k v) = m_l h := of_eq_true (eq_self _)
theorem h_I_setL (h : m_H) (a k : Nat) (v : Int64) : m_I (m_setL h a k v) = m_I h := of_eq_true (eq_self _)
theorem h_L_setL (h : m_H) (a k : Nat) (v : Int64) (x y : Nat) : m_L (m_setL h a k v) x y = if x = a ∧ y = k then v else m_L h x y := of_eq_true (eq_self _)
theorem h_D_setL (h : m_H) (a k : Nat) (v : Int64) : m_D (m_setL h a k v) = m_D h := of_eq_true (eq_self _)
theorem h_R_setL (h : m_H) (a k : Nat) (v : Int64) : m_R (m_setL h a k v) = m_R h := of_eq_true (eq_self _)
theorem h_n_setD (h : m_H) (a k : Nat) (v : UInt64) : m_n (m_setD h a k v) = m_n h := of_eq_true (eq_self _)
theorem h_c_setD (h : m_H) (a k : Nat) (v : UInt64) : m_c (m_setD h a k v) = m_c h := of_eq_true (eq_self _)
theorem h_s_setD (h : m_H) (a k : Nat) (v : UInt64) : m_s (m_setD h a k v) = m_s h := of_eq_true (eq_self _)
theorem h_k_setD (h : m_H) (a k : Nat) (v : UInt64) : m_k (m_setD h a k v) = m_k h := of_eq_true (eq_self _)
theorem h_l_setD (h : m_H) (a k : Nat) (v : UInt64) : m_l (m_setD h a k v) = m_l h := of_eq_true (eq_self _)
theorem h_I_setD (h : m_H) (a k : Nat) (v : UInt64) : m_I (m_setD h a k v) = m_I h := of_eq_true (eq_self _)
theorem h_L_setD (h : m_H) (a k : Nat) (v : UInt64) : m_L (m_setD h a k v) = m_L h := of_eq_true (eq_self _)
theorem h_D_setD (h : m_H) (a k : Nat) (v : UInt64) (x y : Nat) : m_D (m_setD h a k v) x y = if x = a ∧ y = k then v else m_D h x y := of_eq_true (eq_self _)
theorem h_R_setD (h : m_H) (a k : Nat) (v : UInt64) : m_R (m_setD h a k v) = m_R h := of_eq_true (eq_self _)
theorem h_n_setR (h : m_H) (a k : Nat) (v : Option Nat) : m_n (m_setR h a k v) = m_n h := of_eq_true (eq_self _)
theorem h_c_setR (h : m_H) (a k : Nat) (v : Option Nat) : m_c (m_setR h a k v) = m_c h := of_eq_true (eq_self _)
theorem h_s_setR (h : m_H) (a k : Nat) (v : Option Nat) : m_s (m_setR h a k v) = m_s h := of_eq_true (eq_self _)
theorem h_k_setR (h : m_H) (a k : Nat) (v : Option Nat) : m_k (m_setR h a k v) = m_k h := of_eq_true (eq_self _)
theorem h_l_setR (h : m_H) (a k : Nat) (v : Option Nat) : m_l (m_setR h a k v) = m_l h := of_eq_true (eq_self _)
theorem h_I_setR (h : m_H) (a k : Nat) (v : Option Nat) : m_I (m_setR h a k v) = m_I h := of_eq_true (eq_self _)
theorem h_L_setR (h : m_H) (a k : Nat) (v : Option Nat) : m_L (m_setR h a k v) = m_L h := of_eq_true (eq_self _)
theorem h_D_setR (h : m_H) (a k : Nat) (v : Option Nat) : m_D (m_setR h a k v) = m_D h := of_eq_true (eq_self _)
theorem h_R_setR (h : m_H) (a k : Nat) (v : Option Nat) (x y : Nat) : m_R (m_setR h a k v) x y = if x = a ∧ y = k then v else m_R h x y := of_eq_true (eq_self _)
theorem h_n_cpy (h : m_H) (a i b j n : Nat) : m_n (m_cpy h a i b j n) = m_n h := of_eq_true (eq_self _)
theorem h_c_cpy (h : m_H) (a i b j n : Nat) : m_c (m_cpy h a i b j n) = m_c h := of_eq_true (eq_self _)
theorem h_s_cpy (h : m_H) (a i b j n : Nat) : m_s (m_cpy h a i b j n) = m_s h := of_eq_true (eq_self _)
theorem h_k_cpy (h : m_H) (a i b j n : Nat) : m_k (m_cpy h a i b j n) = m_k h := of_eq_true (eq_self _)
theorem h_l_cpy (h : m_H) (a i b j n : Nat) : m_l (m_cpy h a i b j n) = m_l h := of_eq_true (eq_self _)
theorem h_I_cpy (h : m_H) (a i b j n : Nat) (x y : Nat) : m_I (m_cpy h a i b j n) x y = if x = b ∧ j ≤ y ∧ y < j + n then m_I h a (i + (y - j)) else m_I h x y := of_eq_true (eq_self _)
theorem h_L_cpy (h : m_H) (a i b j n : Nat) : m_L (m_cpy h a i b j n) = m_L h := of_eq_true (eq_self _)
theorem h_D_cpy (h : m_H) (a i b j n : Nat) : m_D (m_cpy h a i b j n) = m_D h := of_eq_true (eq_self _)
theorem h_R_cpy (h : m_H) (a i b j n : Nat) : m_R (m_cpy h a i b j n) = m_R h := of_eq_true (eq_self _)
theorem h_n_mk (h : m_H) (kd len z : Nat) : m_n (m_mk h kd len z) = m_n h + 1 := of_eq_true (eq_self _)
theorem h_c_mk (h : m_H) (kd len z : Nat) : m_c (m_mk h kd len z) = m_c h + 1 := of_eq_true (eq_self _)
theorem h_s_mk (h : m_H) (kd len z : Nat) : m_s (m_mk h kd len z) = m_s h + z := of_eq_true (eq_self _)
theorem h_k_mk (h : m_H) (kd len z x : Nat) : m_k (m_mk h kd len z) x = if x = m_n h then kd else m_k h x := of_eq_true (eq_self _)
theorem h_l_mk (h : m_H) (kd len z x : Nat) : m_l (m_mk h kd len z) x = if x = m_n h then len else m_l h x := of_eq_true (eq_self _)
theorem h_I_mk (h : m_H) (kd len z x y : Nat) : m_I (m_mk h kd len z) x y = if x = m_n h then 0 else m_I h x y := of_eq_true (eq_self _)
theorem h_L_mk (h : m_H) (kd len z x y : Nat) : m_L (m_mk h kd len z) x y = if x = m_n h then 0 else m_L h x y := of_eq_true (eq_self _)
theorem h_D_mk (h : m_H) (kd len z x y : Nat) : m_D (m_mk h kd len z) x y = if x = m_n h then 0 else m_D h x y := of_eq_true (eq_self _)
theorem h_R_mk (h : m_H) (kd len z x y : Nat) : m_R (m_mk h kd len z) x y = if x = m_n h then none else m_R h x y := of_eq_true (eq_self _)
theorem h_n_bump (h : m_H) : m_n (m_bump h) = m_n h := of_eq_true (eq_self _)
theorem h_c_bump (h : m_H) : m_c (m_bump h) = m_c h + 1 := of_eq_true (eq_self _)
theorem h_s_bump (h : m_H) : m_s (m_bump h) = m_s h + 6 := of_eq_true (eq_self _)
theorem h_k_bump (h : m_H) : m_k (m_bump h) = m_k h := of_eq_true (eq_self _)
theorem h_l_bump (h : m_H) : m_l (m_bump h) = m_l h := of_eq_true (eq_self _)
theorem h_I_bump (h : m_H) : m_I (m_bump h) = m_I h := of_eq_true (eq_self _)
theorem h_L_bump (h : m_H) : m_L (m_bump h) = m_L h := of_eq_true (eq_self _)
theorem h_D_bump (h : m_H) : m_D (m_bump h) = m_D h := of_eq_true (eq_self _)
theorem h_R_bump (h : m_H) : m_R (m_bump h) = m_R h := of_eq_true (eq_self _)
theorem m_W_n4 {P : m_P} {d y : Nat} {i : Instr} {is is' : List Instr} {ls ls' : m_F} {st st' : List Value} {h h' : m_H} {Q : Option Value ⊕ Nat → m_H → Prop} (hq : m_st P y i is ls st h = some (.inl (is', ls', st', h'))) : m_W P d y (i :: is) ls st h Q = m_W P d y is' ls' st' h' Q := m_W_nx hq
theorem m_W_cl {P : m_P} {d y z : Nat} {i : Instr} {is : List Instr} {ls : m_F} {st st' as : List Value} {h : m_H} {Q : Option Value ⊕ Nat → m_H → Prop} {sp : Bool} (hi : m_isp i = sp) (hq : m_st P y i is ls st h = some (.inr (.inl (z, as, st')))) : m_W P (d + 1) y (i :: is) ls st h Q = m_W P d z (m_tg P z 0) (m_ent (m_nl P z) as) [] h (m_C P (d + 1) y sp is ls st' Q) := by subst hi; exact m_W_call hq
section RULES
variable {P : m_P} {d y : Nat} {is : List Instr} {ls l : m_F} {st : List Value} {h : m_H} {Q : Option Value ⊕ Nat → m_H → Prop} {a0 a1 a2 a3 a4 a5 a6 a7 a8 : Option Value}
theorem w_iload_0 {x : Int32} : m_W P d y (.iload 0 :: is) (some (.int x) :: l) st h Q = m_W P d y is (some (.int x) :: l) (.int x :: st) h Q := m_W_n4 rfl
theorem w_lload_0 {x : Int64} : m_W P d y (.lload 0 :: is) (some (.long x) :: l) st h Q = m_W P d y is (some (.long x) :: l) (.long x :: st) h Q := m_W_n4 rfl
theorem w_fload_0 {x : UInt32} : m_W P d y (.fload 0 :: is) (some (.float x) :: l) st h Q = m_W P d y is (some (.float x) :: l) (.float x :: st) h Q := m_W_n4 rfl
theorem w_dload_0 {x : UInt64} : m_W P d y (.dload 0 :: is) (some (.double x) :: l) st h Q = m_W P d y is (some (.double x) :: l) (.double x :: st) h Q := m_W_n4 rfl
theorem w_aload_0 {x : Nat} : m_W P d y (.aload 0 :: is) (some (.ref x) :: l) st h Q = m_W P d y is (some (.ref x) :: l) (.ref x :: st) h Q := m_W_n4 rfl
theorem w_aloadz_0 : m_W P d y (.aload 0 :: is) (some .null :: l) st h Q = m_W P d y is (some .null :: l) (.null :: st) h Q := m_W_n4 rfl
theorem w_aloadv_0 {r : Option Nat} : m_W P d y (.aload 0 :: is) (some (m_rv r) :: l) st h Q = m_W P d y is (some (m_rv r) :: l) (m_rv r :: st) h Q := by cases r <;> exact m_W_n4 rfl
theorem w_iload_1 {x : Int32} : m_W P d y (.iload 1 :: is) (a0 :: some (.int x) :: l) st h Q = m_W P d y is (a0 :: some (.int x) :: l) (.int x :: st) h Q := m_W_n4 rfl
theorem w_lload_1 {x : Int64} : m_W P d y (.lload 1 :: is) (a0 :: some (.long x) :: l) st h Q = m_W P d y is (a0 :: some (.long x) :: l) (.long x :: st) h Q := m_W_n4 rfl
theorem w_fload_1 {x : UInt32} : m_W P d y (.fload 1 :: is) (a0 :: some (.float x) :: l) st h Q = m_W P d y is (a0 :: some (.float x) :: l) (.float x :: st) h Q := m_W_n4 rfl
theorem w_dload_1 {x : UInt64} : m_W P d y (.dload 1 :: is) (a0 :: some (.double x) :: l) st h Q = m_W P d y is (a0 :: some (.double x) :: l) (.double x :: st) h Q := m_W_n4 rfl
theorem w_aload_1 {x : Nat} : m_W P d y (.aload 1 :: is) (a0 :: some (.ref x) :: l) st h Q = m_W P d y is (a0 :: some (.ref x) :: l) (.ref x :: st) h Q := m_W_n4 rfl
theorem w_aloadz_1 : m_W P d y (.aload 1 :: is) (a0 :: some .null :: l) st h Q = m_W P d y is (a0 :: some .null :: l) (.null :: st) h Q := m_W_n4 rfl
theorem w_aloadv_1 {r : Option Nat} : m_W P d y (.aload 1 :: is) (a0 :: some (m_rv r) :: l) st h Q = m_W P d y is (a0 :: some (m_rv r) :: l) (m_rv r :: st) h Q := by cases r <;> exact m_W_n4 rfl
theorem w_iload_2 {x : Int32} : m_W P d y (.iload 2 :: is) (a0 :: a1 :: some (.int x) :: l) st h Q = m_W P d y is (a0 :: a1 :: some (.int x) :: l) (.int x :: st) h Q := m_W_n4 rfl
theorem w_lload_2 {x : Int64} : m_W P d y (.lload 2 :: is) (a0 :: a1 :: some (.long x) :: l) st h Q = m_W P d y is (a0 :: a1 :: some (.long x) :: l) (.long x :: st) h Q := m_W_n4 rfl
theorem w_fload_2 {x : UInt32} : m_W P d y (.fload 2 :: is) (a0 :: a1 :: some (.float x) :: l) st h Q = m_W P d y is (a0 :: a1 :: some (.float x) :: l) (.float x :: st) h Q := m_W_n4 rfl
theorem w_dload_2 {x : UInt64} : m_W P d y (.dload 2 :: is) (a0 :: a1 :: some (.double x) :: l) st h Q = m_W P d y is (a0 :: a1 :: some (.double x) :: l) (.double x :: st) h Q := m_W_n4 rfl
theorem w_aload_2 {x : Nat} : m_W P d y (.aload 2 :: is) (a0 :: a1 :: some (.ref x) :: l) st h Q = m_W P d y is (a0 :: a1 :: some (.ref x) :: l) (.ref x :: st) h Q := m_W_n4 rfl
theorem w_aloadz_2 : m_W P d y (.aload 2 :: is) (a0 :: a1 :: some .null :: l) st h Q = m_W P d y is (a0 :: a1 :: some .null :: l) (.null :: st) h Q := m_W_n4 rfl
theorem w_aloadv_2 {r : Option Nat} : m_W P d y (.aload 2 :: is) (a0 :: a1 :: some (m_rv r) :: l) st h Q = m_W P d y is (a0 :: a1 :: some (m_rv r) :: l) (m_rv r :: st) h Q := by cases r <;> exact m_W_n4 rfl
theorem w_iload_3 {x : Int32} : m_W P d y (.iload 3 :: is) (a0 :: a1 :: a2 :: some (.int x) :: l) st h Q = m_W P d y is (a0 :: a1 :: a2 :: some (.int x) :: l) (.int x :: st) h Q := m_W_n4 rfl
theorem w_lload_3 {x : Int64} : m_W P d y (.lload 3 :: is) (a0 :: a1 :: a2 :: some (.long x) :: l) st h Q = m_W P d y is (a0 :: a1 :: a2 :: some (.long x) :: l) (.long x :: st) h Q := m_W_n4 rfl
theorem w_fload_3 {x : UInt32} : m_W P d y (.fload 3 :: is) (a0 :: a1 :: a2 :: some (.float x) :: l) st h Q = m_W P d y is (a0 :: a1 :: a2 :: some (.float x) :: l) (.float x :: st) h Q := m_W_n4 rfl
theorem w_dload_3 {x : UInt64} : m_W P d y (.dload 3 :: is) (a0 :: a1 :: a2 :: some (.double x) :: l) st h Q = m_W P d y is (a0 :: a1 :: a2 :: some (.double x) :: l) (.double x :: st) h Q := m_W_n4 rfl
theorem w_aload_3 {x : Nat} : m_W P d y (.aload 3 :: is) (a0 :: a1 :: a2 :: some (.ref x) :: l) st h Q = m_W P d y is (a0 :: a1 :: a2 :: some (.ref x) :: l) (.ref x :: st) h Q := m_W_n4 rfl
theorem w_aloadz_3 : m_W P d y (.aload 3 :: is) (a0 :: a1 :: a2 :: some .null :: l) st h Q = m_W P d y is (a0 :: a1 :: a2 :: some .null :: l) (.null :: st) h Q := m_W_n4 rfl
theorem w_aloadv_3 {r : Option Nat} : m_W P d y (.aload 3 :: is) (a0 :: a1 :: a2 :: some (m_rv r) :: l) st h Q = m_W P d y is (a0 :: a1 :: a2 :: some (m_rv r) :: l) (m_rv r :: st) h Q := by cases r <;> exact m_W_n4 rfl
theorem w_iload_4 {x : Int32} : m_W P d y (.iload 4 :: is) (a0 :: a1 :: a2 :: a3 :: some (.int x) :: l) st h Q = m_W P d y is (a0 :: a1 :: a2 :: a3 :: some (.int x) :: l) (.int x :: st) h Q := m_W_n4 rfl
theorem w_lload_4 {x : Int64} : m_W P d y (.lload 4 :: is) (a0 :: a1 :: a2 :: a3 :: some (.long x) :: l) st h Q = m_W P d y is (a0 :: a1 :: a2 :: a3 :: some (.long x) :: l) (.long x :: st) h Q := m_W_n4 rfl
theorem w_fload_4 {x : UInt32} : m_W P d y (.fload 4 :: is) (a0 :: a1 :: a2 :: a3 :: some (.float x) :: l) st h Q = m_W P d y is (a0 :: a1 :: a2 :: a3 :: some (.float x) :: l) (.float x :: st) h Q := m_W_n4 rfl
theorem w_dload_4 {x : UInt64} : m_W P d y (.dload 4 :: is) (a0 :: a1 :: a2 :: a3 :: some (.double x) :: l) st h Q = m_W P d y is (a0 :: a1 :: a2 :: a3 :: some (.double x) :: l) (.double x :: st) h Q := m_W_n4 rfl
theorem w_aload_4 {x : Nat} : m_W P d y (.aload 4 :: is) (a0 :: a1 :: a2 :: a3 :: some (.ref x) :: l) st h Q = m_W P d y is (a0 :: a1 :: a2 :: a3 :: some (.ref x) :: l) (.ref x :: st) h Q := m_W_n4 rfl
theorem w_aloadz_4 : m_W P d y (.aload 4 :: is) (a0 :: a1 :: a2 :: a3 :: some .null :: l) st h Q = m_W P d y is (a0 :: a1 :: a2 :: a3 :: some .null :: l) (.null :: st) h Q := m_W_n4 rfl
theorem w_aloadv_4 {r : Option Nat} : m_W P d y (.aload 4 :: is) (a0 :: a1 :: a2 :: a3 :: some (m_rv r) :: l) st h Q = m_W P d y is (a0 :: a1 :: a2 :: a3 :: some (m_rv r) :: l) (m_rv r :: st) h Q := by cases r <;> exact m_W_n4 rfl
theorem w_iload_5 {x : Int32} : m_W P d y (.iload 5 :: is) (a0 :: a1 :: a2 :: a3 :: a4 :: some (.int x) :: l) st h Q = m_W P d y is (a0 :: a1 :: a2 :: a3 :: a4 :: some (.int x) :: l) (.int x :: st) h Q := m_W_n4 rfl
theorem w_lload_5 {x : Int64} : m_W P d y (.lload 5 :: is) (a0 :: a1 :: a2 :: a3 :: a4 :: some (.long x) :: l) st h Q = m_W P d y is (a0 :: a1 :: a2 :: a3 :: a4 :: some (.long x) :: l) (.long x :: st) h Q := m_W_n4 rfl
theorem w_fload_5 {x : UInt32} : m_W P d y (.fload 5 :: is) (a0 :: a1 :: a2 :: a3 :: a4 :: some (.float x) :: l) st h Q = m_W P d y is (a0 :: a1 :: a2 :: a3 :: a4 :: some (.float x) :: l) (.float x :: st) h Q := m_W_n4 rfl
theorem w_dload_5 {x : UInt64} : m_W P d y (.dload 5 :: is) (a0 :: a1 :: a2 :: a3 :: a4 :: some (.double x) :: l) st h Q = m_W P d y is (a0 :: a1 :: a2 :: a3 :: a4 :: some (.double x) :: l) (.double x :: st) h Q := m_W_n4 rfl
theorem w_aload_5 {x : Nat} : m_W P d y (.aload 5 :: is) (a0 :: a1 :: a2 :: a3 :: a4 :: some (.ref x) :: l) st h Q = m_W P d y is (a0 :: a1 :: a2 :: a3 :: a4 :: some (.ref x) :: l) (.ref x :: st) h Q := m_W_n4 rfl
theorem w_aloadz_5 : m_W P d y (.aload 5 :: is) (a0 :: a1 :: a2 :: a3 :: a4 :: some .null :: l) st h Q = m_W P d y is (a0 :: a1 :: a2 :: a3 :: a4 :: some .null :: l) (.null :: st) h Q := m_W_n4 rfl
theorem w_aloadv_5 {r : Option Nat} : m_W P d y (.aload 5 :: is) (a0 :: a1 :: a2 :: a3 :: a4 :: some (m_rv r) :: l) st h Q = m_W P d y is (a0 :: a1 :: a2 :: a3 :: a4 :: some (m_rv r) :: l) (m_rv r :: st) h Q := by cases r <;> exact m_W_n4 rfl
theorem w_iload_6 {x : Int32} : m_W P d y (.iload 6 :: is) (a0 :: a1 :: a2 :: a3 :: a4 :: a5 :: some (.int x) :: l) st h Q = m_W P d y is (a0 :: a1 :: a2 :: a3 :: a4 :: a5 :: some (.int x) :: l) (.int x :: st) h Q := m_W_n4 rfl
theorem w_lload_6 {x : Int64} : m_W P d y (.lload 6 :: is) (a0 :: a1 :: a2 :: a3 :: a4 :: a5 :: some (.long x) :: l) st h Q = m_W P d y is (a0 :: a1 :: a2 :: a3 :: a4 :: a5 :: some (.long x) :: l) (.long x :: st) h Q := m_W_n4 rfl
theorem w_fload_6 {x : UInt32} : m_W P d y (.fload 6 :: is) (a0 :: a1 :: a2 :: a3 :: a4 :: a5 :: some (.float x) :: l) st h Q = m_W P d y is (a0 :: a1 :: a2 :: a3 :: a4 :: a5 :: some (.float x) :: l) (.float x :: st) h Q := m_W_n4 rfl
theorem w_dload_6 {x : UInt64} : m_W P d y (.dload 6 :: is) (a0 :: a1 :: a2 :: a3 :: a4 :: a5 :: some (.double x) :: l) st h Q = m_W P d y is (a0 :: a1 :: a2 :: a3 :: a4 :: a5 :: some (.double x) :: l) (.double x :: st) h Q := m_W_n4 rfl
theorem w_aload_6 {x : Nat} : m_W P d y (.aload 6 :: is) (a0 :: a1 :: a2 :: a3 :: a4 :: a5 :: some (.ref x) :: l) st h Q = m_W P d y is (a0 :: a1 :: a2 :: a3 :: a4 :: a5 :: some (.ref x) :: l) (.ref x :: st) h Q := m_W_n4 rfl
theorem w_aloadz_6 : m_W P d y (.aload 6 :: is) (a0 :: a1 :: a2 :: a3 :: a4 :: a5 :: some .null :: l) st h Q = m_W P d y is (a0 :: a1 :: a2 :: a3 :: a4 :: a5 :: some .null :: l) (.null :: st) h Q := m_W_n4 rfl
theorem w_aloadv_6 {r : Option Nat} : m_W P d y (.aload 6 :: is) (a0 :: a1 :: a2 :: a3 :: a4 :: a5 :: some (m_rv r) :: l) st h Q = m_W P d y is (a0 :: a1 :: a2 :: a3 :: a4 :: a5 :: some (m_rv r) :: l) (m_rv r :: st) h Q := by cases r <;> exact m_W_n4 rfl
theorem w_iload_7 {x : Int32} : m_W P d y (.iload 7 :: is) (a0 :: a1 :: a2 :: a3 :: a4 :: a5 :: a6 :: some (.int x) :: l) st h Q = m_W P d y is (a0 :: a1 :: a2 :: a3 :: a4 :: a5 :: a6 :: some (.int x) :: l) (.int x :: st) h Q := m_W_n4 rfl
theorem w_lload_7 {x : Int64} : m_W P d y (.lload 7 :: is) (a0 :: a1 :: a2 :: a3 :: a4 :: a5 :: a6 :: some (.long x) :: l) st h Q = m_W P d y is (a0 :: a1 :: a2 :: a3 :: a4 :: a5 :: a6 :: some (.long x) :: l) (.long x :: st) h Q := m_W_n4 rfl
theorem w_fload_7 {x : UInt32} : m_W P d y (.fload 7 :: is) (a0 :: a1 :: a2 :: a3 :: a4 :: a5 :: a6 :: some (.float x) :: l) st h Q = m_W P d y is (a0 :: a1 :: a2 :: a3 :: a4 :: a5 :: a6 :: some (.float x) :: l) (.float x :: st) h Q := m_W_n4 rfl
theorem w_dload_7 {x : UInt64} : m_W P d y (.dload 7 :: is) (a0 :: a1 :: a2 :: a3 :: a4 :: a5 :: a6 :: some (.double x) :: l) st h Q = m_W P d y is (a0 :: a1 :: a2 :: a3 :: a4 :: a5 :: a6 :: some (.double x) :: l) (.double x :: st) h Q := m_W_n4 rfl
theorem w_aload_7 {x : Nat} : m_W P d y (.aload 7 :: is) (a0 :: a1 :: a2 :: a3 :: a4 :: a5 :: a6 :: some (.ref x) :: l) st h Q = m_W P d y is (a0 :: a1 :: a2 :: a3 :: a4 :: a5 :: a6 :: some (.ref x) :: l) (.ref x :: st) h Q := m_W_n4 rfl
theorem w_aloadz_7 : m_W P d y (.aload 7 :: is) (a0 :: a1 :: a2 :: a3 :: a4 :: a5 :: a6 :: some .null :: l) st h Q = m_W P d y is (a0 :: a1 :: a2 :: a3 :: a4 :: a5 :: a6 :: some .null :: l) (.null :: st) h Q := m_W_n4 rfl
theorem w_aloadv_7 {r : Option Nat} : m_W P d y (.aload 7 :: is) (a0 :: a1 :: a2 :: a3 :: a4 :: a5 :: a6 :: some (m_rv r) :: l) st h Q = m_W P d y is (a0 :: a1 :: a2 :: a3 :: a4 :: a5 :: a6 :: some (m_rv r) :: l) (m_rv r :: st) h Q := by cases r <;> exact m_W_n4 rfl
theorem w_iload_8 {x : Int32} : m_W P d y (.iload 8 :: is) (a0 :: a1 :: a2 :: a3 :: a4 :: a5 :: a6 :: a7 :: some (.int x) :: l) st h Q = m_W P d y is (a0 :: a1 :: a2 :: a3 :: a4 :: a5 :: a6 :: a7 :: some (.int x) :: l) (.int x :: st) h Q := m_W_n4 rfl
theorem w_lload_8 {x : Int64} : m_W P d y (.lload 8 :: is) (a0 :: a1 :: a2 :: a3 :: a4 :: a5 :: a6 :: a7 :: some (.long x) :: l) st h Q = m_W P d y is (a0 :: a1 :: a2 :: a3 :: a4 :: a5 :: a6 :: a7 :: some (.long x) :: l) (.long x :: st) h Q := m_W_n4 rfl
theorem w_fload_8 {x : UInt32} : m_W P d y (.fload 8 :: is) (a0 :: a1 :: a2 :: a3 :: a4 :: a5 :: a6 :: a7 :: some (.float x) :: l) st h Q = m_W P d y is (a0 :: a1 :: a2 :: a3 :: a4 :: a5 :: a6 :: a7 :: some (.float x) :: l) (.float x :: st) h Q := m_W_n4 rfl
theorem w_dload_8 {x : UInt64} : m_W P d y (.dload 8 :: is) (a0 :: a1 :: a2 :: a3 :: a4 :: a5 :: a6 :: a7 :: some (.double x) :: l) st h Q = m_W P d y is (a0 :: a1 :: a2 :: a3 :: a4 :: a5 :: a6 :: a7 :: some (.double x) :: l) (.double x :: st) h Q := m_W_n4 rfl
theorem w_aload_8 {x : Nat} : m_W P d y (.aload 8 :: is) (a0 :: a1 :: a2 :: a3 :: a4 :: a5 :: a6 :: a7 :: some (.ref x) :: l) st h Q = m_W P d y is (a0 :: a1 :: a2 :: a3 :: a4 :: a5 :: a6 :: a7 :: some (.ref x) :: l) (.ref x :: st) h Q := m_W_n4 rfl
theorem w_aloadz_8 : m_W P d y (.aload 8 :: is) (a0 :: a1 :: a2 :: a3 :: a4 :: a5 :: a6 :: a7 :: some .null :: l) st h Q = m_W P d y is (a0 :: a1 :: a2 :: a3 :: a4 :: a5 :: a6 :: a7 :: some .null :: l) (.null :: st) h Q := m_W_n4 rfl
theorem w_aloadv_8 {r : Option Nat} : m_W P d y (.aload 8 :: is) (a0 :: a1 :: a2 :: a3 :: a4 :: a5 :: a6 :: a7 :: some (m_rv r) :: l) st h Q = m_W P d y is (a0 :: a1 :: a2 :: a3 :: a4 :: a5 :: a6 :: a7 :: some (m_rv r) :: l) (m_rv r :: st) h Q := by cases r <;> exact m_W_n4 rfl
theorem m_ok1_0 : m_ok1 ls 0 = true := rfl
theorem m_ok1_1 (ho : m_o a0 = true) : m_ok1 (a0 :: l) 1 = true := by
  unfold m_ok1
  show (match some a0 with | some (some v) => v.category == 1 | _ => true) = true
  cases a0 with
  | none => rfl
  | some v => exact ho
theorem m_ok1_2 (ho : m_o a1 = true) : m_ok1 (a0 :: a1 :: l) 2 = true := by
  unfold m_ok1
  show (match some a1 with | some (some v) => v.category == 1 | _ => true) = true
  cases a1 with
  | none => rfl
  | some v => exact ho
theorem m_ok1_3 (ho : m_o a2 = true) : m_ok1 (a0 :: a1 :: a2 :: l) 3 = true := by
  unfold m_ok1
  show (match some a2 with | some (some v) => v.category == 1 | _ => true) = true
  cases a2 with
  | none => rfl
  | some v => exact ho
theorem m_ok1_4 (ho : m_o a3 = true) : m_ok1 (a0 :: a1 :: a2 :: a3 :: l) 4 = true := by
  unfold m_ok1
  show (match some a3 with | some (some v) => v.category == 1 | _ => true) = true
  cases a3 with
  | none => rfl
  | some v => exact ho
theorem m_ok1_5 (ho : m_o a4 = true) : m_ok1 (a0 :: a1 :: a2 :: a3 :: a4 :: l) 5 = true := by
  unfold m_ok1
  show (match some a4 with | some (some v) => v.category == 1 | _ => true) = true
  cases a4 with
  | none => rfl
  | some v => exact ho
theorem m_ok1_6 (ho : m_o a5 = true) : m_ok1 (a0 :: a1 :: a2 :: a3 :: a4 :: a5 :: l) 6 = true := by
  unfold m_ok1
  show (match some a5 with | some (some v) => v.category == 1 | _ => true) = true
  cases a5 with
  | none => rfl
  | some v => exact ho
theorem m_ok1_7 (ho : m_o a6 = true) : m_ok1 (a0 :: a1 :: a2 :: a3 :: a4 :: a5 :: a6 :: l) 7 = true := by
  unfold m_ok1
  show (match some a6 with | some (some v) => v.category == 1 | _ => true) = true
  cases a6 with
  | none => rfl
  | some v => exact ho
theorem m_ok1_8 (ho : m_o a7 = true) : m_ok1 (a0 :: a1 :: a2 :: a3 :: a4 :: a5 :: a6 :: a7 :: l) 8 = true := by
  unfold m_ok1
  show (match some a7 with | some (some v) => v.category == 1 | _ => true) = true
  cases a7 with
  | none => rfl
  | some v => exact ho
theorem w_istore_0 {x : Int32} : m_W P d y (.istore 0 :: is) (a0 :: l) (.int x :: st) h Q = m_W P d y is (some (.int x) :: l) st h Q := m_W_n4 (by simp only [m_st]; rw [if_pos ⟨m_ok1_0, by simp⟩]; rfl)
theorem w_fstore_0 {x : UInt32} : m_W P d y (.fstore 0 :: is) (a0 :: l) (.float x :: st) h Q = m_W P d y is (some (.float x) :: l) st h Q := m_W_n4 (by simp only [m_st]; rw [if_pos ⟨m_ok1_0, by simp⟩]; rfl)
theorem w_astore_0 {x : Nat} : m_W P d y (.astore 0 :: is) (a0 :: l) (.ref x :: st) h Q = m_W P d y is (some (.ref x) :: l) st h Q := m_W_n4 (by simp only [m_st]; rw [if_pos ⟨m_ok1_0, by simp⟩]; rfl)
theorem w_astorez_0  : m_W P d y (.astore 0 :: is) (a0 :: l) (.null :: st) h Q = m_W P d y is (some (.null) :: l) st h Q := m_W_n4 (by simp only [m_st]; rw [if_pos ⟨m_ok1_0, by simp⟩]; rfl)
theorem w_astorev_0 {r : Option Nat} : m_W P d y (.astore 0 :: is) (a0 :: l) (m_rv r :: st) h Q = m_W P d y is (some (m_rv r) :: l) st h Q := by cases r; exact w_astorez_0 ; exact w_astore_0 
theorem w_iinc_0 {x : Int32} {v : Int} : m_W P d y (.iinc 0 v :: is) (some (.int x) :: l) st h Q = m_W P d y is (some (.int (x + Int32.ofInt v)) :: l) st h Q := m_W_n4 (by simp only [m_st]; show (if m_ok1 _ _ = true then _ else _) = _; rw [if_pos m_ok1_0]; rfl)
theorem w_istore_1 {x : Int32} (ho : m_o a0 = true) : m_W P d y (.istore 1 :: is) (a0 :: a1 :: l) (.int x :: st) h Q = m_W P d y is (a0 :: some (.int x) :: l) st h Q := m_W_n4 (by simp only [m_st]; rw [if_pos ⟨(m_ok1_1 ho), by simp⟩]; rfl)
theorem w_fstore_1 {x : UInt32} (ho : m_o a0 = true) : m_W P d y (.fstore 1 :: is) (a0 :: a1 :: l) (.float x :: st) h Q = m_W P d y is (a0 :: some (.float x) :: l) st h Q := m_W_n4 (by simp only [m_st]; rw [if_pos ⟨(m_ok1_1 ho), by simp⟩]; rfl)
theorem w_astore_1 {x : Nat} (ho : m_o a0 = true) : m_W P d y (.astore 1 :: is) (a0 :: a1 :: l) (.ref x :: st) h Q = m_W P d y is (a0 :: some (.ref x) :: l) st h Q := m_W_n4 (by simp only [m_st]; rw [if_pos ⟨(m_ok1_1 ho), by simp⟩]; rfl)
theorem w_astorez_1  (ho : m_o a0 = true) : m_W P d y (.astore 1 :: is) (a0 :: a1 :: l) (.null :: st) h Q = m_W P d y is (a0 :: some (.null) :: l) st h Q := m_W_n4 (by simp only [m_st]; rw [if_pos ⟨(m_ok1_1 ho), by simp⟩]; rfl)
theorem w_astorev_1 {r : Option Nat} (ho : m_o a0 = true) : m_W P d y (.astore 1 :: is) (a0 :: a1 :: l) (m_rv r :: st) h Q = m_W P d y is (a0 :: some (m_rv r) :: l) st h Q := by cases r; exact w_astorez_1 ho; exact w_astore_1 ho
theorem w_iinc_1 {x : Int32} {v : Int} (ho : m_o a0 = true) : m_W P d y (.iinc 1 v :: is) (a0 :: some (.int x) :: l) st h Q = m_W P d y is (a0 :: some (.int (x + Int32.ofInt v)) :: l) st h Q := m_W_n4 (by simp only [m_st]; show (if m_ok1 _ _ = true then _ else _) = _; rw [if_pos (m_ok1_1 ho)]; rfl)
theorem w_istore_2 {x : Int32} (ho : m_o a1 = true) : m_W P d y (.istore 2 :: is) (a0 :: a1 :: a2 :: l) (.int x :: st) h Q = m_W P d y is (a0 :: a1 :: some (.int x) :: l) st h Q := m_W_n4 (by simp only [m_st]; rw [if_pos ⟨(m_ok1_2 ho), by simp⟩]; rfl)
theorem w_fstore_2 {x : UInt32} (ho : m_o a1 = true) : m_W P d y (.fstore 2 :: is) (a0 :: a1 :: a2 :: l) (.float x :: st) h Q = m_W P d y is (a0 :: a1 :: some (.float x) :: l) st h Q := m_W_n4 (by simp only [m_st]; rw [if_pos ⟨(m_ok1_2 ho), by simp⟩]; rfl)
theorem w_astore_2 {x : Nat} (ho : m_o a1 = true) : m_W P d y (.astore 2 :: is) (a0 :: a1 :: a2 :: l) (.ref x :: st) h Q = m_W P d y is (a0 :: a1 :: some (.ref x) :: l) st h Q := m_W_n4 (by simp only [m_st]; rw [if_pos ⟨(m_ok1_2 ho), by simp⟩]; rfl)
theorem w_astorez_2  (ho : m_o a1 = true) : m_W P d y (.astore 2 :: is) (a0 :: a1 :: a2 :: l) (.null :: st) h Q = m_W P d y is (a0 :: a1 :: some (.null) :: l) st h Q := m_W_n4 (by simp only [m_st]; rw [if_pos ⟨(m_ok1_2 ho), by simp⟩]; rfl)
theorem w_astorev_2 {r : Option Nat} (ho : m_o a1 = true) : m_W P d y (.astore 2 :: is) (a0 :: a1 :: a2 :: l) (m_rv r :: st) h Q = m_W P d y is (a0 :: a1 :: some (m_rv r) :: l) st h Q := by cases r; exact w_astorez_2 ho; exact w_astore_2 ho
theorem w_iinc_2 {x : Int32} {v : Int} (ho : m_o a1 = true) : m_W P d y (.iinc 2 v :: is) (a0 :: a1 :: some (.int x) :: l) st h Q = m_W P d y is (a0 :: a1 :: some (.int (x + Int32.ofInt v)) :: l) st h Q := m_W_n4 (by simp only [m_st]; show (if m_ok1 _ _ = true then _ else _) = _; rw [if_pos (m_ok1_2 ho)]; rfl)
theorem w_istore_3 {x : Int32} (ho : m_o a2 = true) : m_W P d y (.istore 3 :: is) (a0 :: a1 :: a2 :: a3 :: l) (.int x :: st) h Q = m_W P d y is (a0 :: a1 :: a2 :: some (.int x) :: l) st h Q := m_W_n4 (by simp only [m_st]; rw [if_pos ⟨(m_ok1_3 ho), by simp⟩]; rfl)
theorem w_fstore_3 {x : UInt32} (ho : m_o a2 = true) : m_W P d y (.fstore 3 :: is) (a0 :: a1 :: a2 :: a3 :: l) (.float x :: st) h Q = m_W P d y is (a0 :: a1 :: a2 :: some (.float x) :: l) st h Q := m_W_n4 (by simp only [m_st]; rw [if_pos ⟨(m_ok1_3 ho), by simp⟩]; rfl)
theorem w_astore_3 {x : Nat} (ho : m_o a2 = true) : m_W P d y (.astore 3 :: is) (a0 :: a1 :: a2 :: a3 :: l) (.ref x :: st) h Q = m_W P d y is (a0 :: a1 :: a2 :: some (.ref x) :: l) st h Q := m_W_n4 (by simp only [m_st]; rw [if_pos ⟨(m_ok1_3 ho), by simp⟩]; rfl)
theorem w_astorez_3  (ho : m_o a2 = true) : m_W P d y (.astore 3 :: is) (a0 :: a1 :: a2 :: a3 :: l) (.null :: st) h Q = m_W P d y is (a0 :: a1 :: a2 :: some (.null) :: l) st h Q := m_W_n4 (by simp only [m_st]; rw [if_pos ⟨(m_ok1_3 ho), by simp⟩]; rfl)
theorem w_astorev_3 {r : Option Nat} (ho : m_o a2 = true) : m_W P d y (.astore 3 :: is) (a0 :: a1 :: a2 :: a3 :: l) (m_rv r :: st) h Q = m_W P d y is (a0 :: a1 :: a2 :: some (m_rv r) :: l) st h Q := by cases r; exact w_astorez_3 ho; exact w_astore_3 ho
theorem w_iinc_3 {x : Int32} {v : Int} (ho : m_o a2 = true) : m_W P d y (.iinc 3 v :: is) (a0 :: a1 :: a2 :: some (.int x) :: l) st h Q = m_W P d y is (a0 :: a1 :: a2 :: some (.int (x + Int32.ofInt v)) :: l) st h Q := m_W_n4 (by simp only [m_st]; show (if m_ok1 _ _ = true then _ else _) = _; rw [if_pos (m_ok1_3 ho)]; rfl)
theorem w_istore_4 {x : Int32} (ho : m_o a3 = true) : m_W P d y (.istore 4 :: is) (a0 :: a1 :: a2 :: a3 :: a4 :: l) (.int x :: st) h Q = m_W P d y is (a0 :: a1 :: a2 :: a3 :: some (.int x) :: l) st h Q := m_W_n4 (by simp only [m_st]; rw [if_pos ⟨(m_ok1_4 ho), by simp⟩]; rfl)
theorem w_fstore_4 {x : UInt32} (ho : m_o a3 = true) : m_W P d y (.fstore 4 :: is) (a0 :: a1 :: a2 :: a3 :: a4 :: l) (.float x :: st) h Q = m_W P d y is (a0 :: a1 :: a2 :: a3 :: some (.float x) :: l) st h Q := m_W_n4 (by simp only [m_st]; rw [if_pos ⟨(m_ok1_4 ho), by simp⟩]; rfl)
theorem w_astore_4 {x : Nat} (ho : m_o a3 = true) : m_W P d y (.astore 4 :: is) (a0 :: a1 :: a2 :: a3 :: a4 :: l) (.ref x :: st) h Q = m_W P d y is (a0 :: a1 :: a2 :: a3 :: some (.ref x) :: l) st h Q := m_W_n4 (by simp only [m_st]; rw [if_pos ⟨(m_ok1_4 ho), by simp⟩]; rfl)
theorem w_astorez_4  (ho : m_o a3 = true) : m_W P d y (.astore 4 :: is) (a0 :: a1 :: a2 :: a3 :: a4 :: l) (.null :: st) h Q = m_W P d y is (a0 :: a1 :: a2 :: a3 :: some (.null) :: l) st h Q := m_W_n4 (by simp only [m_st]; rw [if_pos ⟨(m_ok1_4 ho), by simp⟩]; rfl)
theorem w_astorev_4 {r : Option Nat} (ho : m_o a3 = true) : m_W P d y (.astore 4 :: is) (a0 :: a1 :: a2 :: a3 :: a4 :: l) (m_rv r :: st) h Q = m_W P d y is (a0 :: a1 :: a2 :: a3 :: some (m_rv r) :: l) st h Q := by cases r; exact w_astorez_4 ho; exact w_astore_4 ho
theorem w_iinc_4 {x : Int32} {v : Int} (ho : m_o a3 = true) : m_W P d y (.iinc 4 v :: is) (a0 :: a1 :: a2 :: a3 :: some (.int x) :: l) st h Q = m_W P d y is (a0 :: a1 :: a2 :: a3 :: some (.int (x + Int32.ofInt v)) :: l) st h Q := m_W_n4 (by simp only [m_st]; show (if m_ok1 _ _ = true then _ else _) = _; rw [if_pos (m_ok1_4 ho)]; rfl)
theorem w_istore_5 {x : Int32} (ho : m_o a4 = true) : m_W P d y (.istore 5 :: is) (a0 :: a1 :: a2 :: a3 :: a4 :: a5 :: l) (.int x :: st) h Q = m_W P d y is (a0 :: a1 :: a2 :: a3 :: a4 :: some (.int x) :: l) st h Q := m_W_n4 (by simp only [m_st]; rw [if_pos ⟨(m_ok1_5 ho), by simp⟩]; rfl)
theorem w_fstore_5 {x : UInt32} (ho : m_o a4 = true) : m_W P d y (.fstore 5 :: is) (a0 :: a1 :: a2 :: a3 :: a4 :: a5 :: l) (.float x :: st) h Q = m_W P d y is (a0 :: a1 :: a2 :: a3 :: a4 :: some (.float x) :: l) st h Q := m_W_n4 (by simp only [m_st]; rw [if_pos ⟨(m_ok1_5 ho), by simp⟩]; rfl)
theorem w_astore_5 {x : Nat} (ho : m_o a4 = true) : m_W P d y (.astore 5 :: is) (a0 :: a1 :: a2 :: a3 :: a4 :: a5 :: l) (.ref x :: st) h Q = m_W P d y is (a0 :: a1 :: a2 :: a3 :: a4 :: some (.ref x) :: l) st h Q := m_W_n4 (by simp only [m_st]; rw [if_pos ⟨(m_ok1_5 ho), by simp⟩]; rfl)
theorem w_astorez_5  (ho : m_o a4 = true) : m_W P d y (.astore 5 :: is) (a0 :: a1 :: a2 :: a3 :: a4 :: a5 :: l) (.null :: st) h Q = m_W P d y is (a0 :: a1 :: a2 :: a3 :: a4 :: some (.null) :: l) st h Q := m_W_n4 (by simp only [m_st]; rw [if_pos ⟨(m_ok1_5 ho), by simp⟩]; rfl)
theorem w_astorev_5 {r : Option Nat} (ho : m_o a4 = true) : m_W P d y (.astore 5 :: is) (a0 :: a1 :: a2 :: a3 :: a4 :: a5 :: l) (m_rv r :: st) h Q = m_W P d y is (a0 :: a1 :: a2 :: a3 :: a4 :: some (m_rv r) :: l) st h Q := by cases r; exact w_astorez_5 ho; exact w_astore_5 ho
theorem w_iinc_5 {x : Int32} {v : Int} (ho : m_o a4 = true) : m_W P d y (.iinc 5 v :: is) (a0 :: a1 :: a2 :: a3 :: a4 :: some (.int x) :: l) st h Q = m_W P d y is (a0 :: a1 :: a2 :: a3 :: a4 :: some (.int (x + Int32.ofInt v)) :: l) st h Q := m_W_n4 (by simp only [m_st]; show (if m_ok1 _ _ = true then _ else _) = _; rw [if_pos (m_ok1_5 ho)]; rfl)
theorem w_istore_6 {x : Int32} (ho : m_o a5 = true) : m_W P d y (.istore 6 :: is) (a0 :: a1 :: a2 :: a3 :: a4 :: a5 :: a6 :: l) (.int x :: st) h Q = m_W P d y is (a0 :: a1 :: a2 :: a3 :: a4 :: a5 :: some (.int x) :: l) st h Q := m_W_n4 (by simp only [m_st]; rw [if_pos ⟨(m_ok1_6 ho), by simp⟩]; rfl)
theorem w_fstore_6 {x : UInt32} (ho : m_o a5 = true) : m_W P d y (.fstore 6 :: is) (a0 :: a1 :: a2 :: a3 :: a4 :: a5 :: a6 :: l) (.float x :: st) h Q = m_W P d y is (a0 :: a1 :: a2 :: a3 :: a4 :: a5 :: some (.float x) :: l) st h Q := m_W_n4 (by simp only [m_st]; rw [if_pos ⟨(m_ok1_6 ho), by simp⟩]; rfl)
theorem w_astore_6 {x : Nat} (ho : m_o a5 = true) : m_W P d y (.astore 6 :: is) (a0 :: a1 :: a2 :: a3 :: a4 :: a5 :: a6 :: l) (.ref x :: st) h Q = m_W P d y is (a0 :: a1 :: a2 :: a3 :: a4 :: a5 :: some (.ref x) :: l) st h Q := m_W_n4 (by simp only [m_st]; rw [if_pos ⟨(m_ok1_6 ho), by simp⟩]; rfl)
theorem w_astorez_6  (ho : m_o a5 = true) : m_W P d y (.astore 6 :: is) (a0 :: a1 :: a2 :: a3 :: a4 :: a5 :: a6 :: l) (.null :: st) h Q = m_W P d y is (a0 :: a1 :: a2 :: a3 :: a4 :: a5 :: some (.null) :: l) st h Q := m_W_n4 (by simp only [m_st]; rw [if_pos ⟨(m_ok1_6 ho), by simp⟩]; rfl)
theorem w_astorev_6 {r : Option Nat} (ho : m_o a5 = true) : m_W P d y (.astore 6 :: is) (a0 :: a1 :: a2 :: a3 :: a4 :: a5 :: a6 :: l) (m_rv r :: st) h Q = m_W P d y is (a0 :: a1 :: a2 :: a3 :: a4 :: a5 :: some (m_rv r) :: l) st h Q := by cases r; exact w_astorez_6 ho; exact w_astore_6 ho
theorem w_iinc_6 {x : Int32} {v : Int} (ho : m_o a5 = true) : m_W P d y (.iinc 6 v :: is) (a0 :: a1 :: a2 :: a3 :: a4 :: a5 :: some (.int x) :: l) st h Q = m_W P d y is (a0 :: a1 :: a2 :: a3 :: a4 :: a5 :: some (.int (x + Int32.ofInt v)) :: l) st h Q := m_W_n4 (by simp only [m_st]; show (if m_ok1 _ _ = true then _ else _) = _; rw [if_pos (m_ok1_6 ho)]; rfl)
theorem w_istore_7 {x : Int32} (ho : m_o a6 = true) : m_W P d y (.istore 7 :: is) (a0 :: a1 :: a2 :: a3 :: a4 :: a5 :: a6 :: a7 :: l) (.int x :: st) h Q = m_W P d y is (a0 :: a1 :: a2 :: a3 :: a4 :: a5 :: a6 :: some (.int x) :: l) st h Q := m_W_n4 (by simp only [m_st]; rw [if_pos ⟨(m_ok1_7 ho), by simp⟩]; rfl)
theorem w_fstore_7 {x : UInt32} (ho : m_o a6 = true) : m_W P d y (.fstore 7 :: is) (a0 :: a1 :: a2 :: a3 :: a4 :: a5 :: a6 :: a7 :: l) (.float x :: st) h Q = m_W P d y is (a0 :: a1 :: a2 :: a3 :: a4 :: a5 :: a6 :: some (.float x) :: l) st h Q := m_W_n4 (by simp only [m_st]; rw [if_pos ⟨(m_ok1_7 ho), by simp⟩]; rfl)
theorem w_astore_7 {x : Nat} (ho : m_o a6 = true) : m_W P d y (.astore 7 :: is) (a0 :: a1 :: a2 :: a3 :: a4 :: a5 :: a6 :: a7 :: l) (.ref x :: st) h Q = m_W P d y is (a0 :: a1 :: a2 :: a3 :: a4 :: a5 :: a6 :: some (.ref x) :: l) st h Q := m_W_n4 (by simp only [m_st]; rw [if_pos ⟨(m_ok1_7 ho), by simp⟩]; rfl)
theorem w_astorez_7  (ho : m_o a6 = true) : m_W P d y (.astore 7 :: is) (a0 :: a1 :: a2 :: a3 :: a4 :: a5 :: a6 :: a7 :: l) (.null :: st) h Q = m_W P d y is (a0 :: a1 :: a2 :: a3 :: a4 :: a5 :: a6 :: some (.null) :: l) st h Q := m_W_n4 (by simp only [m_st]; rw [if_pos ⟨(m_ok1_7 ho), by simp⟩]; rfl)
theorem w_astorev_7 {r : Option Nat} (ho : m_o a6 = true) : m_W P d y (.astore 7 :: is) (a0 :: a1 :: a2 :: a3 :: a4 :: a5 :: a6 :: a7 :: l) (m_rv r :: st) h Q = m_W P d y is (a0 :: a1 :: a2 :: a3 :: a4 :: a5 :: a6 :: some (m_rv r) :: l) st h Q := by cases r; exact w_astorez_7 ho; exact w_astore_7 ho
theorem w_iinc_7 {x : Int32} {v : Int} (ho : m_o a6 = true) : m_W P d y (.iinc 7 v :: is) (a0 :: a1 :: a2 :: a3 :: a4 :: a5 :: a6 :: some (.int x) :: l) st h Q = m_W P d y is (a0 :: a1 :: a2 :: a3 :: a4 :: a5 :: a6 :: some (.int (x + Int32.ofInt v)) :: l) st h Q := m_W_n4 (by simp only [m_st]; show (if m_ok1 _ _ = true then _ else _) = _; rw [if_pos (m_ok1_7 ho)]; rfl)
theorem w_istore_8 {x : Int32} (ho : m_o a7 = true) : m_W P d y (.istore 8 :: is) (a0 :: a1 :: a2 :: a3 :: a4 :: a5 :: a6 :: a7 :: a8 :: l) (.int x :: st) h Q = m_W P d y is (a0 :: a1 :: a2 :: a3 :: a4 :: a5 :: a6 :: a7 :: some (.int x) :: l) st h Q := m_W_n4 (by simp only [m_st]; rw [if_pos ⟨(m_ok1_8 ho), by simp⟩]; rfl)
theorem w_fstore_8 {x : UInt32} (ho : m_o a7 = true) : m_W P d y (.fstore 8 :: is) (a0 :: a1 :: a2 :: a3 :: a4 :: a5 :: a6 :: a7 :: a8 :: l) (.float x :: st) h Q = m_W P d y is (a0 :: a1 :: a2 :: a3 :: a4 :: a5 :: a6 :: a7 :: some (.float x) :: l) st h Q := m_W_n4 (by simp only [m_st]; rw [if_pos ⟨(m_ok1_8 ho), by simp⟩]; rfl)
theorem w_astore_8 {x : Nat} (ho : m_o a7 = true) : m_W P d y (.astore 8 :: is) (a0 :: a1 :: a2 :: a3 :: a4 :: a5 :: a6 :: a7 :: a8 :: l) (.ref x :: st) h Q = m_W P d y is (a0 :: a1 :: a2 :: a3 :: a4 :: a5 :: a6 :: a7 :: some (.ref x) :: l) st h Q := m_W_n4 (by simp only [m_st]; rw [if_pos ⟨(m_ok1_8 ho), by simp⟩]; rfl)
theorem w_astorez_8  (ho : m_o a7 = true) : m_W P d y (.astore 8 :: is) (a0 :: a1 :: a2 :: a3 :: a4 :: a5 :: a6 :: a7 :: a8 :: l) (.null :: st) h Q = m_W P d y is (a0 :: a1 :: a2 :: a3 :: a4 :: a5 :: a6 :: a7 :: some (.null) :: l) st h Q := m_W_n4 (by simp only [m_st]; rw [if_pos ⟨(m_ok1_8 ho), by simp⟩]; rfl)
theorem w_astorev_8 {r : Option Nat} (ho : m_o a7 = true) : m_W P d y (.astore 8 :: is) (a0 :: a1 :: a2 :: a3 :: a4 :: a5 :: a6 :: a7 :: a8 :: l) (m_rv r :: st) h Q = m_W P d y is (a0 :: a1 :: a2 :: a3 :: a4 :: a5 :: a6 :: a7 :: some (m_rv r) :: l) st h Q := by cases r; exact w_astorez_8 ho; exact w_astore_8 ho
theorem w_iinc_8 {x : Int32} {v : Int} (ho : m_o a7 = true) : m_W P d y (.iinc 8 v :: is) (a0 :: a1 :: a2 :: a3 :: a4 :: a5 :: a6 :: a7 :: some (.int x) :: l) st h Q = m_W P d y is (a0 :: a1 :: a2 :: a3 :: a4 :: a5 :: a6 :: a7 :: some (.int (x + Int32.ofInt v)) :: l) st h Q := m_W_n4 (by simp only [m_st]; show (if m_ok1 _ _ = true then _ else _) = _; rw [if_pos (m_ok1_8 ho)]; rfl)
theorem w_dstore_0 {x : UInt64} : m_W P d y (.dstore 0 :: is) (a0 :: a1 :: l) (.double x :: st) h Q = m_W P d y is (some (.double x) :: none :: l) st h Q := m_W_n4 (by simp only [m_st]; rw [if_pos ⟨m_ok1_0, by simp⟩]; rfl)
theorem w_dstore_1 {x : UInt64} (ho : m_o a0 = true) : m_W P d y (.dstore 1 :: is) (a0 :: a1 :: a2 :: l) (.double x :: st) h Q = m_W P d y is (a0 :: some (.double x) :: none :: l) st h Q := m_W_n4 (by simp only [m_st]; rw [if_pos ⟨(m_ok1_1 ho), by simp⟩]; rfl)
theorem w_dstore_2 {x : UInt64} (ho : m_o a1 = true) : m_W P d y (.dstore 2 :: is) (a0 :: a1 :: a2 :: a3 :: l) (.double x :: st) h Q = m_W P d y is (a0 :: a1 :: some (.double x) :: none :: l) st h Q := m_W_n4 (by simp only [m_st]; rw [if_pos ⟨(m_ok1_2 ho), by simp⟩]; rfl)
theorem w_dstore_3 {x : UInt64} (ho : m_o a2 = true) : m_W P d y (.dstore 3 :: is) (a0 :: a1 :: a2 :: a3 :: a4 :: l) (.double x :: st) h Q = m_W P d y is (a0 :: a1 :: a2 :: some (.double x) :: none :: l) st h Q := m_W_n4 (by simp only [m_st]; rw [if_pos ⟨(m_ok1_3 ho), by simp⟩]; rfl)
theorem w_dstore_4 {x : UInt64} (ho : m_o a3 = true) : m_W P d y (.dstore 4 :: is) (a0 :: a1 :: a2 :: a3 :: a4 :: a5 :: l) (.double x :: st) h Q = m_W P d y is (a0 :: a1 :: a2 :: a3 :: some (.double x) :: none :: l) st h Q := m_W_n4 (by simp only [m_st]; rw [if_pos ⟨(m_ok1_4 ho), by simp⟩]; rfl)
theorem w_dstore_5 {x : UInt64} (ho : m_o a4 = true) : m_W P d y (.dstore 5 :: is) (a0 :: a1 :: a2 :: a3 :: a4 :: a5 :: a6 :: l) (.double x :: st) h Q = m_W P d y is (a0 :: a1 :: a2 :: a3 :: a4 :: some (.double x) :: none :: l) st h Q := m_W_n4 (by simp only [m_st]; rw [if_pos ⟨(m_ok1_5 ho), by simp⟩]; rfl)
theorem w_dstore_6 {x : UInt64} (ho : m_o a5 = true) : m_W P d y (.dstore 6 :: is) (a0 :: a1 :: a2 :: a3 :: a4 :: a5 :: a6 :: a7 :: l) (.double x :: st) h Q = m_W P d y is (a0 :: a1 :: a2 :: a3 :: a4 :: a5 :: some (.double x) :: none :: l) st h Q := m_W_n4 (by simp only [m_st]; rw [if_pos ⟨(m_ok1_6 ho), by simp⟩]; rfl)
theorem w_dstore_7 {x : UInt64} (ho : m_o a6 = true) : m_W P d y (.dstore 7 :: is) (a0 :: a1 :: a2 :: a3 :: a4 :: a5 :: a6 :: a7 :: a8 :: l) (.double x :: st) h Q = m_W P d y is (a0 :: a1 :: a2 :: a3 :: a4 :: a5 :: a6 :: some (.double x) :: none :: l) st h Q := m_W_n4 (by simp only [m_st]; rw [if_pos ⟨(m_ok1_7 ho), by simp⟩]; rfl)
theorem w_anull : m_W P d y (.aconst_null :: is) ls st h Q = m_W P d y is ls (.null :: st) h Q := m_W_n4 rfl
theorem w_iconst {v : Int} : m_W P d y (.iconst v :: is) ls st h Q = m_W P d y is ls (.int (Int32.ofInt v) :: st) h Q := m_W_n4 rfl
theorem w_ldc2 {v : Nat} : m_W P d y (.ldc2_w v :: is) ls st h Q = m_W P d y is ls (.long (Int64.ofNat v) :: st) h Q := m_W_n4 rfl
theorem w_fconst : m_W P d y (.fconst 0 :: is) ls st h Q = m_W P d y is ls (.float FP.fconst0 :: st) h Q := m_W_n4 rfl
theorem w_dconst0 : m_W P d y (.dconst 0 :: is) ls st h Q = m_W P d y is ls (.double FP.dconst0 :: st) h Q := m_W_n4 rfl
theorem w_dconst1 : m_W P d y (.dconst 1 :: is) ls st h Q = m_W P d y is ls (.double FP.dconst1 :: st) h Q := m_W_n4 rfl
theorem w_dup_i {x : Int32} : m_W P d y (.dup :: is) ls (.int x :: st) h Q = m_W P d y is ls (.int x :: .int x :: st) h Q := m_W_n4 rfl
theorem w_pop_i {x : Int32} : m_W P d y (.pop :: is) ls (.int x :: st) h Q = m_W P d y is ls st h Q := m_W_n4 rfl
theorem w_dup_r {x : Nat} : m_W P d y (.dup :: is) ls (.ref x :: st) h Q = m_W P d y is ls (.ref x :: .ref x :: st) h Q := m_W_n4 rfl
theorem w_pop_r {x : Nat} : m_W P d y (.pop :: is) ls (.ref x :: st) h Q = m_W P d y is ls st h Q := m_W_n4 rfl
theorem w_dup_z : m_W P d y (.dup :: is) ls (.null :: st) h Q = m_W P d y is ls (.null :: .null :: st) h Q := m_W_n4 rfl
theorem w_pop_z : m_W P d y (.pop :: is) ls (.null :: st) h Q = m_W P d y is ls st h Q := m_W_n4 rfl
theorem w_dup_v {r : Option Nat} : m_W P d y (.dup :: is) ls (m_rv r :: st) h Q = m_W P d y is ls (m_rv r :: m_rv r :: st) h Q := by cases r; exact w_dup_z; exact w_dup_r
theorem w_pop_v {r : Option Nat} : m_W P d y (.pop :: is) ls (m_rv r :: st) h Q = m_W P d y is ls st h Q := by cases r; exact w_pop_z; exact w_pop_r
theorem w_dup2 {x : Int32} {a : Nat} : m_W P d y (.dup2 :: is) ls (.int x :: .ref a :: st) h Q = m_W P d y is ls (.int x :: .ref a :: .int x :: .ref a :: st) h Q := m_W_n4 rfl
theorem w_iadd {a b : Int32} : m_W P d y (.iadd :: is) ls (.int b :: .int a :: st) h Q = m_W P d y is ls (.int (a + b) :: st) h Q := m_W_n4 rfl
theorem w_isub {a b : Int32} : m_W P d y (.isub :: is) ls (.int b :: .int a :: st) h Q = m_W P d y is ls (.int (a - b) :: st) h Q := m_W_n4 rfl
theorem w_imul {a b : Int32} : m_W P d y (.imul :: is) ls (.int b :: .int a :: st) h Q = m_W P d y is ls (.int (a * b) :: st) h Q := m_W_n4 rfl
theorem w_iand {a b : Int32} : m_W P d y (.iand :: is) ls (.int b :: .int a :: st) h Q = m_W P d y is ls (.int (a &&& b) :: st) h Q := m_W_n4 rfl
theorem w_ior {a b : Int32} : m_W P d y (.ior :: is) ls (.int b :: .int a :: st) h Q = m_W P d y is ls (.int (a ||| b) :: st) h Q := m_W_n4 rfl
theorem w_ishr {a b : Int32} : m_W P d y (.ishr :: is) ls (.int b :: .int a :: st) h Q = m_W P d y is ls (.int (a >>> (b &&& 31)) :: st) h Q := m_W_n4 rfl
theorem w_idiv {a b : Int32} (hb : ¬ b = 0) : m_W P d y (.idiv :: is) ls (.int b :: .int a :: st) h Q = m_W P d y is ls (.int (a / b) :: st) h Q := m_W_n4 (by simp only [m_st]; rw [if_neg hb]; rfl)
theorem w_irem {a b : Int32} (hb : ¬ b = 0) : m_W P d y (.irem :: is) ls (.int b :: .int a :: st) h Q = m_W P d y is ls (.int (a - a / b * b) :: st) h Q := m_W_n4 (by simp only [m_st]; rw [if_neg hb]; rfl)
theorem w_i2b {a : Int32} : m_W P d y (.i2b :: is) ls (.int a :: st) h Q = m_W P d y is ls (.int a.toInt8.toInt32 :: st) h Q := m_W_n4 rfl
theorem w_i2l {a : Int32} : m_W P d y (.i2l :: is) ls (.int a :: st) h Q = m_W P d y is ls (.long a.toInt64 :: st) h Q := m_W_n4 rfl
theorem w_i2d {a : Int32} : m_W P d y (.i2d :: is) ls (.int a :: st) h Q = m_W P d y is ls (.double (FP.i2d a) :: st) h Q := m_W_n4 rfl
theorem w_i2f {a : Int32} : m_W P d y (.i2f :: is) ls (.int a :: st) h Q = m_W P d y is ls (.float (FP.i2f a) :: st) h Q := m_W_n4 rfl
theorem w_ladd {a b : Int64} : m_W P d y (.ladd :: is) ls (.long b :: .long a :: st) h Q = m_W P d y is ls (.long (a + b) :: st) h Q := m_W_n4 rfl
theorem w_lsub {a b : Int64} : m_W P d y (.lsub :: is) ls (.long b :: .long a :: st) h Q = m_W P d y is ls (.long (a - b) :: st) h Q := m_W_n4 rfl
theorem w_lmul {a b : Int64} : m_W P d y (.lmul :: is) ls (.long b :: .long a :: st) h Q = m_W P d y is ls (.long (a * b) :: st) h Q := m_W_n4 rfl
theorem w_lcmp {a b : Int64} : m_W P d y (.lcmp :: is) ls (.long b :: .long a :: st) h Q = m_W P d y is ls (.int (lg_cmp a b) :: st) h Q := m_W_n4 rfl
theorem w_ddiv {a b : UInt64} (hn : isNaN64 (FP.ddiv a b) = false) : m_W P d y (.ddiv :: is) ls (.double b :: .double a :: st) h Q = m_W P d y is ls (.double (FP.ddiv a b) :: st) h Q := m_W_n4 (by simp only [m_st]; rw [if_pos hn]; rfl)
theorem w_fdiv {a b : UInt32} (hn : isNaN32 (FP.fdiv a b) = false) : m_W P d y (.fdiv :: is) ls (.float b :: .float a :: st) h Q = m_W P d y is ls (.float (FP.fdiv a b) :: st) h Q := m_W_n4 (by simp only [m_st]; rw [if_pos hn]; rfl)
theorem w_f2d {a : UInt32} (hn : isNaN64 (FP.f2d a) = false) : m_W P d y (.f2d :: is) ls (.float a :: st) h Q = m_W P d y is ls (.double (FP.f2d a) :: st) h Q := m_W_n4 (by simp only [m_st]; rw [if_pos hn]; rfl)
theorem w_d2f {a : UInt64} (hn : isNaN32 (FP.d2f a) = false) : m_W P d y (.d2f :: is) ls (.double a :: st) h Q = m_W P d y is ls (.float (FP.d2f a) :: st) h Q := m_W_n4 (by simp only [m_st]; rw [if_pos hn]; rfl)
theorem w_dcmp {a b : UInt64} {op : _} : m_W P d y (.dcmp op :: is) ls (.double b :: .double a :: st) h Q = m_W P d y is ls (.int (Op.cmpValue (FP.dcmp a b) op) :: st) h Q := m_W_n4 rfl
theorem w_fcmp {a b : UInt32} {op : _} : m_W P d y (.fcmp op :: is) ls (.float b :: .float a :: st) h Q = m_W P d y is ls (.int (Op.cmpValue (FP.fcmp a b) op) :: st) h Q := m_W_n4 rfl
theorem w_goto {t : Int} : m_W P d y (.goto t :: is) ls st h Q = m_W P d y (m_tg P y t.toNat) ls st h Q := m_W_n4 rfl
theorem w_icmp_eq {a b : Int32} {t : Int} : m_W P d y (.if_icmp .eq t :: is) ls (.int b :: .int a :: st) h Q = if a = b then m_W P d y (m_tg P y t.toNat) ls st h Q else m_W P d y is ls st h Q := by
  by_cases hc : a = b
  · rw [if_pos hc]; exact m_W_n4 (by simp only [m_st, m_icond, decide_eq_true_eq]; rw [if_pos hc]; rfl)
  · rw [if_neg hc]; exact m_W_n4 (by simp only [m_st, m_icond, decide_eq_true_eq]; rw [if_neg hc]; rfl)
theorem w_if_eq {a : Int32} {t : Int} : m_W P d y (.ifCond .eq t :: is) ls (.int a :: st) h Q = if a = 0 then m_W P d y (m_tg P y t.toNat) ls st h Q else m_W P d y is ls st h Q := by
  by_cases hc : a = 0
  · rw [if_pos hc]; exact m_W_n4 (by simp only [m_st, m_icond, decide_eq_true_eq]; rw [if_pos hc]; rfl)
  · rw [if_neg hc]; exact m_W_n4 (by simp only [m_st, m_icond, decide_eq_true_eq]; rw [if_neg hc]; rfl)
theorem w_icmp_ne {a b : Int32} {t : Int} : m_W P d y (.if_icmp .ne t :: is) ls (.int b :: .int a :: st) h Q = if a = b then m_W P d y is ls st h Q else m_W P d y (m_tg P y t.toNat) ls st h Q := by
  by_cases hc : a = b
  · rw [if_pos hc]; exact m_W_n4 (by simp only [m_st, m_icond, decide_eq_true_eq]; rw [if_neg (fun e => e hc)]; rfl)
  · rw [if_neg hc]; exact m_W_n4 (by simp only [m_st, m_icond, decide_eq_true_eq]; rw [if_pos hc]; rfl)
theorem w_if_ne {a : Int32} {t : Int} : m_W P d y (.ifCond .ne t :: is) ls (.int a :: st) h Q = if a = 0 then m_W P d y is ls st h Q else m_W P d y (m_tg P y t.toNat) ls st h Q := by
  by_cases hc : a = 0
  · rw [if_pos hc]; exact m_W_n4 (by simp only [m_st, m_icond, decide_eq_true_eq]; rw [if_neg (fun e => e hc)]; rfl)
  · rw [if_neg hc]; exact m_W_n4 (by simp only [m_st, m_icond, decide_eq_true_eq]; rw [if_pos hc]; rfl)
theorem w_icmp_lt {a b : Int32} {t : Int} : m_W P d y (.if_icmp .lt t :: is) ls (.int b :: .int a :: st) h Q = if a < b then m_W P d y (m_tg P y t.toNat) ls st h Q else m_W P d y is ls st h Q := by
  by_cases hc : a < b
  · rw [if_pos hc]; exact m_W_n4 (by simp only [m_st, m_icond, decide_eq_true_eq]; rw [if_pos hc]; rfl)
  · rw [if_neg hc]; exact m_W_n4 (by simp only [m_st, m_icond, decide_eq_true_eq]; rw [if_neg hc]; rfl)
theorem w_if_lt {a : Int32} {t : Int} : m_W P d y (.ifCond .lt t :: is) ls (.int a :: st) h Q = if a < 0 then m_W P d y (m_tg P y t.toNat) ls st h Q else m_W P d y is ls st h Q := by
  by_cases hc : a < 0
  · rw [if_pos hc]; exact m_W_n4 (by simp only [m_st, m_icond, decide_eq_true_eq]; rw [if_pos hc]; rfl)
  · rw [if_neg hc]; exact m_W_n4 (by simp only [m_st, m_icond, decide_eq_true_eq]; rw [if_neg hc]; rfl)
theorem w_icmp_ge {a b : Int32} {t : Int} : m_W P d y (.if_icmp .ge t :: is) ls (.int b :: .int a :: st) h Q = if a < b then m_W P d y is ls st h Q else m_W P d y (m_tg P y t.toNat) ls st h Q := by
  by_cases hc : a < b
  · rw [if_pos hc]; exact m_W_n4 (by simp only [m_st, m_icond, decide_eq_true_eq]; rw [if_neg (Int32.not_le.mpr hc)]; rfl)
  · rw [if_neg hc]; exact m_W_n4 (by simp only [m_st, m_icond, decide_eq_true_eq]; rw [if_pos (Int32.not_lt.mp hc)]; rfl)
theorem w_if_ge {a : Int32} {t : Int} : m_W P d y (.ifCond .ge t :: is) ls (.int a :: st) h Q = if a < 0 then m_W P d y is ls st h Q else m_W P d y (m_tg P y t.toNat) ls st h Q := by
  by_cases hc : a < 0
  · rw [if_pos hc]; exact m_W_n4 (by simp only [m_st, m_icond, decide_eq_true_eq]; rw [if_neg (Int32.not_le.mpr hc)]; rfl)
  · rw [if_neg hc]; exact m_W_n4 (by simp only [m_st, m_icond, decide_eq_true_eq]; rw [if_pos (Int32.not_lt.mp hc)]; rfl)
theorem w_icmp_gt {a b : Int32} {t : Int} : m_W P d y (.if_icmp .gt t :: is) ls (.int b :: .int a :: st) h Q = if b < a then m_W P d y (m_tg P y t.toNat) ls st h Q else m_W P d y is ls st h Q := by
  by_cases hc : b < a
  · rw [if_pos hc]; exact m_W_n4 (by simp only [m_st, m_icond, decide_eq_true_eq]; rw [if_pos hc]; rfl)
  · rw [if_neg hc]; exact m_W_n4 (by simp only [m_st, m_icond, decide_eq_true_eq]; rw [if_neg hc]; rfl)
theorem w_if_gt {a : Int32} {t : Int} : m_W P d y (.ifCond .gt t :: is) ls (.int a :: st) h Q = if 0 < a then m_W P d y (m_tg P y t.toNat) ls st h Q else m_W P d y is ls st h Q := by
  by_cases hc : 0 < a
  · rw [if_pos hc]; exact m_W_n4 (by simp only [m_st, m_icond, decide_eq_true_eq]; rw [if_pos hc]; rfl)
  · rw [if_neg hc]; exact m_W_n4 (by simp only [m_st, m_icond, decide_eq_true_eq]; rw [if_neg hc]; rfl)
theorem w_icmp_le {a b : Int32} {t : Int} : m_W P d y (.if_icmp .le t :: is) ls (.int b :: .int a :: st) h Q = if b < a then m_W P d y is ls st h Q else m_W P d y (m_tg P y t.toNat) ls st h Q := by
  by_cases hc : b < a
  · rw [if_pos hc]; exact m_W_n4 (by simp only [m_st, m_icond, decide_eq_true_eq]; rw [if_neg (Int32.not_le.mpr hc)]; rfl)
  · rw [if_neg hc]; exact m_W_n4 (by simp only [m_st, m_icond, decide_eq_true_eq]; rw [if_pos (Int32.not_lt.mp hc)]; rfl)
theorem w_if_le {a : Int32} {t : Int} : m_W P d y (.ifCond .le t :: is) ls (.int a :: st) h Q = if 0 < a then m_W P d y is ls st h Q else m_W P d y (m_tg P y t.toNat) ls st h Q := by
  by_cases hc : 0 < a
  · rw [if_pos hc]; exact m_W_n4 (by simp only [m_st, m_icond, decide_eq_true_eq]; rw [if_neg (Int32.not_le.mpr hc)]; rfl)
  · rw [if_neg hc]; exact m_W_n4 (by simp only [m_st, m_icond, decide_eq_true_eq]; rw [if_pos (Int32.not_lt.mp hc)]; rfl)
theorem w_ifnull_z {t : Int} : m_W P d y (.ifnull t :: is) ls (.null :: st) h Q = m_W P d y (m_tg P y t.toNat) ls st h Q := m_W_n4 rfl
theorem w_ifnull_r {t : Int} {a : Nat} : m_W P d y (.ifnull t :: is) ls (.ref a :: st) h Q = m_W P d y is ls st h Q := m_W_n4 rfl
theorem w_ifnn_z {t : Int} : m_W P d y (.ifnonnull t :: is) ls (.null :: st) h Q = m_W P d y is ls st h Q := m_W_n4 rfl
theorem w_ifnn_r {t : Int} {a : Nat} : m_W P d y (.ifnonnull t :: is) ls (.ref a :: st) h Q = m_W P d y (m_tg P y t.toNat) ls st h Q := m_W_n4 rfl
theorem w_baload {a : Nat} {i : Int32} (h1 : a < m_n h) (h2 : m_k h a = 101) (h3 : ¬ i < 0) (h4 : i.toNatClampNeg < m_l h a) : m_W P d y (.baload :: is) ls (.int i :: .ref a :: st) h Q = m_W P d y is ls (.int (m_I h a i.toNatClampNeg) :: st) h Q := m_W_n4 (by simp only [m_st]; rw [if_pos ⟨h1, h2, fun e => e.elim h3 (fun e => Nat.not_le.mpr h4 e)⟩]; rfl)
theorem w_laload {a : Nat} {i : Int32} (h1 : a < m_n h) (h2 : m_k h a = 102) (h3 : ¬ i < 0) (h4 : i.toNatClampNeg < m_l h a) : m_W P d y (.laload :: is) ls (.int i :: .ref a :: st) h Q = m_W P d y is ls (.long (m_L h a i.toNatClampNeg) :: st) h Q := m_W_n4 (by simp only [m_st]; rw [if_pos ⟨h1, h2, fun e => e.elim h3 (fun e => Nat.not_le.mpr h4 e)⟩]; rfl)
theorem w_daload {a : Nat} {i : Int32} (h1 : a < m_n h) (h2 : m_k h a = 103) (h3 : ¬ i < 0) (h4 : i.toNatClampNeg < m_l h a) : m_W P d y (.daload :: is) ls (.int i :: .ref a :: st) h Q = m_W P d y is ls (.double (m_D h a i.toNatClampNeg) :: st) h Q := m_W_n4 (by simp only [m_st]; rw [if_pos ⟨h1, h2, fun e => e.elim h3 (fun e => Nat.not_le.mpr h4 e)⟩]; rfl)
theorem w_iaload {a : Nat} {i : Int32} (h0 : ¬ a = m_X) (h1 : a < m_n h) (h2 : m_k h a = 100) (h3 : ¬ i < 0) (h4 : i.toNatClampNeg < m_l h a) : m_W P d y (.iaload :: is) ls (.int i :: .ref a :: st) h Q = m_W P d y is ls (.int (m_I h a i.toNatClampNeg) :: st) h Q := m_W_n4 (by simp only [m_st]; rw [if_neg h0, if_pos ⟨h1, h2, fun e => e.elim h3 (fun e => Nat.not_le.mpr h4 e)⟩]; rfl)
theorem w_script {i : Int32} (h3 : ¬ i < 0) (h4 : i.toNatClampNeg < m_xl P) : m_W P d y (.iaload :: is) ls (.int i :: .ref m_X :: st) h Q = m_W P d y is ls (.int (m_xs P i.toNatClampNeg) :: st) h Q := m_W_n4 (by simp only [m_st]; rw [if_pos trivial, if_neg (fun e => e.elim h3 (fun e => Nat.not_le.mpr h4 e))]; rfl)
theorem w_aaload {a ci : Nat} {i : Int32} (h1 : a < m_n h) (h2 : m_k h a = 200 + ci) (h3 : ¬ i < 0) (h4 : i.toNatClampNeg < m_l h a) : m_W P d y (.checkcast ci :: is) ls (.int i :: .ref a :: st) h Q = m_W P d y is ls (m_rv (m_R h a i.toNatClampNeg) :: st) h Q := m_W_n4 (by simp only [m_st]; rw [if_pos ⟨h1, h2, fun e => e.elim h3 (fun e => Nat.not_le.mpr h4 e)⟩]; rfl)
theorem w_iastore {a : Nat} {i : Int32} {v : Int32} (h1 : a < m_n h) (h2 : m_k h a = 100) (h3 : ¬ i < 0) (h4 : i.toNatClampNeg < m_l h a) : m_W P d y (.iastore :: is) ls (.int v :: .int i :: .ref a :: st) h Q = m_W P d y is ls st (m_setI h a i.toNatClampNeg v) Q := m_W_n4 (by simp only [m_st]; rw [if_pos ⟨h1, h2, fun e => e.elim h3 (fun e => Nat.not_le.mpr h4 e)⟩]; rfl)
theorem w_bastore {a : Nat} {i : Int32} {v : Int32} (h1 : a < m_n h) (h2 : m_k h a = 101) (h3 : ¬ i < 0) (h4 : i.toNatClampNeg < m_l h a) : m_W P d y (.bastore :: is) ls (.int v :: .int i :: .ref a :: st) h Q = m_W P d y is ls st (m_setI h a i.toNatClampNeg (v.toInt8.toInt32)) Q := m_W_n4 (by simp only [m_st]; rw [if_pos ⟨h1, h2, fun e => e.elim h3 (fun e => Nat.not_le.mpr h4 e)⟩]; rfl)
theorem w_lastore {a : Nat} {i : Int32} {v : Int64} (h1 : a < m_n h) (h2 : m_k h a = 102) (h3 : ¬ i < 0) (h4 : i.toNatClampNeg < m_l h a) : m_W P d y (.lastore :: is) ls (.long v :: .int i :: .ref a :: st) h Q = m_W P d y is ls st (m_setL h a i.toNatClampNeg v) Q := m_W_n4 (by simp only [m_st]; rw [if_pos ⟨h1, h2, fun e => e.elim h3 (fun e => Nat.not_le.mpr h4 e)⟩]; rfl)
theorem w_dastore {a : Nat} {i : Int32} {v : UInt64} (h1 : a < m_n h) (h2 : m_k h a = 103) (h3 : ¬ i < 0) (h4 : i.toNatClampNeg < m_l h a) : m_W P d y (.dastore :: is) ls (.double v :: .int i :: .ref a :: st) h Q = m_W P d y is ls st (m_setD h a i.toNatClampNeg v) Q := m_W_n4 (by simp only [m_st]; rw [if_pos ⟨h1, h2, fun e => e.elim h3 (fun e => Nat.not_le.mpr h4 e)⟩]; rfl)
theorem w_aastore {a v ci : Nat} {i : Int32} (h1 : a < m_n h) (h2 : m_k h a = 200 + ci) (h5 : v < m_n h) (h6 : m_k h v = ci) (h7 : ci < 100) (h3 : ¬ i < 0) (h4 : i.toNatClampNeg < m_l h a) : m_W P d y (.instanceof ci :: is) ls (.ref v :: .int i :: .ref a :: st) h Q = m_W P d y is ls st (m_setR h a i.toNatClampNeg (some v)) Q := m_W_n4 (by simp only [m_st]; rw [if_pos ⟨h1, h2, h5, h6, h7, fun e => e.elim h3 (fun e => Nat.not_le.mpr h4 e)⟩]; rfl)
theorem w_len {a z : Nat} (h0 : ¬ a = m_X) (h1 : a < m_n h) (h2 : m_k h a = z) (h3 : 100 ≤ z) : m_W P d y (.ldc_w z :: is) ls (.ref a :: st) h Q = m_W P d y is ls (.int (Int32.ofNat (m_l h a)) :: st) h Q := m_W_n4 (by simp only [m_st]; rw [if_neg h0, if_pos ⟨h1, h2, h3⟩]; rfl)
theorem w_slen {z : Nat} : m_W P d y (.ldc_w z :: is) ls (.ref m_X :: st) h Q = m_W P d y is ls (.int (Int32.ofNat (m_xl P)) :: st) h Q := m_W_n4 (by simp only [m_st]; rw [if_pos trivial]; rfl)
theorem w_new_int {n : Int32} (h1 : ¬ n < 0) (h2 : n.toNatClampNeg ≤ 60000000) (h3 : m_n h < m_X) : m_W P d y (.newarray .int :: is) ls (.int n :: st) h Q = m_W P d y is ls (.ref (m_n h) :: st) (m_mk h 100 n.toNatClampNeg n.toNatClampNeg) Q := m_W_n4 (by simp only [m_st]; rw [if_neg (fun e => e.elim h1 (fun e => e.elim (fun e => Nat.not_lt.mpr h2 e) (fun e => Nat.not_le.mpr h3 e)))]; rfl)
theorem w_new_byte {n : Int32} (h1 : ¬ n < 0) (h2 : n.toNatClampNeg ≤ 60000000) (h3 : m_n h < m_X) : m_W P d y (.newarray .byte :: is) ls (.int n :: st) h Q = m_W P d y is ls (.ref (m_n h) :: st) (m_mk h 101 n.toNatClampNeg n.toNatClampNeg) Q := m_W_n4 (by simp only [m_st]; rw [if_neg (fun e => e.elim h1 (fun e => e.elim (fun e => Nat.not_lt.mpr h2 e) (fun e => Nat.not_le.mpr h3 e)))]; rfl)
theorem w_new_long {n : Int32} (h1 : ¬ n < 0) (h2 : n.toNatClampNeg ≤ 60000000) (h3 : m_n h < m_X) : m_W P d y (.newarray .long :: is) ls (.int n :: st) h Q = m_W P d y is ls (.ref (m_n h) :: st) (m_mk h 102 n.toNatClampNeg n.toNatClampNeg) Q := m_W_n4 (by simp only [m_st]; rw [if_neg (fun e => e.elim h1 (fun e => e.elim (fun e => Nat.not_lt.mpr h2 e) (fun e => Nat.not_le.mpr h3 e)))]; rfl)
theorem w_new_double {n : Int32} (h1 : ¬ n < 0) (h2 : n.toNatClampNeg ≤ 60000000) (h3 : m_n h < m_X) : m_W P d y (.newarray .double :: is) ls (.int n :: st) h Q = m_W P d y is ls (.ref (m_n h) :: st) (m_mk h 103 n.toNatClampNeg n.toNatClampNeg) Q := m_W_n4 (by simp only [m_st]; rw [if_neg (fun e => e.elim h1 (fun e => e.elim (fun e => Nat.not_lt.mpr h2 e) (fun e => Nat.not_le.mpr h3 e)))]; rfl)
theorem w_anew {n : Int32} {ci : Nat} (h1 : ¬ n < 0) (h2 : n.toNatClampNeg ≤ 60000000) (h4 : ci < 100) (h3 : m_n h < m_X) : m_W P d y (.anewarray ci :: is) ls (.int n :: st) h Q = m_W P d y is ls (.ref (m_n h) :: st) (m_mk h (200 + ci) n.toNatClampNeg n.toNatClampNeg) Q := m_W_n4 (by simp only [m_st]; rw [if_neg (fun e => e.elim h1 (fun e => e.elim (fun e => Nat.not_lt.mpr h2 e) (fun e => e.elim (fun e => Nat.not_le.mpr h4 e) (fun e => Nat.not_le.mpr h3 e))))]; rfl)
theorem w_const {k : Nat} (h1 : m_X ≤ k) : m_W P d y (.getstatic k :: is) ls st h Q = m_W P d y is ls (.ref k :: st) h Q := m_W_n4 (by simp only [m_st]; rw [if_pos h1]; rfl)
theorem w_new {ci : Nat} (h1 : ci < 100) (h2 : m_n h < m_X) : m_W P d y (.new ci :: is) ls st h Q = m_W P d y is ls (.ref (m_n h) :: st) (m_mk h ci 0 (m_nf P ci)) Q := m_W_n4 (by simp only [m_st]; rw [if_pos ⟨h1, h2⟩]; rfl)
theorem w_obj {a : Nat} (h1 : a < m_n h) (h2 : m_cat st ≤ 8) : m_W P d y (.invokespecial 9000 :: is) ls (.ref a :: st) h Q = m_W P d y is ls st h Q := m_W_n4 (by simp only [m_st, ↓reduceIte]; rw [if_pos ⟨h1, h2⟩]; rfl)
theorem w_min {a b : Int32} (h2 : m_cat st ≤ 8) : m_W P d y (.invokestatic 9001 :: is) ls (.int b :: .int a :: st) h Q = m_W P d y is ls (.int (if b < a then b else a) :: st) h Q := m_W_n4 (by simp only [m_st, ↓reduceIte]; rw [if_pos h2]; rfl)
theorem w_max {a b : Int32} (h2 : m_cat st ≤ 8) : m_W P d y (.invokestatic 9002 :: is) ls (.int b :: .int a :: st) h Q = m_W P d y is ls (.int (if a < b then b else a) :: st) h Q := m_W_n4 (by simp only [m_st, ↓reduceIte, Nat.reduceEqDiff]; rw [if_pos h2]; rfl)
theorem w_copy {a b : Nat} {i j n : Int32} (h1 : a < m_n h) (h2 : m_k h a = 100) (h3 : b < m_n h) (h4 : m_k h b = 100) (h5 : ¬ i < 0) (h6 : ¬ j < 0) (h7 : ¬ n < 0) (h8 : i.toNatClampNeg + n.toNatClampNeg ≤ m_l h a) (h9 : j.toNatClampNeg + n.toNatClampNeg ≤ m_l h b) (h10 : m_cat st ≤ 8) : m_W P d y (.invokestatic 9003 :: is) ls (.int n :: .int j :: .ref b :: .int i :: .ref a :: st) h Q = m_W P d y is ls st (m_cpy h a i.toNatClampNeg b j.toNatClampNeg n.toNatClampNeg) Q := m_W_n4 (by simp only [m_st, ↓reduceIte, Nat.reduceEqDiff]; rw [if_pos ⟨h1, h2, h3, h4, h5, h6, h7, h8, h9, h10⟩]; rfl)
theorem w_iret {v : Int32} : m_W P d y (.ireturn :: is) ls [.int v] h Q = Q (.inl (some (.int v))) h := m_W_ret rfl
theorem w_aret {v : Nat} : m_W P d y (.areturn :: is) ls [.ref v] h Q = Q (.inl (some (.ref v))) h := m_W_ret rfl
theorem w_aretz : m_W P d y (.areturn :: is) ls [.null] h Q = Q (.inl (some .null)) h := m_W_ret rfl
theorem w_fret {v : UInt32} : m_W P d y (.freturn :: is) ls [.float v] h Q = Q (.inl (some (.float v))) h := m_W_ret rfl
theorem w_dret {v : UInt64} : m_W P d y (.dreturn :: is) ls [.double v] h Q = Q (.inl (some (.double v))) h := m_W_ret rfl
theorem w_aretv {r : Option Nat} : m_W P d y (.areturn :: is) ls [m_rv r] h Q = Q (.inl (some (m_rv r))) h := by cases r <;> exact m_W_ret rfl
theorem w_vret : m_W P d y (.return_ :: is) ls [] h Q = Q (.inl none) h := m_W_ret rfl
theorem w_zret {v : Int32} {k : Nat} (hv : v = 0 ∨ v = 1) : m_W P d y (.ret k :: is) ls [.int v] h Q = Q (.inl (some (.int v))) h := m_W_ret (by simp only [m_st]; rw [if_pos hv])
theorem w_throw {k : Nat} (hn : m_hd P y k = none) (h2 : m_cat st ≤ 8) : m_W P d y (.invokedynamic k :: is) ls st h Q = Q (.inr k) (m_bump h) := m_W_thr (by simp only [m_st]; rw [hn]; simp only [h2, ↓reduceIte])
theorem w_switch {x : Int32} {dd lo hi : Int} {offs : Array Int} {t : Int} (h1 : ¬ (x.toInt < lo ∨ hi < x.toInt)) (h2 : offs[(x.toInt - lo).toNat]? = some t) : m_W P d y (.tableswitch dd lo hi offs :: is) ls (.int x :: st) h Q = m_W P d y (m_tg P y t.toNat) ls st h Q := m_W_n4 (by simp only [m_st]; rw [if_neg h1, h2]; rfl)
theorem w_switchD {x : Int32} {dd lo hi : Int} {offs : Array Int} (h1 : x.toInt < lo ∨ hi < x.toInt) : m_W P d y (.tableswitch dd lo hi offs :: is) ls (.int x :: st) h Q = m_W P d y (m_tg P y dd.toNat) ls st h Q := m_W_n4 (by simp only [m_st]; rw [if_pos h1]; rfl)
/-- fields -/
theorem w_getI {x ci k a : Nat} (e1 : x / 64 = ci) (e2 : x % 64 = k) (e3 : k < m_nf P ci) (e4 : ci < 100) (e5 : ¬ m_fk P ci k = 1) (e6 : ¬ m_fk P ci k = 2) (h1 : a < m_n h) (h2 : m_k h a = ci) : m_W P d y (.getfield x :: is) ls (.ref a :: st) h Q = m_W P d y is ls (.int (m_I h a k) :: st) h Q := by
  subst e1 e2
  exact m_W_n4 (by simp only [m_st]; rw [if_pos ⟨h1, h2, e3, e4⟩, if_neg e5, if_neg e6]; rfl)
theorem w_getR {x ci k a : Nat} (e1 : x / 64 = ci) (e2 : x % 64 = k) (e3 : k < m_nf P ci) (e4 : ci < 100) (e5 : m_fk P ci k = 1) (h1 : a < m_n h) (h2 : m_k h a = ci) : m_W P d y (.getfield x :: is) ls (.ref a :: st) h Q = m_W P d y is ls (m_rv (m_R h a k) :: st) h Q := by
  subst e1 e2
  exact m_W_n4 (by simp only [m_st]; rw [if_pos ⟨h1, h2, e3, e4⟩, if_pos e5]; rfl)
theorem w_getL {x ci k a : Nat} (e1 : x / 64 = ci) (e2 : x % 64 = k) (e3 : k < m_nf P ci) (e4 : ci < 100) (e5 : ¬ m_fk P ci k = 1) (e6 : m_fk P ci k = 2) (h1 : a < m_n h) (h2 : m_k h a = ci) : m_W P d y (.getfield x :: is) ls (.ref a :: st) h Q = m_W P d y is ls (.long (m_L h a k) :: st) h Q := by
  subst e1 e2
  exact m_W_n4 (by simp only [m_st]; rw [if_pos ⟨h1, h2, e3, e4⟩, if_neg e5, if_pos e6]; rfl)
theorem w_putI {x ci k a : Nat} {v : Int32} (e1 : x / 64 = ci) (e2 : x % 64 = k) (e3 : k < m_nf P ci) (e4 : ci < 100) (e5 : m_fk P ci k = 0 ∨ m_fk P ci k = 3 ∧ (v = 0 ∨ v = 1)) (h1 : a < m_n h) (h2 : m_k h a = ci) : m_W P d y (.putfield x :: is) ls (.int v :: .ref a :: st) h Q = m_W P d y is ls st (m_setI h a k v) Q := by
  subst e1 e2
  exact m_W_n4 (by simp only [m_st]; rw [if_pos ⟨h1, h2, e3, e4, e5⟩]; rfl)
theorem w_putL {x ci k a : Nat} {v : Int64} (e1 : x / 64 = ci) (e2 : x % 64 = k) (e3 : k < m_nf P ci) (e4 : ci < 100) (e5 : m_fk P ci k = 2) (h1 : a < m_n h) (h2 : m_k h a = ci) : m_W P d y (.putfield x :: is) ls (.long v :: .ref a :: st) h Q = m_W P d y is ls st (m_setL h a k v) Q := by
  subst e1 e2
  exact m_W_n4 (by simp only [m_st]; rw [if_pos ⟨h1, h2, e3, e4, e5⟩]; rfl)
theorem w_putR {x ci k a v : Nat} (e1 : x / 64 = ci) (e2 : x % 64 = k) (e3 : k < m_nf P ci) (e4 : ci < 100) (e5 : m_fk P ci k = 1) (h1 : a < m_n h) (h2 : m_k h a = ci) : m_W P d y (.putfield x :: is) ls (.ref v :: .ref a :: st) h Q = m_W P d y is ls st (m_setR h a k (some v)) Q := by
  subst e1 e2
  exact m_W_n4 (by simp only [m_st]; rw [if_pos ⟨h1, h2, e3, e4, e5⟩]; rfl)
theorem w_putZ {x ci k a : Nat} (e1 : x / 64 = ci) (e2 : x % 64 = k) (e3 : k < m_nf P ci) (e4 : ci < 100) (e5 : m_fk P ci k = 1) (h1 : a < m_n h) (h2 : m_k h a = ci) : m_W P d y (.putfield x :: is) ls (.null :: .ref a :: st) h Q = m_W P d y is ls st (m_setR h a k none) Q := by
  subst e1 e2
  exact m_W_n4 (by simp only [m_st]; rw [if_pos ⟨h1, h2, e3, e4, e5⟩]; rfl)
theorem w_putV {x ci k a : Nat} {r : Option Nat} (e1 : x / 64 = ci) (e2 : x % 64 = k) (e3 : k < m_nf P ci) (e4 : ci < 100) (e5 : m_fk P ci k = 1) (h1 : a < m_n h) (h2 : m_k h a = ci) : m_W P d y (.putfield x :: is) ls (m_rv r :: .ref a :: st) h Q = m_W P d y is ls st (m_setR h a k r) Q := by
  cases r
  · exact w_putZ e1 e2 e3 e4 e5 h1 h2
  · exact w_putR e1 e2 e3 e4 e5 h1 h2
/-- calls -/
theorem w_callV {z n a nl rc : Nat} {as st' : List Value} (e1 : m_na P z = n) (hp : m_pop n st = some (.ref a :: as, st')) (e2 : m_rc P z = rc) (e3 : m_nl P z = nl) (h1 : a < m_n h) (h2 : m_k h a = rc) (h3 : m_cat st' ≤ 8) (h4 : (m_sl (.ref a :: as)).length ≤ nl) : m_W P (d + 1) y (.invokevirtual z :: is) ls st h Q = m_W P d z (m_tg P z 0) (m_ent nl (.ref a :: as)) [] h (m_C P (d + 1) y false is ls st' Q) := by
  subst e1 e2 e3
  exact m_W_cl rfl (by simp only [m_st]; rw [hp]; simp only; rw [if_pos ⟨h1, h2, h3, h4⟩])
theorem w_callI {z n a nl rc : Nat} {as st' : List Value} (e0 : ¬ z = 9000) (e1 : m_na P z = n) (hp : m_pop n st = some (.ref a :: as, st')) (e2 : m_rc P z = rc) (e3 : m_nl P z = nl) (h1 : a < m_n h) (h2 : m_k h a = rc) (h3 : m_cat st' ≤ 8) (h4 : (m_sl (.ref a :: as)).length ≤ nl) : m_W P (d + 1) y (.invokespecial z :: is) ls st h Q = m_W P d z (m_tg P z 0) (m_ent nl (.ref a :: as)) [] h (m_C P (d + 1) y true is ls st' Q) := by
  subst e1 e2 e3
  exact m_W_cl rfl (by simp only [m_st]; rw [if_neg e0, hp]; simp only; rw [if_pos ⟨h1, h2, h3, h4⟩])
theorem w_callS {z n nl : Nat} {as st' : List Value} (e0 : z < 9000) (e1 : m_na P z = n) (hp : m_pop n st = some (as, st')) (e3 : m_nl P z = nl) (h3 : m_cat st' ≤ 8) (h4 : (m_sl as).length ≤ nl) : m_W P (d + 1) y (.invokestatic z :: is) ls st h Q = m_W P d z (m_tg P z 0) (m_ent nl as) [] h (m_C P (d + 1) y false is ls st' Q) := by
  subst e1 e3
  exact m_W_cl rfl (by simp only [m_st]; rw [if_neg (by omega), if_neg (by omega), if_neg (by omega), if_neg (by omega), hp]; simp only; rw [if_pos ⟨h3, h4⟩])
/-- the enum -/
theorem w_acmp_eq {u v : Value} {t : Int} (h1 : m_isK u = true) (h2 : m_isK v = true) : m_W P d y (.if_acmp .eq t :: is) ls (v :: u :: st) h Q = if m_vo u = m_vo v then m_W P d y (m_tg P y t.toNat) ls st h Q else m_W P d y is ls st h Q := by
  by_cases hc : m_vo u = m_vo v
  · rw [if_pos hc]; exact m_W_n4 (by simp only [m_st]; rw [if_pos ⟨h1, h2⟩, if_pos (show m_acond .eq (m_vo u) (m_vo v) = true from decide_eq_true hc)]; rfl)
  · rw [if_neg hc]; exact m_W_n4 (by simp only [m_st]; rw [if_pos ⟨h1, h2⟩, if_neg (show ¬ m_acond .eq (m_vo u) (m_vo v) = true from fun w => hc (of_decide_eq_true w))]; rfl)
theorem w_acmp_ne {u v : Value} {t : Int} (h1 : m_isK u = true) (h2 : m_isK v = true) : m_W P d y (.if_acmp .ne t :: is) ls (v :: u :: st) h Q = if m_vo u = m_vo v then m_W P d y is ls st h Q else m_W P d y (m_tg P y t.toNat) ls st h Q := by
  by_cases hc : m_vo u = m_vo v
  · rw [if_pos hc]; exact m_W_n4 (by simp only [m_st]; rw [if_pos ⟨h1, h2⟩, if_neg (show ¬ m_acond .ne (m_vo u) (m_vo v) = true from fun w => (of_decide_eq_true w) hc)]; rfl)
  · rw [if_neg hc]; exact m_W_n4 (by simp only [m_st]; rw [if_pos ⟨h1, h2⟩, if_pos (show m_acond .ne (m_vo u) (m_vo v) = true from decide_eq_true hc)]; rfl)
theorem w_ldc {k j : Nat} (h1 : m_kon k = true) : m_W P d y (.ldc j :: is) ls (.ref k :: st) h Q = m_W P d y is ls (.int (m_xf P k j) :: st) h Q := m_W_n4 (by simp only [m_st]; rw [if_pos h1]; rfl)
theorem w_aastK {a : Nat} {i : Int32} {v : Value} (h0 : m_isK v = true) (h1 : a < m_n h) (h2 : m_k h a = 209) (h3 : ¬ i < 0) (h4 : i.toNatClampNeg < m_l h a) : m_W P d y (.aastore :: is) ls (v :: .int i :: .ref a :: st) h Q = m_W P d y is ls st (m_setR h a i.toNatClampNeg (m_vo v)) Q := m_W_n4 (by simp only [m_st]; rw [if_pos ⟨h0, h1, h2, fun e => e.elim h3 (fun e => Nat.not_le.mpr h4 e)⟩]; rfl)
theorem w_find {a : Nat} {f e : Int32} (h1 : a < m_n h) (h2 : m_k h a = 101) (h3 : ¬ f < 0) (h4 : ¬ e < f) (h5 : e.toNatClampNeg ≤ m_l h a) (h7 : m_l h a < 2147483648) (h6 : m_cat st ≤ 8) : m_W P d y (.invokestatic 9004 :: is) ls (.int e :: .int f :: .ref a :: st) h Q = m_W P d y is ls (m_rv (m_wd P (m_I h a) (m_l h a) f e) :: st) h Q := m_W_n4 (by simp only [m_st, ↓reduceIte, Nat.reduceEqDiff]; rw [if_pos ⟨h1, h2, h3, h4, ⟨h5, h7⟩, h6⟩]; rfl)
end RULES
