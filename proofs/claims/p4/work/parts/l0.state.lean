/-! the state between two calls of the law -/
theorem RF_cg {h h' : m_H} (I : RF h) (en : m_n h ≤ m_n h') (e : ∀ x, 135 ≤ x → x < 157 → m_k h' x = m_k h x ∧ m_l h' x = m_l h x ∧ ∀ y, m_R h' x y = m_R h x y) : RF h' := by
  obtain ⟨w0, w1, w2, w3, w4, w5, w6, w7, w8, w9, w10, w11, w12, w13, w14, w15, w16, w17, w18, w19, w20, w21, w22, w23, w24, w25, w26, w27, w28, w29, w30, w31, w32, w33, w34, w35, w36, w37, w38, w39, w40, w41, w42, w43, w44, w45, w46, w47, w48, w49, w50, w51, w52, w53, w54, w55, w56, w57, w58⟩ := I
  exact ⟨(by omega), (by rw [(e 135 (by omega) (by omega)).1]; exact w1), (by rw [(e 135 (by omega) (by omega)).2.2]; exact w2), (by rw [(e 135 (by omega) (by omega)).2.2]; exact w3), (by rw [(e 135 (by omega) (by omega)).2.2]; exact w4), (by rw [(e 135 (by omega) (by omega)).2.2]; exact w5), (by rw [(e 135 (by omega) (by omega)).2.2]; exact w6), (by rw [(e 135 (by omega) (by omega)).2.2]; exact w7), (by rw [(e 135 (by omega) (by omega)).2.2]; exact w8), (by rw [(e 135 (by omega) (by omega)).2.2]; exact w9), (by rw [(e 135 (by omega) (by omega)).2.2]; exact w10), (by rw [(e 135 (by omega) (by omega)).2.2]; exact w11), (by rw [(e 135 (by omega) (by omega)).2.2]; exact w12), (by rw [(e 135 (by omega) (by omega)).2.2]; exact w13), (by rw [(e 135 (by omega) (by omega)).2.2]; exact w14), (by rw [(e 135 (by omega) (by omega)).2.2]; exact w15), (by rw [(e 135 (by omega) (by omega)).2.2]; exact w16), (by rw [(e 135 (by omega) (by omega)).2.2]; exact w17), (by rw [(e 135 (by omega) (by omega)).2.2]; exact w18), (by rw [(e 135 (by omega) (by omega)).2.2]; exact w19), (by rw [(e 135 (by omega) (by omega)).2.2]; exact w20), (by rw [(e 136 (by omega) (by omega)).1]; exact w21), (by rw [(e 136 (by omega) (by omega)).2.1]; exact w22), (by rw [(e 137 (by omega) (by omega)).1]; exact w23), (by rw [(e 137 (by omega) (by omega)).2.1]; exact w24), (by rw [(e 138 (by omega) (by omega)).1]; exact w25), (by rw [(e 138 (by omega) (by omega)).2.1]; exact w26), (by rw [(e 139 (by omega) (by omega)).1]; exact w27), (by rw [(e 139 (by omega) (by omega)).2.1]; exact w28), (by rw [(e 140 (by omega) (by omega)).1]; exact w29), (by rw [(e 140 (by omega) (by omega)).2.1]; exact w30), (by rw [(e 141 (by omega) (by omega)).1]; exact w31), (by rw [(e 141 (by omega) (by omega)).2.1]; exact w32), (by rw [(e 142 (by omega) (by omega)).1]; exact w33), (by rw [(e 142 (by omega) (by omega)).2.1]; exact w34), (by rw [(e 143 (by omega) (by omega)).1]; exact w35), (by rw [(e 143 (by omega) (by omega)).2.1]; exact w36), (by rw [(e 144 (by omega) (by omega)).1]; exact w37), (by rw [(e 144 (by omega) (by omega)).2.1]; exact w38), (by rw [(e 145 (by omega) (by omega)).1]; exact w39), (by rw [(e 145 (by omega) (by omega)).2.1]; exact w40), (by rw [(e 146 (by omega) (by omega)).1]; exact w41), (by rw [(e 146 (by omega) (by omega)).2.1]; exact w42), (by rw [(e 147 (by omega) (by omega)).1]; exact w43), (by rw [(e 147 (by omega) (by omega)).2.1]; exact w44), (by rw [(e 148 (by omega) (by omega)).1]; exact w45), (by rw [(e 148 (by omega) (by omega)).2.1]; exact w46), (by rw [(e 149 (by omega) (by omega)).1]; exact w47), (by rw [(e 149 (by omega) (by omega)).2.1]; exact w48), (by rw [(e 150 (by omega) (by omega)).1]; exact w49), (by rw [(e 150 (by omega) (by omega)).2.1]; exact w50), (by rw [(e 151 (by omega) (by omega)).1]; exact w51), (by rw [(e 151 (by omega) (by omega)).2.1]; exact w52), (by rw [(e 152 (by omega) (by omega)).1]; exact w53), (by rw [(e 152 (by omega) (by omega)).2.1]; exact w54), (by rw [(e 153 (by omega) (by omega)).1]; exact w55), (by rw [(e 153 (by omega) (by omega)).2.1]; exact w56), (by rw [(e 154 (by omega) (by omega)).1]; exact w57), (by rw [(e 154 (by omega) (by omega)).2.1]; exact w58)⟩
theorem hs_setL2 {h : m_H} {w v : Int64} {F : m_M} {a k : Nat} (ha : ¬ a = 135) : m_setL (m_hS h (w, F)) a k v = m_hS (m_setL h a k v) (w, F) := by
  refine m_H_ex rfl rfl rfl rfl rfl rfl ?_ rfl rfl
  funext x y
  show (if x = a ∧ y = k then v else (if x = 135 ∧ y = 25 then w else m_L h x y)) = if x = 135 ∧ y = 25 then w else (if x = a ∧ y = k then v else m_L h x y)
  by_cases c1 : x = a ∧ y = k
  · rw [if_pos c1, if_neg (by omega), if_pos c1]
  · rw [if_neg c1, if_neg c1]
theorem hs_setD {h : m_H} {S : m_S} {a k : Nat} {v : UInt64} : m_setD (m_hS h S) a k v = m_hS (m_setD h a k v) S := of_eq_true (eq_self _)
theorem L_eq {h : m_H} {a k : Nat} {v : Int64} : m_L (m_setL h a k v) a k = v := if_pos ⟨rfl, rfl⟩
theorem D_eq {h : m_H} {a k : Nat} {v : UInt64} : m_D (m_setD h a k v) a k = v := if_pos ⟨rfl, rfl⟩
theorem hs_L5 {h : m_H} {w : Int64} {F : m_M} : m_L (m_hS h (w, F)) 155 0 = m_L h 155 0 := by
  show (if (155 = 135 ∧ 0 = 25) then w else m_L h 155 0) = m_L h 155 0
  exact if_neg (by decide)
theorem hs_D5 {h : m_H} {S : m_S} : m_D (m_hS h S) 156 0 = m_D h 156 0 := of_eq_true (eq_self _)
theorem lcmp_rf {a : Int64} : lg_cmp a a = Int32.ofInt 0 := by
  unfold lg_cmp
  rw [if_neg (by exact Int64.lt_irrefl), if_pos rfl]
  rfl
section CXE
variable {ow : Nat → Nat} {h h' : m_H} {F F' : m_M} {u p a k : Nat} {A : q_A} {B : Int}
theorem CX_eq (ok : q_ok B A) (X : q_CX ow h F u p A) (en : m_n h' = m_n h) (ek : m_k h' = m_k h) (el : m_l h' = m_l h) (eR : m_R h' = m_R h) : q_CX ow h' F u p A := CX_ext ok X (Nat.le_of_eq en.symm) (by rw [en]; exact X.1.1.1.1.2) (fun x _ => by rw [ek, el]; exact ⟨rfl, rfl⟩) (fun x y _ => by rw [eR]) (fun _ _ _ => rfl)
theorem CX_L {v : Int64} (ok : q_ok B A) (X : q_CX ow h F u p A) : q_CX ow (m_setL h a k v) F u p A := CX_eq ok X rfl rfl rfl rfl
theorem CX_D {v : UInt64} (ok : q_ok B A) (X : q_CX ow h F u p A) : q_CX ow (m_setD h a k v) F u p A := CX_eq ok X rfl rfl rfl rfl
theorem CX_b (ok : q_ok B A) (X : q_CX ow h F u p A) : q_CX ow (m_bump h) F u p A := CX_eq ok X rfl rfl rfl rfl
theorem sT_L {v : Int64} : q_sT h (m_setL h a k v) F F 0 0 := ⟨Nat.le_refl _, Nat.le_refl _, Nat.le_refl _, Nat.le_refl _, fun _ _ _ => ⟨rfl, rfl, fun _ => rfl⟩, fun _ _ _ _ => rfl⟩
theorem sT_D {v : UInt64} : q_sT h (m_setD h a k v) F F 0 0 := ⟨Nat.le_refl _, Nat.le_refl _, Nat.le_refl _, Nat.le_refl _, fun _ _ _ => ⟨rfl, rfl, fun _ => rfl⟩, fun _ _ _ _ => rfl⟩
theorem sT_b : q_sT h (m_bump h) F F 1 6 := ⟨Nat.le_refl _, Nat.le_succ _, Nat.le_refl _, Nat.le_refl _, fun _ _ _ => ⟨rfl, rfl, fun _ => rfl⟩, fun _ _ _ _ => rfl⟩
/-- the reference worked -/
theorem CX_xf (ok : q_ok B A) (X : q_CX ow h F u p A) (x : q_xf F F') : q_CX ow h F' u p A := by
  obtain ⟨C, ⟨⟨nx1, nx2⟩, hn2, hhi⟩, ⟨hk6, hke⟩, ⟨t1, t2, t3⟩⟩ := id X
  obtain ⟨gd, ⟨hI, hB, hC, hZ⟩, ⟨n10, hH⟩, hK, f9⟩ := id ok
  obtain ⟨C2, ct2⟩ := C0_s (F' := F') C hI (fun a y ha => x a y (by omega))
  refine ⟨C2, ⟨by rw [x 133 1 (by omega)]; exact ⟨nx1, nx2⟩, (x 133 2 (by omega)).trans hn2, fun i hi => ?_⟩, ⟨(x 0 6 (by omega)).trans hk6, fun e => ct2 10 _ (by decide) (hK e).1 (hke e)⟩, ⟨(x 0 1 (by omega)).trans t1, fun k hk => (x 1 k (by omega)).trans (t2 k hk), (x 0 2 (by omega)).trans t3⟩⟩
  rw [x 133 1 (by omega)]
  exact ct2 _ _ (by omega) (hH i hi).1 (hhi i hi)
/-- the law's two rows -/
def q_5 (h : m_H) : Prop := m_k h 155 = 102 ∧ m_l h 155 = 1 ∧ m_k h 156 = 103 ∧ m_l h 156 = 1
/-- THE STATE BETWEEN TWO CALLS: class and reference stand at the same -/
def q_LS (ow : Nat → Nat) (h : m_H) (F : m_M) (u p : Nat) (A : q_A) (B : Int) : Prop := q_ok B A ∧ q_CX ow h F u p A ∧ RF h ∧ q_RX F A ∧ q_5 h
/-- the class worked -/
theorem LS_c {n s : Nat} (R : RF h) (X : q_RX F A) (K : q_5 h) (T : q_sT h h' F F' n s) : RF h' ∧ q_RX F' A ∧ q_5 h' := by
  obtain ⟨k1, k2, k3, k4⟩ := K
  obtain ⟨t1, t2, t3, t4, t5, t6⟩ := T
  refine ⟨RF_cg R t1 t5, RX_fr (fun x y hx => t6 x y (by unfold q_rx at hx; omega) (by unfold q_rx at hx; omega)) X, ?_, ?_, ?_, ?_⟩
  · rw [(t5 155 (by omega) (by omega)).1]; exact k1
  · rw [(t5 155 (by omega) (by omega)).2.1]; exact k2
  · rw [(t5 156 (by omega) (by omega)).1]; exact k3
  · rw [(t5 156 (by omega) (by omega)).2.1]; exact k4
theorem RX_b (X : q_RX F A) (ok : q_ok B A) : ∀ k, k < aF A → 0 ≤ aB A k ∧ aB A k ≤ 255 := fun k hk => by
  have h := X.1.2.1 k (by have := ok.2.2.2.2; omega)
  rw [X.2.2.2.2.2.1.1] at h
  exact h
end CXE
