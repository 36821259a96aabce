/-! the class: a command -/
def q_cmd (h : m_H) (p : Nat) (n : Int) : Prop := ∀ c : Nat, (c : Int) < n → ∃ k, m_R h (p + 1) c = some k ∧ k < m_n h ∧ m_k h k = 1
theorem RS_cg {r l : Nat} {h h' : m_H} (S : RS h r l) (en : m_n h ≤ m_n h') (eX : m_n h' ≤ m_X) (ek : ∀ x, x < r + 13 → m_k h' x = m_k h x) (el : ∀ x, x < r + 13 → m_l h' x = m_l h x) (eR : ∀ x y, x < r + 13 → ¬ x = r + 8 → m_R h' x y = m_R h x y) : RS h' r l := by
  have sb1 := RS_n S
  have sb3 := RS_o S
  obtain ⟨pk0, pk1, pk2, pk3, pk4, pk5, pk6, pk7, pk8, pk9, pk10, pk11, pk12, pk13, pk14⟩ := RS_p S
  exact ⟨(by omega), eX, RS_o S, RS_l9 S, (by rw [ek _ (by omega)]; exact RS_k S), (by rw [eR _ _ (by omega) (by omega)]; exact RS_r0 S), (by rw [eR _ _ (by omega) (by omega)]; exact RS_r2 S), (by rw [eR _ _ (by omega) (by omega)]; exact RS_r3 S), (by rw [ek _ (by omega)]; exact RS_tk S), (by rw [eR _ _ (by omega) (by omega)]; exact RS_t0 S), (by rw [ek _ (by omega)]; exact RS_bk S), (by rw [el _ (by omega)]; exact RS_bl S), (by rw [eR _ _ (by omega) (by omega)]; exact RS_t2 S), (by rw [ek _ (by omega)]; exact RS_k0 S), (by rw [el _ (by omega)]; exact RS_l0 S), (by rw [eR _ _ (by omega) (by omega)]; exact RS_t3 S), (by rw [ek _ (by omega)]; exact RS_k1 S), (by rw [el _ (by omega)]; exact RS_l1 S), (by rw [eR _ _ (by omega) (by omega)]; exact RS_t4 S), (by rw [ek _ (by omega)]; exact RS_k2 S), (by rw [el _ (by omega)]; exact RS_l2 S), (by rw [eR _ _ (by omega) (by omega)]; exact RS_t5 S), (by rw [ek _ (by omega)]; exact RS_k3 S), (by rw [el _ (by omega)]; exact RS_l3 S), (by rw [eR _ _ (by omega) (by omega)]; exact RS_t6 S), (by rw [ek _ (by omega)]; exact RS_k4 S), (by rw [el _ (by omega)]; exact RS_l4 S), ⟨(by rw [ek _ (by omega)]; exact pk0), (by rw [eR _ _ (by omega) (by omega)]; exact pk1), (by rw [eR _ _ (by omega) (by omega)]; exact pk2), (by rw [ek _ (by omega)]; exact pk3), (by rw [el _ (by omega)]; exact pk4), (by rw [ek _ (by omega)]; exact pk5), (by rw [eR _ _ (by omega) (by omega)]; exact pk6), (by rw [eR _ _ (by omega) (by omega)]; exact pk7), (by rw [eR _ _ (by omega) (by omega)]; exact pk8), (by rw [ek _ (by omega)]; exact pk9), (by rw [el _ (by omega)]; exact pk10), (by rw [ek _ (by omega)]; exact pk11), (by rw [el _ (by omega)]; exact pk12), (by rw [ek _ (by omega)]; exact pk13), (by rw [el _ (by omega)]; exact pk14)⟩, (fun i => by rw [eR _ _ (by omega) (by omega)]; exact RS_w S i)⟩
/-- the reader at a clause: what was below it stands; a cell a command -/
def q_cg (r l : Nat) (h h' : m_H) (F F' : m_M) : Prop := RS h' r l ∧ q_B r l F' ∧ q_cmd h' (r + 7) (F' (r + 7) 1) ∧ F (r + 7) 1 ≤ F' (r + 7) 1 ∧ ((m_n h' : Int) = m_n h + (F' (r + 7) 1 - F (r + 7) 1) ∧ (m_c h' : Int) = m_c h + (F' (r + 7) 1 - F (r + 7) 1) ∧ (m_s h' : Int) = m_s h + 8 * (F' (r + 7) 1 - F (r + 7) 1)) ∧ (∀ x, x < r → m_k h' x = m_k h x ∧ m_l h' x = m_l h x ∧ ∀ y, m_R h' x y = m_R h x y) ∧ (∀ x y, x < r → F' x y = F x y) ∧ F' (r + 7) 0 = F (r + 7) 0
theorem cg_rf {r l : Nat} {h : m_H} {F : m_M} (S : RS h r l) (B : q_B r l F) (C : q_cmd h (r + 7) (F (r + 7) 1)) : q_cg r l h h F F := ⟨S, B, C, by omega, by omega, fun _ _ => ⟨rfl, rfl, fun _ => rfl⟩, fun _ _ _ => rfl, rfl⟩
theorem cg_tr {r l : Nat} {h g k : m_H} {F G K : m_M} (a : q_cg r l h g F G) (b : q_cg r l g k G K) : q_cg r l h k F K := by
  obtain ⟨a1, a2, a3, a4, a5, a6, a7, a8⟩ := a
  obtain ⟨b1, b2, b3, b4, b5, b6, b7, b8⟩ := b
  exact ⟨b1, b2, b3, by omega, by omega, fun x hx => ⟨(b6 x hx).1.trans (a6 x hx).1, (b6 x hx).2.1.trans (a6 x hx).2.1, fun y => ((b6 x hx).2.2 y).trans ((a6 x hx).2.2 y)⟩, fun x y hx => (b7 x y hx).trans (a7 x y hx), b8.trans a8⟩
/-- ints alone change, not the counts of the program -/
theorem cg_I {r l : Nat} {h g : m_H} {F G K : m_M} (a : q_cg r l h g F G) (B : q_B r l K) (f : ∀ x y, x < r → K x y = G x y) (f0 : K (r + 7) 0 = G (r + 7) 0) (f1 : K (r + 7) 1 = G (r + 7) 1) : q_cg r l h g F K := by
  obtain ⟨a1, a2, a3, a4, a5, a6, a7, a8⟩ := a
  exact ⟨a1, B, by rw [f1]; exact a3, by omega, by omega, a6, fun x y hx => (f x y hx).trans (a7 x y hx), f0.trans a8⟩
theorem cg_r {r l : Nat} {h g : m_H} {F G K : m_M} (a : q_cg r l h g F G) (q : q_r r l G K) : q_cg r l h g F K := cg_I a (r_B a.2.1 q) (fun x y hx => q.1 x y (by omega) (by omega) (by omega) (by omega)) (q.1 _ _ (by omega) (by omega) (by omega) (by omega)) (q.1 _ _ (by omega) (by omega) (by omega) (by omega))
theorem k_upc {r l c y : Nat} {v : Int} {F G : m_M} (hc : r + 13 ≤ c) (B : q_B r l F) (h : q_k r l c F G) : q_k r l c F (m_up G c y v) := k_tr h (k_c hc (k_B hc B h))
theorem k_upp {r l c : Nat} {v : Int} {F G : m_M} (hc : r + 13 ≤ c) (B : q_B r l F) (h : q_k r l c F G) : q_k r l c F (m_up G r 6 v) := k_tr h (k_p (k_B hc B h))
theorem B_hi {r l : Nat} {F F' : m_M} (B : q_B r l F) (f : ∀ x y, x < r + 13 → F' x y = F x y) : q_B r l F' := by
  obtain ⟨b1, b2, b3, b4, b5, b6, b7⟩ := B
  refine ⟨by rw [f _ _ (by omega)]; exact b1, by rw [f _ _ (by omega)]; exact b2, by rw [f _ _ (by omega), f _ _ (by omega)]; exact b3, by rw [f _ _ (by omega)]; exact b4, by rw [f _ _ (by omega)]; exact b5, fun t ht => ?_, by rw [f _ _ (by omega)]; exact b7⟩
  rw [f _ _ (by omega)] at ht
  rw [f _ _ (by omega), f _ _ (by omega)]
  exact b6 t ht
theorem cg_cmd {r l : Nat} {h : m_H} {F G1 G2 G K : m_M} (S : RS h r l) (B : q_B r l F) (C : q_cmd h (r + 7) (F (r + 7) 1)) (c8 : F (r + 7) 1 < 8) (hX : m_n h + 1 ≤ m_X) (hG1 : q_r r l F G1) (e2 : ∀ x y, ¬ x = m_n h → G2 x y = G1 x y) (H : q_k r l (m_n h) G2 G) (k1 : ∀ x y, ¬ x = m_n h → ¬ (x = r + 7 ∧ y = 1) → K x y = G x y) (k2 : K (r + 7) 1 = F (r + 7) 1 + 1) : q_cg r l h (m_setR (m_mk h 1 0 8) (r + 8) (F (r + 7) 1).toNat (some (m_n h))) F K := by
  have sb1 := RS_n S
  have b7 := B.2.2.2.2.2.2
  have B1 := r_B B hG1
  have B2 : q_B r l G2 := B_hi B1 (fun x y hx => e2 x y (by omega))
  have B3 := k_B (by omega) B2 H
  have g7 : ∀ y, G (r + 7) y = F (r + 7) y := fun y => by rw [H.1 _ _ (by omega) (by omega) (by omega) (by omega) (by omega) (by omega), e2 _ _ (by omega), hG1.1 _ _ (by omega) (by omega) (by omega) (by omega)]
  have n1 : m_n (m_setR (m_mk h 1 0 8) (r + 8) (F (r + 7) 1).toNat (some (m_n h))) = m_n h + 1 := by rw [h_n_setR, h_n_mk]
  have ek : ∀ x, x < m_n h → m_k (m_setR (m_mk h 1 0 8) (r + 8) (F (r + 7) 1).toNat (some (m_n h))) x = m_k h x := fun x hx => by rw [h_k_setR, hk_old (by omega)]
  have el : ∀ x, x < m_n h → m_l (m_setR (m_mk h 1 0 8) (r + 8) (F (r + 7) 1).toNat (some (m_n h))) x = m_l h x := fun x hx => by rw [h_l_setR, hl_old (by omega)]
  have eR : ∀ x y, x < m_n h → ¬ x = r + 8 → m_R (m_setR (m_mk h 1 0 8) (r + 8) (F (r + 7) 1).toNat (some (m_n h))) x y = m_R h x y := fun x y hx hr => by rw [sR_na hr, hR_old (by omega)]
  refine ⟨RS_cg S (by omega) (by omega) (fun x hx => ek x (by omega)) (fun x hx => el x (by omega)) (fun x y hx hr => eR x y (by omega) hr), ?_, ?_, by omega, ⟨?_, ?_, ?_⟩, fun x hx => ⟨ek x (by omega), el x (by omega), fun y => eR x y (by omega) (by omega)⟩, fun x y hx => ?_, ?_⟩
  · obtain ⟨c1, c2, c3, c4, c5, c6, c7⟩ := B3
    refine ⟨by rw [k1 _ _ (by omega) (by omega)]; exact c1, by rw [k1 _ _ (by omega) (by omega)]; exact c2, by rw [k1 _ _ (by omega) (by omega), k1 _ _ (by omega) (by omega)]; exact c3, by rw [k1 _ _ (by omega) (by omega)]; exact c4, by rw [k1 _ _ (by omega) (by omega)]; exact c5, fun t ht => ?_, by omega⟩
    rw [k1 _ _ (by omega) (by omega)] at ht
    rw [k1 _ _ (by omega) (by omega), k1 _ _ (by omega) (by omega)]
    exact c6 t ht
  · intro c hc
    by_cases e : c = (F (r + 7) 1).toNat
    · exact ⟨m_n h, sR_eq rfl e, by omega, by rw [h_k_setR, hk_new rfl]⟩
    · obtain ⟨k, r1, r2, r3⟩ := C c (by omega)
      refine ⟨k, ?_, by omega, ?_⟩
      · rw [sR_nk e, hR_old (by omega)]
        exact r1
      · rw [ek k r2]
        exact r3
  · rw [n1]; omega
  · rw [h_c_setR, h_c_mk]; omega
  · rw [h_s_setR, h_s_mk]; omega
  · rw [k1 _ _ (by omega) (by omega), H.1 _ _ (by omega) (by omega) (by omega) (by omega) (by omega) (by omega), e2 _ _ (by omega), hG1.1 _ _ (by omega) (by omega) (by omega) (by omega)]
  · rw [k1 _ _ (by omega) (by omega), g7]
theorem cg_up {r l y : Nat} {v : Int} {h g : m_H} {F G : m_M} (hy : 2 ≤ y) (a : q_cg r l h g F G) : q_cg r l h g F (m_up G (r + 7) y v) := by
  refine cg_I a ?_ (fun x z hx => up_na (by omega)) (up_nk (by omega)) (up_nk (by omega))
  obtain ⟨b1, b2, b3, b4, b5, b6, b7⟩ := a.2.1
  have f : ∀ x z, ¬ x = r + 7 → m_up G (r + 7) y v x z = G x z := fun x z hx => up_na hx
  refine ⟨by rw [f _ _ (by omega)]; exact b1, by rw [f _ _ (by omega)]; exact b2, by rw [f _ _ (by omega), f _ _ (by omega)]; exact b3, by rw [f _ _ (by omega)]; exact b4, by rw [f _ _ (by omega)]; exact b5, fun t ht => ?_, by rw [up_nk (by omega)]; exact b7⟩
  rw [f _ _ (by omega)] at ht
  rw [f _ _ (by omega), f _ _ (by omega)]
  exact b6 t ht
/-- the command i of a text, as the class has it -/
def q_cmC (h : m_H) (r l : Nat) (F : m_M) (i : Nat) (cm : tx_C) : Prop := ∃ a t : Nat, m_R h (r + 8) i = some a ∧ (r + 13 ≤ a ∧ a < m_n h) ∧ m_k h a = 1 ∧ F a 0 = (t : Int) ∧ (t : Int) < F (r + 1) 7 ∧ tx_ps r l F t = (cm 0).toNat ∧ F a 1 = cm 1 ∧ F a 2 = cm 2 ∧ F a 3 = cm 3 ∧ F a 4 = cm 4 ∧ F a 5 = cm 5 ∧ F a 6 = cm 6 ∧ F a 7 = cm 7
theorem Y_fr7 {h : m_H} {r l : Nat} {F F' : m_M} {b : Nat → Int} {s : tx_St} {cs : List Int} (hr : 1 < r) (f : ∀ x y, x < r + 13 → ¬ (x = r ∧ y = 6) → ¬ x = r + 7 → F' x y = F x y) (h7 : 0 ≤ F' (r + 7) 1 ∧ F' (r + 7) 1 ≤ 8) (Y : q_Y h r l F b s cs) : q_Y h r l F' b s cs := by
  have Y2 : q_Y h r l (fun x y => if x = r + 7 then F x y else F' x y) b s cs := Y_fr hr (fun x y h1 h2 => by
    show (if x = r + 7 then F x y else F' x y) = F x y
    by_cases c : x = r + 7
    · rw [if_pos c]
    · rw [if_neg c]
      exact f x y h1 h2 c) Y
  obtain ⟨⟨b1, b2, b3, b4, b5, b6, b7⟩, T, Z, C⟩ := Y2
  have e : ∀ x y, ¬ x = r + 7 → (fun x y => if x = r + 7 then F x y else F' x y) x y = F' x y := fun x y hx => if_neg hx
  unfold q_B q_T q_Z q_C tx_ps at *
  simp only [e _ _ (show ¬ r + 1 = r + 7 by omega), e _ _ (show ¬ r + 2 = r + 7 by omega), e _ _ (show ¬ r + 3 = r + 7 by omega), e _ _ (show ¬ r + 4 = r + 7 by omega), e _ _ (show ¬ r + 5 = r + 7 by omega), e _ _ (show ¬ r + 9 = r + 7 by omega), e _ _ (show ¬ r + 11 = r + 7 by omega), e _ _ (show ¬ r + 12 = r + 7 by omega), e _ _ (show ¬ r = r + 7 by omega), e _ _ (show ¬ 1 = r + 7 by omega)] at b1 b2 b3 b4 b5 b6 T Z C
  exact ⟨⟨b1, b2, b3, b4, b5, b6, h7⟩, T, Z, C⟩
theorem kd_r {T : tx_T} {s : tx_St} : -1 ≤ (tx_kd T s).2 ∧ (tx_kd T s).2 ≤ 3 := by
  unfold tx_kd
  (repeat' split) <;> (refine ⟨?_, ?_⟩ <;> dsimp only <;> omega)
def q_KD (r : Nat) (F : m_M) (D : Nat → Int) : Prop := F (r + 7) 0 = D 0 ∧ F (r + 7) 3 = D 2 ∧ F (r + 7) 4 = D 3 ∧ F (r + 7) 5 = D 4 ∧ F (r + 7) 6 = D 5 ∧ F (r + 7) 7 = D 6 ∧ F (r + 7) 8 = D 7 ∧ F (r + 7) 9 = D 8
/-- what a text says, as the class has it -/
def q_K (h : m_H) (r l : Nat) (F : m_M) (G : tx_G) : Prop := q_KD r F G.1 ∧ F (r + 7) 1 = (G.2.1.length : Int) ∧ G.2.1.length ≤ 8 ∧ ∀ i cm, G.2.1[i]? = some cm → q_cmC h r l F i cm
theorem K_fr {h h' : m_H} {r l : Nat} {F F' : m_M} {G : tx_G} (K : q_K h r l F G) (en : m_n h ≤ m_n h') (ek : ∀ x, x < m_n h → m_k h' x = m_k h x) (eR : ∀ i, i < G.2.1.length → m_R h' (r + 8) i = m_R h (r + 8) i) (f7 : ∀ y, F' (r + 7) y = F (r + 7) y) (fa : ∀ x y, r + 13 ≤ x → x < m_n h → F' x y = F x y) (g7 : F' (r + 1) 7 = F (r + 1) 7) (g3 : ∀ t, F' (r + 3) t = F (r + 3) t) : q_K h' r l F' G := by
  obtain ⟨⟨d0, d2, d3, d4, d5, d6, d7, d8⟩, k1, k2, k3⟩ := K
  refine ⟨⟨(f7 _).trans d0, (f7 _).trans d2, (f7 _).trans d3, (f7 _).trans d4, (f7 _).trans d5, (f7 _).trans d6, (f7 _).trans d7, (f7 _).trans d8⟩, (f7 _).trans k1, k2, fun i cm hc => ?_⟩
  obtain ⟨a, t, c1, ⟨c2, c3⟩, c4, c5, c6, c7, c8, c9, e1, e2, e3, e4, e5⟩ := k3 i cm hc
  have hi : i < G.2.1.length := (List.getElem?_eq_some_iff.mp hc).1
  exact ⟨a, t, (eR i hi).trans c1, ⟨c2, by omega⟩, (ek a c3).trans c4, (fa _ _ c2 c3).trans c5, by rw [g7]; exact c6, (ps_cg g7 g3 t).trans c7, (fa _ _ c2 c3).trans c8, (fa _ _ c2 c3).trans c9, (fa _ _ c2 c3).trans e1, (fa _ _ c2 c3).trans e2, (fa _ _ c2 c3).trans e3, (fa _ _ c2 c3).trans e4, (fa _ _ c2 c3).trans e5⟩
set_option maxHeartbeats 2000000 in
theorem x_5 {L : Nat} {xs : Nat → Int32} {d : Nat} {h : m_H} {w : Int64} {F : m_M} {Q : Option Value ⊕ Nat → m_H → Prop} {a : Nat} (h1 : a < m_n h) (h2 : m_k h a = 1) (hQ : ∀ F' : m_M, (∀ x y, ¬ x = a → F' x y = F x y) → F' a 1 = 0 → Q (.inl none) (m_hS h (w, F'))) : m_W (p_P L xs) d 5 k_5_0 [some (.ref a)] [] (m_hS h (w, F)) Q := by
  rw [k_5_0]
  simp (disch := first | omega | (simp (disch := first | omega | (simp only [h_n_setR, h_n_mk, hs_n]; first | done | omega)) only [i_lt0, i_tn, i_nn, m_cat_n, m_cat_i, m_cat_r, m_cat_z, m_cat_rv, m_cat_l, m_o_n, m_o_i, m_o_r, m_o_z, m_o_rv, m_o_f, hs_n, hs_k, hs_l, h_n_setR, h_n_mk, h_k_setR, h_l_setR, hk_old, hk_new, hl_old, hl_new, Nat.reduceLeDiff, not_false_eq_true, or_true, true_or, or_false, false_or, h2]; first | done | omega) | exact Or.inl rfl | exact Or.inr rfl) only [k_5_0, w_aload_0, w_aloadz_0, w_aloadv_0, m_cat_n, m_cat_i, m_cat_r, m_cat_z, m_cat_rv, m_cat_l, Nat.zero_le, Nat.reduceLeDiff, Nat.reduceAdd, w_obj, w_iconst, pf_64, pf_65, pf_66, pf_67, pf_68, pf_69, pf_70, pf_71, w_vret, m_C_inl, Option.toList_some, Option.toList_none, List.cons_append, List.nil_append, w_icmp_eq, w_if_eq, hs_n, hs_k, hs_l, hs_R, hs_I, hs_L, hs_setI, hs_setL, hs_cpy, hs_setR, hs_mk, h2, up_eq, up_na, up_nk, zr_eq, zr_na, sR_eq, sR_na, sR_nk, hR_old, hR_new, h_n_setR, h_n_mk, i_add, i_sub, i_mul, i_tn, i_nat, Int.reduceToNat, Int.reduceAdd, Int.reduceSub, Int.reduceMul, Int.reduceNeg, l_32, l_nat, l_c_lt, l_c_gt, l_c_eq, i_lt, i_eq, i_lt0, i_0lt, i_eq0, i_eq1, Int.reduceLT, Int.reduceEq, Int.reduceLE, Int.reduceNe, not_true_eq_false, not_false_eq_true, Nat.lt_irrefl, Int.lt_irrefl, eq_self, eq_self, Nat.reduceAdd, Nat.reduceMul, Nat.reduceSub, Nat.reduceDiv, Nat.reduceMod, Nat.reduceEqDiff, Nat.reduceLeDiff, Nat.reduceLT, Nat.zero_add, Nat.add_zero, Nat.zero_le, and_false, and_true, and_self, false_and, true_and, or_false, or_true, if_true, if_false, ite_true, ite_false, ↓reduceIte, Int.reduceToNat, Int.reduceAdd, Int.reduceSub, Int.reduceMul, Int.reduceNeg]
  refine hQ _ (fun x y hx => ?_) ?_
  · simp (disch := omega) only [up_na]
  · simp (disch := omega) only [up_eq, up_na, up_nk]
theorem to_1 {v : Int} (v0 : 0 ≤ v) (v1 : v ≤ 8 - 1) : 2 = tx_op (40 + v) ∧ 0 + v = tx_od (40 + v) := by
  unfold tx_op tx_od
  refine ⟨?_, ?_⟩ <;> (repeat' split) <;> omega
theorem to_2 {v : Int} (v0 : 0 ≤ v) (v1 : v ≤ 4 - 1) : 2 = tx_op (50 + v) ∧ 8 + v = tx_od (50 + v) := by
  unfold tx_op tx_od
  refine ⟨?_, ?_⟩ <;> (repeat' split) <;> omega
set_option maxHeartbeats 16000000 in
/-- from behind the result on -/
theorem la_38 {L : Nat} {xs : Nat → Int32} {d : Nat} {h : m_H} {w : Int64} {F : m_M} {Q : Option Value ⊕ Nat → m_H → Prop} {r l : Nat} (S : RS h r l) {b : Nat → Int} {e : Int} {p : Nat} {cs : List Int} (Y : q_Y h r l F b (e, p) cs) {c k : Nat} (hc : r + 13 ≤ c) (hcn : c < m_n h) (kc : m_k h c = 1) (r5 : F r 5 = 0) (k8 : k < 8) (h71 : F (r + 7) 1 = (k : Int)) (hQ : ∀ (G : m_M) (s6 s7 : tx_St) (c3 c4 : List Int), tx_sv (b, l) 3 2 7 40 (e, p) (s6, c3) → tx_sv (b, l) 4 3 3 50 s6 (s7, c4) → q_Y h r l G b s7 (cs ++ (c3 ++ c4)) → q_k r l c F G → (∀ y, ¬ (y = 5 ∨ y = 6 ∨ y = 7) → G c y = F c y) → (s7.1 = 0 → G c 5 = (cs.length : Int) ∧ G c 6 = ((cs.length + c3.length : Nat) : Int) ∧ G c 7 = ((cs.length + c3.length + c4.length : Nat) : Int)) → Q (.inl none) (m_hS (m_setR h (r + 8) k (some c)) (w, m_up G (r + 7) 1 ((k : Int) + 1)))) : m_W (p_P L xs) (d + 25) 38 k_38_132 [some (.ref r), some (.ref c)] [] (m_hS h (w, F)) Q := by
  have sb1 := RS_n S
  have sb2 := RS_X S
  have sb3 := RS_o S
  have sb4 := RS_l9 S
  have hX : m_X = 1000000000 := rfl
  obtain ⟨pk, pr2, pr10, ck, cl, ok, o0, o1, o3, sk, sl, ak, al, bk, bl⟩ := RS_p S
  have B := Y.1
  rw [k_38_132]
  simp (disch := first | omega | (simp (disch := omega) only [i_lt0, i_tn, i_nn, m_cat_n, m_cat_i, m_cat_r, m_cat_z, m_cat_rv, m_cat_l, m_o_n, m_o_i, m_o_r, m_o_z, m_o_rv, m_o_f, hs_n, hs_k, hs_l, Nat.reduceLeDiff, not_false_eq_true, or_true, true_or, or_false, false_or, RS_k S, RS_r0 S, RS_r2 S, RS_r3 S, RS_tk S, RS_t0 S, RS_bk S, RS_bl S, RS_t2 S, RS_k0 S, RS_l0 S, RS_t3 S, RS_k1 S, RS_l1 S, RS_t4 S, RS_k2 S, RS_l2 S, RS_t5 S, RS_k3 S, RS_l3 S, RS_t6 S, RS_k4 S, RS_l4 S, RS_w S, pk, pr2, pr10, ck, cl, ok, o0, o1, o3, sk, sl, ak, al, bk, bl, kc]; first | done | omega) | exact Or.inl rfl | exact Or.inr rfl) only [k_38_132, w_aload_1, w_aloadz_1, w_aloadv_1, w_aload_0, w_aloadz_0, w_aloadv_0, gf_387, m_rv_s, m_rv_n, gf_2, pf_69, w_iconst, pf_390, w_const, m_cat_n, m_cat_i, m_cat_r, m_cat_z, m_cat_rv, m_cat_l, Nat.zero_le, Nat.reduceLeDiff, Nat.reduceAdd, m_o_i, m_o_r, m_o_z, m_o_rv, m_C_inl, Option.toList_some, Option.toList_none, List.cons_append, List.nil_append, pf_70, pf_71, gf_386, w_vret, tg_38_21, tg_38_74, tg_38_132, w_icmp_eq, w_if_eq, hs_n, hs_k, hs_l, hs_R, hs_I, hs_L, hs_setI, hs_setL, hs_cpy, RS_k S, RS_r0 S, RS_r2 S, RS_r3 S, RS_tk S, RS_t0 S, RS_bk S, RS_bl S, RS_t2 S, RS_k0 S, RS_l0 S, RS_t3 S, RS_k1 S, RS_l1 S, RS_t4 S, RS_k2 S, RS_l2 S, RS_t5 S, RS_k3 S, RS_l3 S, RS_t6 S, RS_k4 S, RS_l4 S, RS_w S, pk, pr2, pr10, ck, cl, ok, o0, o1, o3, sk, sl, ak, al, bk, bl, kc, up_up, up_sw, up_sa, up_eq, up_na, up_nk, i_add, i_sub, i_mul, i_tn, i_nat, Int.reduceToNat, Int.reduceAdd, Int.reduceSub, Int.reduceMul, Int.reduceNeg, l_32, l_nat, l_c_lt, l_c_gt, l_c_eq, i_lt, i_eq, i_lt0, i_0lt, i_eq0, i_eq1, Int.reduceLT, Int.reduceEq, Int.reduceLE, Int.reduceNe, not_true_eq_false, not_false_eq_true, Nat.lt_irrefl, Int.lt_irrefl, eq_self, eq_self, Nat.reduceAdd, Nat.reduceMul, Nat.reduceSub, Nat.reduceDiv, Nat.reduceMod, Nat.reduceEqDiff, Nat.reduceLeDiff, Nat.reduceLT, Nat.zero_add, Nat.add_zero, Nat.zero_le, and_false, and_true, and_self, false_and, true_and, or_false, or_true, if_true, if_false, ite_true, ite_false, ↓reduceIte, Int.reduceToNat, Int.reduceAdd, Int.reduceSub, Int.reduceMul, Int.reduceNeg, m_rv_s, m_rv_n, kc]
  simp (disch := first | omega | (simp (disch := omega) only [i_lt0, i_tn, i_nn, m_cat_n, m_cat_i, m_cat_r, m_cat_z, m_cat_rv, m_cat_l, m_o_n, m_o_i, m_o_r, m_o_z, m_o_rv, m_o_f, hs_n, hs_k, hs_l, Nat.reduceLeDiff, not_false_eq_true, or_true, true_or, or_false, false_or, RS_k S, RS_r0 S, RS_r2 S, RS_r3 S, RS_tk S, RS_t0 S, RS_bk S, RS_bl S, RS_t2 S, RS_k0 S, RS_l0 S, RS_t3 S, RS_k1 S, RS_l1 S, RS_t4 S, RS_k2 S, RS_l2 S, RS_t5 S, RS_k3 S, RS_l3 S, RS_t6 S, RS_k4 S, RS_l4 S, RS_w S, pk, pr2, pr10, ck, cl, ok, o0, o1, o3, sk, sl, ak, al, bk, bl, kc]; first | done | omega) | exact Or.inl rfl | exact Or.inr rfl) only [cl_41, m_cat_n, m_cat_i, m_cat_r, m_cat_z, m_cat_rv, m_cat_l, Nat.zero_le, Nat.reduceLeDiff, Nat.reduceAdd, m_o_i, m_o_r, m_o_z, m_o_rv, hs_n, hs_k, RS_k S, RS_r0 S, RS_r2 S, RS_r3 S, RS_tk S, RS_t0 S, RS_bk S, RS_bl S, RS_t2 S, RS_k0 S, RS_l0 S, RS_t3 S, RS_k1 S, RS_l1 S, RS_t4 S, RS_k2 S, RS_l2 S, RS_t5 S, RS_k3 S, RS_l3 S, RS_t6 S, RS_k4 S, RS_l4 S, RS_w S, pk, pr2, pr10, ck, cl, ok, o0, o1, o3, sk, sl, ak, al, bk, bl, kc]
  refine x_41 (j := 3) (pl := 2) (x := 0) (y := 8) (to := 40) S ((Y_fr (by omega) (fun x y h1 h2 => by rw [up_no (by omega), up_no (by omega)]) Y)) (by decide) (by decide) (by decide) (by decide) (by decide) (fun v v0 v1 => to_1 v0 v1) (by simp (disch := omega) only [up_eq, up_na, up_nk]) (by simp (disch := omega) only [up_eq, up_na, up_nk]; exact r5) (fun G2 s6 c3 g2 sv3 Y2 => ?_)
  simp (disch := first | omega | (simp (disch := omega) only [i_lt0, i_tn, i_nn, m_cat_n, m_cat_i, m_cat_r, m_cat_z, m_cat_rv, m_cat_l, m_o_n, m_o_i, m_o_r, m_o_z, m_o_rv, m_o_f, hs_n, hs_k, hs_l, Nat.reduceLeDiff, not_false_eq_true, or_true, true_or, or_false, false_or, RS_k S, RS_r0 S, RS_r2 S, RS_r3 S, RS_tk S, RS_t0 S, RS_bk S, RS_bl S, RS_t2 S, RS_k0 S, RS_l0 S, RS_t3 S, RS_k1 S, RS_l1 S, RS_t4 S, RS_k2 S, RS_l2 S, RS_t5 S, RS_k3 S, RS_l3 S, RS_t6 S, RS_k4 S, RS_l4 S, RS_w S, pk, pr2, pr10, ck, cl, ok, o0, o1, o3, sk, sl, ak, al, bk, bl, kc]; first | done | omega) | exact Or.inl rfl | exact Or.inr rfl) only [k_38_132, w_aload_1, w_aloadz_1, w_aloadv_1, w_aload_0, w_aloadz_0, w_aloadv_0, gf_387, m_rv_s, m_rv_n, gf_2, pf_69, w_iconst, pf_390, w_const, m_cat_n, m_cat_i, m_cat_r, m_cat_z, m_cat_rv, m_cat_l, Nat.zero_le, Nat.reduceLeDiff, Nat.reduceAdd, m_o_i, m_o_r, m_o_z, m_o_rv, m_C_inl, Option.toList_some, Option.toList_none, List.cons_append, List.nil_append, pf_70, pf_71, gf_386, w_vret, tg_38_21, tg_38_74, tg_38_132, w_icmp_eq, w_if_eq, hs_n, hs_k, hs_l, hs_R, hs_I, hs_L, hs_setI, hs_setL, hs_cpy, RS_k S, RS_r0 S, RS_r2 S, RS_r3 S, RS_tk S, RS_t0 S, RS_bk S, RS_bl S, RS_t2 S, RS_k0 S, RS_l0 S, RS_t3 S, RS_k1 S, RS_l1 S, RS_t4 S, RS_k2 S, RS_l2 S, RS_t5 S, RS_k3 S, RS_l3 S, RS_t6 S, RS_k4 S, RS_l4 S, RS_w S, pk, pr2, pr10, ck, cl, ok, o0, o1, o3, sk, sl, ak, al, bk, bl, kc, up_up, up_sw, up_sa, up_eq, up_na, up_nk, i_add, i_sub, i_mul, i_tn, i_nat, Int.reduceToNat, Int.reduceAdd, Int.reduceSub, Int.reduceMul, Int.reduceNeg, l_32, l_nat, l_c_lt, l_c_gt, l_c_eq, i_lt, i_eq, i_lt0, i_0lt, i_eq0, i_eq1, Int.reduceLT, Int.reduceEq, Int.reduceLE, Int.reduceNe, not_true_eq_false, not_false_eq_true, Nat.lt_irrefl, Int.lt_irrefl, eq_self, eq_self, Nat.reduceAdd, Nat.reduceMul, Nat.reduceSub, Nat.reduceDiv, Nat.reduceMod, Nat.reduceEqDiff, Nat.reduceLeDiff, Nat.reduceLT, Nat.zero_add, Nat.add_zero, Nat.zero_le, and_false, and_true, and_self, false_and, true_and, or_false, or_true, if_true, if_false, ite_true, ite_false, ↓reduceIte, Int.reduceToNat, Int.reduceAdd, Int.reduceSub, Int.reduceMul, Int.reduceNeg, m_rv_s, m_rv_n, kc]
  simp (disch := first | omega | (simp (disch := omega) only [i_lt0, i_tn, i_nn, m_cat_n, m_cat_i, m_cat_r, m_cat_z, m_cat_rv, m_cat_l, m_o_n, m_o_i, m_o_r, m_o_z, m_o_rv, m_o_f, hs_n, hs_k, hs_l, Nat.reduceLeDiff, not_false_eq_true, or_true, true_or, or_false, false_or, RS_k S, RS_r0 S, RS_r2 S, RS_r3 S, RS_tk S, RS_t0 S, RS_bk S, RS_bl S, RS_t2 S, RS_k0 S, RS_l0 S, RS_t3 S, RS_k1 S, RS_l1 S, RS_t4 S, RS_k2 S, RS_l2 S, RS_t5 S, RS_k3 S, RS_l3 S, RS_t6 S, RS_k4 S, RS_l4 S, RS_w S, pk, pr2, pr10, ck, cl, ok, o0, o1, o3, sk, sl, ak, al, bk, bl, kc]; first | done | omega) | exact Or.inl rfl | exact Or.inr rfl) only [cl_41, m_cat_n, m_cat_i, m_cat_r, m_cat_z, m_cat_rv, m_cat_l, Nat.zero_le, Nat.reduceLeDiff, Nat.reduceAdd, m_o_i, m_o_r, m_o_z, m_o_rv, hs_n, hs_k, RS_k S, RS_r0 S, RS_r2 S, RS_r3 S, RS_tk S, RS_t0 S, RS_bk S, RS_bl S, RS_t2 S, RS_k0 S, RS_l0 S, RS_t3 S, RS_k1 S, RS_l1 S, RS_t4 S, RS_k2 S, RS_l2 S, RS_t5 S, RS_k3 S, RS_l3 S, RS_t6 S, RS_k4 S, RS_l4 S, RS_w S, pk, pr2, pr10, ck, cl, ok, o0, o1, o3, sk, sl, ak, al, bk, bl, kc]
  obtain ⟨e6, p6⟩ := s6
  have r52 : G2 r 5 = 0 := by
    rw [g2.1 _ _ (by omega) (by omega) (by omega) (by omega)]
    simp (disch := omega) only [up_eq, up_na, up_nk]
    exact r5
  refine x_41 (j := 4) (pl := 3) (x := 8) (y := 4) (to := 50) S ((Y_fr (by omega) (fun x y h1 h2 => by rw [up_no (by omega), up_no (by omega)]) Y2)) (by decide) (by decide) (by decide) (by decide) (by decide) (fun v v0 v1 => to_2 v0 v1) (by simp (disch := omega) only [up_eq, up_na, up_nk]) (by simp (disch := omega) only [up_eq, up_na, up_nk]; exact r52) (fun G4 s7 c4 g4 sv4 Y4 => ?_)
  obtain ⟨e7, p7⟩ := s7
  rw [List.append_assoc] at Y4
  have g71 : G4 (r + 7) 1 = (k : Int) := by
    rw [g4.1 _ _ (by omega) (by omega) (by omega) (by omega)]
    simp (disch := omega) only [up_eq, up_na, up_nk]
    rw [g2.1 _ _ (by omega) (by omega) (by omega) (by omega)]
    simp (disch := omega) only [up_eq, up_na, up_nk]
    exact h71
  have k88 : (k : Int) < ((8 : Nat) : Int) := by omega
  have k82 : q_k r l c F G4 := by
    refine k_tr (k_tr ?_ (k_r g2)) (k_tr ?_ (k_r g4))
    · exact ⟨fun x y a b x1 x2 x3 x4 => by rw [up_no (by omega), up_no (by omega)], fun y hy => by rw [up_no (by omega), up_no (by omega)], by simp (disch := omega) only [up_na]; exact B.2.2.1, by simp (disch := omega) only [up_na]; exact B.2.2.2.1⟩
    · exact ⟨fun x y a b x1 x2 x3 x4 => by rw [up_no (by omega), up_no (by omega)], fun y hy => by rw [up_no (by omega), up_no (by omega)], by simp (disch := omega) only [up_na]; exact Y2.1.2.2.1, by simp (disch := omega) only [up_na]; exact Y2.1.2.2.2.1⟩
  simp (disch := first | omega | (simp (disch := omega) only [i_lt0, i_tn, i_nn, m_cat_n, m_cat_i, m_cat_r, m_cat_z, m_cat_rv, m_cat_l, m_o_n, m_o_i, m_o_r, m_o_z, m_o_rv, m_o_f, hs_n, hs_k, hs_l, Nat.reduceLeDiff, not_false_eq_true, or_true, true_or, or_false, false_or, RS_k S, RS_r0 S, RS_r2 S, RS_r3 S, RS_tk S, RS_t0 S, RS_bk S, RS_bl S, RS_t2 S, RS_k0 S, RS_l0 S, RS_t3 S, RS_k1 S, RS_l1 S, RS_t4 S, RS_k2 S, RS_l2 S, RS_t5 S, RS_k3 S, RS_l3 S, RS_t6 S, RS_k4 S, RS_l4 S, RS_w S, pk, pr2, pr10, ck, cl, ok, o0, o1, o3, sk, sl, ak, al, bk, bl, kc, h_n_setR, h_k_setR, h_l_setR]; first | done | omega) | exact Or.inl rfl | exact Or.inr rfl) only [k_38_132, w_aload_1, w_aloadz_1, w_aloadv_1, w_aload_0, w_aloadz_0, w_aloadv_0, gf_387, m_rv_s, m_rv_n, gf_2, pf_69, w_iconst, pf_390, w_const, m_cat_n, m_cat_i, m_cat_r, m_cat_z, m_cat_rv, m_cat_l, Nat.zero_le, Nat.reduceLeDiff, Nat.reduceAdd, m_o_i, m_o_r, m_o_z, m_o_rv, m_C_inl, Option.toList_some, Option.toList_none, List.cons_append, List.nil_append, pf_70, pf_71, gf_386, cl_30, w_vret, tg_38_21, tg_38_74, tg_38_132, k_30_0, k_30_32, tg_30_32, gf_321, gf_322, w_len, w_slen, w_icmp_ge, w_aastore, w_dup_i, w_dup_r, w_dup_z, w_dup_v, w_iadd, pf_321, w_icmp_eq, w_if_eq, hs_n, hs_k, hs_l, hs_R, hs_I, hs_L, hs_setI, hs_setL, hs_cpy, RS_k S, RS_r0 S, RS_r2 S, RS_r3 S, RS_tk S, RS_t0 S, RS_bk S, RS_bl S, RS_t2 S, RS_k0 S, RS_l0 S, RS_t3 S, RS_k1 S, RS_l1 S, RS_t4 S, RS_k2 S, RS_l2 S, RS_t5 S, RS_k3 S, RS_l3 S, RS_t6 S, RS_k4 S, RS_l4 S, RS_w S, pk, pr2, pr10, ck, cl, ok, o0, o1, o3, sk, sl, ak, al, bk, bl, kc, h_n_setR, h_k_setR, h_l_setR, up_up, up_sw, up_sa, up_eq, up_na, up_nk, i_add, i_sub, i_mul, i_tn, i_nat, Int.reduceToNat, Int.reduceAdd, Int.reduceSub, Int.reduceMul, Int.reduceNeg, l_32, l_nat, l_c_lt, l_c_gt, l_c_eq, i_lt, i_eq, i_lt0, i_0lt, i_eq0, i_eq1, Int.reduceLT, Int.reduceEq, Int.reduceLE, Int.reduceNe, not_true_eq_false, not_false_eq_true, Nat.lt_irrefl, Int.lt_irrefl, eq_self, eq_self, Nat.reduceAdd, Nat.reduceMul, Nat.reduceSub, Nat.reduceDiv, Nat.reduceMod, Nat.reduceEqDiff, Nat.reduceLeDiff, Nat.reduceLT, Nat.zero_add, Nat.add_zero, Nat.zero_le, and_false, and_true, and_self, false_and, true_and, or_false, or_true, if_true, if_false, ite_true, ite_false, ↓reduceIte, Int.reduceToNat, Int.reduceAdd, Int.reduceSub, Int.reduceMul, Int.reduceNeg, m_rv_s, m_rv_n, kc, g71, k88, hs_setR, w_aastore, Int.toNat_natCast]
  have YG : q_Y h r l (m_up G4 c 7 (G4 (r + 9) 2)) b (e7, p7) (cs ++ (c3 ++ c4)) := Y_fr (by omega) (fun x y h1 h2 => by rw [up_no (by omega)]) Y4
  have hK := hQ (m_up G4 c 7 (G4 (r + 9) 2)) (e6, p6) (e7, p7) c3 c4 sv3 sv4 YG (k_upc hc B k82) (fun y hy => ?_) (fun z7 => ?_)
  · first
      | exact hK
      | (simp (disch := omega) only [up_sa] at hK ⊢; exact hK)
      | (simp (disch := omega) only [up_sa] at hK; exact hK)
  · rw [up_nk (by omega), g4.1 _ _ (by omega) (by omega) (by omega) (by omega)]
    simp (disch := omega) only [up_eq, up_na, up_nk]
    rw [g2.1 _ _ (by omega) (by omega) (by omega) (by omega)]
    simp (disch := omega) only [up_eq, up_na, up_nk]
  · have z7 : e7 = 0 := z7
    subst z7
    have z6 : e6 = 0 := by
      by_cases z6 : e6 = 0
      · exact z6
      · have := sv_det sv4 (sv_b z6)
        cases this
        exact absurd rfl z6
    subst z6
    have z0 : e = 0 := by
      by_cases z0 : e = 0
      · exact z0
      · have := sv_det sv3 (sv_b z0)
        cases this
        exact absurd rfl z0
    subst z0
    have l0 := (Y.2.2.2 rfl).1.1
    have l2 := (Y2.2.2.2 rfl).1.1
    have l4 := (Y4.2.2.2 rfl).1.1
    simp only [List.length_append] at l2 l4
    refine ⟨?_, ?_, ?_⟩
    · rw [up_nk (by omega), g4.1 _ _ (by omega) (by omega) (by omega) (by omega)]
      simp (disch := omega) only [up_eq, up_na, up_nk]
      rw [g2.1 _ _ (by omega) (by omega) (by omega) (by omega)]
      simp (disch := omega) only [up_eq, up_na, up_nk]
      exact l0
    · rw [up_nk (by omega), g4.1 _ _ (by omega) (by omega) (by omega) (by omega)]
      simp (disch := omega) only [up_eq, up_na, up_nk]
      exact l2
    · rw [up_eq rfl rfl, l4]
      omega
set_option maxHeartbeats 16000000 in
/-- from behind the test on -/
theorem lb_38 {L : Nat} {xs : Nat → Int32} {d : Nat} {h : m_H} {w : Int64} {F : m_M} {Q : Option Value ⊕ Nat → m_H → Prop} {r l : Nat} (S : RS h r l) {b : Nat → Int} {e : Int} {p : Nat} {cs : List Int} (Y : q_Y h r l F b (e, p) cs) {c k : Nat} (hc : r + 13 ≤ c) (hcn : c < m_n h) (kc : m_k h c = 1) (r5 : F r 5 = 0) (k8 : k < 8) (h71 : F (r + 7) 1 = (k : Int)) (hQ : ∀ (G : m_M) (s5 s6 s7 : tx_St) (c2 c3 c4 : List Int), ((tx_nb (b, l) 1 50 (tx_wr (b, l) 2 (e, p))).1.1 = 0 ∧ tx_wd b l (tx_nb (b, l) 1 50 (tx_wr (b, l) 2 (e, p))).1.2 = some (m_X + 1 + 32) → tx_ev (b, l) false 1 3 (0, tx_nx b l (tx_nb (b, l) 1 50 (tx_wr (b, l) 2 (e, p))).1.2) 0 (s5, c2)) → (¬ ((tx_nb (b, l) 1 50 (tx_wr (b, l) 2 (e, p))).1.1 = 0 ∧ tx_wd b l (tx_nb (b, l) 1 50 (tx_wr (b, l) 2 (e, p))).1.2 = some (m_X + 1 + 32)) → s5 = (tx_nb (b, l) 1 50 (tx_wr (b, l) 2 (e, p))).1 ∧ c2 = []) → tx_sv (b, l) 3 2 7 40 s5 (s6, c3) → tx_sv (b, l) 4 3 3 50 s6 (s7, c4) → q_Y h r l G b s7 (cs ++ (c2 ++ (c3 ++ c4))) → q_k r l c F G → (∀ y, y ≤ 1 ∨ y = 3 → G c y = F c y) → (s7.1 = 0 → G c 2 = (tx_nb (b, l) 1 50 (tx_wr (b, l) 2 (e, p))).2 ∧ G c 4 = (cs.length : Int) ∧ G c 5 = ((cs.length + c2.length : Nat) : Int) ∧ G c 6 = ((cs.length + c2.length + c3.length : Nat) : Int) ∧ G c 7 = ((cs.length + c2.length + c3.length + c4.length : Nat) : Int)) → Q (.inl none) (m_hS (m_setR h (r + 8) k (some c)) (w, m_up G (r + 7) 1 ((k : Int) + 1)))) : m_W (p_P L xs) (d + 25) 38 k_38_74 [some (.ref r), some (.ref c)] [] (m_hS h (w, F)) Q := by
  have sb1 := RS_n S
  have sb2 := RS_X S
  have sb3 := RS_o S
  have sb4 := RS_l9 S
  have hX : m_X = 1000000000 := rfl
  obtain ⟨pk, pr2, pr10, ck, cl, ok, o0, o1, o3, sk, sl, ak, al, bk, bl⟩ := RS_p S
  have B := Y.1
  rw [k_38_74]
  simp (disch := first | omega | (simp (disch := omega) only [i_lt0, i_tn, i_nn, m_cat_n, m_cat_i, m_cat_r, m_cat_z, m_cat_rv, m_cat_l, m_o_n, m_o_i, m_o_r, m_o_z, m_o_rv, m_o_f, hs_n, hs_k, hs_l, Nat.reduceLeDiff, not_false_eq_true, or_true, true_or, or_false, false_or, RS_k S, RS_r0 S, RS_r2 S, RS_r3 S, RS_tk S, RS_t0 S, RS_bk S, RS_bl S, RS_t2 S, RS_k0 S, RS_l0 S, RS_t3 S, RS_k1 S, RS_l1 S, RS_t4 S, RS_k2 S, RS_l2 S, RS_t5 S, RS_k3 S, RS_l3 S, RS_t6 S, RS_k4 S, RS_l4 S, RS_w S, pk, pr2, pr10, ck, cl, ok, o0, o1, o3, sk, sl, ak, al, bk, bl, kc]; first | done | omega) | exact Or.inl rfl | exact Or.inr rfl) only [k_38_74, w_aload_0, w_aloadz_0, w_aloadv_0, w_const, m_cat_n, m_cat_i, m_cat_r, m_cat_z, m_cat_rv, m_cat_l, Nat.zero_le, Nat.reduceLeDiff, Nat.reduceAdd, m_o_i, m_o_r, m_o_z, m_o_rv, m_C_inl, Option.toList_some, Option.toList_none, List.cons_append, List.nil_append, w_aload_1, w_aloadz_1, w_aloadv_1, w_iconst, pf_66, gf_387, m_rv_s, m_rv_n, gf_2, pf_68, gf_384, w_if_eq, pf_390, tg_38_21, tg_38_74, tg_38_132, w_icmp_eq, hs_n, hs_k, hs_l, hs_R, hs_I, hs_L, hs_setI, hs_setL, hs_cpy, RS_k S, RS_r0 S, RS_r2 S, RS_r3 S, RS_tk S, RS_t0 S, RS_bk S, RS_bl S, RS_t2 S, RS_k0 S, RS_l0 S, RS_t3 S, RS_k1 S, RS_l1 S, RS_t4 S, RS_k2 S, RS_l2 S, RS_t5 S, RS_k3 S, RS_l3 S, RS_t6 S, RS_k4 S, RS_l4 S, RS_w S, pk, pr2, pr10, ck, cl, ok, o0, o1, o3, sk, sl, ak, al, bk, bl, kc, up_up, up_sw, up_sa, up_eq, up_na, up_nk, i_add, i_sub, i_mul, i_tn, i_nat, Int.reduceToNat, Int.reduceAdd, Int.reduceSub, Int.reduceMul, Int.reduceNeg, l_32, l_nat, l_c_lt, l_c_gt, l_c_eq, i_lt, i_eq, i_lt0, i_0lt, i_eq0, i_eq1, Int.reduceLT, Int.reduceEq, Int.reduceLE, Int.reduceNe, not_true_eq_false, not_false_eq_true, Nat.lt_irrefl, Int.lt_irrefl, eq_self, eq_self, Nat.reduceAdd, Nat.reduceMul, Nat.reduceSub, Nat.reduceDiv, Nat.reduceMod, Nat.reduceEqDiff, Nat.reduceLeDiff, Nat.reduceLT, Nat.zero_add, Nat.add_zero, Nat.zero_le, and_false, and_true, and_self, false_and, true_and, or_false, or_true, if_true, if_false, ite_true, ite_false, ↓reduceIte, Int.reduceToNat, Int.reduceAdd, Int.reduceSub, Int.reduceMul, Int.reduceNeg, m_rv_s, m_rv_n, kc]
  simp (disch := first | omega | (simp (disch := omega) only [i_lt0, i_tn, i_nn, m_cat_n, m_cat_i, m_cat_r, m_cat_z, m_cat_rv, m_cat_l, m_o_n, m_o_i, m_o_r, m_o_z, m_o_rv, m_o_f, hs_n, hs_k, hs_l, Nat.reduceLeDiff, not_false_eq_true, or_true, true_or, or_false, false_or, RS_k S, RS_r0 S, RS_r2 S, RS_r3 S, RS_tk S, RS_t0 S, RS_bk S, RS_bl S, RS_t2 S, RS_k0 S, RS_l0 S, RS_t3 S, RS_k1 S, RS_l1 S, RS_t4 S, RS_k2 S, RS_l2 S, RS_t5 S, RS_k3 S, RS_l3 S, RS_t6 S, RS_k4 S, RS_l4 S, RS_w S, pk, pr2, pr10, ck, cl, ok, o0, o1, o3, sk, sl, ak, al, bk, bl, kc]; first | done | omega) | exact Or.inl rfl | exact Or.inr rfl) only [cl_34, m_cat_n, m_cat_i, m_cat_r, m_cat_z, m_cat_rv, m_cat_l, Nat.zero_le, Nat.reduceLeDiff, Nat.reduceAdd, m_o_i, m_o_r, m_o_z, m_o_rv, hs_n, hs_k, RS_k S, RS_r0 S, RS_r2 S, RS_r3 S, RS_tk S, RS_t0 S, RS_bk S, RS_bl S, RS_t2 S, RS_k0 S, RS_l0 S, RS_t3 S, RS_k1 S, RS_l1 S, RS_t4 S, RS_k2 S, RS_l2 S, RS_t5 S, RS_k3 S, RS_l3 S, RS_t6 S, RS_k4 S, RS_l4 S, RS_w S, pk, pr2, pr10, ck, cl, ok, o0, o1, o3, sk, sl, ak, al, bk, bl, kc]
  refine x_34 (j := 2) S Y (by decide) (fun G1 g1 Y1 => ?_)
  generalize hW : tx_wr (b, l) 2 (e, p) = W9 at Y1 hQ
  obtain ⟨e4, p4⟩ := W9
  simp (disch := first | omega | (simp (disch := omega) only [i_lt0, i_tn, i_nn, m_cat_n, m_cat_i, m_cat_r, m_cat_z, m_cat_rv, m_cat_l, m_o_n, m_o_i, m_o_r, m_o_z, m_o_rv, m_o_f, hs_n, hs_k, hs_l, Nat.reduceLeDiff, not_false_eq_true, or_true, true_or, or_false, false_or, RS_k S, RS_r0 S, RS_r2 S, RS_r3 S, RS_tk S, RS_t0 S, RS_bk S, RS_bl S, RS_t2 S, RS_k0 S, RS_l0 S, RS_t3 S, RS_k1 S, RS_l1 S, RS_t4 S, RS_k2 S, RS_l2 S, RS_t5 S, RS_k3 S, RS_l3 S, RS_t6 S, RS_k4 S, RS_l4 S, RS_w S, pk, pr2, pr10, ck, cl, ok, o0, o1, o3, sk, sl, ak, al, bk, bl, kc]; first | done | omega) | exact Or.inl rfl | exact Or.inr rfl) only [k_38_74, w_aload_0, w_aloadz_0, w_aloadv_0, w_const, m_cat_n, m_cat_i, m_cat_r, m_cat_z, m_cat_rv, m_cat_l, Nat.zero_le, Nat.reduceLeDiff, Nat.reduceAdd, m_o_i, m_o_r, m_o_z, m_o_rv, m_C_inl, Option.toList_some, Option.toList_none, List.cons_append, List.nil_append, w_aload_1, w_aloadz_1, w_aloadv_1, w_iconst, pf_66, gf_387, m_rv_s, m_rv_n, gf_2, pf_68, gf_384, w_if_eq, pf_390, tg_38_21, tg_38_74, tg_38_132, w_icmp_eq, hs_n, hs_k, hs_l, hs_R, hs_I, hs_L, hs_setI, hs_setL, hs_cpy, RS_k S, RS_r0 S, RS_r2 S, RS_r3 S, RS_tk S, RS_t0 S, RS_bk S, RS_bl S, RS_t2 S, RS_k0 S, RS_l0 S, RS_t3 S, RS_k1 S, RS_l1 S, RS_t4 S, RS_k2 S, RS_l2 S, RS_t5 S, RS_k3 S, RS_l3 S, RS_t6 S, RS_k4 S, RS_l4 S, RS_w S, pk, pr2, pr10, ck, cl, ok, o0, o1, o3, sk, sl, ak, al, bk, bl, kc, up_up, up_sw, up_sa, up_eq, up_na, up_nk, i_add, i_sub, i_mul, i_tn, i_nat, Int.reduceToNat, Int.reduceAdd, Int.reduceSub, Int.reduceMul, Int.reduceNeg, l_32, l_nat, l_c_lt, l_c_gt, l_c_eq, i_lt, i_eq, i_lt0, i_0lt, i_eq0, i_eq1, Int.reduceLT, Int.reduceEq, Int.reduceLE, Int.reduceNe, not_true_eq_false, not_false_eq_true, Nat.lt_irrefl, Int.lt_irrefl, eq_self, eq_self, Nat.reduceAdd, Nat.reduceMul, Nat.reduceSub, Nat.reduceDiv, Nat.reduceMod, Nat.reduceEqDiff, Nat.reduceLeDiff, Nat.reduceLT, Nat.zero_add, Nat.add_zero, Nat.zero_le, and_false, and_true, and_self, false_and, true_and, or_false, or_true, if_true, if_false, ite_true, ite_false, ↓reduceIte, Int.reduceToNat, Int.reduceAdd, Int.reduceSub, Int.reduceMul, Int.reduceNeg, m_rv_s, m_rv_n, kc]
  simp (disch := first | omega | (simp (disch := omega) only [i_lt0, i_tn, i_nn, m_cat_n, m_cat_i, m_cat_r, m_cat_z, m_cat_rv, m_cat_l, m_o_n, m_o_i, m_o_r, m_o_z, m_o_rv, m_o_f, hs_n, hs_k, hs_l, Nat.reduceLeDiff, not_false_eq_true, or_true, true_or, or_false, false_or, RS_k S, RS_r0 S, RS_r2 S, RS_r3 S, RS_tk S, RS_t0 S, RS_bk S, RS_bl S, RS_t2 S, RS_k0 S, RS_l0 S, RS_t3 S, RS_k1 S, RS_l1 S, RS_t4 S, RS_k2 S, RS_l2 S, RS_t5 S, RS_k3 S, RS_l3 S, RS_t6 S, RS_k4 S, RS_l4 S, RS_w S, pk, pr2, pr10, ck, cl, ok, o0, o1, o3, sk, sl, ak, al, bk, bl, kc]; first | done | omega) | exact Or.inl rfl | exact Or.inr rfl) only [cl_36, m_cat_n, m_cat_i, m_cat_r, m_cat_z, m_cat_rv, m_cat_l, Nat.zero_le, Nat.reduceLeDiff, Nat.reduceAdd, m_o_i, m_o_r, m_o_z, m_o_rv, hs_n, hs_k, RS_k S, RS_r0 S, RS_r2 S, RS_r3 S, RS_tk S, RS_t0 S, RS_bk S, RS_bl S, RS_t2 S, RS_k0 S, RS_l0 S, RS_t3 S, RS_k1 S, RS_l1 S, RS_t4 S, RS_k2 S, RS_l2 S, RS_t5 S, RS_k3 S, RS_l3 S, RS_t6 S, RS_k4 S, RS_l4 S, RS_w S, pk, pr2, pr10, ck, cl, ok, o0, o1, o3, sk, sl, ak, al, bk, bl, kc]
  have nc9 := nb_c (T := (b, l)) (lo := 1) (hi := 50) (s := (e4, p4))
  refine x_36 S Y1 (by decide) (by decide) (by decide) (fun G2 g2 Y2 => ?_)
  generalize hN : tx_nb (b, l) 1 50 (e4, p4) = N at Y2 hQ nc9 ⊢
  obtain ⟨⟨e5, p5⟩, tm⟩ := N
  dsimp only at Y2 hQ nc9 ⊢
  have B2 := Y2.1
  have g12 := r_tr g1 g2
  simp (disch := first | omega | (simp (disch := omega) only [i_lt0, i_tn, i_nn, m_cat_n, m_cat_i, m_cat_r, m_cat_z, m_cat_rv, m_cat_l, m_o_n, m_o_i, m_o_r, m_o_z, m_o_rv, m_o_f, hs_n, hs_k, hs_l, Nat.reduceLeDiff, not_false_eq_true, or_true, true_or, or_false, false_or, RS_k S, RS_r0 S, RS_r2 S, RS_r3 S, RS_tk S, RS_t0 S, RS_bk S, RS_bl S, RS_t2 S, RS_k0 S, RS_l0 S, RS_t3 S, RS_k1 S, RS_l1 S, RS_t4 S, RS_k2 S, RS_l2 S, RS_t5 S, RS_k3 S, RS_l3 S, RS_t6 S, RS_k4 S, RS_l4 S, RS_w S, pk, pr2, pr10, ck, cl, ok, o0, o1, o3, sk, sl, ak, al, bk, bl, kc]; first | done | omega) | exact Or.inl rfl | exact Or.inr rfl) only [k_38_74, w_aload_0, w_aloadz_0, w_aloadv_0, w_const, m_cat_n, m_cat_i, m_cat_r, m_cat_z, m_cat_rv, m_cat_l, Nat.zero_le, Nat.reduceLeDiff, Nat.reduceAdd, m_o_i, m_o_r, m_o_z, m_o_rv, m_C_inl, Option.toList_some, Option.toList_none, List.cons_append, List.nil_append, w_aload_1, w_aloadz_1, w_aloadv_1, w_iconst, pf_66, gf_387, m_rv_s, m_rv_n, gf_2, pf_68, gf_384, w_if_eq, pf_390, tg_38_21, tg_38_74, tg_38_132, w_icmp_eq, hs_n, hs_k, hs_l, hs_R, hs_I, hs_L, hs_setI, hs_setL, hs_cpy, RS_k S, RS_r0 S, RS_r2 S, RS_r3 S, RS_tk S, RS_t0 S, RS_bk S, RS_bl S, RS_t2 S, RS_k0 S, RS_l0 S, RS_t3 S, RS_k1 S, RS_l1 S, RS_t4 S, RS_k2 S, RS_l2 S, RS_t5 S, RS_k3 S, RS_l3 S, RS_t6 S, RS_k4 S, RS_l4 S, RS_w S, pk, pr2, pr10, ck, cl, ok, o0, o1, o3, sk, sl, ak, al, bk, bl, kc, up_up, up_sw, up_sa, up_eq, up_na, up_nk, i_add, i_sub, i_mul, i_tn, i_nat, Int.reduceToNat, Int.reduceAdd, Int.reduceSub, Int.reduceMul, Int.reduceNeg, l_32, l_nat, l_c_lt, l_c_gt, l_c_eq, i_lt, i_eq, i_lt0, i_0lt, i_eq0, i_eq1, Int.reduceLT, Int.reduceEq, Int.reduceLE, Int.reduceNe, not_true_eq_false, not_false_eq_true, Nat.lt_irrefl, Int.lt_irrefl, eq_self, eq_self, Nat.reduceAdd, Nat.reduceMul, Nat.reduceSub, Nat.reduceDiv, Nat.reduceMod, Nat.reduceEqDiff, Nat.reduceLeDiff, Nat.reduceLT, Nat.zero_add, Nat.add_zero, Nat.zero_le, and_false, and_true, and_self, false_and, true_and, or_false, or_true, if_true, if_false, ite_true, ite_false, ↓reduceIte, Int.reduceToNat, Int.reduceAdd, Int.reduceSub, Int.reduceMul, Int.reduceNeg, m_rv_s, m_rv_n, kc]
  simp (disch := first | omega | (simp (disch := omega) only [i_lt0, i_tn, i_nn, m_cat_n, m_cat_i, m_cat_r, m_cat_z, m_cat_rv, m_cat_l, m_o_n, m_o_i, m_o_r, m_o_z, m_o_rv, m_o_f, hs_n, hs_k, hs_l, Nat.reduceLeDiff, not_false_eq_true, or_true, true_or, or_false, false_or, RS_k S, RS_r0 S, RS_r2 S, RS_r3 S, RS_tk S, RS_t0 S, RS_bk S, RS_bl S, RS_t2 S, RS_k0 S, RS_l0 S, RS_t3 S, RS_k1 S, RS_l1 S, RS_t4 S, RS_k2 S, RS_l2 S, RS_t5 S, RS_k3 S, RS_l3 S, RS_t6 S, RS_k4 S, RS_l4 S, RS_w S, pk, pr2, pr10, ck, cl, ok, o0, o1, o3, sk, sl, ak, al, bk, bl, kc]; first | done | omega) | exact Or.inl rfl | exact Or.inr rfl) only [cl_73, m_cat_n, m_cat_i, m_cat_r, m_cat_z, m_cat_rv, m_cat_l, Nat.zero_le, Nat.reduceLeDiff, Nat.reduceAdd, m_o_i, m_o_r, m_o_z, m_o_rv, hs_n, hs_k, RS_k S, RS_r0 S, RS_r2 S, RS_r3 S, RS_tk S, RS_t0 S, RS_bk S, RS_bl S, RS_t2 S, RS_k0 S, RS_l0 S, RS_t3 S, RS_k1 S, RS_l1 S, RS_t4 S, RS_k2 S, RS_l2 S, RS_t5 S, RS_k3 S, RS_l3 S, RS_t6 S, RS_k4 S, RS_l4 S, RS_w S, pk, pr2, pr10, ck, cl, ok, o0, o1, o3, sk, sl, ak, al, bk, bl, kc]
  have YK : ∀ K : m_M, (∀ x y, x < r + 13 → ¬ (x = r ∧ y = 6) → K x y = G2 x y) → q_Y h r l K b (e5, p5) cs := fun K hK => Y_fr (by omega) hK Y2
  refine x_73 S (YK _ (fun x y h1 h2 => by rw [up_no (by omega), up_no (by omega)])) (k := m_X + 1 + 32) (by decide) (fun z5 hw => ?_) (fun q0 => ?_)
  · subst z5
    have hp : p5 < l := (tx_k1.mp (tx_wk (T := (b, l)) hw)).1
    have gt := tx_nx_gt (b := b) hp
    simp (disch := first | omega | (simp (disch := omega) only [i_lt0, i_tn, i_nn, m_cat_n, m_cat_i, m_cat_r, m_cat_z, m_cat_rv, m_cat_l, m_o_n, m_o_i, m_o_r, m_o_z, m_o_rv, m_o_f, hs_n, hs_k, hs_l, Nat.reduceLeDiff, not_false_eq_true, or_true, true_or, or_false, false_or, RS_k S, RS_r0 S, RS_r2 S, RS_r3 S, RS_tk S, RS_t0 S, RS_bk S, RS_bl S, RS_t2 S, RS_k0 S, RS_l0 S, RS_t3 S, RS_k1 S, RS_l1 S, RS_t4 S, RS_k2 S, RS_l2 S, RS_t5 S, RS_k3 S, RS_l3 S, RS_t6 S, RS_k4 S, RS_l4 S, RS_w S, pk, pr2, pr10, ck, cl, ok, o0, o1, o3, sk, sl, ak, al, bk, bl, kc]; first | done | omega) | exact Or.inl rfl | exact Or.inr rfl) only [k_38_74, w_aload_0, w_aloadz_0, w_aloadv_0, w_const, m_cat_n, m_cat_i, m_cat_r, m_cat_z, m_cat_rv, m_cat_l, Nat.zero_le, Nat.reduceLeDiff, Nat.reduceAdd, m_o_i, m_o_r, m_o_z, m_o_rv, m_C_inl, Option.toList_some, Option.toList_none, List.cons_append, List.nil_append, w_aload_1, w_aloadz_1, w_aloadv_1, w_iconst, pf_66, gf_387, m_rv_s, m_rv_n, gf_2, pf_68, gf_384, w_if_eq, pf_390, tg_38_21, tg_38_74, tg_38_132, w_icmp_eq, hs_n, hs_k, hs_l, hs_R, hs_I, hs_L, hs_setI, hs_setL, hs_cpy, RS_k S, RS_r0 S, RS_r2 S, RS_r3 S, RS_tk S, RS_t0 S, RS_bk S, RS_bl S, RS_t2 S, RS_k0 S, RS_l0 S, RS_t3 S, RS_k1 S, RS_l1 S, RS_t4 S, RS_k2 S, RS_l2 S, RS_t5 S, RS_k3 S, RS_l3 S, RS_t6 S, RS_k4 S, RS_l4 S, RS_w S, pk, pr2, pr10, ck, cl, ok, o0, o1, o3, sk, sl, ak, al, bk, bl, kc, up_up, up_sw, up_sa, up_eq, up_na, up_nk, i_add, i_sub, i_mul, i_tn, i_nat, Int.reduceToNat, Int.reduceAdd, Int.reduceSub, Int.reduceMul, Int.reduceNeg, l_32, l_nat, l_c_lt, l_c_gt, l_c_eq, i_lt, i_eq, i_lt0, i_0lt, i_eq0, i_eq1, Int.reduceLT, Int.reduceEq, Int.reduceLE, Int.reduceNe, not_true_eq_false, not_false_eq_true, Nat.lt_irrefl, Int.lt_irrefl, eq_self, eq_self, Nat.reduceAdd, Nat.reduceMul, Nat.reduceSub, Nat.reduceDiv, Nat.reduceMod, Nat.reduceEqDiff, Nat.reduceLeDiff, Nat.reduceLT, Nat.zero_add, Nat.add_zero, Nat.zero_le, and_false, and_true, and_self, false_and, true_and, or_false, or_true, if_true, if_false, ite_true, ite_false, ↓reduceIte, Int.reduceToNat, Int.reduceAdd, Int.reduceSub, Int.reduceMul, Int.reduceNeg, m_rv_s, m_rv_n, kc]
    simp (disch := first | omega | (simp (disch := omega) only [i_lt0, i_tn, i_nn, m_cat_n, m_cat_i, m_cat_r, m_cat_z, m_cat_rv, m_cat_l, m_o_n, m_o_i, m_o_r, m_o_z, m_o_rv, m_o_f, hs_n, hs_k, hs_l, Nat.reduceLeDiff, not_false_eq_true, or_true, true_or, or_false, false_or, RS_k S, RS_r0 S, RS_r2 S, RS_r3 S, RS_tk S, RS_t0 S, RS_bk S, RS_bl S, RS_t2 S, RS_k0 S, RS_l0 S, RS_t3 S, RS_k1 S, RS_l1 S, RS_t4 S, RS_k2 S, RS_l2 S, RS_t5 S, RS_k3 S, RS_l3 S, RS_t6 S, RS_k4 S, RS_l4 S, RS_w S, pk, pr2, pr10, ck, cl, ok, o0, o1, o3, sk, sl, ak, al, bk, bl, kc]; first | done | omega) | exact Or.inl rfl | exact Or.inr rfl) only [cl_67, m_cat_n, m_cat_i, m_cat_r, m_cat_z, m_cat_rv, m_cat_l, Nat.zero_le, Nat.reduceLeDiff, Nat.reduceAdd, m_o_i, m_o_r, m_o_z, m_o_rv, hs_n, hs_k, RS_k S, RS_r0 S, RS_r2 S, RS_r3 S, RS_tk S, RS_t0 S, RS_bk S, RS_bl S, RS_t2 S, RS_k0 S, RS_l0 S, RS_t3 S, RS_k1 S, RS_l1 S, RS_t4 S, RS_k2 S, RS_l2 S, RS_t5 S, RS_k3 S, RS_l3 S, RS_t6 S, RS_k4 S, RS_l4 S, RS_w S, pk, pr2, pr10, ck, cl, ok, o0, o1, o3, sk, sl, ak, al, bk, bl, kc]
    refine xa_67 S (YK _ (fun x y h1 h2 => by rw [up_no (by omega), up_no (by omega)])) hp (fun G3 g3 Y3 => ?_)
    simp (disch := first | omega | (simp (disch := omega) only [i_lt0, i_tn, i_nn, m_cat_n, m_cat_i, m_cat_r, m_cat_z, m_cat_rv, m_cat_l, m_o_n, m_o_i, m_o_r, m_o_z, m_o_rv, m_o_f, hs_n, hs_k, hs_l, Nat.reduceLeDiff, not_false_eq_true, or_true, true_or, or_false, false_or, RS_k S, RS_r0 S, RS_r2 S, RS_r3 S, RS_tk S, RS_t0 S, RS_bk S, RS_bl S, RS_t2 S, RS_k0 S, RS_l0 S, RS_t3 S, RS_k1 S, RS_l1 S, RS_t4 S, RS_k2 S, RS_l2 S, RS_t5 S, RS_k3 S, RS_l3 S, RS_t6 S, RS_k4 S, RS_l4 S, RS_w S, pk, pr2, pr10, ck, cl, ok, o0, o1, o3, sk, sl, ak, al, bk, bl, kc]; first | done | omega) | exact Or.inl rfl | exact Or.inr rfl) only [k_38_74, w_aload_0, w_aloadz_0, w_aloadv_0, w_const, m_cat_n, m_cat_i, m_cat_r, m_cat_z, m_cat_rv, m_cat_l, Nat.zero_le, Nat.reduceLeDiff, Nat.reduceAdd, m_o_i, m_o_r, m_o_z, m_o_rv, m_C_inl, Option.toList_some, Option.toList_none, List.cons_append, List.nil_append, w_aload_1, w_aloadz_1, w_aloadv_1, w_iconst, pf_66, gf_387, m_rv_s, m_rv_n, gf_2, pf_68, gf_384, w_if_eq, pf_390, tg_38_21, tg_38_74, tg_38_132, w_icmp_eq, hs_n, hs_k, hs_l, hs_R, hs_I, hs_L, hs_setI, hs_setL, hs_cpy, RS_k S, RS_r0 S, RS_r2 S, RS_r3 S, RS_tk S, RS_t0 S, RS_bk S, RS_bl S, RS_t2 S, RS_k0 S, RS_l0 S, RS_t3 S, RS_k1 S, RS_l1 S, RS_t4 S, RS_k2 S, RS_l2 S, RS_t5 S, RS_k3 S, RS_l3 S, RS_t6 S, RS_k4 S, RS_l4 S, RS_w S, pk, pr2, pr10, ck, cl, ok, o0, o1, o3, sk, sl, ak, al, bk, bl, kc, up_up, up_sw, up_sa, up_eq, up_na, up_nk, i_add, i_sub, i_mul, i_tn, i_nat, Int.reduceToNat, Int.reduceAdd, Int.reduceSub, Int.reduceMul, Int.reduceNeg, l_32, l_nat, l_c_lt, l_c_gt, l_c_eq, i_lt, i_eq, i_lt0, i_0lt, i_eq0, i_eq1, Int.reduceLT, Int.reduceEq, Int.reduceLE, Int.reduceNe, not_true_eq_false, not_false_eq_true, Nat.lt_irrefl, Int.lt_irrefl, eq_self, eq_self, Nat.reduceAdd, Nat.reduceMul, Nat.reduceSub, Nat.reduceDiv, Nat.reduceMod, Nat.reduceEqDiff, Nat.reduceLeDiff, Nat.reduceLT, Nat.zero_add, Nat.add_zero, Nat.zero_le, and_false, and_true, and_self, false_and, true_and, or_false, or_true, if_true, if_false, ite_true, ite_false, ↓reduceIte, Int.reduceToNat, Int.reduceAdd, Int.reduceSub, Int.reduceMul, Int.reduceNeg, m_rv_s, m_rv_n, kc]
    simp (disch := first | omega | (simp (disch := omega) only [i_lt0, i_tn, i_nn, m_cat_n, m_cat_i, m_cat_r, m_cat_z, m_cat_rv, m_cat_l, m_o_n, m_o_i, m_o_r, m_o_z, m_o_rv, m_o_f, hs_n, hs_k, hs_l, Nat.reduceLeDiff, not_false_eq_true, or_true, true_or, or_false, false_or, RS_k S, RS_r0 S, RS_r2 S, RS_r3 S, RS_tk S, RS_t0 S, RS_bk S, RS_bl S, RS_t2 S, RS_k0 S, RS_l0 S, RS_t3 S, RS_k1 S, RS_l1 S, RS_t4 S, RS_k2 S, RS_l2 S, RS_t5 S, RS_k3 S, RS_l3 S, RS_t6 S, RS_k4 S, RS_l4 S, RS_w S, pk, pr2, pr10, ck, cl, ok, o0, o1, o3, sk, sl, ak, al, bk, bl, kc]; first | done | omega) | exact Or.inl rfl | exact Or.inr rfl) only [cl_48, m_cat_n, m_cat_i, m_cat_r, m_cat_z, m_cat_rv, m_cat_l, Nat.zero_le, Nat.reduceLeDiff, Nat.reduceAdd, m_o_i, m_o_r, m_o_z, m_o_rv, hs_n, hs_k, RS_k S, RS_r0 S, RS_r2 S, RS_r3 S, RS_tk S, RS_t0 S, RS_bk S, RS_bl S, RS_t2 S, RS_k0 S, RS_l0 S, RS_t3 S, RS_k1 S, RS_l1 S, RS_t4 S, RS_k2 S, RS_l2 S, RS_t5 S, RS_k3 S, RS_l3 S, RS_t6 S, RS_k4 S, RS_l4 S, RS_w S, pk, pr2, pr10, ck, cl, ok, o0, o1, o3, sk, sl, ak, al, bk, bl, kc]
    refine x_48 (a := false) (pl := 1) S (Y_fr (by omega) (fun x y h1 h2 => by rw [up_no (by omega)]) Y3) (by simp (disch := omega) only [up_eq, up_na, up_nk]) (by decide) (fun G4 s5 c2 g4 ev4 Y4 => ?_)
    have r53 : G3 r 5 = 0 := by
      rw [g3.1 _ _ (by omega) (by omega) (by omega) (by omega)]
      simp (disch := omega) only [up_eq, up_na, up_nk]
      exact (g12.1 _ _ (by omega) (by omega) (by omega) (by omega)).trans r5
    rw [show m_up G3 r 6 1 r 5 = 0 by rw [up_nk (by omega)]; exact r53] at ev4
    obtain ⟨e5', p5'⟩ := s5
    have k4 : q_k r l c F G4 := by
      refine k_tr (k_tr (k_r g12) (k_tr ?_ (k_r g3))) (k_tr ?_ (k_r g4))
      · exact ⟨fun x y a b x1 x2 x3 x4 => by rw [up_no (by omega), up_no (by omega)], fun y hy => by rw [up_no (by omega), up_no (by omega)], by simp (disch := omega) only [up_na]; exact B2.2.2.1, by simp (disch := omega) only [up_na]; exact B2.2.2.2.1⟩
      · exact ⟨fun x y a b x1 x2 x3 x4 => by rw [up_no (by omega)], fun y hy => by rw [up_no (by omega)], by simp (disch := omega) only [up_na]; exact Y3.1.2.2.1, by simp (disch := omega) only [up_na]; exact Y3.1.2.2.2.1⟩
    have f4 : ∀ y, G4 c y = G3 c y := fun y => by
      rw [g4.1 _ _ (by omega) (by omega) (by omega) (by omega)]
      simp (disch := omega) only [up_eq, up_na, up_nk]
    have f3 : ∀ y, ¬ (y = 2 ∨ y = 4) → G3 c y = F c y := fun y hy => by
      rw [g3.1 _ _ (by omega) (by omega) (by omega) (by omega)]
      rw [up_no (by omega), up_no (by omega)]
      exact g12.1 _ _ (by omega) (by omega) (by omega) (by omega)
    have f32 : G3 c 2 = tm := by
      rw [g3.1 _ _ (by omega) (by omega) (by omega) (by omega)]
      simp (disch := omega) only [up_eq, up_na, up_nk]
    have f34 : G3 c 4 = (cs.length : Int) := by
      rw [g3.1 _ _ (by omega) (by omega) (by omega) (by omega)]
      simp (disch := omega) only [up_eq, up_na, up_nk]
      exact (Y2.2.2.2 rfl).1.1
    simp (disch := first | omega | (simp (disch := omega) only [i_lt0, i_tn, i_nn, m_cat_n, m_cat_i, m_cat_r, m_cat_z, m_cat_rv, m_cat_l, m_o_n, m_o_i, m_o_r, m_o_z, m_o_rv, m_o_f, hs_n, hs_k, hs_l, Nat.reduceLeDiff, not_false_eq_true, or_true, true_or, or_false, false_or, RS_k S, RS_r0 S, RS_r2 S, RS_r3 S, RS_tk S, RS_t0 S, RS_bk S, RS_bl S, RS_t2 S, RS_k0 S, RS_l0 S, RS_t3 S, RS_k1 S, RS_l1 S, RS_t4 S, RS_k2 S, RS_l2 S, RS_t5 S, RS_k3 S, RS_l3 S, RS_t6 S, RS_k4 S, RS_l4 S, RS_w S, pk, pr2, pr10, ck, cl, ok, o0, o1, o3, sk, sl, ak, al, bk, bl, kc]; first | done | omega) | exact Or.inl rfl | exact Or.inr rfl) only [k_38_74, w_aload_0, w_aloadz_0, w_aloadv_0, w_const, m_cat_n, m_cat_i, m_cat_r, m_cat_z, m_cat_rv, m_cat_l, Nat.zero_le, Nat.reduceLeDiff, Nat.reduceAdd, m_o_i, m_o_r, m_o_z, m_o_rv, m_C_inl, Option.toList_some, Option.toList_none, List.cons_append, List.nil_append, w_aload_1, w_aloadz_1, w_aloadv_1, w_iconst, pf_66, gf_387, m_rv_s, m_rv_n, gf_2, pf_68, gf_384, w_if_eq, pf_390, tg_38_21, tg_38_74, tg_38_132, w_icmp_eq, hs_n, hs_k, hs_l, hs_R, hs_I, hs_L, hs_setI, hs_setL, hs_cpy, RS_k S, RS_r0 S, RS_r2 S, RS_r3 S, RS_tk S, RS_t0 S, RS_bk S, RS_bl S, RS_t2 S, RS_k0 S, RS_l0 S, RS_t3 S, RS_k1 S, RS_l1 S, RS_t4 S, RS_k2 S, RS_l2 S, RS_t5 S, RS_k3 S, RS_l3 S, RS_t6 S, RS_k4 S, RS_l4 S, RS_w S, pk, pr2, pr10, ck, cl, ok, o0, o1, o3, sk, sl, ak, al, bk, bl, kc, up_up, up_sw, up_sa, up_eq, up_na, up_nk, i_add, i_sub, i_mul, i_tn, i_nat, Int.reduceToNat, Int.reduceAdd, Int.reduceSub, Int.reduceMul, Int.reduceNeg, l_32, l_nat, l_c_lt, l_c_gt, l_c_eq, i_lt, i_eq, i_lt0, i_0lt, i_eq0, i_eq1, Int.reduceLT, Int.reduceEq, Int.reduceLE, Int.reduceNe, not_true_eq_false, not_false_eq_true, Nat.lt_irrefl, Int.lt_irrefl, eq_self, eq_self, Nat.reduceAdd, Nat.reduceMul, Nat.reduceSub, Nat.reduceDiv, Nat.reduceMod, Nat.reduceEqDiff, Nat.reduceLeDiff, Nat.reduceLT, Nat.zero_add, Nat.add_zero, Nat.zero_le, and_false, and_true, and_self, false_and, true_and, or_false, or_true, if_true, if_false, ite_true, ite_false, ↓reduceIte, Int.reduceToNat, Int.reduceAdd, Int.reduceSub, Int.reduceMul, Int.reduceNeg, m_rv_s, m_rv_n, kc]
    refine la_38 S Y4 hc hcn kc ((k4.1 _ _ (by omega) (by omega) (by omega) (by omega) (by omega) (by omega)).trans r5) k8 ((k4.1 _ _ (by omega) (by omega) (by omega) (by omega) (by omega) (by omega)).trans h71) (fun G s6 s7 c3 c4 sv3 sv4 YG kG fG hf => ?_)
    refine hQ G (e5', p5') s6 s7 c2 c3 c4 (fun _ => ev4) (fun q => absurd ⟨rfl, hw⟩ q) sv3 sv4 (by simpa only [List.append_assoc] using YG) (k_tr k4 kG) (fun y hy => by rw [fG y (by omega), f4, f3 y (by omega)]) (fun z7 => ?_)
    obtain ⟨t1, t2, t3⟩ := hf z7
    rw [List.length_append] at t1 t2 t3
    exact ⟨by rw [fG 2 (by omega), f4, f32], by rw [fG 4 (by omega), f4, f34], t1, t2, t3⟩
  · simp (disch := first | omega | (simp (disch := omega) only [i_lt0, i_tn, i_nn, m_cat_n, m_cat_i, m_cat_r, m_cat_z, m_cat_rv, m_cat_l, m_o_n, m_o_i, m_o_r, m_o_z, m_o_rv, m_o_f, hs_n, hs_k, hs_l, Nat.reduceLeDiff, not_false_eq_true, or_true, true_or, or_false, false_or, RS_k S, RS_r0 S, RS_r2 S, RS_r3 S, RS_tk S, RS_t0 S, RS_bk S, RS_bl S, RS_t2 S, RS_k0 S, RS_l0 S, RS_t3 S, RS_k1 S, RS_l1 S, RS_t4 S, RS_k2 S, RS_l2 S, RS_t5 S, RS_k3 S, RS_l3 S, RS_t6 S, RS_k4 S, RS_l4 S, RS_w S, pk, pr2, pr10, ck, cl, ok, o0, o1, o3, sk, sl, ak, al, bk, bl, kc]; first | done | omega) | exact Or.inl rfl | exact Or.inr rfl) only [k_38_74, w_aload_0, w_aloadz_0, w_aloadv_0, w_const, m_cat_n, m_cat_i, m_cat_r, m_cat_z, m_cat_rv, m_cat_l, Nat.zero_le, Nat.reduceLeDiff, Nat.reduceAdd, m_o_i, m_o_r, m_o_z, m_o_rv, m_C_inl, Option.toList_some, Option.toList_none, List.cons_append, List.nil_append, w_aload_1, w_aloadz_1, w_aloadv_1, w_iconst, pf_66, gf_387, m_rv_s, m_rv_n, gf_2, pf_68, gf_384, w_if_eq, pf_390, tg_38_21, tg_38_74, tg_38_132, w_icmp_eq, hs_n, hs_k, hs_l, hs_R, hs_I, hs_L, hs_setI, hs_setL, hs_cpy, RS_k S, RS_r0 S, RS_r2 S, RS_r3 S, RS_tk S, RS_t0 S, RS_bk S, RS_bl S, RS_t2 S, RS_k0 S, RS_l0 S, RS_t3 S, RS_k1 S, RS_l1 S, RS_t4 S, RS_k2 S, RS_l2 S, RS_t5 S, RS_k3 S, RS_l3 S, RS_t6 S, RS_k4 S, RS_l4 S, RS_w S, pk, pr2, pr10, ck, cl, ok, o0, o1, o3, sk, sl, ak, al, bk, bl, kc, up_up, up_sw, up_sa, up_eq, up_na, up_nk, i_add, i_sub, i_mul, i_tn, i_nat, Int.reduceToNat, Int.reduceAdd, Int.reduceSub, Int.reduceMul, Int.reduceNeg, l_32, l_nat, l_c_lt, l_c_gt, l_c_eq, i_lt, i_eq, i_lt0, i_0lt, i_eq0, i_eq1, Int.reduceLT, Int.reduceEq, Int.reduceLE, Int.reduceNe, not_true_eq_false, not_false_eq_true, Nat.lt_irrefl, Int.lt_irrefl, eq_self, eq_self, Nat.reduceAdd, Nat.reduceMul, Nat.reduceSub, Nat.reduceDiv, Nat.reduceMod, Nat.reduceEqDiff, Nat.reduceLeDiff, Nat.reduceLT, Nat.zero_add, Nat.add_zero, Nat.zero_le, and_false, and_true, and_self, false_and, true_and, or_false, or_true, if_true, if_false, ite_true, ite_false, ↓reduceIte, Int.reduceToNat, Int.reduceAdd, Int.reduceSub, Int.reduceMul, Int.reduceNeg, m_rv_s, m_rv_n, kc]
    refine la_38 S (YK _ (fun x y h1 h2 => by rw [up_no (by omega), up_no (by omega)])) hc hcn kc (by simp (disch := omega) only [up_eq, up_na, up_nk]; exact (g12.1 _ _ (by omega) (by omega) (by omega) (by omega)).trans r5) k8 (by simp (disch := omega) only [up_eq, up_na, up_nk]; exact (g12.1 _ _ (by omega) (by omega) (by omega) (by omega)).trans h71) (fun G s6 s7 c3 c4 sv3 sv4 YG kG fG hf => ?_)
    refine hQ G (e5, p5) s6 s7 [] c3 c4 (fun q => absurd q.2 (q0 q.1)) (fun _ => ⟨rfl, rfl⟩) sv3 sv4 (by simpa only [List.nil_append] using YG) (k_tr (k_tr (k_r g12) ?_) kG) (fun y hy => ?_) (fun z7 => ?_)
    · exact ⟨fun x y a b x1 x2 x3 x4 => by rw [up_no (by omega), up_no (by omega)], fun y hy => by rw [up_no (by omega), up_no (by omega)], by simp (disch := omega) only [up_na]; exact B2.2.2.1, by simp (disch := omega) only [up_na]; exact B2.2.2.2.1⟩
    · rw [fG y (by omega), up_no (by omega), up_no (by omega)]
      exact g12.1 _ _ (by omega) (by omega) (by omega) (by omega)
    · obtain ⟨t1, t2, t3⟩ := hf z7
      have z5 : e5 = 0 := by
        obtain ⟨e7, p7⟩ := s7
        obtain ⟨e6, p6⟩ := s6
        have z7 : e7 = 0 := z7
        subst z7
        have z6 : e6 = 0 := by
          by_cases z6 : e6 = 0
          · exact z6
          · have := sv_det sv4 (sv_b z6)
            cases this
            exact absurd rfl z6
        subst z6
        by_cases z0 : e5 = 0
        · exact z0
        · have := sv_det sv3 (sv_b z0)
          cases this
          exact absurd rfl z0
      refine ⟨?_, ?_, t1, t2, t3⟩
      · rw [fG 2 (by omega)]
        simp (disch := omega) only [up_eq, up_na, up_nk]
      · rw [fG 4 (by omega)]
        simp (disch := omega) only [up_eq, up_na, up_nk]
        exact (Y2.2.2.2 z5).1.1
set_option maxHeartbeats 16000000 in
/-- readCommand -/
theorem x_38 {L : Nat} {xs : Nat → Int32} {d : Nat} {h : m_H} {w : Int64} {F : m_M} {Q : Option Value ⊕ Nat → m_H → Prop} {r l : Nat} (S : RS h r l) {b : Nat → Int} {p : Nat} {G : tx_G} (Y : q_Y h r l F b (0, p) G.2.2) (C : q_cmd h (r + 7) (F (r + 7) 1)) (hX9 : (m_n h : Int) + 10 ≤ m_X + F (r + 7) 1) (K : q_K h r l F G) (r5 : F r 5 = 0) (r1 : F r 1 = 0) (hw : tx_is (b, l) p 1) (hQ : ∀ (h' : m_H) (F' : m_M) (Z : tx_G × tx_St), tx_c1 (b, l) G p Z → q_cg r l h h' F F' → q_Y h' r l F' b Z.2 Z.1.2.2 → (∀ x, x ≤ 6 → ¬ x = 6 → F' r x = F r x) → (Z.2.1 = 0 → q_K h' r l F' Z.1) → Q (.inl none) (m_hS h' (w, F'))) : m_W (p_P L xs) (d + 49) 38 k_38_0 [some (.ref r), none] [] (m_hS h (w, F)) Q := by
  have sb1 := RS_n S
  have sb2 := RS_X S
  have sb3 := RS_o S
  have sb4 := RS_l9 S
  have hX : m_X = 1000000000 := rfl
  obtain ⟨pk, pr2, pr10, ck, cl, ok, o0, o1, o3, sk, sl, ak, al, bk, bl⟩ := RS_p S
  have B := Y.1
  obtain ⟨kD, k71, kl, kM⟩ := K
  have hp : p < l := (tx_k1.mp (tx_wk (T := (b, l)) hw)).1
  have gt := tx_nx_gt (b := b) hp
  have le := tx_nx_le (b := b) hp
  by_cases c8 : G.2.1.length = 8
  · have n8 : ¬ F (r + 7) 1 < 8 := by omega
    rw [k_38_0]
    simp (disch := first | omega | (simp (disch := omega) only [i_lt0, i_tn, i_nn, m_cat_n, m_cat_i, m_cat_r, m_cat_z, m_cat_rv, m_cat_l, m_o_n, m_o_i, m_o_r, m_o_z, m_o_rv, m_o_f, hs_n, hs_k, hs_l, Nat.reduceLeDiff, not_false_eq_true, or_true, true_or, or_false, false_or, RS_k S, RS_r0 S, RS_r2 S, RS_r3 S, RS_tk S, RS_t0 S, RS_bk S, RS_bl S, RS_t2 S, RS_k0 S, RS_l0 S, RS_t3 S, RS_k1 S, RS_l1 S, RS_t4 S, RS_k2 S, RS_l2 S, RS_t5 S, RS_k3 S, RS_l3 S, RS_t6 S, RS_k4 S, RS_l4 S, RS_w S, pk, pr2, pr10, ck, cl, ok, o0, o1, o3, sk, sl, ak, al, bk, bl]; first | done | omega) | exact Or.inl rfl | exact Or.inr rfl) only [k_38_0, w_aload_0, w_aloadz_0, w_aloadv_0, gf_386, m_rv_s, m_rv_n, gf_321, w_iconst, w_icmp_lt, gf_384, m_cat_n, m_cat_i, m_cat_r, m_cat_z, m_cat_rv, m_cat_l, Nat.zero_le, Nat.reduceLeDiff, Nat.reduceAdd, m_o_i, m_o_r, m_o_z, m_o_rv, m_C_inl, Option.toList_some, Option.toList_none, List.cons_append, List.nil_append, w_vret, tg_38_21, tg_38_74, tg_38_132, w_icmp_eq, w_if_eq, hs_n, hs_k, hs_l, hs_R, hs_I, hs_L, hs_setI, hs_setL, hs_cpy, RS_k S, RS_r0 S, RS_r2 S, RS_r3 S, RS_tk S, RS_t0 S, RS_bk S, RS_bl S, RS_t2 S, RS_k0 S, RS_l0 S, RS_t3 S, RS_k1 S, RS_l1 S, RS_t4 S, RS_k2 S, RS_l2 S, RS_t5 S, RS_k3 S, RS_l3 S, RS_t6 S, RS_k4 S, RS_l4 S, RS_w S, pk, pr2, pr10, ck, cl, ok, o0, o1, o3, sk, sl, ak, al, bk, bl, up_up, up_sw, up_sa, up_eq, up_na, up_nk, i_add, i_sub, i_mul, i_tn, i_nat, Int.reduceToNat, Int.reduceAdd, Int.reduceSub, Int.reduceMul, Int.reduceNeg, l_32, l_nat, l_c_lt, l_c_gt, l_c_eq, i_lt, i_eq, i_lt0, i_0lt, i_eq0, i_eq1, Int.reduceLT, Int.reduceEq, Int.reduceLE, Int.reduceNe, not_true_eq_false, not_false_eq_true, Nat.lt_irrefl, Int.lt_irrefl, eq_self, eq_self, Nat.reduceAdd, Nat.reduceMul, Nat.reduceSub, Nat.reduceDiv, Nat.reduceMod, Nat.reduceEqDiff, Nat.reduceLeDiff, Nat.reduceLT, Nat.zero_add, Nat.add_zero, Nat.zero_le, and_false, and_true, and_self, false_and, true_and, or_false, or_true, if_true, if_false, ite_true, ite_false, ↓reduceIte, Int.reduceToNat, Int.reduceAdd, Int.reduceSub, Int.reduceMul, Int.reduceNeg, m_rv_s, m_rv_n, n8]
    simp (disch := first | omega | (simp (disch := omega) only [i_lt0, i_tn, i_nn, m_cat_n, m_cat_i, m_cat_r, m_cat_z, m_cat_rv, m_cat_l, m_o_n, m_o_i, m_o_r, m_o_z, m_o_rv, m_o_f, hs_n, hs_k, hs_l, Nat.reduceLeDiff, not_false_eq_true, or_true, true_or, or_false, false_or, RS_k S, RS_r0 S, RS_r2 S, RS_r3 S, RS_tk S, RS_t0 S, RS_bk S, RS_bl S, RS_t2 S, RS_k0 S, RS_l0 S, RS_t3 S, RS_k1 S, RS_l1 S, RS_t4 S, RS_k2 S, RS_l2 S, RS_t5 S, RS_k3 S, RS_l3 S, RS_t6 S, RS_k4 S, RS_l4 S, RS_w S, pk, pr2, pr10, ck, cl, ok, o0, o1, o3, sk, sl, ak, al, bk, bl]; first | done | omega) | exact Or.inl rfl | exact Or.inr rfl) only [cl_75, m_cat_n, m_cat_i, m_cat_r, m_cat_z, m_cat_rv, m_cat_l, Nat.zero_le, Nat.reduceLeDiff, Nat.reduceAdd, m_o_i, m_o_r, m_o_z, m_o_rv, hs_n, hs_k, RS_k S, RS_r0 S, RS_r2 S, RS_r3 S, RS_tk S, RS_t0 S, RS_bk S, RS_bl S, RS_t2 S, RS_k0 S, RS_l0 S, RS_t3 S, RS_k1 S, RS_l1 S, RS_t4 S, RS_k2 S, RS_l2 S, RS_t5 S, RS_k3 S, RS_l3 S, RS_t6 S, RS_k4 S, RS_l4 S, RS_w S, pk, pr2, pr10, ck, cl, ok, o0, o1, o3, sk, sl, ak, al, bk, bl]
    refine xg_75 S Y (by decide) (fun G1 g1 Y1 => ?_)
    simp (disch := first | omega | (simp (disch := omega) only [i_lt0, i_tn, i_nn, m_cat_n, m_cat_i, m_cat_r, m_cat_z, m_cat_rv, m_cat_l, m_o_n, m_o_i, m_o_r, m_o_z, m_o_rv, m_o_f, hs_n, hs_k, hs_l, Nat.reduceLeDiff, not_false_eq_true, or_true, true_or, or_false, false_or, RS_k S, RS_r0 S, RS_r2 S, RS_r3 S, RS_tk S, RS_t0 S, RS_bk S, RS_bl S, RS_t2 S, RS_k0 S, RS_l0 S, RS_t3 S, RS_k1 S, RS_l1 S, RS_t4 S, RS_k2 S, RS_l2 S, RS_t5 S, RS_k3 S, RS_l3 S, RS_t6 S, RS_k4 S, RS_l4 S, RS_w S, pk, pr2, pr10, ck, cl, ok, o0, o1, o3, sk, sl, ak, al, bk, bl]; first | done | omega) | exact Or.inl rfl | exact Or.inr rfl) only [k_38_0, w_aload_0, w_aloadz_0, w_aloadv_0, gf_386, m_rv_s, m_rv_n, gf_321, w_iconst, w_icmp_lt, gf_384, m_cat_n, m_cat_i, m_cat_r, m_cat_z, m_cat_rv, m_cat_l, Nat.zero_le, Nat.reduceLeDiff, Nat.reduceAdd, m_o_i, m_o_r, m_o_z, m_o_rv, m_C_inl, Option.toList_some, Option.toList_none, List.cons_append, List.nil_append, w_vret, tg_38_21, tg_38_74, tg_38_132, w_icmp_eq, w_if_eq, hs_n, hs_k, hs_l, hs_R, hs_I, hs_L, hs_setI, hs_setL, hs_cpy, RS_k S, RS_r0 S, RS_r2 S, RS_r3 S, RS_tk S, RS_t0 S, RS_bk S, RS_bl S, RS_t2 S, RS_k0 S, RS_l0 S, RS_t3 S, RS_k1 S, RS_l1 S, RS_t4 S, RS_k2 S, RS_l2 S, RS_t5 S, RS_k3 S, RS_l3 S, RS_t6 S, RS_k4 S, RS_l4 S, RS_w S, pk, pr2, pr10, ck, cl, ok, o0, o1, o3, sk, sl, ak, al, bk, bl, up_up, up_sw, up_sa, up_eq, up_na, up_nk, i_add, i_sub, i_mul, i_tn, i_nat, Int.reduceToNat, Int.reduceAdd, Int.reduceSub, Int.reduceMul, Int.reduceNeg, l_32, l_nat, l_c_lt, l_c_gt, l_c_eq, i_lt, i_eq, i_lt0, i_0lt, i_eq0, i_eq1, Int.reduceLT, Int.reduceEq, Int.reduceLE, Int.reduceNe, not_true_eq_false, not_false_eq_true, Nat.lt_irrefl, Int.lt_irrefl, eq_self, eq_self, Nat.reduceAdd, Nat.reduceMul, Nat.reduceSub, Nat.reduceDiv, Nat.reduceMod, Nat.reduceEqDiff, Nat.reduceLeDiff, Nat.reduceLT, Nat.zero_add, Nat.add_zero, Nat.zero_le, and_false, and_true, and_self, false_and, true_and, or_false, or_true, if_true, if_false, ite_true, ite_false, ↓reduceIte, Int.reduceToNat, Int.reduceAdd, Int.reduceSub, Int.reduceMul, Int.reduceNeg, m_rv_s, m_rv_n]
    exact hQ _ _ _ (c1_cm8 hw c8) (cg_r (cg_rf S B C) g1) Y1 (fun x h1 h2 => g1.1 _ _ (by omega) (by omega) (by omega) (by omega)) (fun z9 => absurd z9 (show ¬ (3 : Int) = 0 by decide))
  · have c9 : F (r + 7) 1 < 8 := by omega
    rw [k_38_0]
    simp (disch := first | omega | (simp (disch := omega) only [i_lt0, i_tn, i_nn, m_cat_n, m_cat_i, m_cat_r, m_cat_z, m_cat_rv, m_cat_l, m_o_n, m_o_i, m_o_r, m_o_z, m_o_rv, m_o_f, hs_n, hs_k, hs_l, Nat.reduceLeDiff, not_false_eq_true, or_true, true_or, or_false, false_or, RS_k S, RS_r0 S, RS_r2 S, RS_r3 S, RS_tk S, RS_t0 S, RS_bk S, RS_bl S, RS_t2 S, RS_k0 S, RS_l0 S, RS_t3 S, RS_k1 S, RS_l1 S, RS_t4 S, RS_k2 S, RS_l2 S, RS_t5 S, RS_k3 S, RS_l3 S, RS_t6 S, RS_k4 S, RS_l4 S, RS_w S, pk, pr2, pr10, ck, cl, ok, o0, o1, o3, sk, sl, ak, al, bk, bl]; first | done | omega) | exact Or.inl rfl | exact Or.inr rfl) only [k_38_0, w_aload_0, w_aloadz_0, w_aloadv_0, gf_386, m_rv_s, m_rv_n, gf_321, w_iconst, w_icmp_lt, gf_384, m_cat_n, m_cat_i, m_cat_r, m_cat_z, m_cat_rv, m_cat_l, Nat.zero_le, Nat.reduceLeDiff, Nat.reduceAdd, m_o_i, m_o_r, m_o_z, m_o_rv, m_C_inl, Option.toList_some, Option.toList_none, List.cons_append, List.nil_append, w_vret, tg_38_21, tg_38_74, tg_38_132, w_icmp_eq, w_if_eq, hs_n, hs_k, hs_l, hs_R, hs_I, hs_L, hs_setI, hs_setL, hs_cpy, RS_k S, RS_r0 S, RS_r2 S, RS_r3 S, RS_tk S, RS_t0 S, RS_bk S, RS_bl S, RS_t2 S, RS_k0 S, RS_l0 S, RS_t3 S, RS_k1 S, RS_l1 S, RS_t4 S, RS_k2 S, RS_l2 S, RS_t5 S, RS_k3 S, RS_l3 S, RS_t6 S, RS_k4 S, RS_l4 S, RS_w S, pk, pr2, pr10, ck, cl, ok, o0, o1, o3, sk, sl, ak, al, bk, bl, up_up, up_sw, up_sa, up_eq, up_na, up_nk, i_add, i_sub, i_mul, i_tn, i_nat, Int.reduceToNat, Int.reduceAdd, Int.reduceSub, Int.reduceMul, Int.reduceNeg, l_32, l_nat, l_c_lt, l_c_gt, l_c_eq, i_lt, i_eq, i_lt0, i_0lt, i_eq0, i_eq1, Int.reduceLT, Int.reduceEq, Int.reduceLE, Int.reduceNe, not_true_eq_false, not_false_eq_true, Nat.lt_irrefl, Int.lt_irrefl, eq_self, eq_self, Nat.reduceAdd, Nat.reduceMul, Nat.reduceSub, Nat.reduceDiv, Nat.reduceMod, Nat.reduceEqDiff, Nat.reduceLeDiff, Nat.reduceLT, Nat.zero_add, Nat.add_zero, Nat.zero_le, and_false, and_true, and_self, false_and, true_and, or_false, or_true, if_true, if_false, ite_true, ite_false, ↓reduceIte, Int.reduceToNat, Int.reduceAdd, Int.reduceSub, Int.reduceMul, Int.reduceNeg, m_rv_s, m_rv_n, c9]
    rw [k_38_21]
    simp (disch := first | omega | (simp (disch := omega) only [i_lt0, i_tn, i_nn, m_cat_n, m_cat_i, m_cat_r, m_cat_z, m_cat_rv, m_cat_l, m_o_n, m_o_i, m_o_r, m_o_z, m_o_rv, m_o_f, hs_n, hs_k, hs_l, Nat.reduceLeDiff, not_false_eq_true, or_true, true_or, or_false, false_or, RS_k S, RS_r0 S, RS_r2 S, RS_r3 S, RS_tk S, RS_t0 S, RS_bk S, RS_bl S, RS_t2 S, RS_k0 S, RS_l0 S, RS_t3 S, RS_k1 S, RS_l1 S, RS_t4 S, RS_k2 S, RS_l2 S, RS_t5 S, RS_k3 S, RS_l3 S, RS_t6 S, RS_k4 S, RS_l4 S, RS_w S, pk, pr2, pr10, ck, cl, ok, o0, o1, o3, sk, sl, ak, al, bk, bl]; first | done | omega) | exact Or.inl rfl | exact Or.inr rfl) only [k_38_21, w_aload_0, w_aloadz_0, w_aloadv_0, gf_384, m_rv_s, m_rv_n, m_cat_n, m_cat_i, m_cat_r, m_cat_z, m_cat_rv, m_cat_l, Nat.zero_le, Nat.reduceLeDiff, Nat.reduceAdd, m_o_i, m_o_r, m_o_z, m_o_rv, m_C_inl, Option.toList_some, Option.toList_none, List.cons_append, List.nil_append, w_new, nf_1, w_dup_i, w_dup_r, w_dup_z, w_dup_v, w_astore_1, w_astorez_1, w_astorev_1, m_o_n, m_o_f, w_aload_1, w_aloadz_1, w_aloadv_1, gf_387, gf_2, pf_67, gf_65, w_iconst, w_icmp_ne, pf_390, tg_38_21, tg_38_74, tg_38_132, w_icmp_eq, w_if_eq, hs_n, hs_k, hs_l, hs_R, hs_I, hs_L, hs_setI, hs_setL, hs_cpy, RS_k S, RS_r0 S, RS_r2 S, RS_r3 S, RS_tk S, RS_t0 S, RS_bk S, RS_bl S, RS_t2 S, RS_k0 S, RS_l0 S, RS_t3 S, RS_k1 S, RS_l1 S, RS_t4 S, RS_k2 S, RS_l2 S, RS_t5 S, RS_k3 S, RS_l3 S, RS_t6 S, RS_k4 S, RS_l4 S, RS_w S, pk, pr2, pr10, ck, cl, ok, o0, o1, o3, sk, sl, ak, al, bk, bl, up_up, up_sw, up_sa, up_eq, up_na, up_nk, i_add, i_sub, i_mul, i_tn, i_nat, Int.reduceToNat, Int.reduceAdd, Int.reduceSub, Int.reduceMul, Int.reduceNeg, l_32, l_nat, l_c_lt, l_c_gt, l_c_eq, i_lt, i_eq, i_lt0, i_0lt, i_eq0, i_eq1, Int.reduceLT, Int.reduceEq, Int.reduceLE, Int.reduceNe, not_true_eq_false, not_false_eq_true, Nat.lt_irrefl, Int.lt_irrefl, eq_self, eq_self, Nat.reduceAdd, Nat.reduceMul, Nat.reduceSub, Nat.reduceDiv, Nat.reduceMod, Nat.reduceEqDiff, Nat.reduceLeDiff, Nat.reduceLT, Nat.zero_add, Nat.add_zero, Nat.zero_le, and_false, and_true, and_self, false_and, true_and, or_false, or_true, if_true, if_false, ite_true, ite_false, ↓reduceIte, Int.reduceToNat, Int.reduceAdd, Int.reduceSub, Int.reduceMul, Int.reduceNeg, m_rv_s, m_rv_n]
    simp (disch := first | omega | (simp (disch := omega) only [i_lt0, i_tn, i_nn, m_cat_n, m_cat_i, m_cat_r, m_cat_z, m_cat_rv, m_cat_l, m_o_n, m_o_i, m_o_r, m_o_z, m_o_rv, m_o_f, hs_n, hs_k, hs_l, Nat.reduceLeDiff, not_false_eq_true, or_true, true_or, or_false, false_or, RS_k S, RS_r0 S, RS_r2 S, RS_r3 S, RS_tk S, RS_t0 S, RS_bk S, RS_bl S, RS_t2 S, RS_k0 S, RS_l0 S, RS_t3 S, RS_k1 S, RS_l1 S, RS_t4 S, RS_k2 S, RS_l2 S, RS_t5 S, RS_k3 S, RS_l3 S, RS_t6 S, RS_k4 S, RS_l4 S, RS_w S, pk, pr2, pr10, ck, cl, ok, o0, o1, o3, sk, sl, ak, al, bk, bl]; first | done | omega) | exact Or.inl rfl | exact Or.inr rfl) only [cl_67, m_cat_n, m_cat_i, m_cat_r, m_cat_z, m_cat_rv, m_cat_l, Nat.zero_le, Nat.reduceLeDiff, Nat.reduceAdd, m_o_i, m_o_r, m_o_z, m_o_rv, hs_n, hs_k, RS_k S, RS_r0 S, RS_r2 S, RS_r3 S, RS_tk S, RS_t0 S, RS_bk S, RS_bl S, RS_t2 S, RS_k0 S, RS_l0 S, RS_t3 S, RS_k1 S, RS_l1 S, RS_t4 S, RS_k2 S, RS_l2 S, RS_t5 S, RS_k3 S, RS_l3 S, RS_t6 S, RS_k4 S, RS_l4 S, RS_w S, pk, pr2, pr10, ck, cl, ok, o0, o1, o3, sk, sl, ak, al, bk, bl]
    refine xa_67 S Y hp (fun G1 hG1 Y1 => ?_)
    simp (disch := first | omega | (simp (disch := first | omega | (simp only [h_n_setR, h_n_mk, hs_n]; first | done | omega)) only [i_lt0, i_tn, i_nn, m_cat_n, m_cat_i, m_cat_r, m_cat_z, m_cat_rv, m_cat_l, m_o_n, m_o_i, m_o_r, m_o_z, m_o_rv, m_o_f, hs_n, hs_k, hs_l, h_n_setR, h_n_mk, h_k_setR, h_l_setR, hk_old, hk_new, hl_old, hl_new, Nat.reduceLeDiff, not_false_eq_true, or_true, true_or, or_false, false_or, RS_k S, RS_r0 S, RS_r2 S, RS_r3 S, RS_tk S, RS_t0 S, RS_bk S, RS_bl S, RS_t2 S, RS_k0 S, RS_l0 S, RS_t3 S, RS_k1 S, RS_l1 S, RS_t4 S, RS_k2 S, RS_l2 S, RS_t5 S, RS_k3 S, RS_l3 S, RS_t6 S, RS_k4 S, RS_l4 S, RS_w S, pk, pr2, pr10, ck, cl, ok, o0, o1, o3, sk, sl, ak, al, bk, bl]; first | done | omega) | exact Or.inl rfl | exact Or.inr rfl) only [k_38_21, w_aload_0, w_aloadz_0, w_aloadv_0, gf_384, m_rv_s, m_rv_n, m_cat_n, m_cat_i, m_cat_r, m_cat_z, m_cat_rv, m_cat_l, Nat.zero_le, Nat.reduceLeDiff, Nat.reduceAdd, m_o_i, m_o_r, m_o_z, m_o_rv, m_C_inl, Option.toList_some, Option.toList_none, List.cons_append, List.nil_append, w_new, nf_1, w_dup_i, w_dup_r, w_dup_z, w_dup_v, w_astore_1, w_astorez_1, w_astorev_1, m_o_n, m_o_f, w_aload_1, w_aloadz_1, w_aloadv_1, gf_387, gf_2, pf_67, gf_65, w_iconst, w_icmp_ne, pf_390, tg_38_21, tg_38_74, tg_38_132, w_icmp_eq, w_if_eq, hs_n, hs_k, hs_l, hs_R, hs_I, hs_L, hs_setI, hs_setL, hs_cpy, hs_setR, hs_mk, RS_k S, RS_r0 S, RS_r2 S, RS_r3 S, RS_tk S, RS_t0 S, RS_bk S, RS_bl S, RS_t2 S, RS_k0 S, RS_l0 S, RS_t3 S, RS_k1 S, RS_l1 S, RS_t4 S, RS_k2 S, RS_l2 S, RS_t5 S, RS_k3 S, RS_l3 S, RS_t6 S, RS_k4 S, RS_l4 S, RS_w S, pk, pr2, pr10, ck, cl, ok, o0, o1, o3, sk, sl, ak, al, bk, bl, up_eq, up_na, up_nk, zr_eq, zr_na, sR_eq, sR_na, sR_nk, hR_old, hR_new, h_n_setR, h_n_mk, i_add, i_sub, i_mul, i_tn, i_nat, Int.reduceToNat, Int.reduceAdd, Int.reduceSub, Int.reduceMul, Int.reduceNeg, l_32, l_nat, l_c_lt, l_c_gt, l_c_eq, i_lt, i_eq, i_lt0, i_0lt, i_eq0, i_eq1, Int.reduceLT, Int.reduceEq, Int.reduceLE, Int.reduceNe, not_true_eq_false, not_false_eq_true, Nat.lt_irrefl, Int.lt_irrefl, eq_self, eq_self, Nat.reduceAdd, Nat.reduceMul, Nat.reduceSub, Nat.reduceDiv, Nat.reduceMod, Nat.reduceEqDiff, Nat.reduceLeDiff, Nat.reduceLT, Nat.zero_add, Nat.add_zero, Nat.zero_le, and_false, and_true, and_self, false_and, true_and, or_false, or_true, if_true, if_false, ite_true, ite_false, ↓reduceIte, Int.reduceToNat, Int.reduceAdd, Int.reduceSub, Int.reduceMul, Int.reduceNeg]
    simp (disch := first | omega | (simp (disch := first | omega | (simp only [h_n_setR, h_n_mk, hs_n]; first | done | omega)) only [i_lt0, i_tn, i_nn, m_cat_n, m_cat_i, m_cat_r, m_cat_z, m_cat_rv, m_cat_l, m_o_n, m_o_i, m_o_r, m_o_z, m_o_rv, m_o_f, hs_n, hs_k, hs_l, h_n_setR, h_n_mk, h_k_setR, h_l_setR, hk_old, hk_new, hl_old, hl_new, Nat.reduceLeDiff, not_false_eq_true, or_true, true_or, or_false, false_or, RS_k S, RS_r0 S, RS_r2 S, RS_r3 S, RS_tk S, RS_t0 S, RS_bk S, RS_bl S, RS_t2 S, RS_k0 S, RS_l0 S, RS_t3 S, RS_k1 S, RS_l1 S, RS_t4 S, RS_k2 S, RS_l2 S, RS_t5 S, RS_k3 S, RS_l3 S, RS_t6 S, RS_k4 S, RS_l4 S, RS_w S, pk, pr2, pr10, ck, cl, ok, o0, o1, o3, sk, sl, ak, al, bk, bl]; first | done | omega) | exact Or.inl rfl | exact Or.inr rfl) only [cl_5, m_cat_n, m_cat_i, m_cat_r, m_cat_z, m_cat_rv, m_cat_l, Nat.zero_le, Nat.reduceLeDiff, Nat.reduceAdd, m_o_i, m_o_r, m_o_z, m_o_rv, hs_n, hs_k]
    refine x_5 (by rw [h_n_mk]; omega) (hk_new rfl) (fun G2 e2 g21 => ?_)
    have e3 : ∀ x y, ¬ x = m_n h → G2 x y = G1 x y := fun x y hx => by rw [e2 x y hx, zr_na hx]
    have S1 : RS (m_mk h 1 0 8) r l := RS_cg S (by rw [h_n_mk]; omega) (by rw [h_n_mk]; omega) (fun x hx => hk_old (by omega)) (fun x hx => hl_old (by omega)) (fun x y hx _ => hR_old (by omega))
    have hc : r + 13 ≤ m_n h := sb1
    have hcn : m_n h < m_n (m_mk h 1 0 8) := by rw [h_n_mk]; omega
    have kc : m_k (m_mk h 1 0 8) (m_n h) = 1 := hk_new rfl
    have B1 := r_B B hG1
    have Y2 : q_Y (m_mk h 1 0 8) r l G2 b (0, tx_nx b l p) G.2.2 := Y_h (fun y => hR_old (by omega)) (Y_fr (by omega) (fun x y h1 h2 => e3 x y (by omega)) Y1)
    have B2 := Y2.1
    have g2F : ∀ x y, ¬ x = m_n h → ¬ x = r + 1 → ¬ x = r + 9 → ¬ x = r + 11 → ¬ x = r + 12 → G2 x y = F x y := fun x y h1 h2 h3 h4 h5 => (e3 x y h1).trans (hG1.1 x y h2 h3 h4 h5)
    have g71 : G2 (r + 7) 1 = (G.2.1.length : Int) := (g2F _ _ (by omega) (by omega) (by omega) (by omega) (by omega)).trans k71
    have g17 : G2 (r + 1) 7 = F (r + 1) 7 := (e3 _ _ (by omega)).trans (hG1.2.1 7 (by omega))
    have ps2 : ∀ t, tx_ps r l G2 t = tx_ps r l F t := ps_cg g17 (fun t => g2F _ _ (by omega) (by omega) (by omega) (by omega) (by omega))
    -- the rest, from the constructor on
    have hRo : ∀ x y, x < m_n h → m_R (m_mk h 1 0 8) x y = m_R h x y := fun x y hx => hR_old (by omega)
    have hko : ∀ x, x < m_n h → m_k (m_mk h 1 0 8) x = m_k h x := fun x hx => hk_old (by omega)
    have hn1 : m_n (m_mk h 1 0 8) = m_n h + 1 := by rw [h_n_mk]
    generalize hh1 : m_mk h 1 0 8 = h1 at S1 hcn kc Y2 hRo hko hn1 ⊢
    generalize hcc : m_n h = c at hc hcn kc e3 g2F g21 hRo hko hn1 ⊢
    obtain ⟨pk, pr2, pr10, ck, cl, ok, o0, o1, o3, sk, sl, ak, al, bk, bl⟩ := RS_p S1
    have sn1 := RS_n S1
    have sx1 := RS_X S1
    simp (disch := first | omega | (simp (disch := omega) only [i_lt0, i_tn, i_nn, m_cat_n, m_cat_i, m_cat_r, m_cat_z, m_cat_rv, m_cat_l, m_o_n, m_o_i, m_o_r, m_o_z, m_o_rv, m_o_f, hs_n, hs_k, hs_l, Nat.reduceLeDiff, not_false_eq_true, or_true, true_or, or_false, false_or, RS_k S1, RS_r0 S1, RS_r2 S1, RS_r3 S1, RS_tk S1, RS_t0 S1, RS_bk S1, RS_bl S1, RS_t2 S1, RS_k0 S1, RS_l0 S1, RS_t3 S1, RS_k1 S1, RS_l1 S1, RS_t4 S1, RS_k2 S1, RS_l2 S1, RS_t5 S1, RS_k3 S1, RS_l3 S1, RS_t6 S1, RS_k4 S1, RS_l4 S1, RS_w S1, pk, pr2, pr10, ck, cl, ok, o0, o1, o3, sk, sl, ak, al, bk, bl, kc]; first | done | omega) | exact Or.inl rfl | exact Or.inr rfl) only [k_38_21, w_aload_0, w_aloadz_0, w_aloadv_0, gf_384, m_rv_s, m_rv_n, m_cat_n, m_cat_i, m_cat_r, m_cat_z, m_cat_rv, m_cat_l, Nat.zero_le, Nat.reduceLeDiff, Nat.reduceAdd, m_o_i, m_o_r, m_o_z, m_o_rv, m_C_inl, Option.toList_some, Option.toList_none, List.cons_append, List.nil_append, w_new, nf_1, w_dup_i, w_dup_r, w_dup_z, w_dup_v, w_astore_1, w_astorez_1, w_astorev_1, m_o_n, m_o_f, w_aload_1, w_aloadz_1, w_aloadv_1, gf_387, gf_2, pf_67, gf_65, w_iconst, w_icmp_ne, pf_390, tg_38_21, tg_38_74, tg_38_132, w_icmp_eq, w_if_eq, hs_n, hs_k, hs_l, hs_R, hs_I, hs_L, hs_setI, hs_setL, hs_cpy, RS_k S1, RS_r0 S1, RS_r2 S1, RS_r3 S1, RS_tk S1, RS_t0 S1, RS_bk S1, RS_bl S1, RS_t2 S1, RS_k0 S1, RS_l0 S1, RS_t3 S1, RS_k1 S1, RS_l1 S1, RS_t4 S1, RS_k2 S1, RS_l2 S1, RS_t5 S1, RS_k3 S1, RS_l3 S1, RS_t6 S1, RS_k4 S1, RS_l4 S1, RS_w S1, pk, pr2, pr10, ck, cl, ok, o0, o1, o3, sk, sl, ak, al, bk, bl, kc, up_up, up_sw, up_sa, up_eq, up_na, up_nk, i_add, i_sub, i_mul, i_tn, i_nat, Int.reduceToNat, Int.reduceAdd, Int.reduceSub, Int.reduceMul, Int.reduceNeg, l_32, l_nat, l_c_lt, l_c_gt, l_c_eq, i_lt, i_eq, i_lt0, i_0lt, i_eq0, i_eq1, Int.reduceLT, Int.reduceEq, Int.reduceLE, Int.reduceNe, not_true_eq_false, not_false_eq_true, Nat.lt_irrefl, Int.lt_irrefl, eq_self, eq_self, Nat.reduceAdd, Nat.reduceMul, Nat.reduceSub, Nat.reduceDiv, Nat.reduceMod, Nat.reduceEqDiff, Nat.reduceLeDiff, Nat.reduceLT, Nat.zero_add, Nat.add_zero, Nat.zero_le, and_false, and_true, and_self, false_and, true_and, or_false, or_true, if_true, if_false, ite_true, ite_false, ↓reduceIte, Int.reduceToNat, Int.reduceAdd, Int.reduceSub, Int.reduceMul, Int.reduceNeg, m_rv_s, m_rv_n]
    simp (disch := first | omega | (simp (disch := omega) only [i_lt0, i_tn, i_nn, m_cat_n, m_cat_i, m_cat_r, m_cat_z, m_cat_rv, m_cat_l, m_o_n, m_o_i, m_o_r, m_o_z, m_o_rv, m_o_f, hs_n, hs_k, hs_l, Nat.reduceLeDiff, not_false_eq_true, or_true, true_or, or_false, false_or, RS_k S1, RS_r0 S1, RS_r2 S1, RS_r3 S1, RS_tk S1, RS_t0 S1, RS_bk S1, RS_bl S1, RS_t2 S1, RS_k0 S1, RS_l0 S1, RS_t3 S1, RS_k1 S1, RS_l1 S1, RS_t4 S1, RS_k2 S1, RS_l2 S1, RS_t5 S1, RS_k3 S1, RS_l3 S1, RS_t6 S1, RS_k4 S1, RS_l4 S1, RS_w S1, pk, pr2, pr10, ck, cl, ok, o0, o1, o3, sk, sl, ak, al, bk, bl, kc]; first | done | omega) | exact Or.inl rfl | exact Or.inr rfl) only [cl_39, m_cat_n, m_cat_i, m_cat_r, m_cat_z, m_cat_rv, m_cat_l, Nat.zero_le, Nat.reduceLeDiff, Nat.reduceAdd, m_o_i, m_o_r, m_o_z, m_o_rv, hs_n, hs_k, RS_k S1, RS_r0 S1, RS_r2 S1, RS_r3 S1, RS_tk S1, RS_t0 S1, RS_bk S1, RS_bl S1, RS_t2 S1, RS_k0 S1, RS_l0 S1, RS_t3 S1, RS_k1 S1, RS_l1 S1, RS_t4 S1, RS_k2 S1, RS_l2 S1, RS_t5 S1, RS_k3 S1, RS_l3 S1, RS_t6 S1, RS_k4 S1, RS_l4 S1, RS_w S1, pk, pr2, pr10, ck, cl, ok, o0, o1, o3, sk, sl, ak, al, bk, bl, kc]
    refine x_39 S1 Y2 hc hcn kc g71 kl (fun i cm hcm => ?_) (fun G3 s1 k3 f3 p3 Y3 nm3 n3 => ?_)
    · obtain ⟨a, t, m1, m2, m3, m4, m5, m6, -⟩ := kM i cm hcm
      exact ⟨a, t, (hRo _ _ (by omega)).trans m1, by omega, (hko a (by omega)).trans m3, (g2F a 0 (by omega) (by omega) (by omega) (by omega) (by omega)).trans m4, by rw [g17]; exact m5, (ps2 t).trans m6⟩
    obtain ⟨e1, p1⟩ := s1
    simp (disch := first | omega | (simp (disch := omega) only [i_lt0, i_tn, i_nn, m_cat_n, m_cat_i, m_cat_r, m_cat_z, m_cat_rv, m_cat_l, m_o_n, m_o_i, m_o_r, m_o_z, m_o_rv, m_o_f, hs_n, hs_k, hs_l, Nat.reduceLeDiff, not_false_eq_true, or_true, true_or, or_false, false_or, RS_k S1, RS_r0 S1, RS_r2 S1, RS_r3 S1, RS_tk S1, RS_t0 S1, RS_bk S1, RS_bl S1, RS_t2 S1, RS_k0 S1, RS_l0 S1, RS_t3 S1, RS_k1 S1, RS_l1 S1, RS_t4 S1, RS_k2 S1, RS_l2 S1, RS_t5 S1, RS_k3 S1, RS_l3 S1, RS_t6 S1, RS_k4 S1, RS_l4 S1, RS_w S1, pk, pr2, pr10, ck, cl, ok, o0, o1, o3, sk, sl, ak, al, bk, bl, kc]; first | done | omega) | exact Or.inl rfl | exact Or.inr rfl) only [k_38_21, w_aload_0, w_aloadz_0, w_aloadv_0, gf_384, m_rv_s, m_rv_n, m_cat_n, m_cat_i, m_cat_r, m_cat_z, m_cat_rv, m_cat_l, Nat.zero_le, Nat.reduceLeDiff, Nat.reduceAdd, m_o_i, m_o_r, m_o_z, m_o_rv, m_C_inl, Option.toList_some, Option.toList_none, List.cons_append, List.nil_append, w_new, nf_1, w_dup_i, w_dup_r, w_dup_z, w_dup_v, w_astore_1, w_astorez_1, w_astorev_1, m_o_n, m_o_f, w_aload_1, w_aloadz_1, w_aloadv_1, gf_387, gf_2, pf_67, gf_65, w_iconst, w_icmp_ne, pf_390, tg_38_21, tg_38_74, tg_38_132, w_icmp_eq, w_if_eq, hs_n, hs_k, hs_l, hs_R, hs_I, hs_L, hs_setI, hs_setL, hs_cpy, RS_k S1, RS_r0 S1, RS_r2 S1, RS_r3 S1, RS_tk S1, RS_t0 S1, RS_bk S1, RS_bl S1, RS_t2 S1, RS_k0 S1, RS_l0 S1, RS_t3 S1, RS_k1 S1, RS_l1 S1, RS_t4 S1, RS_k2 S1, RS_l2 S1, RS_t5 S1, RS_k3 S1, RS_l3 S1, RS_t6 S1, RS_k4 S1, RS_l4 S1, RS_w S1, pk, pr2, pr10, ck, cl, ok, o0, o1, o3, sk, sl, ak, al, bk, bl, kc, up_up, up_sw, up_sa, up_eq, up_na, up_nk, i_add, i_sub, i_mul, i_tn, i_nat, Int.reduceToNat, Int.reduceAdd, Int.reduceSub, Int.reduceMul, Int.reduceNeg, l_32, l_nat, l_c_lt, l_c_gt, l_c_eq, i_lt, i_eq, i_lt0, i_0lt, i_eq0, i_eq1, Int.reduceLT, Int.reduceEq, Int.reduceLE, Int.reduceNe, not_true_eq_false, not_false_eq_true, Nat.lt_irrefl, Int.lt_irrefl, eq_self, eq_self, Nat.reduceAdd, Nat.reduceMul, Nat.reduceSub, Nat.reduceDiv, Nat.reduceMod, Nat.reduceEqDiff, Nat.reduceLeDiff, Nat.reduceLT, Nat.zero_add, Nat.add_zero, Nat.zero_le, and_false, and_true, and_self, false_and, true_and, or_false, or_true, if_true, if_false, ite_true, ite_false, ↓reduceIte, Int.reduceToNat, Int.reduceAdd, Int.reduceSub, Int.reduceMul, Int.reduceNeg, m_rv_s, m_rv_n]
    simp (disch := first | omega | (simp (disch := omega) only [i_lt0, i_tn, i_nn, m_cat_n, m_cat_i, m_cat_r, m_cat_z, m_cat_rv, m_cat_l, m_o_n, m_o_i, m_o_r, m_o_z, m_o_rv, m_o_f, hs_n, hs_k, hs_l, Nat.reduceLeDiff, not_false_eq_true, or_true, true_or, or_false, false_or, RS_k S1, RS_r0 S1, RS_r2 S1, RS_r3 S1, RS_tk S1, RS_t0 S1, RS_bk S1, RS_bl S1, RS_t2 S1, RS_k0 S1, RS_l0 S1, RS_t3 S1, RS_k1 S1, RS_l1 S1, RS_t4 S1, RS_k2 S1, RS_l2 S1, RS_t5 S1, RS_k3 S1, RS_l3 S1, RS_t6 S1, RS_k4 S1, RS_l4 S1, RS_w S1, pk, pr2, pr10, ck, cl, ok, o0, o1, o3, sk, sl, ak, al, bk, bl, kc]; first | done | omega) | exact Or.inl rfl | exact Or.inr rfl) only [cl_40, m_cat_n, m_cat_i, m_cat_r, m_cat_z, m_cat_rv, m_cat_l, Nat.zero_le, Nat.reduceLeDiff, Nat.reduceAdd, m_o_i, m_o_r, m_o_z, m_o_rv, hs_n, hs_k, RS_k S1, RS_r0 S1, RS_r2 S1, RS_r3 S1, RS_tk S1, RS_t0 S1, RS_bk S1, RS_bl S1, RS_t2 S1, RS_k0 S1, RS_l0 S1, RS_t3 S1, RS_k1 S1, RS_l1 S1, RS_t4 S1, RS_k2 S1, RS_l2 S1, RS_t5 S1, RS_k3 S1, RS_l3 S1, RS_t6 S1, RS_k4 S1, RS_l4 S1, RS_w S1, pk, pr2, pr10, ck, cl, ok, o0, o1, o3, sk, sl, ak, al, bk, bl, kc]
    refine x_40 S1 Y3 hc hcn kc (fun G4 k4 f4 p4 Y4 v4 => ?_)
    generalize hkd : tx_kd (b, l) (e1, p1) = kd at Y4 v4
    obtain ⟨⟨e2', p2'⟩, kk⟩ := kd
    dsimp only at Y4 v4
    have v41 : e2' = 0 → G4 c 1 = kk := fun z9 => by rw [v4, if_pos z9]
    have v4n : ¬ e2' = 0 → G4 c 1 = 0 := fun z9 => by rw [v4, if_neg z9, f3 1 (by decide)]; exact g21
    have kk3 : kk = 3 → e2' = 0 := fun q => by
      by_cases z1 : e1 = 0
      · subst z1
        by_cases y : ∃ i, i < 4 ∧ tx_wd b l p1 = some (m_X + 1 + (20 + i))
        · obtain ⟨i, hi, hw9⟩ := y
          rw [kd_y (T := (b, l)) hi hw9] at hkd
          cases hkd
          rfl
        · rw [kd_n (T := (b, l)) (fun i hi hw9 => y ⟨i, hi, hw9⟩)] at hkd
          cases hkd
          exact absurd q (by decide)
      · rw [kd_b (T := (b, l)) z1] at hkd
        cases hkd
        exact absurd q (by decide)
    have is3 : G4 c 1 = 3 ↔ kk = 3 := ⟨fun q => by
      by_cases z9 : e2' = 0
      · rw [← v41 z9]; exact q
      · rw [v4n z9] at q
        exact absurd q (by decide), fun q => by rw [v41 (kk3 q)]; exact q⟩
    have kkb := kd_r (T := (b, l)) (s := (e1, p1))
    rw [hkd] at kkb
    dsimp only at kkb
    have k4b : -1 ≤ G4 c 1 ∧ G4 c 1 ≤ 3 := by
      by_cases z9 : e2' = 0
      · rw [v41 z9]; exact kkb
      · rw [v4n z9]; decide
    have k24 : q_k r l c G2 G4 := k_tr k3 k4
    have B4 := Y4.1
    have r54 : G4 r 5 = 0 := by
      rw [k24.1 _ _ (by omega) (by omega) (by omega) (by omega) (by omega) (by omega), g2F _ _ (by omega) (by omega) (by omega) (by omega) (by omega)]
      exact r5
    have r14 : G4 r 1 = 0 := by
      rw [k24.1 _ _ (by omega) (by omega) (by omega) (by omega) (by omega) (by omega), g2F _ _ (by omega) (by omega) (by omega) (by omega) (by omega)]
      exact r1
    -- behind the test: what the rest gives
    have fin : ∀ (K6 : m_M) (s3 : tx_St) (c1 : List Int), (kk = 3 → tx_ev (b, l) false 0 8 (e2', p2') 0 (s3, c1)) → (¬ kk = 3 → s3 = (e2', p2') ∧ c1 = []) → q_Y h1 r l K6 b s3 (G.2.2 ++ c1) → q_k r l c G4 K6 → (∀ y, ¬ y = 3 → K6 c y = G4 c y) → (e2' = 0 → K6 c 3 = (G.2.2.length : Int)) → m_W (p_P L xs) (d + 49) 38 k_38_74 [some (.ref r), some (.ref c)] [] (m_hS h1 (w, K6)) Q := fun K6 s3 c1 ht hn4 Y6 k6 f6 e63 => by
      obtain ⟨e3', p3'⟩ := s3
      have k26 : q_k r l c G2 K6 := k_tr k24 k6
      have r56 : K6 r 5 = 0 := (k6.1 _ _ (by omega) (by omega) (by omega) (by omega) (by omega) (by omega)).trans r54
      have g76 : K6 (r + 7) 1 = (G.2.1.length : Int) := (k26.1 _ _ (by omega) (by omega) (by omega) (by omega) (by omega) (by omega)).trans g71
      refine m_W_le (by omega) (lb_38 (d := d + 24) S1 Y6 hc hcn kc r56 (k := G.2.1.length) (by omega) g76 (fun G9 s5 s6 s7 c2 c3 c4 h5 h5' sv3 sv4 Y9 k9 f9 hf => ?_))
      have hcm : tx_cm (b, l) G p (s7, tx_mk [(tx_nx b l p : Int), (tx_kd (b, l) (e1, p1)).2, (tx_nb (b, l) 1 50 (tx_wr (b, l) 2 (e3', p3'))).2, (G.2.2.length : Int), (G.2.2.length + c1.length : Nat), (G.2.2.length + c1.length + c2.length : Nat), (G.2.2.length + c1.length + c2.length + c3.length : Nat), (G.2.2.length + c1.length + c2.length + c3.length + c4.length : Nat)], G.2.2 ++ (c1 ++ (c2 ++ (c3 ++ c4)))) :=
        ⟨_, _, _, _, _, _, _, _, _, nm3, by rw [hkd]; exact ht, by rw [hkd]; exact hn4, h5, h5', sv3, sv4, rfl⟩
      have k29 : q_k r l c G2 G9 := k_tr k26 k9
      have eG : ∀ x y, ¬ x = c → ¬ (x = r ∧ y = 6) → ¬ x = r + 1 → ¬ x = r + 9 → ¬ x = r + 11 → ¬ x = r + 12 → G9 x y = F x y := fun x y h1 h2 h3 h4 h5 h6 => (k29.1 x y h1 h2 h3 h4 h5 h6).trans (g2F x y h1 h3 h4 h5 h6)
      have e17 : G9 (r + 1) 7 = F (r + 1) 7 := (k29.2.1 7 (by omega)).trans g17
      have k1 : ∀ x y, ¬ (x = r + 7 ∧ y = 1) → m_up G9 (r + 7) 1 ((G.2.1.length : Int) + 1) x y = G9 x y := fun x y hx => up_no hx
      have n9 : m_n (m_setR h1 (r + 8) G.2.1.length (some c)) = m_n h1 := h_n_setR _ _ _ _
      have kk9 : ∀ x, m_k (m_setR h1 (r + 8) G.2.1.length (some c)) x = m_k h1 x := fun x => by rw [h_k_setR]
      have Y9' : q_Y (m_setR h1 (r + 8) G.2.1.length (some c)) r l (m_up G9 (r + 7) 1 ((G.2.1.length : Int) + 1)) b s7 (G.2.2 ++ (c1 ++ (c2 ++ (c3 ++ c4)))) := by
        refine Y_h (fun y => sR_na (by omega)) (Y_fr7 (by omega) (fun x y h1 h2 h3 => k1 x y (by omega)) ⟨by rw [up_eq rfl rfl]; omega, by rw [up_eq rfl rfl]; omega⟩ ?_)
        simpa only [List.append_assoc] using Y9
      refine hQ _ _ _ (c1_cm hw c8 hcm) ?_ Y9' (fun x h1 h2 => ?_) (fun z7 => ?_)
      · subst hh1
        subst hcc
        have hcg := cg_cmd (K := m_up G9 (r + 7) 1 ((G.2.1.length : Int) + 1)) S B C c9 (by omega) hG1 e3 k29 (fun x y h1 h2 => k1 x y h2) (by rw [up_eq rfl rfl, k71])
        rw [k71, Int.toNat_natCast] at hcg
        exact hcg
      · rw [k1 _ _ (by omega)]
        exact eG _ _ (by omega) (by omega) (by omega) (by omega) (by omega) (by omega)
      · have z7 : s7.1 = 0 := z7
        obtain ⟨t2, t4, t5, t6, t7⟩ := hf z7
        rw [List.length_append] at t4 t5 t6 t7
        obtain ⟨e7, p7⟩ := s7
        obtain ⟨e6, p6⟩ := s6
        obtain ⟨e5, p5⟩ := s5
        dsimp only at z7
        subst z7
        have z6 : e6 = 0 := by
          by_cases z6 : e6 = 0
          · exact z6
          · have := sv_det sv4 (sv_b z6)
            cases this
            exact absurd rfl z6
        subst z6
        have z5 : e5 = 0 := by
          by_cases z5 : e5 = 0
          · exact z5
          · have := sv_det sv3 (sv_b z5)
            cases this
            exact absurd rfl z5
        subst z5
        have z4 : (tx_nb (b, l) 1 50 (tx_wr (b, l) 2 (e3', p3'))).1.1 = 0 := by
          by_cases y : (tx_nb (b, l) 1 50 (tx_wr (b, l) 2 (e3', p3'))).1.1 = 0 ∧ tx_wd b l (tx_nb (b, l) 1 50 (tx_wr (b, l) 2 (e3', p3'))).1.2 = some (m_X + 1 + 32)
          · exact y.1
          · rw [← (h5' y).1]
        have z3 : e3' = 0 := by
          have z4' := (nb_c z4).2.2.1
          by_cases z3 : e3' = 0
          · exact z3
          · rw [wr_b z3] at z4'
            exact absurd z4' z3
        have z2 : e2' = 0 := by
          by_cases y : kk = 3
          · exact kk3 y
          · have := (hn4 y).1
            cases this
            exact z3
        have z1 : e1 = 0 := by
          by_cases z1 : e1 = 0
          · exact z1
          · rw [kd_b (T := (b, l)) z1] at hkd
            cases hkd
            exact absurd z2 z1
        obtain ⟨t, t01, t02, t03⟩ := n3 z1
        have g37 : G9 (r + 1) 7 = G3 (r + 1) 7 := by rw [k9.2.1 7 (by omega), k6.2.1 7 (by omega), k4.2.1 7 (by omega)]
        have ps9 : ∀ t, tx_ps r l (m_up G9 (r + 7) 1 ((G.2.1.length : Int) + 1)) t = tx_ps r l F t := ps_cg (by rw [k1 _ _ (by omega)]; exact e17) (fun t => by rw [k1 _ _ (by omega)]; exact eG _ _ (by omega) (by omega) (by omega) (by omega) (by omega) (by omega))
        have ps3 : ∀ t, tx_ps r l G3 t = tx_ps r l F t := ps_cg (by rw [← g37]; exact e17) (fun t => by rw [k3.1 _ _ (by omega) (by omega) (by omega) (by omega) (by omega) (by omega)]; exact g2F _ _ (by omega) (by omega) (by omega) (by omega) (by omega))
        obtain ⟨d0, d2, d3, d4, d5, d6, d7, d8⟩ := kD
        have eD : ∀ y, ¬ y = 1 → m_up G9 (r + 7) 1 ((G.2.1.length : Int) + 1) (r + 7) y = F (r + 7) y := fun y hy => by
          rw [k1 _ _ (by omega)]
          exact eG _ _ (by omega) (by omega) (by omega) (by omega) (by omega) (by omega)
        refine ⟨⟨(eD _ (by decide)).trans d0, (eD _ (by decide)).trans d2, (eD _ (by decide)).trans d3, (eD _ (by decide)).trans d4, (eD _ (by decide)).trans d5, (eD _ (by decide)).trans d6, (eD _ (by decide)).trans d7, (eD _ (by decide)).trans d8⟩, ?_, ?_, fun i cm hcm9 => ?_⟩
        · rw [up_eq rfl rfl]
          show (G.2.1.length : Int) + 1 = ((G.2.1 ++ [_]).length : Int)
          rw [List.length_append, List.length_singleton]
          omega
        · show (G.2.1 ++ [_]).length ≤ 8
          rw [List.length_append, List.length_singleton]
          omega
        · dsimp only at hcm9
          by_cases y : i < G.2.1.length
          · rw [List.getElem?_append_left y] at hcm9
            obtain ⟨a, t9, m1, ⟨m2, m2'⟩, m3, m4, m5, m6, m7, m8, q1, q2, q3, q4, q5⟩ := kM i cm hcm9
            have ea : ∀ y, m_up G9 (r + 7) 1 ((G.2.1.length : Int) + 1) a y = F a y := fun y => by
              rw [k1 _ _ (by omega)]
              exact eG _ _ (by omega) (by omega) (by omega) (by omega) (by omega) (by omega)
            refine ⟨a, t9, ?_, ⟨m2, by rw [n9]; omega⟩, by rw [kk9, hko a (by omega)]; exact m3, (ea _).trans m4, ?_, (ps9 t9).trans m6, (ea _).trans m7, (ea _).trans m8, (ea _).trans q1, (ea _).trans q2, (ea _).trans q3, (ea _).trans q4, (ea _).trans q5⟩
            · rw [sR_nk (by omega), hRo _ _ (by omega)]
              exact m1
            · rw [k1 _ _ (by omega), e17]
              exact m5
          · have hi := (List.getElem?_eq_some_iff.mp hcm9).1
            rw [List.length_append, List.length_singleton] at hi
            obtain rfl : i = G.2.1.length := by omega
            rw [List.getElem?_append_right (Nat.le_refl _), Nat.sub_self] at hcm9
            have hcm9 := Option.some.inj (show some _ = some cm from hcm9)
            subst hcm9
            have ec : ∀ y, m_up G9 (r + 7) 1 ((G.2.1.length : Int) + 1) c y = G9 c y := fun y => k1 _ _ (by omega)
            refine ⟨c, t, sR_eq rfl rfl, ⟨hc, by rw [n9]; exact hcn⟩, by rw [kk9]; exact kc, ?_, ?_, ?_, ?_, ?_, ?_, ?_, ?_, ?_, ?_⟩
            · rw [ec, f9 0 (by omega), f6 0 (by omega), f4 0 (by omega)]
              exact t01
            · rw [k1 _ _ (by omega), g37]
              exact t02
            · rw [ps9, ← ps3]
              show _ = ((tx_nx b l p : Nat) : Int).toNat
              rw [Int.toNat_natCast]
              exact t03
            · show _ = (tx_kd (b, l) (e1, p1)).2
              rw [ec, f9 1 (by omega), f6 1 (by omega), v41 z2, hkd]
            · show _ = (tx_nb (b, l) 1 50 (tx_wr (b, l) 2 (e3', p3'))).2
              rw [ec]
              exact t2
            · show _ = (G.2.2.length : Int)
              rw [ec, f9 3 (by omega)]
              exact e63 z2
            · rw [ec]
              exact t4
            · rw [ec]
              exact t5
            · rw [ec]
              exact t6
            · rw [ec]
              exact t7
    by_cases c3 : kk = 3
    · have z2 := kk3 c3
      subst z2
      have i3 : G4 c 1 = 3 := is3.mpr c3
      simp (disch := first | omega | (simp (disch := omega) only [i_lt0, i_tn, i_nn, m_cat_n, m_cat_i, m_cat_r, m_cat_z, m_cat_rv, m_cat_l, m_o_n, m_o_i, m_o_r, m_o_z, m_o_rv, m_o_f, hs_n, hs_k, hs_l, Nat.reduceLeDiff, not_false_eq_true, or_true, true_or, or_false, false_or, RS_k S1, RS_r0 S1, RS_r2 S1, RS_r3 S1, RS_tk S1, RS_t0 S1, RS_bk S1, RS_bl S1, RS_t2 S1, RS_k0 S1, RS_l0 S1, RS_t3 S1, RS_k1 S1, RS_l1 S1, RS_t4 S1, RS_k2 S1, RS_l2 S1, RS_t5 S1, RS_k3 S1, RS_l3 S1, RS_t6 S1, RS_k4 S1, RS_l4 S1, RS_w S1, pk, pr2, pr10, ck, cl, ok, o0, o1, o3, sk, sl, ak, al, bk, bl, kc]; first | done | omega) | exact Or.inl rfl | exact Or.inr rfl) only [k_38_21, w_aload_0, w_aloadz_0, w_aloadv_0, gf_384, m_rv_s, m_rv_n, m_cat_n, m_cat_i, m_cat_r, m_cat_z, m_cat_rv, m_cat_l, Nat.zero_le, Nat.reduceLeDiff, Nat.reduceAdd, m_o_i, m_o_r, m_o_z, m_o_rv, m_C_inl, Option.toList_some, Option.toList_none, List.cons_append, List.nil_append, w_new, nf_1, w_dup_i, w_dup_r, w_dup_z, w_dup_v, w_astore_1, w_astorez_1, w_astorev_1, m_o_n, m_o_f, w_aload_1, w_aloadz_1, w_aloadv_1, gf_387, gf_2, pf_67, gf_65, w_iconst, w_icmp_ne, pf_390, tg_38_21, tg_38_74, tg_38_132, w_icmp_eq, w_if_eq, hs_n, hs_k, hs_l, hs_R, hs_I, hs_L, hs_setI, hs_setL, hs_cpy, RS_k S1, RS_r0 S1, RS_r2 S1, RS_r3 S1, RS_tk S1, RS_t0 S1, RS_bk S1, RS_bl S1, RS_t2 S1, RS_k0 S1, RS_l0 S1, RS_t3 S1, RS_k1 S1, RS_l1 S1, RS_t4 S1, RS_k2 S1, RS_l2 S1, RS_t5 S1, RS_k3 S1, RS_l3 S1, RS_t6 S1, RS_k4 S1, RS_l4 S1, RS_w S1, pk, pr2, pr10, ck, cl, ok, o0, o1, o3, sk, sl, ak, al, bk, bl, kc, up_up, up_sw, up_sa, up_eq, up_na, up_nk, i_add, i_sub, i_mul, i_tn, i_nat, Int.reduceToNat, Int.reduceAdd, Int.reduceSub, Int.reduceMul, Int.reduceNeg, l_32, l_nat, l_c_lt, l_c_gt, l_c_eq, i_lt, i_eq, i_lt0, i_0lt, i_eq0, i_eq1, Int.reduceLT, Int.reduceEq, Int.reduceLE, Int.reduceNe, not_true_eq_false, not_false_eq_true, Nat.lt_irrefl, Int.lt_irrefl, eq_self, eq_self, Nat.reduceAdd, Nat.reduceMul, Nat.reduceSub, Nat.reduceDiv, Nat.reduceMod, Nat.reduceEqDiff, Nat.reduceLeDiff, Nat.reduceLT, Nat.zero_add, Nat.add_zero, Nat.zero_le, and_false, and_true, and_self, false_and, true_and, or_false, or_true, if_true, if_false, ite_true, ite_false, ↓reduceIte, Int.reduceToNat, Int.reduceAdd, Int.reduceSub, Int.reduceMul, Int.reduceNeg, m_rv_s, m_rv_n, i3]
      simp (disch := first | omega | (simp (disch := omega) only [i_lt0, i_tn, i_nn, m_cat_n, m_cat_i, m_cat_r, m_cat_z, m_cat_rv, m_cat_l, m_o_n, m_o_i, m_o_r, m_o_z, m_o_rv, m_o_f, hs_n, hs_k, hs_l, Nat.reduceLeDiff, not_false_eq_true, or_true, true_or, or_false, false_or, RS_k S1, RS_r0 S1, RS_r2 S1, RS_r3 S1, RS_tk S1, RS_t0 S1, RS_bk S1, RS_bl S1, RS_t2 S1, RS_k0 S1, RS_l0 S1, RS_t3 S1, RS_k1 S1, RS_l1 S1, RS_t4 S1, RS_k2 S1, RS_l2 S1, RS_t5 S1, RS_k3 S1, RS_l3 S1, RS_t6 S1, RS_k4 S1, RS_l4 S1, RS_w S1, pk, pr2, pr10, ck, cl, ok, o0, o1, o3, sk, sl, ak, al, bk, bl, kc]; first | done | omega) | exact Or.inl rfl | exact Or.inr rfl) only [cl_42, m_cat_n, m_cat_i, m_cat_r, m_cat_z, m_cat_rv, m_cat_l, Nat.zero_le, Nat.reduceLeDiff, Nat.reduceAdd, m_o_i, m_o_r, m_o_z, m_o_rv, hs_n, hs_k, RS_k S1, RS_r0 S1, RS_r2 S1, RS_r3 S1, RS_tk S1, RS_t0 S1, RS_bk S1, RS_bl S1, RS_t2 S1, RS_k0 S1, RS_l0 S1, RS_t3 S1, RS_k1 S1, RS_l1 S1, RS_t4 S1, RS_k2 S1, RS_l2 S1, RS_t5 S1, RS_k3 S1, RS_l3 S1, RS_t6 S1, RS_k4 S1, RS_l4 S1, RS_w S1, pk, pr2, pr10, ck, cl, ok, o0, o1, o3, sk, sl, ak, al, bk, bl, kc]
      refine x_42 (a := false) (pl := 0) S1 (Y_fr (by omega) (fun x y h1 h2 => by rw [up_no (by omega), up_no (by omega)]) Y4) (by simp (disch := omega) only [up_eq, up_na, up_nk]) (by simp (disch := omega) only [up_eq, up_na, up_nk]; exact r14) (by decide) (fun G6 s3 c1 g6 ev6 Y6 => ?_)
      rw [show ∀ K9 : m_M, K9 r 5 = 0 → tx_ev (b, l) false 0 8 (0, p2') (K9 r 5) (s3, c1) = tx_ev (b, l) false 0 8 (0, p2') 0 (s3, c1) from fun K9 q => by rw [q]] at ev6
      · simp (disch := first | omega | (simp (disch := omega) only [i_lt0, i_tn, i_nn, m_cat_n, m_cat_i, m_cat_r, m_cat_z, m_cat_rv, m_cat_l, m_o_n, m_o_i, m_o_r, m_o_z, m_o_rv, m_o_f, hs_n, hs_k, hs_l, Nat.reduceLeDiff, not_false_eq_true, or_true, true_or, or_false, false_or, RS_k S1, RS_r0 S1, RS_r2 S1, RS_r3 S1, RS_tk S1, RS_t0 S1, RS_bk S1, RS_bl S1, RS_t2 S1, RS_k0 S1, RS_l0 S1, RS_t3 S1, RS_k1 S1, RS_l1 S1, RS_t4 S1, RS_k2 S1, RS_l2 S1, RS_t5 S1, RS_k3 S1, RS_l3 S1, RS_t6 S1, RS_k4 S1, RS_l4 S1, RS_w S1, pk, pr2, pr10, ck, cl, ok, o0, o1, o3, sk, sl, ak, al, bk, bl, kc]; first | done | omega) | exact Or.inl rfl | exact Or.inr rfl) only [k_38_21, w_aload_0, w_aloadz_0, w_aloadv_0, gf_384, m_rv_s, m_rv_n, m_cat_n, m_cat_i, m_cat_r, m_cat_z, m_cat_rv, m_cat_l, Nat.zero_le, Nat.reduceLeDiff, Nat.reduceAdd, m_o_i, m_o_r, m_o_z, m_o_rv, m_C_inl, Option.toList_some, Option.toList_none, List.cons_append, List.nil_append, w_new, nf_1, w_dup_i, w_dup_r, w_dup_z, w_dup_v, w_astore_1, w_astorez_1, w_astorev_1, m_o_n, m_o_f, w_aload_1, w_aloadz_1, w_aloadv_1, gf_387, gf_2, pf_67, gf_65, w_iconst, w_icmp_ne, pf_390, tg_38_21, tg_38_74, tg_38_132, w_icmp_eq, w_if_eq, hs_n, hs_k, hs_l, hs_R, hs_I, hs_L, hs_setI, hs_setL, hs_cpy, RS_k S1, RS_r0 S1, RS_r2 S1, RS_r3 S1, RS_tk S1, RS_t0 S1, RS_bk S1, RS_bl S1, RS_t2 S1, RS_k0 S1, RS_l0 S1, RS_t3 S1, RS_k1 S1, RS_l1 S1, RS_t4 S1, RS_k2 S1, RS_l2 S1, RS_t5 S1, RS_k3 S1, RS_l3 S1, RS_t6 S1, RS_k4 S1, RS_l4 S1, RS_w S1, pk, pr2, pr10, ck, cl, ok, o0, o1, o3, sk, sl, ak, al, bk, bl, kc, up_up, up_sw, up_sa, up_eq, up_na, up_nk, i_add, i_sub, i_mul, i_tn, i_nat, Int.reduceToNat, Int.reduceAdd, Int.reduceSub, Int.reduceMul, Int.reduceNeg, l_32, l_nat, l_c_lt, l_c_gt, l_c_eq, i_lt, i_eq, i_lt0, i_0lt, i_eq0, i_eq1, Int.reduceLT, Int.reduceEq, Int.reduceLE, Int.reduceNe, not_true_eq_false, not_false_eq_true, Nat.lt_irrefl, Int.lt_irrefl, eq_self, eq_self, Nat.reduceAdd, Nat.reduceMul, Nat.reduceSub, Nat.reduceDiv, Nat.reduceMod, Nat.reduceEqDiff, Nat.reduceLeDiff, Nat.reduceLT, Nat.zero_add, Nat.add_zero, Nat.zero_le, and_false, and_true, and_self, false_and, true_and, or_false, or_true, if_true, if_false, ite_true, ite_false, ↓reduceIte, Int.reduceToNat, Int.reduceAdd, Int.reduceSub, Int.reduceMul, Int.reduceNeg, m_rv_s, m_rv_n]
        refine fin G6 s3 c1 (fun _ => ev6) (fun q => absurd c3 q) Y6 (k_tr ?_ (k_r g6)) (fun y hy => ?_) (fun _ => ?_)
        · exact ⟨fun x y a b x1 x2 x3 x4 => by rw [up_no (by omega), up_no (by omega)], fun y hy => by rw [up_no (by omega), up_no (by omega)], by simp (disch := omega) only [up_na]; exact B4.2.2.1, by simp (disch := omega) only [up_na]; exact B4.2.2.2.1⟩
        · rw [g6.1 _ _ (by omega) (by omega) (by omega) (by omega), up_no (by omega), up_no (by omega)]
        · rw [g6.1 _ _ (by omega) (by omega) (by omega) (by omega)]
          simp (disch := omega) only [up_eq, up_na, up_nk]
          exact (Y4.2.2.2 rfl).1.1
      · simp (disch := omega) only [up_eq, up_na, up_nk]
        exact r54
    · have i3 : ¬ G4 c 1 = 3 := fun q => c3 (is3.mp q)
      simp (disch := first | omega | (simp (disch := omega) only [i_lt0, i_tn, i_nn, m_cat_n, m_cat_i, m_cat_r, m_cat_z, m_cat_rv, m_cat_l, m_o_n, m_o_i, m_o_r, m_o_z, m_o_rv, m_o_f, hs_n, hs_k, hs_l, Nat.reduceLeDiff, not_false_eq_true, or_true, true_or, or_false, false_or, RS_k S1, RS_r0 S1, RS_r2 S1, RS_r3 S1, RS_tk S1, RS_t0 S1, RS_bk S1, RS_bl S1, RS_t2 S1, RS_k0 S1, RS_l0 S1, RS_t3 S1, RS_k1 S1, RS_l1 S1, RS_t4 S1, RS_k2 S1, RS_l2 S1, RS_t5 S1, RS_k3 S1, RS_l3 S1, RS_t6 S1, RS_k4 S1, RS_l4 S1, RS_w S1, pk, pr2, pr10, ck, cl, ok, o0, o1, o3, sk, sl, ak, al, bk, bl, kc]; first | done | omega) | exact Or.inl rfl | exact Or.inr rfl) only [k_38_21, w_aload_0, w_aloadz_0, w_aloadv_0, gf_384, m_rv_s, m_rv_n, m_cat_n, m_cat_i, m_cat_r, m_cat_z, m_cat_rv, m_cat_l, Nat.zero_le, Nat.reduceLeDiff, Nat.reduceAdd, m_o_i, m_o_r, m_o_z, m_o_rv, m_C_inl, Option.toList_some, Option.toList_none, List.cons_append, List.nil_append, w_new, nf_1, w_dup_i, w_dup_r, w_dup_z, w_dup_v, w_astore_1, w_astorez_1, w_astorev_1, m_o_n, m_o_f, w_aload_1, w_aloadz_1, w_aloadv_1, gf_387, gf_2, pf_67, gf_65, w_iconst, w_icmp_ne, pf_390, tg_38_21, tg_38_74, tg_38_132, w_icmp_eq, w_if_eq, hs_n, hs_k, hs_l, hs_R, hs_I, hs_L, hs_setI, hs_setL, hs_cpy, RS_k S1, RS_r0 S1, RS_r2 S1, RS_r3 S1, RS_tk S1, RS_t0 S1, RS_bk S1, RS_bl S1, RS_t2 S1, RS_k0 S1, RS_l0 S1, RS_t3 S1, RS_k1 S1, RS_l1 S1, RS_t4 S1, RS_k2 S1, RS_l2 S1, RS_t5 S1, RS_k3 S1, RS_l3 S1, RS_t6 S1, RS_k4 S1, RS_l4 S1, RS_w S1, pk, pr2, pr10, ck, cl, ok, o0, o1, o3, sk, sl, ak, al, bk, bl, kc, up_up, up_sw, up_sa, up_eq, up_na, up_nk, i_add, i_sub, i_mul, i_tn, i_nat, Int.reduceToNat, Int.reduceAdd, Int.reduceSub, Int.reduceMul, Int.reduceNeg, l_32, l_nat, l_c_lt, l_c_gt, l_c_eq, i_lt, i_eq, i_lt0, i_0lt, i_eq0, i_eq1, Int.reduceLT, Int.reduceEq, Int.reduceLE, Int.reduceNe, not_true_eq_false, not_false_eq_true, Nat.lt_irrefl, Int.lt_irrefl, eq_self, eq_self, Nat.reduceAdd, Nat.reduceMul, Nat.reduceSub, Nat.reduceDiv, Nat.reduceMod, Nat.reduceEqDiff, Nat.reduceLeDiff, Nat.reduceLT, Nat.zero_add, Nat.add_zero, Nat.zero_le, and_false, and_true, and_self, false_and, true_and, or_false, or_true, if_true, if_false, ite_true, ite_false, ↓reduceIte, Int.reduceToNat, Int.reduceAdd, Int.reduceSub, Int.reduceMul, Int.reduceNeg, m_rv_s, m_rv_n, i3]
      refine fin (m_up G4 c 3 (G4 (r + 9) 2)) (e2', p2') [] (fun q => absurd q c3) (fun _ => ⟨rfl, rfl⟩) (by rw [List.append_nil]; exact Y_fr (by omega) (fun x y h1 h2 => by rw [up_no (by omega)]) Y4) ?_ (fun y hy => up_nk hy) (fun z9 => ?_)
      · exact ⟨fun x y a b x1 x2 x3 x4 => by rw [up_no (by omega)], fun y hy => by rw [up_no (by omega)], by simp (disch := omega) only [up_na]; exact B4.2.2.1, by simp (disch := omega) only [up_na]; exact B4.2.2.2.1⟩
      · rw [up_eq rfl rfl]
        exact (Y4.2.2.2 z9).1.1
