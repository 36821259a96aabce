/-! one change of the World, one change of the row -/
theorem u1_i {D : Nat → Int} {i j : Nat} {v : Int} (h : i = j) : tx_u1 D j v i = v := if_pos h
theorem I_b {G : tx_G} {D : Nat} {s : sp_R} (hI : sp_I G D s) : ∀ d : Nat, d < 4 → (-1 ≤ s (28 + (d : Int)).toNat ∧ s (28 + (d : Int)).toNat < s 1) ∧ (-1 ≤ s (32 + (d : Int)).toNat ∧ s (32 + (d : Int)).toNat < s 1) := fun d hd =>
  have a := I_d (dr := (d : Int)) hI (by omega) (by omega)
  ⟨a.1, a.2.1⟩
theorem I_20 {G : tx_G} {D : Nat} {s : sp_R} (hI : sp_I G D s) : ∀ d : Nat, d < 4 → s (44 + (d : Int)).toNat ≤ 20 := fun d hd => by
  have a := I_d (dr := (d : Int)) hI (by omega) (by omega)
  have b := I_n hI
  omega
section ZP
variable {u b : Nat} {G : tx_G} {D : Nat} {x : Int} {F F' : m_M} {s s' : sp_R} {j q : Nat} {v w y : Int}
theorem Z_no (hu : u < b) (hI : sp_I G D s) (Z : q_zz u b G x F s) (nj : zJ b F' s') (f0 : ∀ i k, (i = u ∨ (b ≤ i ∧ i < b + 124)) ∧ ¬ (b + 2 ≤ i ∧ i ≤ b + 7) → F' i k = F i k) (g0 : ∀ k, ¬ ((2 ≤ k ∧ k ≤ 11) ∨ 1592 ≤ k) → s' k = s k) : q_zz u b G x F' s' := by
  obtain ⟨zn, za, zc, zl, zs, zq, zm, zj, zk, zv, zw⟩ := Z
  have n1 := zv.2.2.2
  have n0 := zv.2.2.1
  have g1 : s' 1 = s 1 := g0 1 (by omega)
  refine ⟨zN_cg (fun y hy => f0 _ _ (by omega)) (fun k hk => g0 _ (by omega)) zn, zA_cg (fun d y d4 hy => f0 _ _ (by omega)) (fun k k1 k2 k3 => g0 _ (by omega)) za, zC_cg (fun d y d4 hy => ⟨f0 _ _ (by omega), fun y4 => f0 _ _ (by omega)⟩) (fun k k1 k2 => g0 _ (by omega)) zc, zL_cg (fun d y d4 => f0 _ _ (by omega)) (fun k k1 k2 => g0 _ (by omega)) (I_20 hI) zl, zS_cg (fun d y d4 hy => f0 _ _ (by omega)) n1 (g0 1 (by omega)) (fun q' j' hq' hj' => g0 _ (by omega)) zs, zQ_cg (fun q' y hq' hy => f0 _ _ (by omega)) n1 (g0 1 (by omega)) (fun k k1 k2 => g0 _ (by omega)) zq, zM_cg zv (fun q' hq' => f0 _ _ (by omega)) (g0 1 (by omega)) (fun q' j' hq' hj' => g0 _ (by omega)) (fun k hk => g0 _ (by omega)) zm, nj, zK_cg (fun q' hq' => f0 _ _ (by omega)) zk, zV_cg (g0 1 (by omega)) (fun d hd => by rw [g0 (12 + (d : Int)).toNat (by omega)]; exact (zv.1 d hd).1) (fun k k1 k2 => g0 _ (by omega)) (fun q' q0 q1 j' hj' => g0 _ (by omega)) (fun q' hq' => by rw [show sp_o s' q' 12 = sp_o s q' 12 from g0 _ (by omega)]; exact (zv.2.1 q' hq').2.2.2.2.1) (I_b hI) zv, zW_cg hI (fun k hk => g0 _ (by omega)) (fun q' q0 q1 => g0 _ (by omega)) zw⟩
theorem Z_ce (hu : u < b) (hI : sp_I G D s) (Z : q_zz u b G x F s) (hj : j < 4) (c1 : ∀ t : Nat, t < 8 → F' (b + 9 + 4 * j) t = s' (48 + 8 * (j : Int) + t).toNat) (c2 : ∀ t : Nat, t < 4 → F' (b + 9 + 4 * j) (8 + t) = s' (80 + 4 * (j : Int) + t).toNat) (f0 : ∀ i k, (i = u ∨ (b ≤ i ∧ i < b + 124)) ∧ ¬ (i = b + 9 + 4 * j) → F' i k = F i k) (g0 : ∀ k, ¬ ((48 + 8 * j ≤ k ∧ k < 56 + 8 * j) ∨ (80 + 4 * j ≤ k ∧ k < 84 + 4 * j)) → s' k = s k) : q_zz u b G x F' s' := by
  obtain ⟨zn, za, zc, zl, zs, zq, zm, zj, zk, zv, zw⟩ := Z
  have n1 := zv.2.2.2
  have n0 := zv.2.2.1
  have g1 : s' 1 = s 1 := g0 1 (by omega)
  refine ⟨zN_cg (fun y hy => f0 _ _ (by omega)) (fun k hk => g0 _ (by omega)) zn, zA_cg (fun d y d4 hy => f0 _ _ (by omega)) (fun k k1 k2 k3 => g0 _ (by omega)) za, ?_, zL_cg (fun d y d4 => f0 _ _ (by omega)) (fun k k1 k2 => g0 _ (by omega)) (I_20 hI) zl, zS_cg (fun d y d4 hy => f0 _ _ (by omega)) n1 (g0 1 (by omega)) (fun q' j' hq' hj' => g0 _ (by omega)) zs, zQ_cg (fun q' y hq' hy => f0 _ _ (by omega)) n1 (g0 1 (by omega)) (fun k k1 k2 => g0 _ (by omega)) zq, zM_cg zv (fun q' hq' => f0 _ _ (by omega)) (g0 1 (by omega)) (fun q' j' hq' hj' => g0 _ (by omega)) (fun k hk => g0 _ (by omega)) zm, zJ_cg (fun x y x1 x2 hy => f0 _ _ (by omega)) (fun k hk => g0 _ (by omega)) zj, zK_cg (fun q' hq' => f0 _ _ (by omega)) zk, zV_cg (g0 1 (by omega)) (fun d hd => by rw [g0 (12 + (d : Int)).toNat (by omega)]; exact (zv.1 d hd).1) (fun k k1 k2 => g0 _ (by omega)) (fun q' q0 q1 j' hj' => g0 _ (by omega)) (fun q' hq' => by rw [show sp_o s' q' 12 = sp_o s q' 12 from g0 _ (by omega)]; exact (zv.2.1 q' hq').2.2.2.2.1) (I_b hI) zv, zW_cg hI (fun k hk => g0 _ (by omega)) (fun q' q0 q1 => g0 _ (by omega)) zw⟩
  · intro d hd
    obtain ⟨a1, a2, a3⟩ := zc d hd
    by_cases e : d = j
    · rw [e] at a1 a2 a3 ⊢
      exact ⟨c1, c2, fun t ht => (f0 _ _ (by omega)).trans ((a3 t ht).trans (g0 _ (by omega)).symm)⟩
    · exact ⟨fun t ht => (f0 _ _ (by omega)).trans ((a1 t ht).trans (g0 _ (by omega)).symm), fun t ht => (f0 _ _ (by omega)).trans ((a2 t ht).trans (g0 _ (by omega)).symm), fun t ht => (f0 _ _ (by omega)).trans ((a3 t ht).trans (g0 _ (by omega)).symm)⟩
theorem Z_r9 (hu : u < b) (hI : sp_I G D s) (Z : q_zz u b G x F s) (hq : (q : Int) < s 1) (fv : F' (b + 24 + q) 10 = v) (gv : sp_o s' q 9 = v) (f0 : ∀ i k, (i = u ∨ (b ≤ i ∧ i < b + 124)) ∧ ¬ (i = b + 24 + q ∧ k = 10) → F' i k = F i k) (g0 : ∀ k, ¬ (k = (192 + 14 * (q : Int) + 9).toNat) → s' k = s k) : q_zz u b G x F' s' := by
  obtain ⟨zn, za, zc, zl, zs, zq, zm, zj, zk, zv, zw⟩ := Z
  have n1 := zv.2.2.2
  have n0 := zv.2.2.1
  have g1 : s' 1 = s 1 := g0 1 (by omega)
  refine ⟨zN_cg (fun y hy => f0 _ _ (by omega)) (fun k hk => g0 _ (by omega)) zn, zA_cg (fun d y d4 hy => f0 _ _ (by omega)) (fun k k1 k2 k3 => g0 _ (by omega)) za, zC_cg (fun d y d4 hy => ⟨f0 _ _ (by omega), fun y4 => f0 _ _ (by omega)⟩) (fun k k1 k2 => g0 _ (by omega)) zc, zL_cg (fun d y d4 => f0 _ _ (by omega)) (fun k k1 k2 => g0 _ (by omega)) (I_20 hI) zl, zS_cg (fun d y d4 hy => f0 _ _ (by omega)) n1 (g0 1 (by omega)) (fun q' j' hq' hj' => g0 _ (by omega)) zs, ?_, zM_cg zv (fun q' hq' => f0 _ _ (by omega)) (g0 1 (by omega)) (fun q' j' hq' hj' => g0 _ (by omega)) (fun k hk => g0 _ (by omega)) zm, zJ_cg (fun x y x1 x2 hy => f0 _ _ (by omega)) (fun k hk => g0 _ (by omega)) zj, zK_cg (fun q' hq' => f0 _ _ (by omega)) zk, zV_cg (g0 1 (by omega)) (fun d hd => by rw [g0 (12 + (d : Int)).toNat (by omega)]; exact (zv.1 d hd).1) (fun k k1 k2 => g0 _ (by omega)) (fun q' q0 q1 j' hj' => g0 _ (by omega)) (fun q' hq' => by rw [show sp_o s' q' 12 = sp_o s q' 12 from g0 _ (by omega)]; exact (zv.2.1 q' hq').2.2.2.2.1) (I_b hI) zv, zW_cg hI (fun k hk => g0 _ (by omega)) (fun q' q0 q1 => g0 _ (by omega)) zw⟩
  · intro q' hq'
    rw [g1] at hq'
    by_cases e : q' = q
    · rw [e]
      obtain ⟨a1, a2, a3, a4, a5, a6, a7, a8, a9, a10, a11, a13, a14, a15⟩ := zq q hq
      exact ⟨(f0 _ _ (by omega)).trans (a1.trans (g0 _ (by omega)).symm), (f0 _ _ (by omega)).trans (a2.trans (g0 _ (by omega)).symm), (f0 _ _ (by omega)).trans (a3.trans (g0 _ (by omega)).symm), (f0 _ _ (by omega)).trans (a4.trans (g0 _ (by omega)).symm), (f0 _ _ (by omega)).trans (a5.trans (g0 _ (by omega)).symm), (f0 _ _ (by omega)).trans (a6.trans (g0 _ (by omega)).symm), (f0 _ _ (by omega)).trans (a7.trans (g0 _ (by omega)).symm), (f0 _ _ (by omega)).trans (a8.trans (g0 _ (by omega)).symm), (f0 _ _ (by omega)).trans (a9.trans (g0 _ (by omega)).symm), fv.trans gv.symm, (f0 _ _ (by omega)).trans (a11.trans (g0 _ (by omega)).symm), (f0 _ _ (by omega)).trans (a13.trans (g0 _ (by omega)).symm), (f0 _ _ (by omega)).trans (a14.trans (g0 _ (by omega)).symm), (by rw [f0 _ _ (by omega), a15, show sp_o s' q 6 = sp_o s q 6 from g0 _ (by omega), show sp_o s' q 13 = sp_o s q 13 from g0 _ (by omega)])⟩
    · exact zQ1_cg (fun y hy => f0 _ _ (by omega)) (fun j' j0 j1 => g0 _ (by omega)) (zq q' hq')
theorem Z_r11 (hu : u < b) (hI : sp_I G D s) (Z : q_zz u b G x F s) (hq : (q : Int) < s 1) (fv : F' (b + 24 + q) 13 = v) (gv : sp_o s' q 11 = v) (f0 : ∀ i k, (i = u ∨ (b ≤ i ∧ i < b + 124)) ∧ ¬ (i = b + 24 + q ∧ k = 13) → F' i k = F i k) (g0 : ∀ k, ¬ (k = (192 + 14 * (q : Int) + 11).toNat) → s' k = s k) : q_zz u b G x F' s' := by
  obtain ⟨zn, za, zc, zl, zs, zq, zm, zj, zk, zv, zw⟩ := Z
  have n1 := zv.2.2.2
  have n0 := zv.2.2.1
  have g1 : s' 1 = s 1 := g0 1 (by omega)
  refine ⟨zN_cg (fun y hy => f0 _ _ (by omega)) (fun k hk => g0 _ (by omega)) zn, zA_cg (fun d y d4 hy => f0 _ _ (by omega)) (fun k k1 k2 k3 => g0 _ (by omega)) za, zC_cg (fun d y d4 hy => ⟨f0 _ _ (by omega), fun y4 => f0 _ _ (by omega)⟩) (fun k k1 k2 => g0 _ (by omega)) zc, zL_cg (fun d y d4 => f0 _ _ (by omega)) (fun k k1 k2 => g0 _ (by omega)) (I_20 hI) zl, zS_cg (fun d y d4 hy => f0 _ _ (by omega)) n1 (g0 1 (by omega)) (fun q' j' hq' hj' => g0 _ (by omega)) zs, ?_, zM_cg zv (fun q' hq' => f0 _ _ (by omega)) (g0 1 (by omega)) (fun q' j' hq' hj' => g0 _ (by omega)) (fun k hk => g0 _ (by omega)) zm, zJ_cg (fun x y x1 x2 hy => f0 _ _ (by omega)) (fun k hk => g0 _ (by omega)) zj, zK_cg (fun q' hq' => f0 _ _ (by omega)) zk, zV_cg (g0 1 (by omega)) (fun d hd => by rw [g0 (12 + (d : Int)).toNat (by omega)]; exact (zv.1 d hd).1) (fun k k1 k2 => g0 _ (by omega)) (fun q' q0 q1 j' hj' => g0 _ (by omega)) (fun q' hq' => by rw [show sp_o s' q' 12 = sp_o s q' 12 from g0 _ (by omega)]; exact (zv.2.1 q' hq').2.2.2.2.1) (I_b hI) zv, zW_cg hI (fun k hk => g0 _ (by omega)) (fun q' q0 q1 => g0 _ (by omega)) zw⟩
  · intro q' hq'
    rw [g1] at hq'
    by_cases e : q' = q
    · rw [e]
      obtain ⟨a1, a2, a3, a4, a5, a6, a7, a8, a9, a10, a11, a13, a14, a15⟩ := zq q hq
      exact ⟨(f0 _ _ (by omega)).trans (a1.trans (g0 _ (by omega)).symm), (f0 _ _ (by omega)).trans (a2.trans (g0 _ (by omega)).symm), (f0 _ _ (by omega)).trans (a3.trans (g0 _ (by omega)).symm), (f0 _ _ (by omega)).trans (a4.trans (g0 _ (by omega)).symm), (f0 _ _ (by omega)).trans (a5.trans (g0 _ (by omega)).symm), (f0 _ _ (by omega)).trans (a6.trans (g0 _ (by omega)).symm), (f0 _ _ (by omega)).trans (a7.trans (g0 _ (by omega)).symm), (f0 _ _ (by omega)).trans (a8.trans (g0 _ (by omega)).symm), (f0 _ _ (by omega)).trans (a9.trans (g0 _ (by omega)).symm), (f0 _ _ (by omega)).trans (a10.trans (g0 _ (by omega)).symm), (f0 _ _ (by omega)).trans (a11.trans (g0 _ (by omega)).symm), fv.trans gv.symm, (f0 _ _ (by omega)).trans (a14.trans (g0 _ (by omega)).symm), (by rw [f0 _ _ (by omega), a15, show sp_o s' q 6 = sp_o s q 6 from g0 _ (by omega), show sp_o s' q 13 = sp_o s q 13 from g0 _ (by omega)])⟩
    · exact zQ1_cg (fun y hy => f0 _ _ (by omega)) (fun j' j0 j1 => g0 _ (by omega)) (zq q' hq')
theorem Z_r12 (hu : u < b) (hI : sp_I G D s) (Z : q_zz u b G x F s) (hq : (q : Int) < s 1) (fv : F' (b + 24 + q) 14 = v) (gv : sp_o s' q 12 = v) (hv : 0 ≤ v) (f0 : ∀ i k, (i = u ∨ (b ≤ i ∧ i < b + 124)) ∧ ¬ (i = b + 24 + q ∧ k = 14) → F' i k = F i k) (g0 : ∀ k, ¬ (k = (192 + 14 * (q : Int) + 12).toNat) → s' k = s k) : q_zz u b G x F' s' := by
  obtain ⟨zn, za, zc, zl, zs, zq, zm, zj, zk, zv, zw⟩ := Z
  have n1 := zv.2.2.2
  have n0 := zv.2.2.1
  have g1 : s' 1 = s 1 := g0 1 (by omega)
  refine ⟨zN_cg (fun y hy => f0 _ _ (by omega)) (fun k hk => g0 _ (by omega)) zn, zA_cg (fun d y d4 hy => f0 _ _ (by omega)) (fun k k1 k2 k3 => g0 _ (by omega)) za, zC_cg (fun d y d4 hy => ⟨f0 _ _ (by omega), fun y4 => f0 _ _ (by omega)⟩) (fun k k1 k2 => g0 _ (by omega)) zc, zL_cg (fun d y d4 => f0 _ _ (by omega)) (fun k k1 k2 => g0 _ (by omega)) (I_20 hI) zl, zS_cg (fun d y d4 hy => f0 _ _ (by omega)) n1 (g0 1 (by omega)) (fun q' j' hq' hj' => g0 _ (by omega)) zs, ?_, zM_cg zv (fun q' hq' => f0 _ _ (by omega)) (g0 1 (by omega)) (fun q' j' hq' hj' => g0 _ (by omega)) (fun k hk => g0 _ (by omega)) zm, zJ_cg (fun x y x1 x2 hy => f0 _ _ (by omega)) (fun k hk => g0 _ (by omega)) zj, zK_cg (fun q' hq' => f0 _ _ (by omega)) zk, ?_, zW_cg hI (fun k hk => g0 _ (by omega)) (fun q' q0 q1 => g0 _ (by omega)) zw⟩
  · intro q' hq'
    rw [g1] at hq'
    by_cases e : q' = q
    · rw [e]
      obtain ⟨a1, a2, a3, a4, a5, a6, a7, a8, a9, a10, a11, a13, a14, a15⟩ := zq q hq
      exact ⟨(f0 _ _ (by omega)).trans (a1.trans (g0 _ (by omega)).symm), (f0 _ _ (by omega)).trans (a2.trans (g0 _ (by omega)).symm), (f0 _ _ (by omega)).trans (a3.trans (g0 _ (by omega)).symm), (f0 _ _ (by omega)).trans (a4.trans (g0 _ (by omega)).symm), (f0 _ _ (by omega)).trans (a5.trans (g0 _ (by omega)).symm), (f0 _ _ (by omega)).trans (a6.trans (g0 _ (by omega)).symm), (f0 _ _ (by omega)).trans (a7.trans (g0 _ (by omega)).symm), (f0 _ _ (by omega)).trans (a8.trans (g0 _ (by omega)).symm), (f0 _ _ (by omega)).trans (a9.trans (g0 _ (by omega)).symm), (f0 _ _ (by omega)).trans (a10.trans (g0 _ (by omega)).symm), (f0 _ _ (by omega)).trans (a11.trans (g0 _ (by omega)).symm), (f0 _ _ (by omega)).trans (a13.trans (g0 _ (by omega)).symm), fv.trans gv.symm, (by rw [f0 _ _ (by omega), a15, show sp_o s' q 6 = sp_o s q 6 from g0 _ (by omega), show sp_o s' q 13 = sp_o s q 13 from g0 _ (by omega)])⟩
    · exact zQ1_cg (fun y hy => f0 _ _ (by omega)) (fun j' j0 j1 => g0 _ (by omega)) (zq q' hq')
  · refine zV_cg (g0 1 (by omega)) (fun d hd => by rw [g0 (12 + (d : Int)).toNat (by omega)]; exact (zv.1 d hd).1) (fun k k1 k2 => g0 _ (by omega)) (fun q' q0 q1 j' hj' => g0 _ (by omega)) (fun q' hq' => ?_) (I_b hI) zv
    by_cases e : q' = q
    · rw [e, gv]
      exact hv
    · rw [show sp_o s' q' 12 = sp_o s q' 12 from g0 _ (by omega)]
      exact (zv.2.1 q' hq').2.2.2.2.1
theorem Z_r10 (hu : u < b) (hI : sp_I G D s) (Z : q_zz u b G (-1) F s) (hq : (q : Int) < s 1) (fv : F' (b + 24 + q) 11 = v) (gv : sp_o s' q 10 = v) (f12 : F' (b + 24 + q) 12 = 0) (f0 : ∀ i k, (i = u ∨ (b ≤ i ∧ i < b + 124)) ∧ ¬ (i = b + 24 + q ∧ (k = 11 ∨ k = 12)) → F' i k = F i k) (g0 : ∀ k, ¬ (k = (192 + 14 * (q : Int) + 10).toNat) → s' k = s k) : q_zz u b G q F' s' := by
  obtain ⟨zn, za, zc, zl, zs, zq, zm, zj, zk, zv, zw⟩ := Z
  have n1 := zv.2.2.2
  have n0 := zv.2.2.1
  have g1 : s' 1 = s 1 := g0 1 (by omega)
  refine ⟨zN_cg (fun y hy => f0 _ _ (by omega)) (fun k hk => g0 _ (by omega)) zn, zA_cg (fun d y d4 hy => f0 _ _ (by omega)) (fun k k1 k2 k3 => g0 _ (by omega)) za, zC_cg (fun d y d4 hy => ⟨f0 _ _ (by omega), fun y4 => f0 _ _ (by omega)⟩) (fun k k1 k2 => g0 _ (by omega)) zc, zL_cg (fun d y d4 => f0 _ _ (by omega)) (fun k k1 k2 => g0 _ (by omega)) (I_20 hI) zl, zS_cg (fun d y d4 hy => f0 _ _ (by omega)) n1 (g0 1 (by omega)) (fun q' j' hq' hj' => g0 _ (by omega)) zs, ?_, ?_, zJ_cg (fun x y x1 x2 hy => f0 _ _ (by omega)) (fun k hk => g0 _ (by omega)) zj, zK_cg (fun q' hq' => f0 _ _ (by omega)) zk, zV_cg (g0 1 (by omega)) (fun d hd => by rw [g0 (12 + (d : Int)).toNat (by omega)]; exact (zv.1 d hd).1) (fun k k1 k2 => g0 _ (by omega)) (fun q' q0 q1 j' hj' => g0 _ (by omega)) (fun q' hq' => by rw [show sp_o s' q' 12 = sp_o s q' 12 from g0 _ (by omega)]; exact (zv.2.1 q' hq').2.2.2.2.1) (I_b hI) zv, zW_cg hI (fun k hk => g0 _ (by omega)) (fun q' q0 q1 => g0 _ (by omega)) zw⟩
  · intro q' hq'
    rw [g1] at hq'
    by_cases e : q' = q
    · rw [e]
      obtain ⟨a1, a2, a3, a4, a5, a6, a7, a8, a9, a10, a11, a13, a14, a15⟩ := zq q hq
      exact ⟨(f0 _ _ (by omega)).trans (a1.trans (g0 _ (by omega)).symm), (f0 _ _ (by omega)).trans (a2.trans (g0 _ (by omega)).symm), (f0 _ _ (by omega)).trans (a3.trans (g0 _ (by omega)).symm), (f0 _ _ (by omega)).trans (a4.trans (g0 _ (by omega)).symm), (f0 _ _ (by omega)).trans (a5.trans (g0 _ (by omega)).symm), (f0 _ _ (by omega)).trans (a6.trans (g0 _ (by omega)).symm), (f0 _ _ (by omega)).trans (a7.trans (g0 _ (by omega)).symm), (f0 _ _ (by omega)).trans (a8.trans (g0 _ (by omega)).symm), (f0 _ _ (by omega)).trans (a9.trans (g0 _ (by omega)).symm), (f0 _ _ (by omega)).trans (a10.trans (g0 _ (by omega)).symm), fv.trans gv.symm, (f0 _ _ (by omega)).trans (a13.trans (g0 _ (by omega)).symm), (f0 _ _ (by omega)).trans (a14.trans (g0 _ (by omega)).symm), (by rw [f0 _ _ (by omega), a15, show sp_o s' q 6 = sp_o s q 6 from g0 _ (by omega), show sp_o s' q 13 = sp_o s q 13 from g0 _ (by omega)])⟩
    · exact zQ1_cg (fun y hy => f0 _ _ (by omega)) (fun j' j0 j1 => g0 _ (by omega)) (zq q' hq')
  · intro q' hq'
    rw [g1] at hq'
    have hd := (zv.2.1 q' hq').1
    by_cases e : q' = q
    · rw [e]
      unfold zM1
      rw [f12, if_neg (fun h => h.1 rfl)]
    · have z := zm q' hq'
      unfold zM1 at z ⊢
      rw [f0 _ _ (by omega), z, show sp_o s' q' 6 = sp_o s q' 6 from g0 _ (by omega), show sp_o s' q' 0 = sp_o s q' 0 from g0 _ (by omega), g0 (12 + sp_o s q' 0).toNat (by omega), g0 (36 + sp_o s q' 0).toNat (by omega)]
      have e1 : ¬ (q' : Int) = q := by omega
      have e2 : ¬ (q' : Int) = -1 := by omega
      simp only [e1, e2, not_false_eq_true, true_and]
theorem Z_st (hu : u < b) (hI : sp_I G D s) (Z : q_zz u b G x F s) (hj : j < 4) (fv : F' (b + 8 + 4 * j) 4 = v) (gv : s' (20 + (j : Int)).toNat = v) (f0 : ∀ i k, (i = u ∨ (b ≤ i ∧ i < b + 124)) ∧ ¬ (i = b + 8 + 4 * j ∧ k = 4) → F' i k = F i k) (g0 : ∀ k, ¬ (k = 20 + j) → s' k = s k) : q_zz u b G x F' s' := by
  obtain ⟨zn, za, zc, zl, zs, zq, zm, zj, zk, zv, zw⟩ := Z
  have n1 := zv.2.2.2
  have n0 := zv.2.2.1
  have g1 : s' 1 = s 1 := g0 1 (by omega)
  refine ⟨zN_cg (fun y hy => f0 _ _ (by omega)) (fun k hk => g0 _ (by omega)) zn, ?_, zC_cg (fun d y d4 hy => ⟨f0 _ _ (by omega), fun y4 => f0 _ _ (by omega)⟩) (fun k k1 k2 => g0 _ (by omega)) zc, zL_cg (fun d y d4 => f0 _ _ (by omega)) (fun k k1 k2 => g0 _ (by omega)) (I_20 hI) zl, zS_cg (fun d y d4 hy => f0 _ _ (by omega)) n1 (g0 1 (by omega)) (fun q' j' hq' hj' => g0 _ (by omega)) zs, zQ_cg (fun q' y hq' hy => f0 _ _ (by omega)) n1 (g0 1 (by omega)) (fun k k1 k2 => g0 _ (by omega)) zq, zM_cg zv (fun q' hq' => f0 _ _ (by omega)) (g0 1 (by omega)) (fun q' j' hq' hj' => g0 _ (by omega)) (fun k hk => g0 _ (by omega)) zm, zJ_cg (fun x y x1 x2 hy => f0 _ _ (by omega)) (fun k hk => g0 _ (by omega)) zj, zK_cg (fun q' hq' => f0 _ _ (by omega)) zk, zV_cg (g0 1 (by omega)) (fun d hd => by rw [g0 (12 + (d : Int)).toNat (by omega)]; exact (zv.1 d hd).1) (fun k k1 k2 => g0 _ (by omega)) (fun q' q0 q1 j' hj' => g0 _ (by omega)) (fun q' hq' => by rw [show sp_o s' q' 12 = sp_o s q' 12 from g0 _ (by omega)]; exact (zv.2.1 q' hq').2.2.2.2.1) (I_b hI) zv, zW_cg hI (fun k hk => g0 _ (by omega)) (fun q' q0 q1 => g0 _ (by omega)) zw⟩
  · intro d hd
    obtain ⟨a0, a1, a2, a3, a4, a8, a9, a10, a13⟩ := za d hd
    by_cases e : d = j
    · rw [e] at a0 a1 a2 a3 a4 a8 a9 a10 a13 ⊢
      exact ⟨(f0 _ _ (by omega)).trans a0, (f0 _ _ (by omega)).trans (a1.trans (g0 _ (by omega)).symm), fun h => (f0 _ _ (by omega)).trans ((a2 ((g0 _ (by omega)).symm.trans h)).trans (g0 _ (by omega)).symm), (f0 _ _ (by omega)).trans (a3.trans (g0 _ (by omega)).symm), fv.trans gv.symm, (f0 _ _ (by omega)).trans (a8.trans (g0 _ (by omega)).symm), (f0 _ _ (by omega)).trans (a9.trans (g0 _ (by omega)).symm), (f0 _ _ (by omega)).trans (a10.trans (g0 _ (by omega)).symm), (f0 _ _ (by omega)).trans (a13.trans (g0 _ (by omega)).symm)⟩
    · exact ⟨(f0 _ _ (by omega)).trans a0, (f0 _ _ (by omega)).trans (a1.trans (g0 _ (by omega)).symm), fun h => (f0 _ _ (by omega)).trans ((a2 ((g0 _ (by omega)).symm.trans h)).trans (g0 _ (by omega)).symm), (f0 _ _ (by omega)).trans (a3.trans (g0 _ (by omega)).symm), (f0 _ _ (by omega)).trans (a4.trans (g0 _ (by omega)).symm), (f0 _ _ (by omega)).trans (a8.trans (g0 _ (by omega)).symm), (f0 _ _ (by omega)).trans (a9.trans (g0 _ (by omega)).symm), (f0 _ _ (by omega)).trans (a10.trans (g0 _ (by omega)).symm), (f0 _ _ (by omega)).trans (a13.trans (g0 _ (by omega)).symm)⟩
theorem Z_up (hu : u < b) (hI : sp_I G D s) (Z : q_zz u b G x F s) (hj : j < 4) (fv : F' (b + 8 + 4 * j) 13 = v) (gv : s' (40 + (j : Int)).toNat = v) (f0 : ∀ i k, (i = u ∨ (b ≤ i ∧ i < b + 124)) ∧ ¬ (i = b + 8 + 4 * j ∧ k = 13) → F' i k = F i k) (g0 : ∀ k, ¬ (k = 40 + j) → s' k = s k) : q_zz u b G x F' s' := by
  obtain ⟨zn, za, zc, zl, zs, zq, zm, zj, zk, zv, zw⟩ := Z
  have n1 := zv.2.2.2
  have n0 := zv.2.2.1
  have g1 : s' 1 = s 1 := g0 1 (by omega)
  refine ⟨zN_cg (fun y hy => f0 _ _ (by omega)) (fun k hk => g0 _ (by omega)) zn, ?_, zC_cg (fun d y d4 hy => ⟨f0 _ _ (by omega), fun y4 => f0 _ _ (by omega)⟩) (fun k k1 k2 => g0 _ (by omega)) zc, zL_cg (fun d y d4 => f0 _ _ (by omega)) (fun k k1 k2 => g0 _ (by omega)) (I_20 hI) zl, zS_cg (fun d y d4 hy => f0 _ _ (by omega)) n1 (g0 1 (by omega)) (fun q' j' hq' hj' => g0 _ (by omega)) zs, zQ_cg (fun q' y hq' hy => f0 _ _ (by omega)) n1 (g0 1 (by omega)) (fun k k1 k2 => g0 _ (by omega)) zq, zM_cg zv (fun q' hq' => f0 _ _ (by omega)) (g0 1 (by omega)) (fun q' j' hq' hj' => g0 _ (by omega)) (fun k hk => g0 _ (by omega)) zm, zJ_cg (fun x y x1 x2 hy => f0 _ _ (by omega)) (fun k hk => g0 _ (by omega)) zj, zK_cg (fun q' hq' => f0 _ _ (by omega)) zk, zV_cg (g0 1 (by omega)) (fun d hd => by rw [g0 (12 + (d : Int)).toNat (by omega)]; exact (zv.1 d hd).1) (fun k k1 k2 => g0 _ (by omega)) (fun q' q0 q1 j' hj' => g0 _ (by omega)) (fun q' hq' => by rw [show sp_o s' q' 12 = sp_o s q' 12 from g0 _ (by omega)]; exact (zv.2.1 q' hq').2.2.2.2.1) (I_b hI) zv, zW_cg hI (fun k hk => g0 _ (by omega)) (fun q' q0 q1 => g0 _ (by omega)) zw⟩
  · intro d hd
    obtain ⟨a0, a1, a2, a3, a4, a8, a9, a10, a13⟩ := za d hd
    by_cases e : d = j
    · rw [e] at a0 a1 a2 a3 a4 a8 a9 a10 a13 ⊢
      exact ⟨(f0 _ _ (by omega)).trans a0, (f0 _ _ (by omega)).trans (a1.trans (g0 _ (by omega)).symm), fun h => (f0 _ _ (by omega)).trans ((a2 ((g0 _ (by omega)).symm.trans h)).trans (g0 _ (by omega)).symm), (f0 _ _ (by omega)).trans (a3.trans (g0 _ (by omega)).symm), (f0 _ _ (by omega)).trans (a4.trans (g0 _ (by omega)).symm), (f0 _ _ (by omega)).trans (a8.trans (g0 _ (by omega)).symm), (f0 _ _ (by omega)).trans (a9.trans (g0 _ (by omega)).symm), (f0 _ _ (by omega)).trans (a10.trans (g0 _ (by omega)).symm), fv.trans gv.symm⟩
    · exact ⟨(f0 _ _ (by omega)).trans a0, (f0 _ _ (by omega)).trans (a1.trans (g0 _ (by omega)).symm), fun h => (f0 _ _ (by omega)).trans ((a2 ((g0 _ (by omega)).symm.trans h)).trans (g0 _ (by omega)).symm), (f0 _ _ (by omega)).trans (a3.trans (g0 _ (by omega)).symm), (f0 _ _ (by omega)).trans (a4.trans (g0 _ (by omega)).symm), (f0 _ _ (by omega)).trans (a8.trans (g0 _ (by omega)).symm), (f0 _ _ (by omega)).trans (a9.trans (g0 _ (by omega)).symm), (f0 _ _ (by omega)).trans (a10.trans (g0 _ (by omega)).symm), (f0 _ _ (by omega)).trans (a13.trans (g0 _ (by omega)).symm)⟩
theorem Z_dn (hu : u < b) (hI : sp_I G D s) (Z : q_zz u b G x F s) (hj : j < 4) (hx : s (32 + (j : Int)).toNat = x) (f1 : F' (b + 8 + 4 * j) 1 = w) (gs : s' (12 + (j : Int)).toNat = w) (fv : w = 1 → F' (b + 8 + 4 * j) 2 = s' (16 + (j : Int)).toNat) (hw2 : 0 ≤ w ∧ w ≤ 2) (hw0 : ¬ w = 0) (f0 : ∀ i k, (i = u ∨ (b ≤ i ∧ i < b + 124)) ∧ ¬ (i = b + 8 + 4 * j ∧ (k = 1 ∨ k = 2)) → F' i k = F i k) (g0 : ∀ k, ¬ (k = 12 + j ∨ k = 16 + j) → s' k = s k) : q_zz u b G (-1) F' s' := by
  obtain ⟨zn, za, zc, zl, zs, zq, zm, zj, zk, zv, zw⟩ := Z
  have n1 := zv.2.2.2
  have n0 := zv.2.2.1
  have g1 : s' 1 = s 1 := g0 1 (by omega)
  refine ⟨zN_cg (fun y hy => f0 _ _ (by omega)) (fun k hk => g0 _ (by omega)) zn, ?_, zC_cg (fun d y d4 hy => ⟨f0 _ _ (by omega), fun y4 => f0 _ _ (by omega)⟩) (fun k k1 k2 => g0 _ (by omega)) zc, zL_cg (fun d y d4 => f0 _ _ (by omega)) (fun k k1 k2 => g0 _ (by omega)) (I_20 hI) zl, zS_cg (fun d y d4 hy => f0 _ _ (by omega)) n1 (g0 1 (by omega)) (fun q' j' hq' hj' => g0 _ (by omega)) zs, zQ_cg (fun q' y hq' hy => f0 _ _ (by omega)) n1 (g0 1 (by omega)) (fun k k1 k2 => g0 _ (by omega)) zq, ?_, zJ_cg (fun x y x1 x2 hy => f0 _ _ (by omega)) (fun k hk => g0 _ (by omega)) zj, zK_cg (fun q' hq' => f0 _ _ (by omega)) zk, ?_, zW_cg hI (fun k hk => g0 _ (by omega)) (fun q' q0 q1 => g0 _ (by omega)) zw⟩
  · intro d hd
    obtain ⟨a0, a1, a2, a3, a4, a8, a9, a10, a13⟩ := za d hd
    by_cases e : d = j
    · rw [e] at a0 a1 a2 a3 a4 a8 a9 a10 a13 ⊢
      exact ⟨(f0 _ _ (by omega)).trans a0, f1.trans gs.symm, fun h => fv (gs.symm.trans h), (f0 _ _ (by omega)).trans (a3.trans (g0 _ (by omega)).symm), (f0 _ _ (by omega)).trans (a4.trans (g0 _ (by omega)).symm), (f0 _ _ (by omega)).trans (a8.trans (g0 _ (by omega)).symm), (f0 _ _ (by omega)).trans (a9.trans (g0 _ (by omega)).symm), (f0 _ _ (by omega)).trans (a10.trans (g0 _ (by omega)).symm), (f0 _ _ (by omega)).trans (a13.trans (g0 _ (by omega)).symm)⟩
    · exact ⟨(f0 _ _ (by omega)).trans a0, (f0 _ _ (by omega)).trans (a1.trans (g0 _ (by omega)).symm), fun h => (f0 _ _ (by omega)).trans ((a2 ((g0 _ (by omega)).symm.trans h)).trans (g0 _ (by omega)).symm), (f0 _ _ (by omega)).trans (a3.trans (g0 _ (by omega)).symm), (f0 _ _ (by omega)).trans (a4.trans (g0 _ (by omega)).symm), (f0 _ _ (by omega)).trans (a8.trans (g0 _ (by omega)).symm), (f0 _ _ (by omega)).trans (a9.trans (g0 _ (by omega)).symm), (f0 _ _ (by omega)).trans (a10.trans (g0 _ (by omega)).symm), (f0 _ _ (by omega)).trans (a13.trans (g0 _ (by omega)).symm)⟩
  · intro q' hq'
    rw [g1] at hq'
    have hd := (zv.2.1 q' hq').1
    have hw := (zv.2.1 q' hq').2.2.2.2.2
    have hv2 := (zv.1 j hj).2.1
    rw [hx] at hv2
    have z := zm q' hq'
    unfold zM1 at z ⊢
    rw [f0 _ _ (by omega), z, show sp_o s' q' 6 = sp_o s q' 6 from g0 _ (by omega), show sp_o s' q' 0 = sp_o s q' 0 from g0 _ (by omega)]
    have e2 : ¬ (q' : Int) = -1 := by omega
    by_cases e : sp_o s q' 0 = j
    · rw [e, hx] at hw
      rw [e, gs]
      have e1 : ¬ (¬ (q' : Int) = x ∧ sp_o s q' 6 = 1 ∧ s (12 + (j : Int)).toNat = 0) := fun h => h.1 (hw h.2.1).symm
      have e3 : ¬ (¬ (q' : Int) = -1 ∧ sp_o s q' 6 = 1 ∧ w = 0) := fun h => hw0 h.2.2
      rw [if_neg e1, if_neg e3]
    · rw [g0 (12 + sp_o s q' 0).toNat (by omega), g0 (36 + sp_o s q' 0).toNat (by omega)]
      have e1 : ¬ (q' : Int) = x := fun ex => by
        have h1 := hv2 (by omega)
        rw [← ex] at h1
        exact e h1.1
      simp only [e1, e2, not_false_eq_true, true_and]
  · refine zV_cg (g0 1 (by omega)) (fun d hd => ?_) (fun k k1 k2 => g0 _ (by omega)) (fun q' q0 q1 j' hj' => g0 _ (by omega)) (fun q' hq' => by rw [show sp_o s' q' 12 = sp_o s q' 12 from g0 _ (by omega)]; exact (zv.2.1 q' hq').2.2.2.2.1) (I_b hI) zv
    by_cases e : d = j
    · rw [e, gs]
      exact hw2
    · rw [g0 (12 + (d : Int)).toNat (by omega)]
      exact (zv.1 d hd).1
theorem Z_rs (hu : u < b) (hI : sp_I G D s) (Z : q_zz u b G (-1) F s) (hj : j < 4) (hx : s (32 + (j : Int)).toNat = x) (f1 : F' (b + 8 + 4 * j) 1 = 0) (gs : s' (12 + (j : Int)).toNat = 0) (fv : F' (b + 8 + 4 * j) 3 = v) (gv : s' (24 + (j : Int)).toNat = v) (hw0 : ¬ s (12 + (j : Int)).toNat = 0) (f0 : ∀ i k, (i = u ∨ (b ≤ i ∧ i < b + 124)) ∧ ¬ (i = b + 8 + 4 * j ∧ (k = 1 ∨ k = 3)) → F' i k = F i k) (g0 : ∀ k, ¬ (k = 12 + j ∨ k = 24 + j) → s' k = s k) : q_zz u b G x F' s' := by
  obtain ⟨zn, za, zc, zl, zs, zq, zm, zj, zk, zv, zw⟩ := Z
  have n1 := zv.2.2.2
  have n0 := zv.2.2.1
  have g1 : s' 1 = s 1 := g0 1 (by omega)
  refine ⟨zN_cg (fun y hy => f0 _ _ (by omega)) (fun k hk => g0 _ (by omega)) zn, ?_, zC_cg (fun d y d4 hy => ⟨f0 _ _ (by omega), fun y4 => f0 _ _ (by omega)⟩) (fun k k1 k2 => g0 _ (by omega)) zc, zL_cg (fun d y d4 => f0 _ _ (by omega)) (fun k k1 k2 => g0 _ (by omega)) (I_20 hI) zl, zS_cg (fun d y d4 hy => f0 _ _ (by omega)) n1 (g0 1 (by omega)) (fun q' j' hq' hj' => g0 _ (by omega)) zs, zQ_cg (fun q' y hq' hy => f0 _ _ (by omega)) n1 (g0 1 (by omega)) (fun k k1 k2 => g0 _ (by omega)) zq, ?_, zJ_cg (fun x y x1 x2 hy => f0 _ _ (by omega)) (fun k hk => g0 _ (by omega)) zj, zK_cg (fun q' hq' => f0 _ _ (by omega)) zk, ?_, zW_cg hI (fun k hk => g0 _ (by omega)) (fun q' q0 q1 => g0 _ (by omega)) zw⟩
  · intro d hd
    obtain ⟨a0, a1, a2, a3, a4, a8, a9, a10, a13⟩ := za d hd
    by_cases e : d = j
    · rw [e] at a0 a1 a2 a3 a4 a8 a9 a10 a13 ⊢
      exact ⟨(f0 _ _ (by omega)).trans a0, f1.trans gs.symm, fun h => absurd (gs.symm.trans h) (by decide), fv.trans gv.symm, (f0 _ _ (by omega)).trans (a4.trans (g0 _ (by omega)).symm), (f0 _ _ (by omega)).trans (a8.trans (g0 _ (by omega)).symm), (f0 _ _ (by omega)).trans (a9.trans (g0 _ (by omega)).symm), (f0 _ _ (by omega)).trans (a10.trans (g0 _ (by omega)).symm), (f0 _ _ (by omega)).trans (a13.trans (g0 _ (by omega)).symm)⟩
    · exact ⟨(f0 _ _ (by omega)).trans a0, (f0 _ _ (by omega)).trans (a1.trans (g0 _ (by omega)).symm), fun h => (f0 _ _ (by omega)).trans ((a2 ((g0 _ (by omega)).symm.trans h)).trans (g0 _ (by omega)).symm), (f0 _ _ (by omega)).trans (a3.trans (g0 _ (by omega)).symm), (f0 _ _ (by omega)).trans (a4.trans (g0 _ (by omega)).symm), (f0 _ _ (by omega)).trans (a8.trans (g0 _ (by omega)).symm), (f0 _ _ (by omega)).trans (a9.trans (g0 _ (by omega)).symm), (f0 _ _ (by omega)).trans (a10.trans (g0 _ (by omega)).symm), (f0 _ _ (by omega)).trans (a13.trans (g0 _ (by omega)).symm)⟩
  · intro q' hq'
    rw [g1] at hq'
    have hd := (zv.2.1 q' hq').1
    have hw := (zv.2.1 q' hq').2.2.2.2.2
    have hv2 := (zv.1 j hj).2.1
    rw [hx] at hv2
    have z := zm q' hq'
    unfold zM1 at z ⊢
    rw [f0 _ _ (by omega), z, show sp_o s' q' 6 = sp_o s q' 6 from g0 _ (by omega), show sp_o s' q' 0 = sp_o s q' 0 from g0 _ (by omega)]
    have e2 : ¬ (q' : Int) = -1 := by omega
    by_cases e : sp_o s q' 0 = j
    · rw [e, hx] at hw
      rw [e, gs]
      have e1 : ¬ (¬ (q' : Int) = -1 ∧ sp_o s q' 6 = 1 ∧ s (12 + (j : Int)).toNat = 0) := fun h => hw0 h.2.2
      have e3 : ¬ (¬ (q' : Int) = x ∧ sp_o s q' 6 = 1 ∧ (0 : Int) = 0) := fun h => h.1 (hw h.2.1).symm
      rw [if_neg e1, if_neg e3]
    · rw [g0 (12 + sp_o s q' 0).toNat (by omega), g0 (36 + sp_o s q' 0).toNat (by omega)]
      have e1 : ¬ (q' : Int) = x := fun ex => by
        have h1 := hv2 (by omega)
        rw [← ex] at h1
        exact e h1.1
      simp only [e1, e2, not_false_eq_true, true_and]
  · refine zV_cg (g0 1 (by omega)) (fun d hd => ?_) (fun k k1 k2 => g0 _ (by omega)) (fun q' q0 q1 j' hj' => g0 _ (by omega)) (fun q' hq' => by rw [show sp_o s' q' 12 = sp_o s q' 12 from g0 _ (by omega)]; exact (zv.2.1 q' hq').2.2.2.2.1) (I_b hI) zv
    by_cases e : d = j
    · rw [e, gs]
      decide
    · rw [g0 (12 + (d : Int)).toNat (by omega)]
      exact (zv.1 d hd).1
theorem Z_bad (hu : u < b) (hI : sp_I G D s) (Z : q_zz u b G x F s) (hj : j < 4) (hq : (q : Int) < s 1) (ho : sp_o s q 0 = (j : Int)) (hw : sp_o s q 6 < 2) (hc : (sp_o s q 6 = 0 ∧ F' (b + 8 + 4 * j) 9 = F (b + 8 + 4 * j) 9 ∧ F (b + 8 + 4 * j) 10 = q ∧ F' (b + 8 + 4 * j) 10 = -1 ∧ F' (b + 8 + 4 * j) 11 = F (b + 8 + 4 * j) 11 - 1) ∨ (sp_o s q 6 = 0 ∧ F' (b + 8 + 4 * j) 9 = F (b + 8 + 4 * j) 9 ∧ ¬ F (b + 8 + 4 * j) 10 = q ∧ F' (b + 8 + 4 * j) 10 = F (b + 8 + 4 * j) 10 ∧ F' (b + 8 + 4 * j) 11 = F (b + 8 + 4 * j) 11 - 1) ∨ (sp_o s q 6 = 1 ∧ F' (b + 8 + 4 * j) 9 = -1 ∧ F' (b + 8 + 4 * j) 10 = F (b + 8 + 4 * j) 10 ∧ F' (b + 8 + 4 * j) 11 = F (b + 8 + 4 * j) 11)) (f7 : F' (b + 24 + q) 7 = 3) (h6 : sp_o s' q 6 = 3) (f8 : F' (b + 24 + q) 8 = y) (h7 : sp_o s' q 7 = y) (f12 : F' (b + 24 + q) 12 = 0) (f15 : F' (b + 24 + q) 15 = s 0) (h13 : sp_o s' q 13 = s 0) (r28 : s' (28 + (j : Int)).toNat = if s (28 + (j : Int)).toNat = q then -1 else s (28 + (j : Int)).toNat) (r32 : s' (32 + (j : Int)).toNat = if s (32 + (j : Int)).toNat = q then -1 else s (32 + (j : Int)).toNat) (f0 : ∀ i k, (i = u ∨ (b ≤ i ∧ i < b + 124)) ∧ ¬ ((i = b + 8 + 4 * j ∧ (k = 9 ∨ k = 10 ∨ k = 11)) ∨ (i = b + 24 + q ∧ (k = 7 ∨ k = 8 ∨ k = 12 ∨ k = 15))) → F' i k = F i k) (g0 : ∀ k, ¬ (k = (192 + 14 * (q : Int) + 6).toNat ∨ k = (192 + 14 * (q : Int) + 7).toNat ∨ k = (192 + 14 * (q : Int) + 13).toNat ∨ k = 28 + j ∨ k = 32 + j) → s' k = s k) : q_zz u b G x F' s' := by
  obtain ⟨zn, za, zc, zl, zs, zq, zm, zj, zk, zv, zw⟩ := Z
  have n1 := zv.2.2.2
  have n0 := zv.2.2.1
  have g1 : s' 1 = s 1 := g0 1 (by omega)
  obtain ⟨v1, v2, v3⟩ := zv.1 j hj
  have vq := (zv.2.1 q hq).2.2.2.2.2
  rw [ho] at vq
  have d9 := (za j hj).2.2.2.2.2.2.1
  have d10 := (za j hj).2.2.2.2.2.2.2.1
  have f9 : F' (b + 8 + 4 * j) 9 = if s (32 + (j : Int)).toNat = q then -1 else s (32 + (j : Int)).toNat := by
    by_cases c : s (32 + (j : Int)).toNat = q
    · have c2 := (v2 (by omega)).2
      rw [c] at c2
      rw [if_pos c]
      omega
    · rw [if_neg c]
      omega
  have f10 : F' (b + 8 + 4 * j) 10 = if s (28 + (j : Int)).toNat = q then -1 else s (28 + (j : Int)).toNat := by
    by_cases c : s (28 + (j : Int)).toNat = q
    · have c2 := (v3 (by omega)).2
      rw [c] at c2
      rw [if_pos c]
      omega
    · rw [if_neg c]
      omega
  have f11 : F' (b + 8 + 4 * j) 11 = F (b + 8 + 4 * j) 11 + (if sp_o s q 6 = 0 then -1 else 0) := by
    split <;> omega
  refine ⟨zN_cg (fun y hy => f0 _ _ (by omega)) (fun k hk => g0 _ (by omega)) zn, ?_, zC_cg (fun d y d4 hy => ⟨f0 _ _ (by omega), fun y4 => f0 _ _ (by omega)⟩) (fun k k1 k2 => g0 _ (by omega)) zc, zL_cg (fun d y d4 => f0 _ _ (by omega)) (fun k k1 k2 => g0 _ (by omega)) (I_20 hI) zl, ?_, ?_, ?_, zJ_cg (fun x y x1 x2 hy => f0 _ _ (by omega)) (fun k hk => g0 _ (by omega)) zj, zK_cg (fun q' hq' => f0 _ _ (by omega)) zk, ?_, zW_cg hI (fun k hk => g0 _ (by omega)) (fun q' q0 q1 => g0 _ (by omega)) zw⟩
  · intro d hd
    obtain ⟨a0, a1, a2, a3, a4, a8, a9, a10, a13⟩ := za d hd
    by_cases e : d = j
    · rw [e] at a0 a1 a2 a3 a4 a8 a9 a10 a13 ⊢
      exact ⟨(f0 _ _ (by omega)).trans a0, (f0 _ _ (by omega)).trans (a1.trans (g0 _ (by omega)).symm), fun h => (f0 _ _ (by omega)).trans ((a2 ((g0 _ (by omega)).symm.trans h)).trans (g0 _ (by omega)).symm), (f0 _ _ (by omega)).trans (a3.trans (g0 _ (by omega)).symm), (f0 _ _ (by omega)).trans (a4.trans (g0 _ (by omega)).symm), (f0 _ _ (by omega)).trans (a8.trans (g0 _ (by omega)).symm), f9.trans r32.symm, f10.trans r28.symm, (f0 _ _ (by omega)).trans (a13.trans (g0 _ (by omega)).symm)⟩
    · exact ⟨(f0 _ _ (by omega)).trans a0, (f0 _ _ (by omega)).trans (a1.trans (g0 _ (by omega)).symm), fun h => (f0 _ _ (by omega)).trans ((a2 ((g0 _ (by omega)).symm.trans h)).trans (g0 _ (by omega)).symm), (f0 _ _ (by omega)).trans (a3.trans (g0 _ (by omega)).symm), (f0 _ _ (by omega)).trans (a4.trans (g0 _ (by omega)).symm), (f0 _ _ (by omega)).trans (a8.trans (g0 _ (by omega)).symm), (f0 _ _ (by omega)).trans (a9.trans (g0 _ (by omega)).symm), (f0 _ _ (by omega)).trans (a10.trans (g0 _ (by omega)).symm), (f0 _ _ (by omega)).trans (a13.trans (g0 _ (by omega)).symm)⟩
  · intro d hd
    obtain ⟨a1, a2, a3, a4, a5⟩ := zs d hd
    have hk : ∀ i : Nat, i < (s 1).toNat → ¬ i = q → (sp_fq s' d i = sp_fq s d i ∧ sp_fc s' d i = sp_fc s d i ∧ sp_ft s' d i = sp_ft s d i) ∧ sp_dn s' i = sp_dn s i := fun i hi e => by
      have a := fq_cg (d := (d : Int)) (s := s) (s' := s') (q := i) (fun j' j0 j1 => g0 _ (by omega))
      exact ⟨⟨a.1, a.2.1, a.2.2.1⟩, a.2.2.2⟩
    have o0 : sp_o s' q 0 = sp_o s q 0 := g0 _ (by omega)
    have o5 : sp_o s' q 5 = sp_o s q 5 := g0 _ (by omega)
    have o4 : sp_o s' q 4 = sp_o s q 4 := g0 _ (by omega)
    have e11 : F' (b + 8 + 4 * d) 11 = F (b + 8 + 4 * d) 11 + (if d = j ∧ sp_o s q 6 = 0 then -1 else 0) := by
      by_cases e : d = j
      · rw [e, f11]; (try split) <;> (try split) <;> omega
      · rw [f0 _ _ (by omega)]; (try split) <;> (try split) <;> omega
    have e14 : F' (b + 8 + 4 * d) 14 = F (b + 8 + 4 * d) 14 + 0 := by
      by_cases e : d = j
      · rw [e, f0 _ _ (by omega)]; (try split) <;> (try split) <;> omega
      · rw [f0 _ _ (by omega)]; (try split) <;> (try split) <;> omega
    have e15 : F' (b + 8 + 4 * d) 15 = F (b + 8 + 4 * d) 15 + 0 := by
      by_cases e : d = j
      · rw [e, f0 _ _ (by omega)]; (try split) <;> (try split) <;> omega
      · rw [f0 _ _ (by omega)]; (try split) <;> (try split) <;> omega
    refine ⟨?_, ?_, ?_, ?_, fun q' hq' ho' h66 => ?_⟩
    · rw [g1, sm_u (f := sp_fq s d) (q := q) _ (by omega) (fun i hi e => (hk i hi e).1.1), ← a1, e11]
      unfold sp_fq
      rw [h6, o0, ho]
      (repeat' split) <;> omega
    · rw [g1, sm_u (f := sp_fc s d) (q := q) _ (by omega) (fun i hi e => (hk i hi e).1.2.1), ← a2, e14]
      unfold sp_fc
      rw [h6, o0, ho]
      (repeat' split) <;> omega
    · rw [g1, sm_u (f := sp_ft s d) (q := q) _ (by omega) (fun i hi e => (hk i hi e).1.2.2), ← a3, e15]
      unfold sp_ft
      rw [h6, o0, ho, o5]
      (repeat' split) <;> omega
    · rw [f0 _ _ (by omega)]; exact a4
    · rw [g1] at hq'
      have e : ¬ q' = q := fun e => by
        rw [e, h6] at h66
        exact absurd h66 (by decide)
      rw [f0 _ _ (by omega), (hk q' (by omega) e).2]
      exact a5 q' hq' ((show sp_o s q' 0 = sp_o s' q' 0 from (g0 _ (by omega)).symm).trans ho') ((show sp_o s q' 6 = sp_o s' q' 6 from (g0 _ (by omega)).symm).trans h66)
  · intro q' hq'
    rw [g1] at hq'
    by_cases e : q' = q
    · rw [e]
      obtain ⟨a1, a2, a3, a4, a5, a6, a7, a8, a9, a10, a11, a13, a14, a15⟩ := zq q hq
      exact ⟨(f0 _ _ (by omega)).trans (a1.trans (g0 _ (by omega)).symm), (f0 _ _ (by omega)).trans (a2.trans (g0 _ (by omega)).symm), (f0 _ _ (by omega)).trans (a3.trans (g0 _ (by omega)).symm), (f0 _ _ (by omega)).trans (a4.trans (g0 _ (by omega)).symm), (f0 _ _ (by omega)).trans (a5.trans (g0 _ (by omega)).symm), (f0 _ _ (by omega)).trans (a6.trans (g0 _ (by omega)).symm), f7.trans h6.symm, f8.trans h7.symm, (f0 _ _ (by omega)).trans (a9.trans (g0 _ (by omega)).symm), (f0 _ _ (by omega)).trans (a10.trans (g0 _ (by omega)).symm), (f0 _ _ (by omega)).trans (a11.trans (g0 _ (by omega)).symm), (f0 _ _ (by omega)).trans (a13.trans (g0 _ (by omega)).symm), (f0 _ _ (by omega)).trans (a14.trans (g0 _ (by omega)).symm), (by rw [f15, h6, h13]; rfl)⟩
    · exact zQ1_cg (fun y hy => f0 _ _ (by omega)) (fun j' j0 j1 => g0 _ (by omega)) (zq q' hq')
  · intro q' hq'
    rw [g1] at hq'
    have hd := (zv.2.1 q' hq').1
    have hw6 := (zv.2.1 q' hq').2.2.2.2.2
    have z := zm q' hq'
    by_cases e : q' = q
    · rw [e] at z ⊢
      unfold zM1 at z ⊢
      rw [f12, h6, if_neg]
      exact fun h => absurd h.2.1 (by decide)
    · unfold zM1 at z ⊢
      rw [f0 _ _ (by omega), z, show sp_o s' q' 6 = sp_o s q' 6 from g0 _ (by omega), show sp_o s' q' 0 = sp_o s q' 0 from g0 _ (by omega), g0 (12 + sp_o s q' 0).toNat (by omega), g0 (36 + sp_o s q' 0).toNat (by omega)]
  · refine ⟨fun d hd => ?_, fun q' hq' => ?_, by rw [g1]; exact n0, by rw [g1]; exact n1⟩
    · obtain ⟨a1, a2, a3⟩ := zv.1 d hd
      obtain ⟨b1, b2⟩ := I_b hI d hd
      have ob : ∀ (r k : Int), -1 ≤ r → r < s 1 → ¬ r = q → (k = 0 ∨ k = 6) → sp_o s' r k = sp_o s r k := fun r k r0 r1 r2 hk => g0 _ (by omega)
      have o0 : sp_o s' q 0 = sp_o s q 0 := g0 _ (by omega)
      unfold zV1
      refine ⟨by rw [show s' (12 + (d : Int)).toNat = s (12 + (d : Int)).toNat from g0 _ (by omega)]; exact a1, ?_⟩
      by_cases e : d = j
      · rw [e] at a2 a3 b1 b2 ⊢
        rw [r32, r28]
        refine ⟨fun h => ?_, fun h => ?_⟩
        · by_cases c : s (32 + (j : Int)).toNat = q
          · rw [if_pos c] at h
            exact absurd rfl h
          · rw [if_neg c] at h ⊢
            exact ⟨(ob _ 0 b2.1 b2.2 c (by omega)).trans (a2 h).1, (ob _ 6 b2.1 b2.2 c (by omega)).trans (a2 h).2⟩
        · by_cases c : s (28 + (j : Int)).toNat = q
          · rw [if_pos c] at h
            exact absurd rfl h
          · rw [if_neg c] at h ⊢
            exact ⟨(ob _ 0 b1.1 b1.2 c (by omega)).trans (a3 h).1, (ob _ 6 b1.1 b1.2 c (by omega)).trans (a3 h).2⟩
      · have e2 : ¬ s (32 + (d : Int)).toNat = q := fun z => by
          have := (a2 (by omega)).1
          rw [z, ho] at this
          omega
        have e3 : ¬ s (28 + (d : Int)).toNat = q := fun z => by
          have := (a3 (by omega)).1
          rw [z, ho] at this
          omega
        rw [show s' (32 + (d : Int)).toNat = s (32 + (d : Int)).toNat from g0 _ (by omega), show s' (28 + (d : Int)).toNat = s (28 + (d : Int)).toNat from g0 _ (by omega)]
        exact ⟨fun h => ⟨(ob _ 0 b2.1 b2.2 e2 (by omega)).trans (a2 h).1, (ob _ 6 b2.1 b2.2 e2 (by omega)).trans (a2 h).2⟩, fun h => ⟨(ob _ 0 b1.1 b1.2 e3 (by omega)).trans (a3 h).1, (ob _ 6 b1.1 b1.2 e3 (by omega)).trans (a3 h).2⟩⟩
    · rw [g1] at hq'
      obtain ⟨c1, c2, c3, c4, c5, c6⟩ := zv.2.1 q' hq'
      have oc : ∀ k : Int, (k = 0 ∨ k = 3 ∨ k = 4 ∨ k = 12) → sp_o s' q' k = sp_o s q' k := fun k hk => g0 _ (by omega)
      unfold zV2
      rw [oc 0 (by omega), oc 3 (by omega), oc 4 (by omega), oc 12 (by omega)]
      by_cases e : q' = q
      · rw [e] at c1 c3 c4 c5 ⊢
        rw [ho] at c1
        rw [h6, ho]
        exact ⟨c1, by decide, c3, c4, c5, fun h => absurd h (by decide)⟩
      · rw [show sp_o s' q' 6 = sp_o s q' 6 from g0 _ (by omega)]
        refine ⟨c1, c2, c3, c4, c5, fun h => ?_⟩
        have c7 := c6 h
        by_cases e4 : sp_o s q' 0 = j
        · rw [e4] at c7 ⊢
          rw [r32, if_neg (by omega)]
          exact c7
        · rw [g0 (32 + sp_o s q' 0).toNat (by omega)]
          exact c7
theorem Z_w1 (hu : u < b) (hI : sp_I G D s) (Z : q_zz u b G x F s) (hj : j < 4) (hq : (q : Int) < s 1) (ho : sp_o s q 0 = (j : Int)) (hw : sp_o s q 6 = 1) (f7 : F' (b + 24 + q) 7 = 2) (h6 : sp_o s' q 6 = 2) (f8 : F' (b + 24 + q) 9 = y) (h7 : sp_o s' q 8 = y) (f12 : F' (b + 24 + q) 12 = 0) (f15 : F' (b + 24 + q) 15 = s 0) (h13 : sp_o s' q 13 = s 0) (f9 : F' (b + 8 + 4 * j) 9 = -1) (r32 : s' (32 + (j : Int)).toNat = -1) (f14 : F' (b + 8 + 4 * j) 14 = F (b + 8 + 4 * j) 14 + 1) (f1_ : F' (b + 8 + 4 * j) 15 = F (b + 8 + 4 * j) 15 + (s 0 - F (b + 24 + q) 6)) (f0 : ∀ i k, (i = u ∨ (b ≤ i ∧ i < b + 124)) ∧ ¬ ((i = b + 8 + 4 * j ∧ (k = 9 ∨ k = 14 ∨ k = 15)) ∨ (i = b + 24 + q ∧ (k = 7 ∨ k = 9 ∨ k = 12 ∨ k = 15))) → F' i k = F i k) (g0 : ∀ k, ¬ (k = (192 + 14 * (q : Int) + 6).toNat ∨ k = (192 + 14 * (q : Int) + 8).toNat ∨ k = (192 + 14 * (q : Int) + 13).toNat ∨ k = 32 + j) → s' k = s k) : q_zz u b G x F' s' := by
  obtain ⟨zn, za, zc, zl, zs, zq, zm, zj, zk, zv, zw⟩ := Z
  have n1 := zv.2.2.2
  have n0 := zv.2.2.1
  have g1 : s' 1 = s 1 := g0 1 (by omega)
  refine ⟨zN_cg (fun y hy => f0 _ _ (by omega)) (fun k hk => g0 _ (by omega)) zn, ?_, zC_cg (fun d y d4 hy => ⟨f0 _ _ (by omega), fun y4 => f0 _ _ (by omega)⟩) (fun k k1 k2 => g0 _ (by omega)) zc, zL_cg (fun d y d4 => f0 _ _ (by omega)) (fun k k1 k2 => g0 _ (by omega)) (I_20 hI) zl, ?_, ?_, ?_, zJ_cg (fun x y x1 x2 hy => f0 _ _ (by omega)) (fun k hk => g0 _ (by omega)) zj, zK_cg (fun q' hq' => f0 _ _ (by omega)) zk, ?_, zW_cg hI (fun k hk => g0 _ (by omega)) (fun q' q0 q1 => g0 _ (by omega)) zw⟩
  · intro d hd
    obtain ⟨a0, a1, a2, a3, a4, a8, a9, a10, a13⟩ := za d hd
    by_cases e : d = j
    · rw [e] at a0 a1 a2 a3 a4 a8 a9 a10 a13 ⊢
      exact ⟨(f0 _ _ (by omega)).trans a0, (f0 _ _ (by omega)).trans (a1.trans (g0 _ (by omega)).symm), fun h => (f0 _ _ (by omega)).trans ((a2 ((g0 _ (by omega)).symm.trans h)).trans (g0 _ (by omega)).symm), (f0 _ _ (by omega)).trans (a3.trans (g0 _ (by omega)).symm), (f0 _ _ (by omega)).trans (a4.trans (g0 _ (by omega)).symm), (f0 _ _ (by omega)).trans (a8.trans (g0 _ (by omega)).symm), f9.trans r32.symm, (f0 _ _ (by omega)).trans (a10.trans (g0 _ (by omega)).symm), (f0 _ _ (by omega)).trans (a13.trans (g0 _ (by omega)).symm)⟩
    · exact ⟨(f0 _ _ (by omega)).trans a0, (f0 _ _ (by omega)).trans (a1.trans (g0 _ (by omega)).symm), fun h => (f0 _ _ (by omega)).trans ((a2 ((g0 _ (by omega)).symm.trans h)).trans (g0 _ (by omega)).symm), (f0 _ _ (by omega)).trans (a3.trans (g0 _ (by omega)).symm), (f0 _ _ (by omega)).trans (a4.trans (g0 _ (by omega)).symm), (f0 _ _ (by omega)).trans (a8.trans (g0 _ (by omega)).symm), (f0 _ _ (by omega)).trans (a9.trans (g0 _ (by omega)).symm), (f0 _ _ (by omega)).trans (a10.trans (g0 _ (by omega)).symm), (f0 _ _ (by omega)).trans (a13.trans (g0 _ (by omega)).symm)⟩
  · intro d hd
    obtain ⟨a1, a2, a3, a4, a5⟩ := zs d hd
    have hk : ∀ i : Nat, i < (s 1).toNat → ¬ i = q → (sp_fq s' d i = sp_fq s d i ∧ sp_fc s' d i = sp_fc s d i ∧ sp_ft s' d i = sp_ft s d i) ∧ sp_dn s' i = sp_dn s i := fun i hi e => by
      have a := fq_cg (d := (d : Int)) (s := s) (s' := s') (q := i) (fun j' j0 j1 => g0 _ (by omega))
      exact ⟨⟨a.1, a.2.1, a.2.2.1⟩, a.2.2.2⟩
    have o0 : sp_o s' q 0 = sp_o s q 0 := g0 _ (by omega)
    have o5 : sp_o s' q 5 = sp_o s q 5 := g0 _ (by omega)
    have o4 : sp_o s' q 4 = sp_o s q 4 := g0 _ (by omega)
    have e11 : F' (b + 8 + 4 * d) 11 = F (b + 8 + 4 * d) 11 + 0 := by
      by_cases e : d = j
      · rw [e, f0 _ _ (by omega)]; (try split) <;> (try split) <;> omega
      · rw [f0 _ _ (by omega)]; (try split) <;> (try split) <;> omega
    have e14 : F' (b + 8 + 4 * d) 14 = F (b + 8 + 4 * d) 14 + (if d = j then 1 else 0) := by
      by_cases e : d = j
      · rw [e, f14]; (try split) <;> (try split) <;> omega
      · rw [f0 _ _ (by omega)]; (try split) <;> (try split) <;> omega
    have e15 : F' (b + 8 + 4 * d) 15 = F (b + 8 + 4 * d) 15 + (if d = j then s 0 - sp_o s q 5 else 0) := by
      by_cases e : d = j
      · rw [e, f1_, (zq q hq).2.2.2.2.2.1]; (try split) <;> (try split) <;> omega
      · rw [f0 _ _ (by omega)]; (try split) <;> (try split) <;> omega
    refine ⟨?_, ?_, ?_, ?_, fun q' hq' ho' h66 => ?_⟩
    · rw [g1, sm_u (f := sp_fq s d) (q := q) _ (by omega) (fun i hi e => (hk i hi e).1.1), ← a1, e11]
      unfold sp_fq
      rw [h6, o0, ho]
      (repeat' split) <;> omega
    · rw [g1, sm_u (f := sp_fc s d) (q := q) _ (by omega) (fun i hi e => (hk i hi e).1.2.1), ← a2, e14]
      unfold sp_fc
      rw [h6, o0, ho]
      (repeat' split) <;> omega
    · rw [g1, sm_u (f := sp_ft s d) (q := q) _ (by omega) (fun i hi e => (hk i hi e).1.2.2), ← a3, e15]
      unfold sp_ft
      rw [h6, o0, ho, o5, h13]
      (repeat' split) <;> omega
    · rw [f0 _ _ (by omega)]; exact a4
    · rw [g1] at hq'
      have e : ¬ q' = q := fun e => by
        rw [e, h6] at h66
        exact absurd h66 (by decide)
      rw [f0 _ _ (by omega), (hk q' (by omega) e).2]
      exact a5 q' hq' ((show sp_o s q' 0 = sp_o s' q' 0 from (g0 _ (by omega)).symm).trans ho') ((show sp_o s q' 6 = sp_o s' q' 6 from (g0 _ (by omega)).symm).trans h66)
  · intro q' hq'
    rw [g1] at hq'
    by_cases e : q' = q
    · rw [e]
      obtain ⟨a1, a2, a3, a4, a5, a6, a7, a8, a9, a10, a11, a13, a14, a15⟩ := zq q hq
      exact ⟨(f0 _ _ (by omega)).trans (a1.trans (g0 _ (by omega)).symm), (f0 _ _ (by omega)).trans (a2.trans (g0 _ (by omega)).symm), (f0 _ _ (by omega)).trans (a3.trans (g0 _ (by omega)).symm), (f0 _ _ (by omega)).trans (a4.trans (g0 _ (by omega)).symm), (f0 _ _ (by omega)).trans (a5.trans (g0 _ (by omega)).symm), (f0 _ _ (by omega)).trans (a6.trans (g0 _ (by omega)).symm), f7.trans h6.symm, (f0 _ _ (by omega)).trans (a8.trans (g0 _ (by omega)).symm), f8.trans h7.symm, (f0 _ _ (by omega)).trans (a10.trans (g0 _ (by omega)).symm), (f0 _ _ (by omega)).trans (a11.trans (g0 _ (by omega)).symm), (f0 _ _ (by omega)).trans (a13.trans (g0 _ (by omega)).symm), (f0 _ _ (by omega)).trans (a14.trans (g0 _ (by omega)).symm), (by rw [f15, h6, h13]; rfl)⟩
    · exact zQ1_cg (fun y hy => f0 _ _ (by omega)) (fun j' j0 j1 => g0 _ (by omega)) (zq q' hq')
  · intro q' hq'
    rw [g1] at hq'
    have hd := (zv.2.1 q' hq').1
    have hw6 := (zv.2.1 q' hq').2.2.2.2.2
    have z := zm q' hq'
    by_cases e : q' = q
    · rw [e] at z ⊢
      unfold zM1 at z ⊢
      rw [f12, h6, if_neg]
      exact fun h => absurd h.2.1 (by decide)
    · unfold zM1 at z ⊢
      rw [f0 _ _ (by omega), z, show sp_o s' q' 6 = sp_o s q' 6 from g0 _ (by omega), show sp_o s' q' 0 = sp_o s q' 0 from g0 _ (by omega), g0 (12 + sp_o s q' 0).toNat (by omega), g0 (36 + sp_o s q' 0).toNat (by omega)]
  · refine ⟨fun d hd => ?_, fun q' hq' => ?_, by rw [g1]; exact n0, by rw [g1]; exact n1⟩
    · obtain ⟨a1, a2, a3⟩ := zv.1 d hd
      obtain ⟨b1, b2⟩ := I_b hI d hd
      have ob : ∀ (r k : Int), -1 ≤ r → r < s 1 → ¬ r = q → (k = 0 ∨ k = 6) → sp_o s' r k = sp_o s r k := fun r k r0 r1 r2 hk => g0 _ (by omega)
      have o0 : sp_o s' q 0 = sp_o s q 0 := g0 _ (by omega)
      unfold zV1
      refine ⟨by rw [show s' (12 + (d : Int)).toNat = s (12 + (d : Int)).toNat from g0 _ (by omega)]; exact a1, ?_⟩
      by_cases e : d = j
      · rw [e] at a2 a3 b1 b2 ⊢
        have e3 : ¬ s (28 + (j : Int)).toNat = q := fun z => by
          have := (a3 (by omega)).2
          rw [z] at this
          omega
        rw [r32, show s' (28 + (j : Int)).toNat = s (28 + (j : Int)).toNat from g0 _ (by omega)]
        exact ⟨fun h => absurd rfl h, fun h => ⟨(ob _ 0 b1.1 b1.2 e3 (by omega)).trans (a3 h).1, (ob _ 6 b1.1 b1.2 e3 (by omega)).trans (a3 h).2⟩⟩
      · have e2 : ¬ s (32 + (d : Int)).toNat = q := fun z => by
          have := (a2 (by omega)).1
          rw [z, ho] at this
          omega
        have e3 : ¬ s (28 + (d : Int)).toNat = q := fun z => by
          have := (a3 (by omega)).1
          rw [z, ho] at this
          omega
        rw [show s' (32 + (d : Int)).toNat = s (32 + (d : Int)).toNat from g0 _ (by omega), show s' (28 + (d : Int)).toNat = s (28 + (d : Int)).toNat from g0 _ (by omega)]
        exact ⟨fun h => ⟨(ob _ 0 b2.1 b2.2 e2 (by omega)).trans (a2 h).1, (ob _ 6 b2.1 b2.2 e2 (by omega)).trans (a2 h).2⟩, fun h => ⟨(ob _ 0 b1.1 b1.2 e3 (by omega)).trans (a3 h).1, (ob _ 6 b1.1 b1.2 e3 (by omega)).trans (a3 h).2⟩⟩
    · rw [g1] at hq'
      obtain ⟨c1, c2, c3, c4, c5, c6⟩ := zv.2.1 q' hq'
      have oc : ∀ k : Int, (k = 0 ∨ k = 3 ∨ k = 4 ∨ k = 12) → sp_o s' q' k = sp_o s q' k := fun k hk => g0 _ (by omega)
      unfold zV2
      rw [oc 0 (by omega), oc 3 (by omega), oc 4 (by omega), oc 12 (by omega)]
      by_cases e : q' = q
      · rw [e] at c1 c3 c4 c5 ⊢
        rw [ho] at c1
        rw [h6, ho]
        exact ⟨c1, by decide, c3, c4, c5, fun h => absurd h (by decide)⟩
      · rw [show sp_o s' q' 6 = sp_o s q' 6 from g0 _ (by omega)]
        refine ⟨c1, c2, c3, c4, c5, fun h => ?_⟩
        have c7 := c6 h
        by_cases e4 : sp_o s q' 0 = j
        · rw [e4] at c7 ⊢
          have vq := (zv.2.1 q hq).2.2.2.2.2 hw
          rw [ho] at vq
          omega
        · rw [g0 (32 + sp_o s q' 0).toNat (by omega)]
          exact c7
theorem Z_ag (hu : u < b) (hI : sp_I G D s) (Z : q_zz u b G q F s) (hj : j < 4) (hq : (q : Int) < s 1) (ho : sp_o s q 0 = (j : Int)) (hw : sp_o s q 6 = 1) (f7 : F' (b + 24 + q) 7 = 0) (h6 : sp_o s' q 6 = 0) (f9 : F' (b + 8 + 4 * j) 9 = -1) (r32 : s' (32 + (j : Int)).toNat = -1) (f10 : F' (b + 8 + 4 * j) 10 = q) (r28 : s' (28 + (j : Int)).toNat = q) (f11 : F' (b + 8 + 4 * j) 11 = F (b + 8 + 4 * j) 11 + 1) (f12 : F' (b + 8 + 4 * j) 12 ≤ F (b + 8 + 4 * j) 12 ∧ F' (b + 8 + 4 * j) 12 ≤ sp_dn s q ∧ -2147483648 ≤ F' (b + 8 + 4 * j) 12) (f0 : ∀ i k, (i = u ∨ (b ≤ i ∧ i < b + 124)) ∧ ¬ ((i = b + 8 + 4 * j ∧ (k = 9 ∨ k = 10 ∨ k = 11 ∨ k = 12)) ∨ (i = b + 24 + q ∧ k = 7)) → F' i k = F i k) (g0 : ∀ k, ¬ (k = (192 + 14 * (q : Int) + 6).toNat ∨ k = 28 + j ∨ k = 32 + j) → s' k = s k) : q_zz u b G (-1) F' s' := by
  obtain ⟨zn, za, zc, zl, zs, zq, zm, zj, zk, zv, zw⟩ := Z
  have n1 := zv.2.2.2
  have n0 := zv.2.2.1
  have g1 : s' 1 = s 1 := g0 1 (by omega)
  refine ⟨zN_cg (fun y hy => f0 _ _ (by omega)) (fun k hk => g0 _ (by omega)) zn, ?_, zC_cg (fun d y d4 hy => ⟨f0 _ _ (by omega), fun y4 => f0 _ _ (by omega)⟩) (fun k k1 k2 => g0 _ (by omega)) zc, zL_cg (fun d y d4 => f0 _ _ (by omega)) (fun k k1 k2 => g0 _ (by omega)) (I_20 hI) zl, ?_, ?_, ?_, zJ_cg (fun x y x1 x2 hy => f0 _ _ (by omega)) (fun k hk => g0 _ (by omega)) zj, zK_cg (fun q' hq' => f0 _ _ (by omega)) zk, ?_, zW_cg hI (fun k hk => g0 _ (by omega)) (fun q' q0 q1 => g0 _ (by omega)) zw⟩
  · intro d hd
    obtain ⟨a0, a1, a2, a3, a4, a8, a9, a10, a13⟩ := za d hd
    by_cases e : d = j
    · rw [e] at a0 a1 a2 a3 a4 a8 a9 a10 a13 ⊢
      exact ⟨(f0 _ _ (by omega)).trans a0, (f0 _ _ (by omega)).trans (a1.trans (g0 _ (by omega)).symm), fun h => (f0 _ _ (by omega)).trans ((a2 ((g0 _ (by omega)).symm.trans h)).trans (g0 _ (by omega)).symm), (f0 _ _ (by omega)).trans (a3.trans (g0 _ (by omega)).symm), (f0 _ _ (by omega)).trans (a4.trans (g0 _ (by omega)).symm), (f0 _ _ (by omega)).trans (a8.trans (g0 _ (by omega)).symm), f9.trans r32.symm, f10.trans r28.symm, (f0 _ _ (by omega)).trans (a13.trans (g0 _ (by omega)).symm)⟩
    · exact ⟨(f0 _ _ (by omega)).trans a0, (f0 _ _ (by omega)).trans (a1.trans (g0 _ (by omega)).symm), fun h => (f0 _ _ (by omega)).trans ((a2 ((g0 _ (by omega)).symm.trans h)).trans (g0 _ (by omega)).symm), (f0 _ _ (by omega)).trans (a3.trans (g0 _ (by omega)).symm), (f0 _ _ (by omega)).trans (a4.trans (g0 _ (by omega)).symm), (f0 _ _ (by omega)).trans (a8.trans (g0 _ (by omega)).symm), (f0 _ _ (by omega)).trans (a9.trans (g0 _ (by omega)).symm), (f0 _ _ (by omega)).trans (a10.trans (g0 _ (by omega)).symm), (f0 _ _ (by omega)).trans (a13.trans (g0 _ (by omega)).symm)⟩
  · intro d hd
    obtain ⟨a1, a2, a3, a4, a5⟩ := zs d hd
    have hk : ∀ i : Nat, i < (s 1).toNat → ¬ i = q → (sp_fq s' d i = sp_fq s d i ∧ sp_fc s' d i = sp_fc s d i ∧ sp_ft s' d i = sp_ft s d i) ∧ sp_dn s' i = sp_dn s i := fun i hi e => by
      have a := fq_cg (d := (d : Int)) (s := s) (s' := s') (q := i) (fun j' j0 j1 => g0 _ (by omega))
      exact ⟨⟨a.1, a.2.1, a.2.2.1⟩, a.2.2.2⟩
    have o0 : sp_o s' q 0 = sp_o s q 0 := g0 _ (by omega)
    have o5 : sp_o s' q 5 = sp_o s q 5 := g0 _ (by omega)
    have o4 : sp_o s' q 4 = sp_o s q 4 := g0 _ (by omega)
    have e11 : F' (b + 8 + 4 * d) 11 = F (b + 8 + 4 * d) 11 + (if d = j then 1 else 0) := by
      by_cases e : d = j
      · rw [e, f11]; (try split) <;> (try split) <;> omega
      · rw [f0 _ _ (by omega)]; (try split) <;> (try split) <;> omega
    have e14 : F' (b + 8 + 4 * d) 14 = F (b + 8 + 4 * d) 14 + 0 := by
      by_cases e : d = j
      · rw [e, f0 _ _ (by omega)]; (try split) <;> (try split) <;> omega
      · rw [f0 _ _ (by omega)]; (try split) <;> (try split) <;> omega
    have e15 : F' (b + 8 + 4 * d) 15 = F (b + 8 + 4 * d) 15 + 0 := by
      by_cases e : d = j
      · rw [e, f0 _ _ (by omega)]; (try split) <;> (try split) <;> omega
      · rw [f0 _ _ (by omega)]; (try split) <;> (try split) <;> omega
    refine ⟨?_, ?_, ?_, ?_, fun q' hq' ho' h66 => ?_⟩
    · rw [g1, sm_u (f := sp_fq s d) (q := q) _ (by omega) (fun i hi e => (hk i hi e).1.1), ← a1, e11]
      unfold sp_fq
      rw [h6, o0, ho]
      (repeat' split) <;> omega
    · rw [g1, sm_u (f := sp_fc s d) (q := q) _ (by omega) (fun i hi e => (hk i hi e).1.2.1), ← a2, e14]
      unfold sp_fc
      rw [h6, o0, ho]
      (repeat' split) <;> omega
    · rw [g1, sm_u (f := sp_ft s d) (q := q) _ (by omega) (fun i hi e => (hk i hi e).1.2.2), ← a3, e15]
      unfold sp_ft
      rw [h6, o0, ho, o5]
      (repeat' split) <;> omega
    · by_cases e : d = j
      · rw [e] at a4 ⊢
        omega
      · rw [f0 _ _ (by omega)]
        exact a4
    · rw [g1] at hq'
      by_cases e : q' = q
      · rw [e, o0, ho] at ho'
        have : sp_dn s' q = sp_dn s q := by unfold sp_dn; rw [o4, o5]
        rw [e, show d = j by omega, this]
        exact f12.2.1
      · have a := a5 q' hq' ((show sp_o s q' 0 = sp_o s' q' 0 from (g0 _ (by omega)).symm).trans ho') ((show sp_o s q' 6 = sp_o s' q' 6 from (g0 _ (by omega)).symm).trans h66)
        rw [(hk q' (by omega) e).2]
        by_cases e5 : d = j
        · rw [e5] at a ⊢
          omega
        · rw [f0 _ _ (by omega)]
          exact a
  · intro q' hq'
    rw [g1] at hq'
    by_cases e : q' = q
    · rw [e]
      obtain ⟨a1, a2, a3, a4, a5, a6, a7, a8, a9, a10, a11, a13, a14, a15⟩ := zq q hq
      exact ⟨(f0 _ _ (by omega)).trans (a1.trans (g0 _ (by omega)).symm), (f0 _ _ (by omega)).trans (a2.trans (g0 _ (by omega)).symm), (f0 _ _ (by omega)).trans (a3.trans (g0 _ (by omega)).symm), (f0 _ _ (by omega)).trans (a4.trans (g0 _ (by omega)).symm), (f0 _ _ (by omega)).trans (a5.trans (g0 _ (by omega)).symm), (f0 _ _ (by omega)).trans (a6.trans (g0 _ (by omega)).symm), f7.trans h6.symm, (f0 _ _ (by omega)).trans (a8.trans (g0 _ (by omega)).symm), (f0 _ _ (by omega)).trans (a9.trans (g0 _ (by omega)).symm), (f0 _ _ (by omega)).trans (a10.trans (g0 _ (by omega)).symm), (f0 _ _ (by omega)).trans (a11.trans (g0 _ (by omega)).symm), (f0 _ _ (by omega)).trans (a13.trans (g0 _ (by omega)).symm), (f0 _ _ (by omega)).trans (a14.trans (g0 _ (by omega)).symm), (by rw [f0 _ _ (by omega), a15, h6, hw]; rfl)⟩
    · exact zQ1_cg (fun y hy => f0 _ _ (by omega)) (fun j' j0 j1 => g0 _ (by omega)) (zq q' hq')
  · intro q' hq'
    rw [g1] at hq'
    have hd := (zv.2.1 q' hq').1
    have hw6 := (zv.2.1 q' hq').2.2.2.2.2
    have z := zm q' hq'
    by_cases e : q' = q
    · rw [e] at z ⊢
      unfold zM1 at z ⊢
      rw [f0 _ _ (by omega), z, h6, if_neg, if_neg]
      · exact fun h => absurd h.2.1 (by decide)
      · exact fun h => h.1 rfl
    · unfold zM1 at z ⊢
      rw [f0 _ _ (by omega), z, show sp_o s' q' 6 = sp_o s q' 6 from g0 _ (by omega), show sp_o s' q' 0 = sp_o s q' 0 from g0 _ (by omega), g0 (12 + sp_o s q' 0).toNat (by omega), g0 (36 + sp_o s q' 0).toNat (by omega)]
      have e1 : ¬ (q' : Int) = q := by omega
      have e2 : ¬ (q' : Int) = -1 := by omega
      simp only [e1, e2, not_false_eq_true, true_and]
  · refine ⟨fun d hd => ?_, fun q' hq' => ?_, by rw [g1]; exact n0, by rw [g1]; exact n1⟩
    · obtain ⟨a1, a2, a3⟩ := zv.1 d hd
      obtain ⟨b1, b2⟩ := I_b hI d hd
      have ob : ∀ (r k : Int), -1 ≤ r → r < s 1 → ¬ r = q → (k = 0 ∨ k = 6) → sp_o s' r k = sp_o s r k := fun r k r0 r1 r2 hk => g0 _ (by omega)
      have o0 : sp_o s' q 0 = sp_o s q 0 := g0 _ (by omega)
      unfold zV1
      refine ⟨by rw [show s' (12 + (d : Int)).toNat = s (12 + (d : Int)).toNat from g0 _ (by omega)]; exact a1, ?_⟩
      by_cases e : d = j
      · rw [e] at a2 a3 b1 b2 ⊢
        rw [r32, r28]
        exact ⟨fun h => absurd rfl h, fun h => ⟨o0.trans ho, h6⟩⟩
      · have e2 : ¬ s (32 + (d : Int)).toNat = q := fun z => by
          have := (a2 (by omega)).1
          rw [z, ho] at this
          omega
        have e3 : ¬ s (28 + (d : Int)).toNat = q := fun z => by
          have := (a3 (by omega)).1
          rw [z, ho] at this
          omega
        rw [show s' (32 + (d : Int)).toNat = s (32 + (d : Int)).toNat from g0 _ (by omega), show s' (28 + (d : Int)).toNat = s (28 + (d : Int)).toNat from g0 _ (by omega)]
        exact ⟨fun h => ⟨(ob _ 0 b2.1 b2.2 e2 (by omega)).trans (a2 h).1, (ob _ 6 b2.1 b2.2 e2 (by omega)).trans (a2 h).2⟩, fun h => ⟨(ob _ 0 b1.1 b1.2 e3 (by omega)).trans (a3 h).1, (ob _ 6 b1.1 b1.2 e3 (by omega)).trans (a3 h).2⟩⟩
    · rw [g1] at hq'
      obtain ⟨c1, c2, c3, c4, c5, c6⟩ := zv.2.1 q' hq'
      have oc : ∀ k : Int, (k = 0 ∨ k = 3 ∨ k = 4 ∨ k = 12) → sp_o s' q' k = sp_o s q' k := fun k hk => g0 _ (by omega)
      unfold zV2
      rw [oc 0 (by omega), oc 3 (by omega), oc 4 (by omega), oc 12 (by omega)]
      by_cases e : q' = q
      · rw [e] at c1 c3 c4 c5 ⊢
        rw [ho] at c1
        rw [h6, ho]
        exact ⟨c1, by decide, c3, c4, c5, fun h => absurd h (by decide)⟩
      · rw [show sp_o s' q' 6 = sp_o s q' 6 from g0 _ (by omega)]
        refine ⟨c1, c2, c3, c4, c5, fun h => ?_⟩
        have c7 := c6 h
        by_cases e4 : sp_o s q' 0 = j
        · rw [e4] at c7 ⊢
          have vq := (zv.2.1 q hq).2.2.2.2.2 hw
          rw [ho] at vq
          omega
        · rw [g0 (32 + sp_o s q' 0).toNat (by omega)]
          exact c7
theorem Z_be (hu : u < b) (hI : sp_I G D s) (Z : q_zz u b G (-1) F s) (hj : j < 4) (hq : (q : Int) < s 1) (ho : sp_o s q 0 = (j : Int)) (hw : sp_o s q 6 = 0) (hs0 : s (12 + (j : Int)).toNat = 0) (hf : s (32 + (j : Int)).toNat = -1) (f7 : F' (b + 24 + q) 7 = 1) (h6 : sp_o s' q 6 = 1) (f12 : F' (b + 24 + q) 12 = v) (r36 : s' (36 + (j : Int)).toNat = v) (f9 : F' (b + 8 + 4 * j) 9 = q) (r32 : s' (32 + (j : Int)).toNat = q) (f10 : F' (b + 8 + 4 * j) 10 = -1) (r28 : s' (28 + (j : Int)).toNat = -1) (f11 : F' (b + 8 + 4 * j) 11 = F (b + 8 + 4 * j) 11 - 1) (f0 : ∀ i k, (i = u ∨ (b ≤ i ∧ i < b + 124)) ∧ ¬ ((i = b + 8 + 4 * j ∧ (k = 9 ∨ k = 10 ∨ k = 11)) ∨ (i = b + 24 + q ∧ (k = 7 ∨ k = 12))) → F' i k = F i k) (g0 : ∀ k, ¬ (k = (192 + 14 * (q : Int) + 6).toNat ∨ k = 28 + j ∨ k = 32 + j ∨ k = 36 + j) → s' k = s k) : q_zz u b G (-1) F' s' := by
  obtain ⟨zn, za, zc, zl, zs, zq, zm, zj, zk, zv, zw⟩ := Z
  have n1 := zv.2.2.2
  have n0 := zv.2.2.1
  have g1 : s' 1 = s 1 := g0 1 (by omega)
  refine ⟨zN_cg (fun y hy => f0 _ _ (by omega)) (fun k hk => g0 _ (by omega)) zn, ?_, zC_cg (fun d y d4 hy => ⟨f0 _ _ (by omega), fun y4 => f0 _ _ (by omega)⟩) (fun k k1 k2 => g0 _ (by omega)) zc, zL_cg (fun d y d4 => f0 _ _ (by omega)) (fun k k1 k2 => g0 _ (by omega)) (I_20 hI) zl, ?_, ?_, ?_, zJ_cg (fun x y x1 x2 hy => f0 _ _ (by omega)) (fun k hk => g0 _ (by omega)) zj, zK_cg (fun q' hq' => f0 _ _ (by omega)) zk, ?_, zW_cg hI (fun k hk => g0 _ (by omega)) (fun q' q0 q1 => g0 _ (by omega)) zw⟩
  · intro d hd
    obtain ⟨a0, a1, a2, a3, a4, a8, a9, a10, a13⟩ := za d hd
    by_cases e : d = j
    · rw [e] at a0 a1 a2 a3 a4 a8 a9 a10 a13 ⊢
      exact ⟨(f0 _ _ (by omega)).trans a0, (f0 _ _ (by omega)).trans (a1.trans (g0 _ (by omega)).symm), fun h => (f0 _ _ (by omega)).trans ((a2 ((g0 _ (by omega)).symm.trans h)).trans (g0 _ (by omega)).symm), (f0 _ _ (by omega)).trans (a3.trans (g0 _ (by omega)).symm), (f0 _ _ (by omega)).trans (a4.trans (g0 _ (by omega)).symm), (f0 _ _ (by omega)).trans (a8.trans (g0 _ (by omega)).symm), f9.trans r32.symm, f10.trans r28.symm, (f0 _ _ (by omega)).trans (a13.trans (g0 _ (by omega)).symm)⟩
    · exact ⟨(f0 _ _ (by omega)).trans a0, (f0 _ _ (by omega)).trans (a1.trans (g0 _ (by omega)).symm), fun h => (f0 _ _ (by omega)).trans ((a2 ((g0 _ (by omega)).symm.trans h)).trans (g0 _ (by omega)).symm), (f0 _ _ (by omega)).trans (a3.trans (g0 _ (by omega)).symm), (f0 _ _ (by omega)).trans (a4.trans (g0 _ (by omega)).symm), (f0 _ _ (by omega)).trans (a8.trans (g0 _ (by omega)).symm), (f0 _ _ (by omega)).trans (a9.trans (g0 _ (by omega)).symm), (f0 _ _ (by omega)).trans (a10.trans (g0 _ (by omega)).symm), (f0 _ _ (by omega)).trans (a13.trans (g0 _ (by omega)).symm)⟩
  · intro d hd
    obtain ⟨a1, a2, a3, a4, a5⟩ := zs d hd
    have hk : ∀ i : Nat, i < (s 1).toNat → ¬ i = q → (sp_fq s' d i = sp_fq s d i ∧ sp_fc s' d i = sp_fc s d i ∧ sp_ft s' d i = sp_ft s d i) ∧ sp_dn s' i = sp_dn s i := fun i hi e => by
      have a := fq_cg (d := (d : Int)) (s := s) (s' := s') (q := i) (fun j' j0 j1 => g0 _ (by omega))
      exact ⟨⟨a.1, a.2.1, a.2.2.1⟩, a.2.2.2⟩
    have o0 : sp_o s' q 0 = sp_o s q 0 := g0 _ (by omega)
    have o5 : sp_o s' q 5 = sp_o s q 5 := g0 _ (by omega)
    have o4 : sp_o s' q 4 = sp_o s q 4 := g0 _ (by omega)
    have e11 : F' (b + 8 + 4 * d) 11 = F (b + 8 + 4 * d) 11 + (if d = j then -1 else 0) := by
      by_cases e : d = j
      · rw [e, f11]; (try split) <;> (try split) <;> omega
      · rw [f0 _ _ (by omega)]; (try split) <;> (try split) <;> omega
    have e14 : F' (b + 8 + 4 * d) 14 = F (b + 8 + 4 * d) 14 + 0 := by
      by_cases e : d = j
      · rw [e, f0 _ _ (by omega)]; (try split) <;> (try split) <;> omega
      · rw [f0 _ _ (by omega)]; (try split) <;> (try split) <;> omega
    have e15 : F' (b + 8 + 4 * d) 15 = F (b + 8 + 4 * d) 15 + 0 := by
      by_cases e : d = j
      · rw [e, f0 _ _ (by omega)]; (try split) <;> (try split) <;> omega
      · rw [f0 _ _ (by omega)]; (try split) <;> (try split) <;> omega
    refine ⟨?_, ?_, ?_, ?_, fun q' hq' ho' h66 => ?_⟩
    · rw [g1, sm_u (f := sp_fq s d) (q := q) _ (by omega) (fun i hi e => (hk i hi e).1.1), ← a1, e11]
      unfold sp_fq
      rw [h6, o0, ho]
      (repeat' split) <;> omega
    · rw [g1, sm_u (f := sp_fc s d) (q := q) _ (by omega) (fun i hi e => (hk i hi e).1.2.1), ← a2, e14]
      unfold sp_fc
      rw [h6, o0, ho]
      (repeat' split) <;> omega
    · rw [g1, sm_u (f := sp_ft s d) (q := q) _ (by omega) (fun i hi e => (hk i hi e).1.2.2), ← a3, e15]
      unfold sp_ft
      rw [h6, o0, ho, o5]
      (repeat' split) <;> omega
    · rw [f0 _ _ (by omega)]; exact a4
    · rw [g1] at hq'
      have e : ¬ q' = q := fun e => by
        rw [e, h6] at h66
        exact absurd h66 (by decide)
      rw [f0 _ _ (by omega), (hk q' (by omega) e).2]
      exact a5 q' hq' ((show sp_o s q' 0 = sp_o s' q' 0 from (g0 _ (by omega)).symm).trans ho') ((show sp_o s q' 6 = sp_o s' q' 6 from (g0 _ (by omega)).symm).trans h66)
  · intro q' hq'
    rw [g1] at hq'
    by_cases e : q' = q
    · rw [e]
      obtain ⟨a1, a2, a3, a4, a5, a6, a7, a8, a9, a10, a11, a13, a14, a15⟩ := zq q hq
      exact ⟨(f0 _ _ (by omega)).trans (a1.trans (g0 _ (by omega)).symm), (f0 _ _ (by omega)).trans (a2.trans (g0 _ (by omega)).symm), (f0 _ _ (by omega)).trans (a3.trans (g0 _ (by omega)).symm), (f0 _ _ (by omega)).trans (a4.trans (g0 _ (by omega)).symm), (f0 _ _ (by omega)).trans (a5.trans (g0 _ (by omega)).symm), (f0 _ _ (by omega)).trans (a6.trans (g0 _ (by omega)).symm), f7.trans h6.symm, (f0 _ _ (by omega)).trans (a8.trans (g0 _ (by omega)).symm), (f0 _ _ (by omega)).trans (a9.trans (g0 _ (by omega)).symm), (f0 _ _ (by omega)).trans (a10.trans (g0 _ (by omega)).symm), (f0 _ _ (by omega)).trans (a11.trans (g0 _ (by omega)).symm), (f0 _ _ (by omega)).trans (a13.trans (g0 _ (by omega)).symm), (f0 _ _ (by omega)).trans (a14.trans (g0 _ (by omega)).symm), (by rw [f0 _ _ (by omega), a15, h6, hw]; rfl)⟩
    · exact zQ1_cg (fun y hy => f0 _ _ (by omega)) (fun j' j0 j1 => g0 _ (by omega)) (zq q' hq')
  · intro q' hq'
    rw [g1] at hq'
    have hd := (zv.2.1 q' hq').1
    have hw6 := (zv.2.1 q' hq').2.2.2.2.2
    have z := zm q' hq'
    by_cases e : q' = q
    · rw [e] at z ⊢
      unfold zM1 at z ⊢
      have e2 : ¬ (q : Int) = -1 := by omega
      have o0 : sp_o s' q 0 = j := (show sp_o s' q 0 = sp_o s q 0 from g0 _ (by omega)).trans ho
      rw [f12, h6, o0, r36, show s' (12 + (j : Int)).toNat = 0 from (g0 _ (by omega)).trans hs0]
      simp only [e2, not_false_eq_true, true_and, if_true]
    · unfold zM1 at z ⊢
      rw [f0 _ _ (by omega), z, show sp_o s' q' 6 = sp_o s q' 6 from g0 _ (by omega), show sp_o s' q' 0 = sp_o s q' 0 from g0 _ (by omega), g0 (12 + sp_o s q' 0).toNat (by omega)]
      by_cases e4 : sp_o s q' 0 = j
      · rw [e4, hf] at hw6
        have e5 : ¬ sp_o s q' 6 = 1 := fun h => by
          have := hw6 h
          omega
        rw [if_neg (fun h => e5 h.2.1), if_neg (fun h => e5 h.2.1)]
      · rw [g0 (36 + sp_o s q' 0).toNat (by omega)]
  · refine ⟨fun d hd => ?_, fun q' hq' => ?_, by rw [g1]; exact n0, by rw [g1]; exact n1⟩
    · obtain ⟨a1, a2, a3⟩ := zv.1 d hd
      obtain ⟨b1, b2⟩ := I_b hI d hd
      have ob : ∀ (r k : Int), -1 ≤ r → r < s 1 → ¬ r = q → (k = 0 ∨ k = 6) → sp_o s' r k = sp_o s r k := fun r k r0 r1 r2 hk => g0 _ (by omega)
      have o0 : sp_o s' q 0 = sp_o s q 0 := g0 _ (by omega)
      unfold zV1
      refine ⟨by rw [show s' (12 + (d : Int)).toNat = s (12 + (d : Int)).toNat from g0 _ (by omega)]; exact a1, ?_⟩
      by_cases e : d = j
      · rw [e] at a2 a3 b1 b2 ⊢
        rw [r32, r28]
        exact ⟨fun h => ⟨o0.trans ho, h6⟩, fun h => absurd rfl h⟩
      · have e2 : ¬ s (32 + (d : Int)).toNat = q := fun z => by
          have := (a2 (by omega)).1
          rw [z, ho] at this
          omega
        have e3 : ¬ s (28 + (d : Int)).toNat = q := fun z => by
          have := (a3 (by omega)).1
          rw [z, ho] at this
          omega
        rw [show s' (32 + (d : Int)).toNat = s (32 + (d : Int)).toNat from g0 _ (by omega), show s' (28 + (d : Int)).toNat = s (28 + (d : Int)).toNat from g0 _ (by omega)]
        exact ⟨fun h => ⟨(ob _ 0 b2.1 b2.2 e2 (by omega)).trans (a2 h).1, (ob _ 6 b2.1 b2.2 e2 (by omega)).trans (a2 h).2⟩, fun h => ⟨(ob _ 0 b1.1 b1.2 e3 (by omega)).trans (a3 h).1, (ob _ 6 b1.1 b1.2 e3 (by omega)).trans (a3 h).2⟩⟩
    · rw [g1] at hq'
      obtain ⟨c1, c2, c3, c4, c5, c6⟩ := zv.2.1 q' hq'
      have oc : ∀ k : Int, (k = 0 ∨ k = 3 ∨ k = 4 ∨ k = 12) → sp_o s' q' k = sp_o s q' k := fun k hk => g0 _ (by omega)
      unfold zV2
      rw [oc 0 (by omega), oc 3 (by omega), oc 4 (by omega), oc 12 (by omega)]
      by_cases e : q' = q
      · rw [e] at c1 c3 c4 c5 ⊢
        rw [ho] at c1
        rw [h6, ho]
        exact ⟨c1, by decide, c3, c4, c5, fun _ => r32⟩
      · rw [show sp_o s' q' 6 = sp_o s q' 6 from g0 _ (by omega)]
        refine ⟨c1, c2, c3, c4, c5, fun h => ?_⟩
        have c7 := c6 h
        by_cases e4 : sp_o s q' 0 = j
        · rw [e4] at c7 ⊢
          omega
        · rw [g0 (32 + sp_o s q' 0).toNat (by omega)]
          exact c7
theorem Z_wk (hu : u < b) (hI : sp_I G D s) (Z : q_zz u b G (-1) F s) (hj : j < 4) (hq : (q : Int) < s 1) (ho : sp_o s q 0 = (j : Int)) (hw : sp_o s q 6 = 1) (hs0 : s (12 + (j : Int)).toNat = 0) (f12 : F' (b + 24 + q) 12 = v) (r36 : s' (36 + (j : Int)).toNat = v) (f0 : ∀ i k, (i = u ∨ (b ≤ i ∧ i < b + 124)) ∧ ¬ (i = b + 24 + q ∧ k = 12) → F' i k = F i k) (g0 : ∀ k, ¬ (k = 36 + j) → s' k = s k) : q_zz u b G (-1) F' s' := by
  obtain ⟨zn, za, zc, zl, zs, zq, zm, zj, zk, zv, zw⟩ := Z
  have n1 := zv.2.2.2
  have n0 := zv.2.2.1
  have g1 : s' 1 = s 1 := g0 1 (by omega)
  refine ⟨zN_cg (fun y hy => f0 _ _ (by omega)) (fun k hk => g0 _ (by omega)) zn, zA_cg (fun d y d4 hy => f0 _ _ (by omega)) (fun k k1 k2 k3 => g0 _ (by omega)) za, zC_cg (fun d y d4 hy => ⟨f0 _ _ (by omega), fun y4 => f0 _ _ (by omega)⟩) (fun k k1 k2 => g0 _ (by omega)) zc, zL_cg (fun d y d4 => f0 _ _ (by omega)) (fun k k1 k2 => g0 _ (by omega)) (I_20 hI) zl, zS_cg (fun d y d4 hy => f0 _ _ (by omega)) n1 (g0 1 (by omega)) (fun q' j' hq' hj' => g0 _ (by omega)) zs, zQ_cg (fun q' y hq' hy => f0 _ _ (by omega)) n1 (g0 1 (by omega)) (fun k k1 k2 => g0 _ (by omega)) zq, ?_, zJ_cg (fun x y x1 x2 hy => f0 _ _ (by omega)) (fun k hk => g0 _ (by omega)) zj, zK_cg (fun q' hq' => f0 _ _ (by omega)) zk, zV_cg (g0 1 (by omega)) (fun d hd => by rw [g0 (12 + (d : Int)).toNat (by omega)]; exact (zv.1 d hd).1) (fun k k1 k2 => g0 _ (by omega)) (fun q' q0 q1 j' hj' => g0 _ (by omega)) (fun q' hq' => by rw [show sp_o s' q' 12 = sp_o s q' 12 from g0 _ (by omega)]; exact (zv.2.1 q' hq').2.2.2.2.1) (I_b hI) zv, zW_cg hI (fun k hk => g0 _ (by omega)) (fun q' q0 q1 => g0 _ (by omega)) zw⟩
  · intro q' hq'
    rw [g1] at hq'
    have hd := (zv.2.1 q' hq').1
    have hw6 := (zv.2.1 q' hq').2.2.2.2.2
    have z := zm q' hq'
    by_cases e : q' = q
    · rw [e] at z ⊢
      unfold zM1 at z ⊢
      have e2 : ¬ (q : Int) = -1 := by omega
      have o0 : sp_o s' q 0 = j := (show sp_o s' q 0 = sp_o s q 0 from g0 _ (by omega)).trans ho
      rw [f12, show sp_o s' q 6 = 1 from (g0 _ (by omega)).trans hw, o0, r36, show s' (12 + (j : Int)).toNat = 0 from (g0 _ (by omega)).trans hs0]
      simp only [e2, not_false_eq_true, true_and, if_true]
    · unfold zM1 at z ⊢
      rw [f0 _ _ (by omega), z, show sp_o s' q' 6 = sp_o s q' 6 from g0 _ (by omega), show sp_o s' q' 0 = sp_o s q' 0 from g0 _ (by omega), g0 (12 + sp_o s q' 0).toNat (by omega)]
      by_cases e4 : sp_o s q' 0 = j
      · have vq := (zv.2.1 q hq).2.2.2.2.2 hw
        rw [ho] at vq
        rw [e4, vq] at hw6
        have e5 : ¬ sp_o s q' 6 = 1 := fun h => by
          have := hw6 h
          omega
        rw [if_neg (fun h => e5 h.2.1), if_neg (fun h => e5 h.2.1)]
      · rw [g0 (36 + sp_o s q' 0).toNat (by omega)]
theorem Z_lg (hu : u < b) (hI : sp_I G D s) (Z : q_zz u b G x F s) (hj : j < 4) (h20 : 0 ≤ s (44 + (j : Int)).toNat ∧ s (44 + (j : Int)).toNat < 20) (f8 : F' (b + 8 + 4 * j) 8 = s (44 + (j : Int)).toNat + 1) (r44 : s' (44 + (j : Int)).toNat = s (44 + (j : Int)).toNat + 1) (fl : F' (b + 11 + 4 * j) (s (44 + (j : Int)).toNat).toNat = v) (gl : s' (112 + 20 * (j : Int) + s (44 + (j : Int)).toNat).toNat = v) (hv : sp_o s v 0 = (j : Int)) (hv0 : 0 ≤ v) (hv1 : v < s 1) (f0 : ∀ i k, (i = u ∨ (b ≤ i ∧ i < b + 124)) ∧ ¬ ((i = b + 8 + 4 * j ∧ k = 8) ∨ (i = b + 11 + 4 * j ∧ k = (s (44 + (j : Int)).toNat).toNat)) → F' i k = F i k) (g0 : ∀ k, ¬ (k = 44 + j ∨ k = (112 + 20 * (j : Int) + s (44 + (j : Int)).toNat).toNat) → s' k = s k) : q_zz u b G x F' s' := by
  obtain ⟨zn, za, zc, zl, zs, zq, zm, zj, zk, zv, zw⟩ := Z
  have n1 := zv.2.2.2
  have n0 := zv.2.2.1
  have g1 : s' 1 = s 1 := g0 1 (by omega)
  refine ⟨zN_cg (fun y hy => f0 _ _ (by omega)) (fun k hk => g0 _ (by omega)) zn, ?_, zC_cg (fun d y d4 hy => ⟨f0 _ _ (by omega), fun y4 => f0 _ _ (by omega)⟩) (fun k k1 k2 => g0 _ (by omega)) zc, ?_, zS_cg (fun d y d4 hy => f0 _ _ (by omega)) n1 (g0 1 (by omega)) (fun q' j' hq' hj' => g0 _ (by omega)) zs, zQ_cg (fun q' y hq' hy => f0 _ _ (by omega)) n1 (g0 1 (by omega)) (fun k k1 k2 => g0 _ (by omega)) zq, zM_cg zv (fun q' hq' => f0 _ _ (by omega)) (g0 1 (by omega)) (fun q' j' hq' hj' => g0 _ (by omega)) (fun k hk => g0 _ (by omega)) zm, zJ_cg (fun x y x1 x2 hy => f0 _ _ (by omega)) (fun k hk => g0 _ (by omega)) zj, zK_cg (fun q' hq' => f0 _ _ (by omega)) zk, zV_cg (g0 1 (by omega)) (fun d hd => by rw [g0 (12 + (d : Int)).toNat (by omega)]; exact (zv.1 d hd).1) (fun k k1 k2 => g0 _ (by omega)) (fun q' q0 q1 j' hj' => g0 _ (by omega)) (fun q' hq' => by rw [show sp_o s' q' 12 = sp_o s q' 12 from g0 _ (by omega)]; exact (zv.2.1 q' hq').2.2.2.2.1) (I_b hI) zv, ?_⟩
  · intro d hd
    obtain ⟨a0, a1, a2, a3, a4, a8, a9, a10, a13⟩ := za d hd
    by_cases e : d = j
    · rw [e] at a0 a1 a2 a3 a4 a8 a9 a10 a13 ⊢
      exact ⟨(f0 _ _ (by omega)).trans a0, (f0 _ _ (by omega)).trans (a1.trans (g0 _ (by omega)).symm), fun h => (f0 _ _ (by omega)).trans ((a2 ((g0 _ (by omega)).symm.trans h)).trans (g0 _ (by omega)).symm), (f0 _ _ (by omega)).trans (a3.trans (g0 _ (by omega)).symm), (f0 _ _ (by omega)).trans (a4.trans (g0 _ (by omega)).symm), f8.trans r44.symm, (f0 _ _ (by omega)).trans (a9.trans (g0 _ (by omega)).symm), (f0 _ _ (by omega)).trans (a10.trans (g0 _ (by omega)).symm), (f0 _ _ (by omega)).trans (a13.trans (g0 _ (by omega)).symm)⟩
    · exact ⟨(f0 _ _ (by omega)).trans a0, (f0 _ _ (by omega)).trans (a1.trans (g0 _ (by omega)).symm), fun h => (f0 _ _ (by omega)).trans ((a2 ((g0 _ (by omega)).symm.trans h)).trans (g0 _ (by omega)).symm), (f0 _ _ (by omega)).trans (a3.trans (g0 _ (by omega)).symm), (f0 _ _ (by omega)).trans (a4.trans (g0 _ (by omega)).symm), (f0 _ _ (by omega)).trans (a8.trans (g0 _ (by omega)).symm), (f0 _ _ (by omega)).trans (a9.trans (g0 _ (by omega)).symm), (f0 _ _ (by omega)).trans (a10.trans (g0 _ (by omega)).symm), (f0 _ _ (by omega)).trans (a13.trans (g0 _ (by omega)).symm)⟩
  · intro d k hd hk
    by_cases e : d = j
    · rw [e] at hk ⊢
      rw [r44] at hk
      by_cases ek : k = (s (44 + (j : Int)).toNat).toNat
      · rw [ek, fl, ← gl]
        exact congrArg s' (by omega)
      · rw [f0 _ _ (by omega), zl j k hj (by omega)]
        exact (g0 _ (by omega)).symm
    · rw [g0 (44 + (d : Int)).toNat (by omega)] at hk
      have := I_20 hI d hd
      rw [f0 _ _ (by omega), zl d k hd hk]
      exact (g0 _ (by omega)).symm
  · intro d k hd hk
    have hl2 := I_20 hI d hd
    have ol : ∀ r : Int, 0 ≤ r → r < s 1 → sp_o s' r 0 = sp_o s r 0 := fun r r0 r1 => g0 _ (by omega)
    by_cases e : d = j
    · rw [e] at hk ⊢
      rw [r44] at hk
      by_cases ek : k = (s (44 + (j : Int)).toNat).toNat
      · rw [ek, show (112 + 20 * (j : Int) + ((s (44 + (j : Int)).toNat).toNat : Nat)).toNat = (112 + 20 * (j : Int) + s (44 + (j : Int)).toNat).toNat by omega, gl, ol v hv0 hv1]
        exact hv
      · have hl := I_l (dr := (j : Int)) (k := (k : Int)) hI (by omega) (by omega) (by omega) (by omega)
        rw [g0 (112 + 20 * (j : Int) + k).toNat (by omega), ol _ hl.1 hl.2]
        exact zw j k hj (by omega)
    · rw [g0 (44 + (d : Int)).toNat (by omega)] at hk
      have hl := I_l (dr := (d : Int)) (k := (k : Int)) hI (by omega) (by omega) (by omega) hk
      rw [g0 (112 + 20 * (d : Int) + k).toNat (by omega), ol _ hl.1 hl.2]
      exact zw d k hd hk
theorem Z_sn (hu : u < b) (hI : sp_I G D s) (Z : q_zz u b G x F s) (hj : j < 4) (f8 : F' (b + 8 + 4 * j) 8 = 0) (r44 : s' (44 + (j : Int)).toNat = 0) (fl : ∀ t : Nat, t < 4 → F' (b + 10 + 4 * j) t = F (b + 9 + 4 * j) (8 + t)) (gl : ∀ t : Nat, t < 4 → s' (96 + 4 * (j : Int) + t).toNat = s (80 + 4 * (j : Int) + t).toNat) (f0 : ∀ i k, (i = u ∨ (b ≤ i ∧ i < b + 124)) ∧ ¬ ((i = b + 8 + 4 * j ∧ k = 8) ∨ i = b + 10 + 4 * j) → F' i k = F i k) (g0 : ∀ k, ¬ (k = 44 + j ∨ (96 + 4 * j ≤ k ∧ k < 100 + 4 * j)) → s' k = s k) : q_zz u b G x F' s' := by
  obtain ⟨zn, za, zc, zl, zs, zq, zm, zj, zk, zv, zw⟩ := Z
  have n1 := zv.2.2.2
  have n0 := zv.2.2.1
  have g1 : s' 1 = s 1 := g0 1 (by omega)
  refine ⟨zN_cg (fun y hy => f0 _ _ (by omega)) (fun k hk => g0 _ (by omega)) zn, ?_, ?_, ?_, zS_cg (fun d y d4 hy => f0 _ _ (by omega)) n1 (g0 1 (by omega)) (fun q' j' hq' hj' => g0 _ (by omega)) zs, zQ_cg (fun q' y hq' hy => f0 _ _ (by omega)) n1 (g0 1 (by omega)) (fun k k1 k2 => g0 _ (by omega)) zq, zM_cg zv (fun q' hq' => f0 _ _ (by omega)) (g0 1 (by omega)) (fun q' j' hq' hj' => g0 _ (by omega)) (fun k hk => g0 _ (by omega)) zm, zJ_cg (fun x y x1 x2 hy => f0 _ _ (by omega)) (fun k hk => g0 _ (by omega)) zj, zK_cg (fun q' hq' => f0 _ _ (by omega)) zk, zV_cg (g0 1 (by omega)) (fun d hd => by rw [g0 (12 + (d : Int)).toNat (by omega)]; exact (zv.1 d hd).1) (fun k k1 k2 => g0 _ (by omega)) (fun q' q0 q1 j' hj' => g0 _ (by omega)) (fun q' hq' => by rw [show sp_o s' q' 12 = sp_o s q' 12 from g0 _ (by omega)]; exact (zv.2.1 q' hq').2.2.2.2.1) (I_b hI) zv, ?_⟩
  · intro d hd
    obtain ⟨a0, a1, a2, a3, a4, a8, a9, a10, a13⟩ := za d hd
    by_cases e : d = j
    · rw [e] at a0 a1 a2 a3 a4 a8 a9 a10 a13 ⊢
      exact ⟨(f0 _ _ (by omega)).trans a0, (f0 _ _ (by omega)).trans (a1.trans (g0 _ (by omega)).symm), fun h => (f0 _ _ (by omega)).trans ((a2 ((g0 _ (by omega)).symm.trans h)).trans (g0 _ (by omega)).symm), (f0 _ _ (by omega)).trans (a3.trans (g0 _ (by omega)).symm), (f0 _ _ (by omega)).trans (a4.trans (g0 _ (by omega)).symm), f8.trans r44.symm, (f0 _ _ (by omega)).trans (a9.trans (g0 _ (by omega)).symm), (f0 _ _ (by omega)).trans (a10.trans (g0 _ (by omega)).symm), (f0 _ _ (by omega)).trans (a13.trans (g0 _ (by omega)).symm)⟩
    · exact ⟨(f0 _ _ (by omega)).trans a0, (f0 _ _ (by omega)).trans (a1.trans (g0 _ (by omega)).symm), fun h => (f0 _ _ (by omega)).trans ((a2 ((g0 _ (by omega)).symm.trans h)).trans (g0 _ (by omega)).symm), (f0 _ _ (by omega)).trans (a3.trans (g0 _ (by omega)).symm), (f0 _ _ (by omega)).trans (a4.trans (g0 _ (by omega)).symm), (f0 _ _ (by omega)).trans (a8.trans (g0 _ (by omega)).symm), (f0 _ _ (by omega)).trans (a9.trans (g0 _ (by omega)).symm), (f0 _ _ (by omega)).trans (a10.trans (g0 _ (by omega)).symm), (f0 _ _ (by omega)).trans (a13.trans (g0 _ (by omega)).symm)⟩
  · intro d hd
    obtain ⟨a1, a2, a3⟩ := zc d hd
    refine ⟨fun t ht => (f0 _ _ (by omega)).trans ((a1 t ht).trans (g0 _ (by omega)).symm), fun t ht => (f0 _ _ (by omega)).trans ((a2 t ht).trans (g0 _ (by omega)).symm), fun t ht => ?_⟩
    by_cases e : d = j
    · rw [e] at a2 ⊢
      rw [fl t ht, gl t ht]
      exact a2 t ht
    · exact (f0 _ _ (by omega)).trans ((a3 t ht).trans (g0 _ (by omega)).symm)
  · intro d k hd hk
    by_cases e : d = j
    · rw [e, r44] at hk
      omega
    · rw [g0 (44 + (d : Int)).toNat (by omega)] at hk
      have := I_20 hI d hd
      rw [f0 _ _ (by omega), zl d k hd hk]
      exact (g0 _ (by omega)).symm
  · intro d k hd hk
    have hl2 := I_20 hI d hd
    by_cases e : d = j
    · rw [e, r44] at hk
      omega
    · rw [g0 (44 + (d : Int)).toNat (by omega)] at hk
      have hl := I_l (dr := (d : Int)) (k := (k : Int)) hI (by omega) (by omega) (by omega) hk
      rw [g0 (112 + 20 * (d : Int) + k).toNat (by omega), show sp_o s' (s (112 + 20 * (d : Int) + k).toNat) 0 = sp_o s (s (112 + 20 * (d : Int) + k).toNat) 0 from g0 _ (by omega)]
      exact zw d k hd hk
theorem Z_ck (hu : u < b) (hI : sp_I G D s) (Z : q_zz u b G x F s) (fv : F' u 1 = v) (gv : s' 0 = v) (f0 : ∀ i k, (i = u ∨ (b ≤ i ∧ i < b + 124)) ∧ ¬ (i = u ∧ k = 1) → F' i k = F i k) (g0 : ∀ k, ¬ (k = 0) → s' k = s k) : q_zz u b G x F' s' := by
  obtain ⟨zn, za, zc, zl, zs, zq, zm, zj, zk, zv, zw⟩ := Z
  have n1 := zv.2.2.2
  have n0 := zv.2.2.1
  have g1 : s' 1 = s 1 := g0 1 (by omega)
  refine ⟨⟨fv.trans gv.symm, (f0 _ _ (by omega)).trans (zn.2.1.trans g1.symm), (f0 _ _ (by omega)).trans zn.2.2⟩, zA_cg (fun d y d4 hy => f0 _ _ (by omega)) (fun k k1 k2 k3 => g0 _ (by omega)) za, zC_cg (fun d y d4 hy => ⟨f0 _ _ (by omega), fun y4 => f0 _ _ (by omega)⟩) (fun k k1 k2 => g0 _ (by omega)) zc, zL_cg (fun d y d4 => f0 _ _ (by omega)) (fun k k1 k2 => g0 _ (by omega)) (I_20 hI) zl, zS_cg (fun d y d4 hy => f0 _ _ (by omega)) n1 (g0 1 (by omega)) (fun q' j' hq' hj' => g0 _ (by omega)) zs, zQ_cg (fun q' y hq' hy => f0 _ _ (by omega)) n1 (g0 1 (by omega)) (fun k k1 k2 => g0 _ (by omega)) zq, zM_cg zv (fun q' hq' => f0 _ _ (by omega)) (g0 1 (by omega)) (fun q' j' hq' hj' => g0 _ (by omega)) (fun k hk => g0 _ (by omega)) zm, zJ_cg (fun x y x1 x2 hy => f0 _ _ (by omega)) (fun k hk => g0 _ (by omega)) zj, zK_cg (fun q' hq' => f0 _ _ (by omega)) zk, zV_cg (g0 1 (by omega)) (fun d hd => by rw [g0 (12 + (d : Int)).toNat (by omega)]; exact (zv.1 d hd).1) (fun k k1 k2 => g0 _ (by omega)) (fun q' q0 q1 j' hj' => g0 _ (by omega)) (fun q' hq' => by rw [show sp_o s' q' 12 = sp_o s q' 12 from g0 _ (by omega)]; exact (zv.2.1 q' hq').2.2.2.2.1) (I_b hI) zv, zW_cg hI (fun k hk => g0 _ (by omega)) (fun q' q0 q1 => g0 _ (by omega)) zw⟩
theorem Z_fd (hu : u < b) (hI : sp_I G D s) (Z : q_zz u b G x F s) (hj : j < 4) (f0 : ∀ i k, (i = u ∨ (b ≤ i ∧ i < b + 124)) ∧ ¬ (i = b + 8 + 4 * j ∧ k = 12) → F' i k = F i k) (f1 : -2147483648 ≤ F' (b + 8 + 4 * j) 12 ∧ F' (b + 8 + 4 * j) 12 ≤ 2147483647) (f2 : ∀ q : Nat, (q : Int) < s 1 → sp_o s q 0 = j → sp_o s q 6 = 0 → F' (b + 8 + 4 * j) 12 ≤ sp_dn s q) : q_zz u b G x F' s := by
  obtain ⟨zn, za, zc, zl, zs, zq, zm, zj, zk, zv, zw⟩ := Z
  have n1 := zv.2.2.2
  have g0 : ∀ k, ¬ (k = 5000) ∨ k = 5000 → s k = s k := fun k hk => rfl
  refine ⟨zN_cg (fun y hy => f0 _ _ (by omega)) (fun k hk => g0 _ (by omega)) zn, zA_cg (fun d y d4 hy => f0 _ _ (by omega)) (fun k k1 k2 k3 => g0 _ (by omega)) za, zC_cg (fun d y d4 hy => ⟨f0 _ _ (by omega), fun y4 => f0 _ _ (by omega)⟩) (fun k k1 k2 => g0 _ (by omega)) zc, zL_cg (fun d y d4 => f0 _ _ (by omega)) (fun k k1 k2 => g0 _ (by omega)) (I_20 hI) zl, ?_, zQ_cg (fun q' y hq' hy => f0 _ _ (by omega)) n1 rfl (fun k k1 k2 => g0 _ (by omega)) zq, zM_cg zv (fun q' hq' => f0 _ _ (by omega)) rfl (fun q' j' hq' hj' => g0 _ (by omega)) (fun k hk => g0 _ (by omega)) zm, zJ_cg (fun x y x1 x2 hy => f0 _ _ (by omega)) (fun k hk => g0 _ (by omega)) zj, zK_cg (fun q' hq' => f0 _ _ (by omega)) zk, zv, zw⟩
  intro d hd
  obtain ⟨a1, a2, a3, a4, a5⟩ := zs d hd
  refine ⟨(f0 _ _ (by omega)).trans a1, (f0 _ _ (by omega)).trans a2, (f0 _ _ (by omega)).trans a3, ?_, fun q hq h0 h6 => ?_⟩
  · by_cases e : d = j
    · rw [e]
      exact f1
    · rw [f0 _ _ (by omega)]
      exact a4
  · by_cases e : d = j
    · rw [e] at h0 ⊢
      exact f2 q hq h0 h6
    · rw [f0 _ _ (by omega)]
      exact a5 q hq h0 h6
theorem Z_x (Z : q_zz u b G x F s) (hx : ∀ q : Nat, (q : Int) < s 1 → (q : Int) = x → sp_o s q 6 = 1 → False) : q_zz u b G (-1) F s := by
  obtain ⟨zn, za, zc, zl, zs, zq, zm, zj, zk, zv, zw⟩ := Z
  refine ⟨zn, za, zc, zl, zs, zq, fun q hq => ?_, zj, zk, zv, zw⟩
  have z := zm q hq
  unfold zM1 at z ⊢
  rw [z]
  by_cases e6 : sp_o s q 6 = 1
  · have e1 : ¬ (q : Int) = x := fun e => hx q hq e e6
    have e2 : ¬ (q : Int) = -1 := by omega
    simp only [e1, e2, not_false_eq_true, true_and]
  · rw [if_neg (fun h => e6 h.2.1), if_neg (fun h => e6 h.2.1)]
theorem Z_x1 {x1 : Int} (hx1 : x1 = x ∨ (x = (q : Int) ∧ x1 = -1)) (h6 : ¬ sp_o s q 6 = 1) (Z : q_zz u b G x F s) : q_zz u b G x1 F s := by
  rcases hx1 with rfl | ⟨rfl, rfl⟩
  · exact Z
  · refine Z_x Z (fun q' hq' e e6 => h6 ?_)
    rw [← e]
    exact e6
/-- what does not belong to the World may change -/
theorem Z_out (hI : sp_I G D s) (Z : q_zz u b G x F s) (f0 : ∀ i k, i = u ∨ (b ≤ i ∧ i < b + 124) → F' i k = F i k) : q_zz u b G x F' s := by
  obtain ⟨zn, za, zc, zl, zs, zq, zm, zj, zk, zv, zw⟩ := Z
  have n1 := zv.2.2.2
  have g0 : ∀ k, ¬ (k = 5000) ∨ k = 5000 → s k = s k := fun k hk => rfl
  exact ⟨zN_cg (fun y hy => f0 _ _ (by omega)) (fun k hk => g0 _ (by omega)) zn, zA_cg (fun d y d4 hy => f0 _ _ (by omega)) (fun k k1 k2 k3 => g0 _ (by omega)) za, zC_cg (fun d y d4 hy => ⟨f0 _ _ (by omega), fun y4 => f0 _ _ (by omega)⟩) (fun k k1 k2 => g0 _ (by omega)) zc, zL_cg (fun d y d4 => f0 _ _ (by omega)) (fun k k1 k2 => g0 _ (by omega)) (I_20 hI) zl, zS_cg (fun d y d4 hy => f0 _ _ (by omega)) n1 rfl (fun q' j' hq' hj' => g0 _ (by omega)) zs, zQ_cg (fun q' y hq' hy => f0 _ _ (by omega)) n1 rfl (fun k k1 k2 => g0 _ (by omega)) zq, zM_cg zv (fun q' hq' => f0 _ _ (by omega)) rfl (fun q' j' hq' hj' => g0 _ (by omega)) (fun k hk => g0 _ (by omega)) zm, zJ_cg (fun x y x1 x2 hy => f0 _ _ (by omega)) (fun k hk => g0 _ (by omega)) zj, zK_cg (fun q' hq' => f0 _ _ (by omega)) zk, zv, zw⟩
end ZP
