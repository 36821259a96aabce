/-! the class: a request is submitted, exactly -/
section SB
variable {s : sp_R} {x c a p l : Int} {n : Nat}
theorem s1_o (hn : s 1 = (n : Int)) {q k : Int} (q0 : 0 ≤ q) (q1 : q < n) (k0 : 0 ≤ k) (k1 : k ≤ 13) : sp_o (sp_s1 s x c a p l) q k = sp_o s q k := s1_g (by omega) (by omega) (by omega)
theorem s1_v (hn : s 1 = (n : Int)) : sp_o (sp_s1 s x c a p l) n 0 = x ∧ sp_o (sp_s1 s x c a p l) n 1 = c ∧ sp_o (sp_s1 s x c a p l) n 2 = a ∧ sp_o (sp_s1 s x c a p l) n 3 = p ∧ sp_o (sp_s1 s x c a p l) n 4 = l ∧ sp_o (sp_s1 s x c a p l) n 5 = s 0 ∧ ∀ k : Int, 6 ≤ k → k ≤ 13 → sp_o (sp_s1 s x c a p l) n k = 0 := by
  unfold sp_o sp_s1 sp_u
  refine ⟨?_, ?_, ?_, ?_, ?_, ?_, fun k h1 h2 => ?_⟩
  · simp (disch := omega) only [u1_n, u1_i]
  · simp (disch := omega) only [u1_n, u1_i]
  · simp (disch := omega) only [u1_n, u1_i]
  · simp (disch := omega) only [u1_n, u1_i]
  · simp (disch := omega) only [u1_n, u1_i]
  · simp (disch := omega) only [u1_n, u1_i]
  · simp (disch := omega) only [u1_n]
    exact if_pos (by omega)
theorem s1_h (hn : s 1 = (n : Int)) {k : Nat} (h : 192 + 14 * (n + 1) ≤ k) : sp_s1 s x c a p l k = s k := by
  unfold sp_s1 sp_u
  simp (disch := omega) only [u1_n]
  exact if_neg (by omega)
set_option maxHeartbeats 1000000 in
theorem Z_sub {u b : Nat} {G : tx_G} {F F' : m_M} {j : Nat} (hu : u < b) (hI : sp_I G 4 s) (Z : q_zz u b G (-1) F s) (hn : s 1 = (n : Int)) (hl : n < 100) (hj : j < 4) (p0 : 0 ≤ p) (l0 : 0 ≤ l) (f2 : F' u 2 = (n : Int) + 1) (q1 : F' (b + 24 + n) 1 = (j : Int)) (q2 : F' (b + 24 + n) 2 = c) (q3 : F' (b + 24 + n) 3 = a) (q4 : F' (b + 24 + n) 4 = p) (q5 : F' (b + 24 + n) 5 = l) (q6 : F' (b + 24 + n) 6 = s 0) (q7 : F' (b + 24 + n) 7 = 0) (q8 : F' (b + 24 + n) 8 = 0) (q9 : F' (b + 24 + n) 9 = 0) (q10 : F' (b + 24 + n) 10 = 0) (q11 : F' (b + 24 + n) 11 = 0) (q12 : F' (b + 24 + n) 12 = 0) (q13 : F' (b + 24 + n) 13 = 0) (q14 : F' (b + 24 + n) 14 = 0) (q15 : F' (b + 24 + n) 15 = -1) (f11 : F' (b + 8 + 4 * j) 11 = F (b + 8 + 4 * j) 11 + 1) (f12 : F' (b + 8 + 4 * j) 12 ≤ F (b + 8 + 4 * j) 12 ∧ F' (b + 8 + 4 * j) 12 ≤ (if l = 0 then 2147483647 else s 0 + l) ∧ -2147483648 ≤ F' (b + 8 + 4 * j) 12) (f0 : ∀ i k, (i = u ∨ (b ≤ i ∧ i < b + 124)) → ¬ (i = u ∧ k = 2) → ¬ (i = b + 24 + n ∧ ¬ k = 0) → ¬ (i = b + 8 + 4 * j ∧ (k = 11 ∨ k = 12)) → F' i k = F i k) : q_zz u b G (-1) F' (sp_s1 s (j : Int) c a p l) := by
  obtain ⟨z1, z2, z3, z4, z5, z6, z7, z8, z9, z10, z11⟩ := Z
  have hd := fun d (h : d < 4) => I_d (dr := ((d : Nat) : Int)) hI (by omega) (by omega)
  have hg7 := (I_n hI).2.2.2
  have g1 : sp_s1 s (j : Int) c a p l 1 = (n : Int) + 1 := by rw [← hn]; exact u1_e
  have g : ∀ k : Nat, ¬ k = 1 → k < 192 + 14 * n → sp_s1 s (j : Int) c a p l k = s k := fun k h1 h2 => s1_g (by omega) h1 (by omega)
  have go : ∀ q : Nat, q < n → ∀ k : Int, 0 ≤ k → k ≤ 13 → sp_o (sp_s1 s (j : Int) c a p l) q k = sp_o s q k := fun q h k k0 k1 => s1_o hn (by omega) (by omega) k0 k1
  obtain ⟨v0, v1, v2, v3, v4, v5, v6⟩ := s1_v (x := (j : Int)) (c := c) (a := a) (p := p) (l := l) hn
  have e6 := v6 6 (by omega) (by omega)
  refine ⟨⟨?_, ?_, ?_⟩, zA_cg (fun d y h1 h2 => f0 _ _ (by omega) (by omega) (by omega) (by omega)) (fun k h1 h2 h3 => g k (by omega) (by omega)) z2, zC_cg (fun d y h1 h2 => ⟨f0 _ _ (by omega) (by omega) (by omega) (by omega), fun h3 => f0 _ _ (by omega) (by omega) (by omega) (by omega)⟩) (fun k h1 h2 => g k (by omega) (by omega)) z3, zL_cg (fun d y h1 => f0 _ _ (by omega) (by omega) (by omega) (by omega)) (fun k h1 h2 => g k (by omega) (by omega)) (fun d h => by have := hd d h; omega) z4, fun d h => ?_, fun q hq => ?_, fun q hq => ?_, zJ_cg (fun i k h1 h2 h3 => f0 _ _ (by omega) (by omega) (by omega) (by omega)) (fun k h => ?_) z8, zK_cg (fun q h => f0 _ _ (by omega) (by omega) (by omega) (by omega)) z9, ⟨fun d h => ?_, fun q hq => ?_, by omega, by omega⟩, zW_cg hI (fun k h => g k (by omega) (by omega)) (fun q h1 h2 => s1_o hn h1 (by omega) (by omega) (by omega)) z11⟩
  · rw [f0 u 1 (Or.inl rfl) (by omega) (by omega) (by omega), g 0 (by omega) (by omega)]
    exact z1.1
  · rw [f2, g1]
  · rw [f0 u 3 (Or.inl rfl) (by omega) (by omega) (by omega)]
    exact z1.2.2
  · obtain ⟨y1, y2, y3, y4, y5⟩ := z5 d h
    have en : (s 1).toNat = n := by omega
    have en' : (sp_s1 s (j : Int) c a p l 1).toNat = n + 1 := by omega
    rw [en] at y1 y2 y3
    have cg := fun i (hi : i < n) => fq_cg (d := (d : Int)) (go i hi)
    have k1 : sp_sm (sp_fq (sp_s1 s (j : Int) c a p l) d) (n + 1) = sp_sm (sp_fq s d) n + (if j = d then 1 else 0) := by
      show sp_sm (sp_fq (sp_s1 s (j : Int) c a p l) d) n + sp_fq (sp_s1 s (j : Int) c a p l) d n = _
      rw [sm_cg n (fun i hi => (cg i hi).1)]
      unfold sp_fq
      rw [v0, e6]
      split <;> split <;> omega
    have k2 : sp_sm (sp_fc (sp_s1 s (j : Int) c a p l) d) (n + 1) = sp_sm (sp_fc s d) n := by
      show sp_sm (sp_fc (sp_s1 s (j : Int) c a p l) d) n + sp_fc (sp_s1 s (j : Int) c a p l) d n = _
      rw [sm_cg n (fun i hi => (cg i hi).2.1)]
      unfold sp_fc
      rw [v0, e6, if_neg (by omega)]
      omega
    have k3 : sp_sm (sp_ft (sp_s1 s (j : Int) c a p l) d) (n + 1) = sp_sm (sp_ft s d) n := by
      show sp_sm (sp_ft (sp_s1 s (j : Int) c a p l) d) n + sp_ft (sp_s1 s (j : Int) c a p l) d n = _
      rw [sm_cg n (fun i hi => (cg i hi).2.2.1)]
      unfold sp_ft
      rw [v0, e6, if_neg (by omega)]
      omega
    have en12 : ∀ q : Nat, q < n → sp_dn (sp_s1 s (j : Int) c a p l) q = sp_dn s q := fun q hq => (cg q hq).2.2.2
    have dnn : sp_dn (sp_s1 s (j : Int) c a p l) (n : Int) = if l = 0 then 2147483647 else s 0 + l := by
      unfold sp_dn
      rw [v4, v5]
    show zS1 b F' (sp_s1 s (j : Int) c a p l) d
    unfold zS1
    rw [en', k1, k2, k3]
    by_cases e : d = j
    · subst e
      rw [if_pos rfl, f11, f0 (b + 8 + 4 * d) 14 (by omega) (by omega) (by omega) (by omega), f0 (b + 8 + 4 * d) 15 (by omega) (by omega) (by omega) (by omega)]
      refine ⟨by rw [y1], y2, y3, by omega, fun q hq h1 h2 => ?_⟩
      rw [g1] at hq
      by_cases eq : q = n
      · subst eq
        rw [dnn]
        exact f12.2.1
      · rw [en12 q (by omega)]
        rw [go q (by omega) 0 (by omega) (by omega)] at h1
        rw [go q (by omega) 6 (by omega) (by omega)] at h2
        exact Int.le_trans f12.1 (y5 q (by omega) h1 h2)
    · rw [if_neg (fun z => e z.symm), f0 (b + 8 + 4 * d) 11 (by omega) (by omega) (by omega) (by omega), f0 (b + 8 + 4 * d) 12 (by omega) (by omega) (by omega) (by omega), f0 (b + 8 + 4 * d) 14 (by omega) (by omega) (by omega) (by omega), f0 (b + 8 + 4 * d) 15 (by omega) (by omega) (by omega) (by omega)]
      refine ⟨by omega, y2, y3, y4, fun q hq h1 h2 => ?_⟩
      rw [g1] at hq
      by_cases eq : q = n
      · subst eq
        rw [v0] at h1
        omega
      · rw [en12 q (by omega)]
        rw [go q (by omega) 0 (by omega) (by omega)] at h1
        rw [go q (by omega) 6 (by omega) (by omega)] at h2
        exact y5 q (by omega) h1 h2
  · rw [g1] at hq
    by_cases eq : q = n
    · subst eq
      unfold zQ1
      rw [v0, v1, v2, v3, v4, v5, e6, v6 7 (by omega) (by omega), v6 8 (by omega) (by omega), v6 9 (by omega) (by omega), v6 10 (by omega) (by omega), v6 11 (by omega) (by omega), v6 12 (by omega) (by omega)]
      exact ⟨q1, q2, q3, q4, q5, q6, q7, q8, q9, q10, q11, q13, q14, q15⟩
    · exact zQ1_cg (fun y hy => f0 _ _ (by omega) (by omega) (by omega) (by omega)) (fun k k0 k1 => go q (by omega) k k0 k1) (z6 q (by omega))
  · rw [g1] at hq
    by_cases eq : q = n
    · subst eq
      unfold zM1
      rw [q12, e6, if_neg (by omega)]
    · exact zM1_cg (z10.2.1 q (by omega)).1 (f0 _ _ (by omega) (by omega) (by omega) (by omega)) (go q (by omega) 0 (by omega) (by omega)) (go q (by omega) 6 (by omega) (by omega)) (fun k hk => g k (by omega) (by omega)) (z7 q (by omega))
  · by_cases h9 : 1592 ≤ k
    · exact s1_h hn (by omega)
    · exact g k (by omega) (by omega)
  · obtain ⟨y1, y2, y3⟩ := z10.1 d h
    have hdd := hd d h
    show zV1 (sp_s1 s (j : Int) c a p l) d
    unfold zV1
    rw [g (12 + (d : Int)).toNat (by omega) (by omega), g (28 + (d : Int)).toNat (by omega) (by omega), g (32 + (d : Int)).toNat (by omega) (by omega)]
    refine ⟨y1, fun h1 => ?_, fun h1 => ?_⟩
    · rw [s1_o hn (by omega) (by omega) (by omega) (by omega), s1_o hn (by omega) (by omega) (by omega) (by omega)]
      exact y2 h1
    · rw [s1_o hn (by omega) (by omega) (by omega) (by omega), s1_o hn (by omega) (by omega) (by omega) (by omega)]
      exact y3 h1
  · rw [g1] at hq
    show zV2 (sp_s1 s (j : Int) c a p l) q
    unfold zV2
    by_cases eq : q = n
    · subst eq
      rw [v0, v3, v4, e6, v6 12 (by omega) (by omega)]
      refine ⟨by omega, by omega, p0, l0, by omega, fun z => absurd z (by omega)⟩
    · have hz := z10.2.1 q (by omega)
      unfold zV2 at hz
      rw [go q (by omega) 0 (by omega) (by omega), go q (by omega) 3 (by omega) (by omega), go q (by omega) 4 (by omega) (by omega), go q (by omega) 6 (by omega) (by omega), go q (by omega) 12 (by omega) (by omega)]
      refine ⟨hz.1, hz.2.1, hz.2.2.1, hz.2.2.2.1, hz.2.2.2.2.1, fun e => ?_⟩
      rw [g _ (by omega) (by omega)]
      exact hz.2.2.2.2.2 e
end SB
