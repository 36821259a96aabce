/-! a good text: its program keeps all bounds (pure) -/
theorem gi_cg {G G' : tx_G} (h : G'.2 = G.2) (hi : q_gi G) : q_gi G' := by
  obtain ⟨D, X⟩ := G
  obtain ⟨D', X'⟩ := G'
  have h : X' = X := h
  subst h
  exact hi
theorem gs_u {D : Nat → Int} {j : Nat} {lo hi v : Int} (h : q_gs D) (hj : (j, lo, hi) ∈ tx_tb) (hv : lo ≤ v ∧ v ≤ hi) : q_gs (tx_u1 D j v) := by
  obtain ⟨h0, h2, h3, h4, h5, h6, h7, h8⟩ := h
  rcases tb_in hj with e | e | e | e | e <;> cases e
  · exact ⟨by rw [u1_n (by decide)]; exact h0, by rw [u1_n (by decide)]; exact h2, by rw [u1_n (by decide)]; exact h3, by rw [u1_e]; exact hv, by rw [u1_n (by decide)]; exact h5, by rw [u1_n (by decide)]; exact h6, by rw [u1_n (by decide)]; exact h7, by rw [u1_n (by decide)]; exact h8⟩
  · exact ⟨by rw [u1_n (by decide)]; exact h0, by rw [u1_n (by decide)]; exact h2, by rw [u1_n (by decide)]; exact h3, by rw [u1_n (by decide)]; exact h4, by rw [u1_e]; exact hv, by rw [u1_n (by decide)]; exact h6, by rw [u1_n (by decide)]; exact h7, by rw [u1_n (by decide)]; exact h8⟩
  · exact ⟨by rw [u1_n (by decide)]; exact h0, by rw [u1_n (by decide)]; exact h2, by rw [u1_n (by decide)]; exact h3, by rw [u1_n (by decide)]; exact h4, by rw [u1_n (by decide)]; exact h5, by rw [u1_e]; exact hv, by rw [u1_n (by decide)]; exact h7, by rw [u1_n (by decide)]; exact h8⟩
  · exact ⟨by rw [u1_n (by decide)]; exact h0, by rw [u1_n (by decide)]; exact h2, by rw [u1_n (by decide)]; exact h3, by rw [u1_n (by decide)]; exact h4, by rw [u1_n (by decide)]; exact h5, by rw [u1_n (by decide)]; exact h6, by rw [u1_e]; exact hv, by rw [u1_n (by decide)]; exact h8⟩
  · exact ⟨by rw [u1_n (by decide)]; exact h0, by rw [u1_n (by decide)]; exact h2, by rw [u1_n (by decide)]; exact h3, by rw [u1_n (by decide)]; exact h4, by rw [u1_n (by decide)]; exact h5, by rw [u1_n (by decide)]; exact h6, by rw [u1_n (by decide)]; exact h7, by rw [u1_e]; exact hv⟩
theorem gs_2 {D : Nat → Int} {u v : Int} (h : q_gs D) (hu : 1 ≤ u ∧ u ≤ 100) (hv : 1 ≤ v ∧ v ≤ 1000) : q_gs (tx_u1 (tx_u1 D 2 u) 3 v) := by
  obtain ⟨h0, h2, h3, h4, h5, h6, h7, h8⟩ := h
  refine ⟨?_, ?_, ?_, ?_, ?_, ?_, ?_, ?_⟩
  · rw [u1_n (by decide), u1_n (by decide)]; exact h0
  · rw [u1_n (by decide), u1_e]; exact hu
  · rw [u1_e]; exact hv
  · rw [u1_n (by decide), u1_n (by decide)]; exact h4
  · rw [u1_n (by decide), u1_n (by decide)]; exact h5
  · rw [u1_n (by decide), u1_n (by decide)]; exact h6
  · rw [u1_n (by decide), u1_n (by decide)]; exact h7
  · rw [u1_n (by decide), u1_n (by decide)]; exact h8
theorem gs_h {D : Nat → Int} {v : Int} (h : q_gs D) (hv : 1 ≤ v ∧ v ≤ 4) : q_gs (tx_u1 D 0 v) := by
  obtain ⟨h0, h2, h3, h4, h5, h6, h7, h8⟩ := h
  exact ⟨by rw [u1_e]; exact hv, by rw [u1_n (by decide)]; exact h2, by rw [u1_n (by decide)]; exact h3, by rw [u1_n (by decide)]; exact h4, by rw [u1_n (by decide)]; exact h5, by rw [u1_n (by decide)]; exact h6, by rw [u1_n (by decide)]; exact h7, by rw [u1_n (by decide)]; exact h8⟩
theorem c1_gd {T : tx_T} {G : tx_G} {p : Nat} {Z : tx_G × tx_St} (h : tx_c1 T G p Z) (z : Z.2.1 = 0) (hp : p < T.2) (hi : q_gi G) (hs : q_gs G.1) : q_gi Z.1 ∧ q_gs Z.1.1 := by
  obtain ⟨a1, a2, a3, a4, a5⟩ := h
  by_cases y : tx_is T p 1
  · by_cases c8 : G.2.1.length = 8
    · rw [a1 y c8]
      exact ⟨hi, hs⟩
    · obtain ⟨r, h1, h2⟩ := a2 y c8
      rw [h2] at z ⊢
      exact ⟨gi_new hi c8 h1 hp z, hs⟩
  · by_cases q : ∃ j, 14 ≤ j ∧ j ≤ 19 ∧ tx_is T p j
    · obtain ⟨j, y1, y2, y3⟩ := q
      by_cases j14 : j = 14
      · subst j14
        rw [a3 y3]
        have n1 := nb_v (T := T) (lo := 1) (hi := 100) (s := (0, tx_nx T.1 T.2 p)) (by decide)
        have n2 := nb_v (T := T) (lo := (tx_nb T 1 100 (0, tx_nx T.1 T.2 p)).2) (hi := 1000) (s := (tx_nb T 1 100 (0, tx_nx T.1 T.2 p)).1) (by omega)
        exact ⟨gi_cg rfl hi, gs_2 hs n1 (by omega)⟩
      · obtain ⟨x, hx, rfl⟩ := tb_j j (by omega) y2
        rw [a4 x hx y3]
        have hl : x.2.1 ≤ x.2.2 := by rcases tb_in hx with rfl | rfl | rfl | rfl | rfl <;> decide
        exact ⟨gi_cg rfl hi, gs_u (lo := x.2.1) (hi := x.2.2) hs hx (nb_v hl)⟩
    · rw [a5 y (fun j h1 h2 h3 => q ⟨j, h1, h2, h3⟩)]
      exact ⟨hi, hs⟩
theorem tl_good {T : tx_T} : ∀ (f : Nat) (X Y : tx_G × tx_St), tx_tl T f X Y → Y.2.1 = 0 → X.2.1 = 0
  | 0, _, _, h, _ => h.elim
  | f + 1, X, Y, h, z => by
    by_cases c : X.2.1 = 0
    · exact c
    · rw [h.2 (fun q => c q.1)] at z
      exact absurd z c
theorem tl_gd {T : tx_T} : ∀ (f : Nat) (X Y : tx_G × tx_St), tx_tl T f X Y → Y.2.1 = 0 → q_gi X.1 → q_gs X.1.1 → q_gi Y.1 ∧ q_gs Y.1.1
  | 0, _, _, h, _, _, _ => h.elim
  | f + 1, X, Y, h, z, hi, hs => by
    by_cases c : X.2.1 = 0 ∧ ¬ tx_k T.1 T.2 X.2.2 = 0
    · obtain ⟨Z, h1, h2⟩ := h.1 c
      have g : (tx_sg T 59 Z.2).1 = 0 := tl_good f _ Y h2 z
      have sl := sg_len g
      have hp : X.2.2 < T.2 := by
        by_cases q : X.2.2 < T.2
        · exact q
        · exfalso
          refine c.2 ?_
          unfold tx_k
          exact if_pos (by omega)
      have a := c1_gd h1 sl.1 hp hi hs
      exact tl_gd f _ Y h2 z a.1 a.2
    · rw [h.2 c]
      exact ⟨hi, hs⟩
theorem gi_0 {D : Nat → Int} : q_gi (D, [], []) := ⟨fun c c0 c1 => by have c1 : c < ((0 : Nat) : Int) := c1; omega, Nat.zero_le _, cc_nil⟩
theorem gs_0 : q_gs tx_D0 := ⟨⟨by decide, by decide⟩, ⟨by decide, by decide⟩, ⟨by decide, by decide⟩, ⟨by decide, by decide⟩, ⟨by decide, by decide⟩, ⟨by decide, by decide⟩, ⟨by decide, by decide⟩, ⟨by decide, by decide⟩⟩
theorem gd_of {G : tx_G} (hi : q_gi G) (hs : q_gs G.1) (hl : G.2.2.length ≤ 900) : q_gd G := ⟨hi.1, ⟨hi.2.1, hl, hi.2.2⟩, hs⟩
/-- the program of a new object is good -/
theorem gd_0 : q_gd (tx_D0, [], []) := gd_of gi_0 gs_0 (by decide)
/-- A GOOD TEXT'S PROGRAM IS GOOD -/
theorem gd_tx {T : tx_T} {Y : tx_G × tx_St} (h : tx_tx T Y) (z : Y.2.1 = 0) (hl : Y.1.2.2.length ≤ 900) : q_gd Y.1 := by
  obtain ⟨f, h⟩ := h
  have n := nb_v (T := T) (lo := 1) (hi := 4) (s := tx_wr T 0 (0, tx_sk T.1 T.2 0)) (by decide)
  have hs : q_gs (tx_h0 T).1.1 := gs_h gs_0 n
  have a := tl_gd f _ Y h z gi_0 hs
  exact gd_of a.1 a.2 hl
