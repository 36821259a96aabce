/-! a good text's program is good (pure) -/
def cS (c : List Int) : Prop := (∀ x, x ∈ c → sp_cc x) ∧ ∀ (op : Int → sp_R → Int) (dr : Int) (r : List Int) (s : sp_R), ∃ s', sp_ex op dr (c ++ r) [] s = sp_ex op dr r [] s'
theorem cS_0 : cS [] := ⟨cc_nil, fun op dr r s => ⟨s, rfl⟩⟩
theorem cS_c {c1 c2 : List Int} {c : Int} (h1 : cV 15 c1) (h2 : cS c2) (hc : (40 ≤ c ∧ c ≤ 47) ∨ (50 ≤ c ∧ c ≤ 53)) : cS (c1 ++ c :: c2) := by
  refine ⟨cc_app h1.1 (cc_cons ⟨by omega, by omega⟩ h2.1), fun op dr r s => ?_⟩
  obtain ⟨x, hx⟩ := h1.2 op dr (c :: (c2 ++ r)) [] s (by decide)
  rcases hc with hc | hc
  · obtain ⟨s', hs⟩ := h2.2 op dr r (tx_u1 s (48 + 8 * dr + c - 40).toNat (x % 65536))
    refine ⟨s', ?_⟩
    rw [List.append_assoc]
    show sp_ex op dr (c1 ++ c :: (c2 ++ r)) [] s = _
    rw [hx, ex_c, if_neg (by omega), if_neg (by omega), if_pos hc]
    exact hs
  · obtain ⟨s', hs⟩ := h2.2 op dr r (tx_u1 s (80 + 4 * dr + c - 50).toNat (x % 65536))
    refine ⟨s', ?_⟩
    rw [List.append_assoc]
    show sp_ex op dr (c1 ++ c :: (c2 ++ r)) [] s = _
    rw [hx, ex_c, if_neg (by omega), if_neg (by omega), if_neg (by omega), if_pos hc]
    exact hs
theorem st_S {T : tx_T} {j : Nat} {pl mo to : Int} (hm : (to = 40 ∧ mo = 7) ∨ (to = 50 ∧ mo = 3)) : ∀ (f : Nat) (s : tx_St) (r : tx_St × List Int), tx_st T j pl mo to f s r → r.1.1 = 0 → cS r.2
  | 0, _, _, h, _ => h.elim
  | f + 1, (e, p), r, h, z => by
    by_cases c : e = 0 ∧ tx_wd T.1 T.2 p = some (m_X + 1 + j)
    · obtain ⟨s2, c2, r3, h1, h2, h3⟩ := h.1 c
      rw [h3] at z ⊢
      obtain ⟨e2, p2⟩ := s2
      obtain ⟨z2, l2⟩ := tv_le f _ r3 h2 z
      have i3 := st_S hm f _ r3 h2 z
      have z2 : e2 = 0 := z2
      subst z2
      generalize hS : tx_sg T 61 (tx_nb T 0 mo (0, tx_nx T.1 T.2 p)).1 = S at h1
      obtain ⟨e3, p3⟩ := S
      have z3 : e3 = 0 := by
        by_cases z3 : e3 = 0
        · exact z3
        · have := ev_det h1 (ev_bad z3)
          cases this
          exact absurd rfl z3
      subst z3
      have sl := sg_len (T := T) (c := 61) (s := (tx_nb T 0 mo (0, tx_nx T.1 T.2 p)).1) (by rw [hS])
      rw [hS] at sl
      have v := ev_V h1 sl.2.2 rfl
      have nv := nb_v (T := T) (lo := 0) (hi := mo) (s := (0, tx_nx T.1 T.2 p)) (by omega)
      exact cS_c v i3 (by dsimp only at nv ⊢; omega)
    · rw [h.2 c]
      exact cS_0
theorem cm_gc {T : tx_T} {G : tx_G} {p : Nat} {r : tx_St × tx_C × List Int} (h : tx_cm T G p r) (hp : p < T.2) (z : r.1.1 = 0) : ∃ (c1 c2 c3 c4 : List Int) (k t : Int), r.2 = (tx_mk [(tx_nx T.1 T.2 p : Int), k, t, (G.2.2.length : Int), (G.2.2.length + c1.length : Nat), (G.2.2.length + c1.length + c2.length : Nat), (G.2.2.length + c1.length + c2.length + c3.length : Nat), (G.2.2.length + c1.length + c2.length + c3.length + c4.length : Nat)], G.2.2 ++ (c1 ++ (c2 ++ (c3 ++ c4)))) ∧ (0 ≤ k ∧ k ≤ 3) ∧ (1 ≤ t ∧ t ≤ 50) ∧ (k = 3 → cT 18 c1) ∧ (∀ x, x ∈ c1 → sp_cc x) ∧ (c2 = [] ∨ cV 15 c2) ∧ cS c3 ∧ cS c4 := by
  obtain ⟨s1, s3, c1, s5, c2, s6, c3, s7, c4, a1, a2, a3, a4, a5, ⟨f6, a6⟩, ⟨f7, a7⟩, a8⟩ := h
  rw [a8] at z ⊢
  obtain ⟨z6, l7⟩ := tv_le f7 _ _ a7 z
  obtain ⟨z5, l6⟩ := tv_le f6 _ _ a6 z6
  have z5 : s5.1 = 0 := z5
  have i3 := st_S (Or.inl ⟨rfl, rfl⟩) f6 _ _ a6 z6
  have i4 := st_S (Or.inr ⟨rfl, rfl⟩) f7 _ _ a7 z
  obtain ⟨e1, p1⟩ := s1
  obtain ⟨e3, p3⟩ := s3
  obtain ⟨e5, p5⟩ := s5
  have zt : (tx_nb T 1 50 (tx_wr T 2 (e3, p3))).1.1 = 0 := by
    by_cases y : (tx_nb T 1 50 (tx_wr T 2 (e3, p3))).1.1 = 0 ∧ tx_wd T.1 T.2 (tx_nb T 1 50 (tx_wr T 2 (e3, p3))).1.2 = some (m_X + 1 + 32)
    · exact y.1
    · rw [← (a5 y).1]; exact z5
  have nc9 := nb_c zt
  have wl := wr_len nc9.2.2.1
  have z3 : e3 = 0 := wl.1
  subst z3
  have l3 : (0 ≤ (tx_kd T (e1, p1)).2 ∧ (tx_kd T (e1, p1)).2 ≤ 3) ∧ ((tx_kd T (e1, p1)).2 = 3 → cT 18 c1) ∧ (¬ (tx_kd T (e1, p1)).2 = 3 → c1 = []) := by
    have z1 : e1 = 0 := by
      by_cases z1 : e1 = 0
      · exact z1
      · have y : ¬ (tx_kd T (e1, p1)).2 = 3 := by
          rw [kd_b z1]
          exact (show ¬ (-1 : Int) = 3 by decide)
        have b1 := (a3 y).1
        rw [kd_b z1] at b1
        cases b1
        exact absurd rfl z1
    subst z1
    have ex : ∃ i, i < 4 ∧ tx_wd T.1 T.2 p1 = some (m_X + 1 + (20 + i)) := by
      by_cases q : ∃ i, i < 4 ∧ tx_wd T.1 T.2 p1 = some (m_X + 1 + (20 + i))
      · exact q
      · have y : ¬ (tx_kd T (0, p1)).2 = 3 := by
          rw [kd_n (fun i hi hw => q ⟨i, hi, hw⟩)]
          exact (show ¬ (-1 : Int) = 3 by decide)
        have b1 := (a3 y).1
        rw [kd_n (fun i hi hw => q ⟨i, hi, hw⟩)] at b1
        cases b1
    obtain ⟨i, hi, hw⟩ := ex
    have hp1 : p1 < T.2 := (tx_k1.mp (tx_wk (T := T) hw)).1
    refine ⟨?_, fun y => ?_, fun y => (a3 y).2⟩
    · rw [kd_y hi hw]
      exact ⟨by show (0 : Int) ≤ (i : Int); omega, by show (i : Int) ≤ 3; omega⟩
    · have h1 := a2 y
      rw [kd_y hi hw] at h1
      exact ev_T h1 (tx_nx_le hp1) rfl
  have l5 : c2 = [] ∨ cV 15 c2 := by
    by_cases y : (tx_nb T 1 50 (tx_wr T 2 (0, p3))).1.1 = 0 ∧ tx_wd T.1 T.2 (tx_nb T 1 50 (tx_wr T 2 (0, p3))).1.2 = some (m_X + 1 + 32)
    · have h1 := a4 y
      have hq : (tx_nb T 1 50 (tx_wr T 2 (0, p3))).1.2 < T.2 := (tx_k1.mp (tx_wk (T := T) y.2)).1
      exact Or.inr (ev_V h1 (tx_nx_le hq) z5)
    · exact Or.inl (a5 y).2
  have nv := nb_v (T := T) (lo := 1) (hi := 50) (s := tx_wr T 2 (0, p3)) (by decide)
  refine ⟨c1, c2, c3, c4, _, _, rfl, l3.1, nv, l3.2.1, ?_, l5, i3, i4⟩
  by_cases y : (tx_kd T (e1, p1)).2 = 3
  · exact (l3.2.1 y).1
  · rw [l3.2.2 y]
    exact cc_nil
theorem seg_at {A B C : List Int} : ((A ++ (B ++ C)).drop A.length).take B.length = B := by
  rw [List.drop_left, List.take_left]
theorem seg_of {A B C : List Int} {G : tx_G} {f g : Int} (h : G.2.2 = A ++ (B ++ C)) (hf : f = (A.length : Int)) (hg : g = (A.length + B.length : Nat)) : sp_g G f g = B := by
  unfold sp_g
  rw [h, show f.toNat = A.length by omega, show (g - f).toNat = B.length by omega]
  exact seg_at
theorem seg_app {G G' : tx_G} {C : List Int} {f g : Int} (h : G'.2.2 = G.2.2 ++ C) (f0 : 0 ≤ f) (fg : f ≤ g) (hg : g ≤ (G.2.2.length : Int)) : sp_g G' f g = sp_g G f g := by
  unfold sp_g
  rw [h, List.drop_append_of_le_length (by omega), List.take_append_of_le_length (by rw [List.length_drop]; omega)]
/-- the commands and codes so far are good -/
def q_gi (G : tx_G) : Prop := (∀ c, 0 ≤ c → c < (G.2.1.length : Int) → q_gc G c) ∧ G.2.1.length ≤ 8 ∧ ∀ x, x ∈ G.2.2 → sp_cc x
theorem gi_new {T : tx_T} {G : tx_G} {D : Nat → Int} {p : Nat} {r : tx_St × tx_C × List Int} (hi : q_gi G) (h8 : ¬ G.2.1.length = 8) (h : tx_cm T G p r) (hp : p < T.2) (z : r.1.1 = 0) : q_gi (D, G.2.1 ++ [r.2.1], r.2.2) := by
  obtain ⟨c1, c2, c3, c4, k, t, e, k1, t1, v1, cc1, v2, v3, v4⟩ := cm_gc h hp z
  rw [e]
  obtain ⟨g1, g2, g3⟩ := hi
  obtain ⟨K, hK⟩ : ∃ K : tx_C, K = tx_mk [(tx_nx T.1 T.2 p : Int), k, t, (G.2.2.length : Int), (G.2.2.length + c1.length : Nat), (G.2.2.length + c1.length + c2.length : Nat), (G.2.2.length + c1.length + c2.length + c3.length : Nat), (G.2.2.length + c1.length + c2.length + c3.length + c4.length : Nat)] := ⟨_, rfl⟩
  have q1 : K 1 = k := by rw [hK]; rfl
  have q2 : K 2 = t := by rw [hK]; rfl
  have q3 : K 3 = (G.2.2.length : Int) := by rw [hK]; rfl
  have q4 : K 4 = (G.2.2.length + c1.length : Nat) := by rw [hK]; rfl
  have q5 : K 5 = (G.2.2.length + c1.length + c2.length : Nat) := by rw [hK]; rfl
  have q6 : K 6 = (G.2.2.length + c1.length + c2.length + c3.length : Nat) := by rw [hK]; rfl
  have q7 : K 7 = (G.2.2.length + c1.length + c2.length + c3.length + c4.length : Nat) := by rw [hK]; rfl
  rw [← hK]
  obtain ⟨G', hG⟩ : ∃ G' : tx_G, G' = (D, G.2.1 ++ [K], G.2.2 ++ (c1 ++ (c2 ++ (c3 ++ c4)))) := ⟨_, rfl⟩
  show q_gi (D, G.2.1 ++ [K], G.2.2 ++ (c1 ++ (c2 ++ (c3 ++ c4))))
  rw [← hG]
  have hc : G'.2.2 = G.2.2 ++ (c1 ++ (c2 ++ (c3 ++ c4))) := by rw [hG]
  have hm : G'.2.1 = G.2.1 ++ [K] := by rw [hG]
  have hl : G'.2.1.length = G.2.1.length + 1 := by rw [hm, List.length_append]; rfl
  have hL : G'.2.2.length = G.2.2.length + (c1.length + (c2.length + (c3.length + c4.length))) := by rw [hc, List.length_append, List.length_append, List.length_append, List.length_append]
  refine ⟨fun c c0 cl => ?_, by omega, ?_⟩
  · by_cases old : c < (G.2.1.length : Int)
    · have ec : ∀ j, sp_c G' c j = sp_c G c j := fun j => by
        unfold sp_c
        rw [hm, List.getD_eq_getElem?_getD, List.getD_eq_getElem?_getD, List.getElem?_append_left (by omega)]
      have b := g1 c c0 old
      unfold q_gc at b ⊢
      obtain ⟨b1, b2, ⟨b3, b4, b5, b6, b7, b8⟩, x1, x2, x3, x4⟩ := b
      rw [ec 1, ec 2, ec 3, ec 4, ec 5, ec 6, ec 7, seg_app hc (by omega) (by omega) (by omega), seg_app hc (by omega) (by omega) (by omega), seg_app hc (by omega) (by omega) (by omega), seg_app hc (by omega) (by omega) (by omega)]
      exact ⟨b1, b2, ⟨b3, b4, b5, b6, b7, by omega⟩, x1, x2, x3, x4⟩
    · have ec : ∀ j, sp_c G' c j = K j := fun j => by
        unfold sp_c
        rw [hm, List.getD_eq_getElem?_getD, show c.toNat = G.2.1.length by omega, List.getElem?_append_right (Nat.le_refl _), Nat.sub_self]
        rfl
      have s1 : sp_g G' (K 3) (K 4) = c1 := seg_of hc q3 q4
      have s2 : sp_g G' (K 4) (K 5) = c2 := seg_of (A := G.2.2 ++ c1) (by rw [hc, List.append_assoc]) (by rw [q4, List.length_append]) (by rw [q5, List.length_append])
      have s3 : sp_g G' (K 5) (K 6) = c3 := seg_of (A := G.2.2 ++ c1 ++ c2) (by rw [hc, List.append_assoc, List.append_assoc]) (by rw [q5, List.length_append, List.length_append]) (by rw [q6, List.length_append, List.length_append])
      have s4 : sp_g G' (K 6) (K 7) = c4 := seg_of (A := G.2.2 ++ c1 ++ c2 ++ c3) (C := []) (by rw [hc, List.append_nil, List.append_assoc, List.append_assoc, List.append_assoc]) (by rw [q6, List.length_append, List.length_append, List.length_append]) (by rw [q7, List.length_append, List.length_append, List.length_append])
      unfold q_gc
      rw [ec 1, ec 2, ec 3, ec 4, ec 5, ec 6, ec 7, s1, s2, s3, s4]
      refine ⟨by omega, by omega, by omega, fun k3 op dr s => ?_, fun op dr s => ?_, fun op dr s => ?_, fun op dr s => ?_⟩
      · obtain ⟨x, x1, hx⟩ := (v1 (by omega)).2 op dr [] [] s (by decide)
        rw [List.append_nil] at hx
        exact ⟨x, by rw [hx, sp_ex], x1⟩
      · rcases v2 with v2 | v2
        · refine Or.inl ?_
          rw [q4, q5, v2]
          rfl
        · obtain ⟨x, hx⟩ := v2.2 op dr [] [] s (by decide)
          rw [List.append_nil] at hx
          exact Or.inr ⟨x, by rw [hx, sp_ex]⟩
      · obtain ⟨s', hx⟩ := v3.2 op dr [] s
        rw [List.append_nil] at hx
        exact ⟨s', by rw [hx, sp_ex]⟩
      · obtain ⟨s', hx⟩ := v4.2 op dr [] s
        rw [List.append_nil] at hx
        exact ⟨s', by rw [hx, sp_ex]⟩
  · rw [hc]
    have w2 : ∀ x, x ∈ c2 → sp_cc x := by
      rcases v2 with v2 | v2
      · rw [v2]; exact cc_nil
      · exact v2.1
    exact cc_app g3 (cc_app cc1 (cc_app w2 (cc_app v3.1 v4.1)))
/-- the settings stay in their bounds -/
def q_gs (D : Nat → Int) : Prop := (1 ≤ D 0 ∧ D 0 ≤ 4) ∧ (1 ≤ D 2 ∧ D 2 ≤ 100) ∧ (1 ≤ D 3 ∧ D 3 ≤ 1000) ∧ (1 ≤ D 4 ∧ D 4 ≤ 1000) ∧ (0 ≤ D 5 ∧ D 5 ≤ 20) ∧ (1 ≤ D 6 ∧ D 6 ≤ 20) ∧ (1 ≤ D 7 ∧ D 7 ≤ 20) ∧ (1 ≤ D 8 ∧ D 8 ≤ 50)
