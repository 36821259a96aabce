/-! the clock, and what lies behind a row, stand within a tick (pure) -/
theorem no_hi {G : tx_G} {D : Nat} {s : sp_R} {ev dr q : Int} {k : Nat} (hI : sp_I G D s) (v0 : 0 ≤ ev) (v8 : ev ≤ 8) (hk : 2392 ≤ k) : sp_no s ev dr q k = s k := by
  have hn := I_n hI
  have c2 : sp_ct s ev 2 = s 2 := u1_n (by omega)
  have ck : sp_ct s ev k = s k := u1_n (by omega)
  have key : ∀ t : sp_R, 0 ≤ t 2 → t 2 ≤ 199 → t k = s k → sp_ad t ev dr q k = s k := by
    intro t h2 h3 ht
    unfold sp_ad
    rw [u1_n (by omega), u1_n (by omega), u1_n (by omega), u1_n (by omega), u1_n (by omega)]
    exact ht
  unfold sp_no
  split
  · refine key _ ?_ ?_ ?_
    · unfold sp_sh
      rw [u1_e]
      decide
    · unfold sp_sh
      rw [u1_e]
      decide
    · unfold sp_sh
      rw [u1_n (by omega), if_neg (by omega)]
      exact ck
  · exact key _ (by omega) (by omega) ck
section CL
variable {G : tx_G} {D : Nat} {s : sp_R} {B dr q y re : Int} {k : Nat}
theorem c_no (hk : k = 0 ∨ 2392 ≤ k) {ev d : Int} (hI : sp_I G D s) (v0 : 0 ≤ ev) (v8 : ev ≤ 8) : sp_no s ev d q k = s k := by
  rcases hk with rfl | hk
  · exact no_n v0 v8 (I_n hI).2.1 (by omega)
  · exact no_hi hI v0 v8 hk
theorem c_bad (hk : k = 0 ∨ 2392 ≤ k) (hI : sp_I G D s) (q0 : 0 ≤ q) (q1 : q < s 1) : sp_bad s q y k = s k := by
  have d := o_dr hI q0 q1
  have hn := I_n hI
  have a := I_bb (y := y) hI q0 q1
  show sp_no (sp_bb s q y) 3 (sp_o s q 0) q k = s k
  rw [c_no hk a.1 (by decide) (by decide), bb_n (by omega)]
theorem c_dd (hk : k = 0 ∨ 2392 ≤ k) : ∀ (f : Nat) (i : Int) (s : sp_R), 0 ≤ i → i + f ≤ s 1 → sp_I G D s → sp_dd dr f i s k = s k
  | 0, _, _, _, _, _ => rfl
  | f + 1, i, s, i0, i1, hI => by
    show sp_dd dr f (i + 1) (if sp_o s i 0 = dr ∧ sp_o s i 6 < 2 then sp_bad s i 5 else s) k = s k
    split
    · have a := I_bad (y := 5) hI i0 (by omega)
      rw [c_dd hk f (i + 1) _ (by omega) (by rw [a.2]; omega) a.1]
      exact c_bad hk hI i0 (by omega)
    · exact c_dd hk f (i + 1) s (by omega) (by omega) hI
theorem c_ll (hk : k = 0 ∨ 2392 ≤ k) : ∀ (f : Nat) (i : Int) (s : sp_R), 0 ≤ i → i + f ≤ s 1 → sp_I G D s → sp_ll dr f i s k = s k
  | 0, _, _, _, _, _ => rfl
  | f + 1, i, s, i0, i1, hI => by
    show sp_ll dr f (i + 1) (if sp_o s i 0 = dr ∧ sp_o s i 6 = 0 ∧ 0 < sp_o s i 4 ∧ sp_o s i 4 ≤ s 0 - sp_o s i 5 then sp_bad s i 1 else s) k = s k
    split
    · have a := I_bad (y := 1) hI i0 (by omega)
      rw [c_ll hk f (i + 1) _ (by omega) (by rw [a.2]; omega) a.1]
      exact c_bad hk hI i0 (by omega)
    · exact c_ll hk f (i + 1) s (by omega) (by omega) hI
theorem c_la (hk : k = 0 ∨ 2392 ≤ k) (hI : sp_I G D s) : sp_la s dr k = s k := c_ll hk _ 0 s (by omega) (by have := I_n hI; omega) hI
theorem c_sn (hk : k = 0 ∨ 2392 ≤ k) (hI : sp_I G D s) (d0 : 0 ≤ dr) (d4 : dr < 4) (hD : D = 4 ∨ D = dr.toNat) : sp_sn s dr k = s k := by
  have a := I_l0 (j := (44 + dr).toNat) (by omega) (by omega) (by omega) (I_cp d0 d4 hI)
  unfold sp_sn
  rw [c_no hk a (by decide) (by decide), u1_n (by omega)]
  exact if_neg (by omega)
theorem c_ke (hk : k = 0 ∨ 2392 ≤ k) (gd : q_gd G) (hI : sp_I G D s) (q0 : 0 ≤ q) (q1 : q < s 1) : sp_ke G s q k = s k := (I_ke gd hI q0 q1).2.2 k (by omega)
theorem c_wel (hk : k = 0 ∨ 2392 ≤ k) (gd : q_gd G) (hI : sp_I G 4 s) (q0 : 0 ≤ q) (q1 : q < s 1) : sp_wel G s q y k = s k := by
  obtain ⟨d0, d4⟩ := o_dr hI q0 q1
  have hn := I_n hI
  obtain ⟨i1, i2, i3, i4⟩ := I_w1 (y := y) hI q0 q1
  have j1 := I_no (ev := 2) (dr := sp_o s q 0) (q := q) (by decide) (by decide) i1
  have hq1 : q < sp_no (sp_w1 s q y) 2 (sp_o s q 0) q 1 := by rw [j1.2, i2]; exact q1
  obtain ⟨l1, l2, l3⟩ := I_ke gd j1.1 q0 hq1
  have hd2 := I_d (dr := sp_o s q 0) l1 d0 d4
  have hn2 := I_n l1
  have x3 := I_lg (dr := sp_o s q 0) (q := q) d0 d4 q0 (by rw [l2]; exact hq1) l1
  have e0 : sp_w3 G s q y k = s k := by
    unfold sp_w3 sp_lg sp_w2
    rw [u1_n (by omega), u1_n (by omega), l3 k (by omega), c_no hk i1 (by decide) (by decide)]
    exact w1_n (by omega)
  unfold sp_wel
  split
  · exact e0
  · exact (c_sn (s := sp_w3 G s q y) hk x3 d0 d4 (Or.inr rfl)).trans e0
theorem c_k1 (hk : k = 0 ∨ 2392 ≤ k) (hI : sp_I G D s) (d0 : 0 ≤ dr) (d4 : dr < 4) : sp_k1 s dr k = s k := by
  unfold sp_k1
  rw [ls_n (by omega), u1_n (by omega)]
  exact c_no hk hI (by decide) (by decide)
theorem c_k2 (hk : k = 0 ∨ 2392 ≤ k) (hI : sp_I G D s) (q0 : -1 ≤ q) (q1 : q < s 1) : sp_k2 G s q k = s k := by
  have hn := I_n hI
  unfold sp_k2
  split
  · rfl
  · have a1 := I_u (q := q) (j := 10) (v := sp_o s q 10 + 1) hI (by omega) q1 (by decide) (by decide)
    split
    · unfold sp_u
      exact u1_n (by omega)
    · rw [c_bad hk a1.1 (by omega) (by rw [a1.2]; exact q1)]
      unfold sp_u
      exact u1_n (by omega)
theorem c_k3 (hk : k = 0 ∨ 2392 ≤ k) (hI : sp_I G D s) (d0 : 0 ≤ dr) (d4 : dr < 4) : sp_k3 G s dr k = s k := by
  have hn := I_n hI
  unfold sp_k3
  split
  · rw [u1_n (by omega), u1_n (by omega)]
  · have a0 : sp_I G D (tx_u1 s (12 + dr).toNat 2) := I_nc (by unfold q_cr; omega) hI
    have a1 := I_no (ev := 8) (dr := dr) (q := -1) (by decide) (by decide) a0
    rw [c_dd hk _ 0 _ (by omega) (by rw [a1.2, u1_n (by omega)]; omega) a1.1, c_no hk a0 (by decide) (by decide), u1_n (by omega)]
theorem c_cr (hk : k = 0 ∨ 2392 ≤ k) (hI : sp_I G D s) (d0 : 0 ≤ dr) (d4 : dr < 4) (hB : sp_B B s) : sp_cr G s dr k = s k := by
  have a := I_k1 hI d0 d4 hB
  have hd := I_d a.1 d0 d4
  have b := I_k2 (q := sp_k1 s dr (32 + dr).toNat) a.1 (by omega) (by omega) a.2.2
  unfold sp_cr
  rw [c_k3 hk b.1 d0 d4, c_k2 hk a.1 (by omega) (by omega), c_k1 hk hI d0 d4]
theorem c_de (hk : k = 0 ∨ 2392 ≤ k) (gd : q_gd G) (hI : sp_I G 4 s) (d0 : 0 ≤ dr) (d4 : dr < 4) (q0 : 0 ≤ q) (q1 : q < s 1) : sp_de G s dr q k = s k := by
  have hn := I_n hI
  unfold sp_de
  split
  · exact c_bad hk hI q0 q1
  · split
    · exact c_wel hk gd hI q0 q1
    · have a1 := I_u (j := 6) (v := 0) hI q0 q1 (by decide) (by decide)
      have a2 : sp_I G 4 (tx_u1 (tx_u1 (sp_u s q 6 0) (28 + dr).toNat q) (32 + dr).toNat (-1)) := I_fl (by omega) (by omega) (by omega) (by rw [u1_n (by omega), a1.2]; omega) (I_fl (by omega) (by omega) (by omega) (by rw [a1.2]; exact q1) a1.1)
      rw [c_no hk a2 (by decide) (by decide), u1_n (by omega), u1_n (by omega)]
      unfold sp_u
      exact u1_n (by omega)
theorem c_r1 (hk : k = 0 ∨ 2392 ≤ k) (hI : sp_I G D s) (d0 : 0 ≤ dr) (d4 : dr < 4) : sp_r1 s dr k = s k := by
  have hn := I_n hI
  have e : ∀ t : sp_R, sp_ba t dr k = t k := fun t => if_neg (by omega)
  have a0 : sp_I G D (tx_u1 (tx_u1 s (12 + dr).toNat 0) (24 + dr).toNat (s 0)) := I_nc (by unfold q_cr; omega) (I_nc (by unfold q_cr; omega) hI)
  unfold sp_r1
  rw [e, c_no hk a0 (by decide) (by decide), u1_n (by omega), u1_n (by omega)]
theorem c_rl (hk : k = 0 ∨ 2392 ≤ k) (gd : q_gd G) (d0 : 0 ≤ dr) (d4 : dr < 4) : ∀ (f : Nat) (i : Int) (s : sp_R), 0 ≤ i → i + f ≤ s (44 + dr).toNat → sp_I G 4 s → sp_rl G dr f i s k = s k
  | 0, _, _, _, _, _ => rfl
  | f + 1, i, s, i0, i1, hI => by
    have hl := I_l (k := i) hI d0 d4 i0 (by omega)
    have a := I_ke gd hI hl.1 hl.2
    show sp_rl G dr f (i + 1) (sp_ke G s (s (112 + 20 * dr + i).toNat)) k = s k
    rw [c_rl hk gd d0 d4 f (i + 1) _ (by omega) (by rw [a.2.2 _ (by omega)]; omega) a.1]
    exact a.2.2 k (by omega)
theorem c_rs (hk : k = 0 ∨ 2392 ≤ k) (gd : q_gd G) (hI : sp_I G 4 s) (d0 : 0 ≤ dr) (d4 : dr < 4) (hB : sp_B B s) : sp_rs G s dr k = s k := by
  have a := I_r1 hI d0 d4 hB
  have hd0 := I_d hI d0 d4
  have b := I_r2 gd hI d0 d4 hB
  have hd := I_d b.1 d0 d4
  have e2 : sp_r2 G s dr k = s k := by
    unfold sp_r2
    rw [c_rl hk gd d0 d4 _ 0 _ (by omega) (by rw [a.2.2.2]; omega) a.1, c_r1 hk hI d0 d4]
  unfold sp_rs
  split
  · exact e2
  · exact (c_de hk gd b.1 d0 d4 (by omega) hd.2.1.2).trans e2
theorem c_be (hk : k = 0 ∨ 2392 ≤ k) (hI : sp_I G D s) (d0 : 0 ≤ dr) (d4 : dr < 4) : sp_be G s dr k = s k := by
  have hn := I_n hI
  have hx := nx_b hI d0 d4
  unfold sp_be
  split
  · rfl
  · have g := I_bg (t := sp_c G (sp_o s (sp_nx s dr) 1) 2) (q := sp_nx s dr) hI (by omega) hx.2 d0 d4
    have e : sp_no (sp_bg s dr (sp_nx s dr) (sp_c G (sp_o s (sp_nx s dr) 1) 2)) 1 dr (sp_nx s dr) k = s k := by
      rw [c_no hk g.1 (by decide) (by decide), bg_n (by omega)]
    exact e
theorem c_pd (hk : k = 0 ∨ 2392 ≤ k) (hn : s 1 ≤ 100) (q0 : 0 ≤ q) (q1 : q < s 1) : sp_pd s q k = s k := by
  unfold sp_pd sp_u
  exact u1_n (by omega)
theorem c_g1 (hk : k = 0 ∨ 2392 ≤ k) (gd : q_gd G) (hI : sp_I G 4 s) (d0 : 0 ≤ dr) (d4 : dr < 4) (q0 : 0 ≤ q) (q1 : q < s 1) : sp_g1 G s dr q k = s k := by
  have hn := I_n hI
  have hx := se_x (dr := dr) (re := sp_re G s q) gd hI q0 q1
  unfold sp_g1 sp_u
  rw [u1_n (by omega)]
  exact ex_fr d0 d4 _ _ _ hx k (by omega)
theorem c_go (hk : k = 0 ∨ 2392 ≤ k) (gd : q_gd G) (hI : sp_I G 4 s) (d0 : 0 ≤ dr) (d4 : dr < 4) (hq : ¬ s (32 + dr).toNat = -1) (hB : sp_B B s) : sp_go G s dr k = s k := by
  have a := I_g0 hI d0 d4 hB
  have hn := I_n a.1
  have hd := I_d hI d0 d4
  have e0 : sp_g0 s dr k = s k := u1_n (by omega)
  unfold sp_go
  split
  · exact e0
  · obtain ⟨q, hq2⟩ : ∃ q, q = s (32 + dr).toNat := ⟨_, rfl⟩
    rw [← hq2] at hd hq ⊢
    have q0 : 0 ≤ q := by omega
    have q1 : q < sp_g0 s dr 1 := by rw [a.2.1]; omega
    refine Eq.trans ?_ e0
    unfold sp_g2
    split
    · have p := I_pd a.1 q0 q1 a.2.2
      rw [c_cr hk p.1 d0 d4 p.2.2, c_pd hk hn.1.2 q0 q1]
    · have g := I_g1 (dr := dr) gd a.1 d0 d4 q0 q1 a.2.2
      have e1 := c_g1 hk gd a.1 d0 d4 q0 q1
      split
      · have p := I_pd (q := q) g.1 q0 (by rw [g.2.1]; exact q1) g.2.2
        rw [c_cr hk p.1 d0 d4 p.2.2, c_pd hk (by rw [g.2.1]; exact hn.1.2) q0 (by rw [g.2.1]; exact q1), e1]
      · rw [c_wel hk gd g.1 q0 (by rw [g.2.1]; exact q1), e1]
theorem c_tk (hk : k = 0 ∨ 2392 ≤ k) {n1 : Int} (gd : q_gd G) (h : sp_J G B n1 s) (d0 : 0 ≤ dr) (d4 : dr < 4) : sp_tk G s dr k = s k := by
  have h1 := J_t1 gd h d0 d4
  have h2 := J_t2 (dr := dr) h1
  have h3 := J_t3 gd h2 d0 d4
  have e1 : sp_t1 G s dr k = s k := by
    unfold sp_t1
    split
    · exact c_rs hk gd h.1 d0 d4 h.2.2
    · rfl
  have e2 : ∀ t, sp_I G 4 t → sp_t2 t dr k = t k := by
    intro t ht
    unfold sp_t2
    split
    · rfl
    · exact c_la hk ht
  have e3 : ∀ t, sp_I G 4 t → sp_t3 G t dr k = t k := by
    intro t ht
    unfold sp_t3
    split
    · exact c_be hk ht d0 d4
    · rfl
  have e4 : ∀ t, sp_J G (B + 6 + 200 + 2) n1 t → sp_t4 G t dr k = t k := by
    intro t ht
    unfold sp_t4
    split
    · rename_i c
      exact c_go hk gd ht.1 d0 d4 c.2 ht.2.2
    · rfl
  have e7 : ∀ t, sp_t7 G t dr k = t k := by
    intro t
    unfold sp_t7
    split
    · unfold sp_t6
      rw [u1_n (by omega)]
      unfold sp_t5
      split
      · rfl
      · exact u1_n (by omega)
    · rfl
  unfold sp_tk
  rw [e7, e4 _ h3, e3 _ h2.1, e2 _ h1.1, e1]
theorem c_tl (hk : k = 0 ∨ 2392 ≤ k) {n1 : Int} (gd : q_gd G) : ∀ (f : Nat) (i B : Int) (s : sp_R), 0 ≤ i → i + f ≤ 4 → sp_J G B n1 s → sp_tl G f i s k = s k
  | 0, _, _, _, _, _, _ => rfl
  | f + 1, i, B, s, i0, i1, h => by
    show sp_tl G f (i + 1) (sp_tk G s i) k = s k
    rw [c_tl hk gd f (i + 1) _ _ (by omega) (by omega) (J_tk gd h i0 (by omega))]
    exact c_tk hk gd h i0 (by omega)
end CL
section CT
variable {G : tx_G} {s : sp_R} {B n1 : Int}
/-- a tick: the clock goes on by one -/
theorem c_ti (gd : q_gd G) (h : sp_J G B n1 s) : sp_ti G s 0 = s 0 + 1 := by
  have h4 := (I_n h.1).2.2.1
  unfold sp_ti
  rw [u1_e, c_tl (Or.inl rfl) gd (G.1 0).toNat 0 B s (by decide) (by omega) h]
theorem c_th (gd : q_gd G) (h : sp_J G B n1 s) {k : Nat} (hk : 2392 ≤ k) : sp_ti G s k = s k := by
  have h4 := (I_n h.1).2.2.1
  unfold sp_ti
  rw [u1_n (by omega), c_tl (Or.inr hk) gd (G.1 0).toNat 0 B s (by decide) (by omega) h]
theorem c_tn (gd : q_gd G) : ∀ (n : Nat) (B : Int) (s : sp_R), sp_J G B n1 s → sp_tn G n s 0 = s 0 + n ∧ ∀ k, 2392 ≤ k → sp_tn G n s k = s k
  | 0, _, s, _ => by
    refine ⟨?_, fun _ _ => rfl⟩
    show s 0 = s 0 + 0
    omega
  | n + 1, B, s, h => by
    have a := c_tn gd n (B + 1800) _ (J_ti gd h)
    refine ⟨?_, fun k hk => (a.2 k hk).trans (c_th gd h hk)⟩
    show sp_tn G n (sp_ti G s) 0 = s 0 + (n + 1 : Nat)
    rw [a.1, c_ti gd h]
    omega
end CT
