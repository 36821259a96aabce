/-! a World under its Program, exactly -/
/-- the class's program p says what G says (but for the first delay) -/
def q_kp (h : m_H) (p : Nat) (F : m_M) (G : tx_G) : Prop := (F p 0 = G.1 0 ∧ F p 4 = G.1 3 ∧ F p 5 = G.1 4 ∧ F p 6 = G.1 5 ∧ F p 7 = G.1 6 ∧ F p 8 = G.1 7 ∧ F p 9 = G.1 8) ∧ F p 1 = (G.2.1.length : Int) ∧ (∀ i cm, G.2.1[i]? = some cm → ∃ a : Nat, m_R h (p + 1) i = some a ∧ a < m_n h ∧ m_k h a = 1 ∧ F a 1 = cm 1 ∧ F a 2 = cm 2 ∧ F a 3 = cm 3 ∧ F a 4 = cm 4 ∧ F a 5 = cm 5 ∧ F a 6 = cm 6 ∧ F a 7 = cm 7) ∧ (F (p + 2) 2 = (G.2.2.length : Int) ∧ (G.2.2.length : Int) ≤ m_l h (p + 4)) ∧ ∀ k : Nat, k < G.2.2.length → F (p + 4) k = tx_op (G.2.2.getD k 0) ∧ F (p + 5) k = tx_od (G.2.2.getD k 0)
def q_ds (u b p : Nat) : Prop := (p + 6 ≤ b ∨ b + 124 ≤ p) ∧ (u < p ∨ p + 6 ≤ u)
/-- what is known of a text's codes and delays besides -/
def q_g3 (G : tx_G) : Prop := (∀ x, x ∈ G.2.2 → sp_c3 x) ∧ G.1 2 ≤ G.1 3
def q_EE (h : m_H) (u b p : Nat) (G : tx_G) (F : m_M) : Prop := (CW h u b ∧ PW h p ∧ m_R h u 0 = some p ∧ q_ds u b p) ∧ q_kp h p F G ∧ q_gd G ∧ q_g3 G
/-- only the World and the program's stack change -/
def q_fw (u b p : Nat) (F F' : m_M) : Prop := ∀ i k, ¬ i = u → ¬ (b ≤ i ∧ i < b + 124) → ¬ i = p + 3 → F' i k = F i k
theorem fw_rf {u b p : Nat} {F : m_M} : q_fw u b p F F := fun _ _ _ _ _ => rfl
theorem fw_tr {u b p : Nat} {F F1 F2 : m_M} (h1 : q_fw u b p F F1) (h2 : q_fw u b p F1 F2) : q_fw u b p F F2 := fun i k a c e => (h2 i k a c e).trans (h1 i k a c e)
theorem CW_nk {h : m_H} {u b a : Nat} (W : CW h u b) (ha : m_k h a = 1) : ¬ a = u ∧ ¬ (b ≤ a ∧ a < b + 124) := by
  refine ⟨fun e => ?_, fun e => ?_⟩
  · rw [e, CW_uk W] at ha
    exact absurd ha (by decide)
  · have c0 := CW_dk W
    have c1 := CW_qk W
    have c2 := CW_jk W
    have c3 := CW_jk0 W
    have c4 := CW_jk1 W
    have c5 := CW_jk2 W
    have c6 := CW_jk3 W
    have c7 := CW_jk4 W
    by_cases h8 : a < b + 8
    · have : a = b ∨ a = b + 1 ∨ a = b + 2 ∨ a = b + 3 ∨ a = b + 4 ∨ a = b + 5 ∨ a = b + 6 ∨ a = b + 7 := by omega
      rcases this with rfl | rfl | rfl | rfl | rfl | rfl | rfl | rfl <;> omega
    · by_cases h24 : a < b + 24
      · obtain ⟨t, ht⟩ : ∃ t, t = (a - b - 8) / 4 := ⟨_, rfl⟩
        obtain ⟨-, d1, -, -, -, d2, -, d3, -, d4, -⟩ := CW_D W t (by omega)
        have : a = b + 8 + 4 * t ∨ a = b + 9 + 4 * t ∨ a = b + 10 + 4 * t ∨ a = b + 11 + 4 * t := by omega
        rcases this with e1 | e1 | e1 | e1
        · rw [← e1] at d1; omega
        · rw [← e1] at d2; omega
        · rw [← e1] at d3; omega
        · rw [← e1] at d4; omega
      · have := (CW_Q W (a - b - 24) (by omega)).2
        rw [show b + 24 + (a - b - 24) = a by omega] at this
        omega
theorem E_fr {h : m_H} {u b p : Nat} {G : tx_G} {F F' : m_M} (f : q_fw u b p F F') (E : q_EE h u b p G F) : q_EE h u b p G F' := by
  obtain ⟨⟨W, P, up, dj1, dj2⟩, ⟨⟨k0, k4, k5, k6, k7, k8, k9⟩, k1, kc, ⟨kn, kl⟩, kk⟩, gd, g3⟩ := E
  have ub := CW_ub W
  have e : ∀ y, F' p y = F p y := fun y => f p y (by omega) (by omega) (by omega)
  refine ⟨⟨W, P, up, dj1, dj2⟩, ⟨⟨(e 0).trans k0, (e 4).trans k4, (e 5).trans k5, (e 6).trans k6, (e 7).trans k7, (e 8).trans k8, (e 9).trans k9⟩, (e 1).trans k1, fun i cm hi => ?_, ⟨(f (p + 2) 2 (by omega) (by omega) (by omega)).trans kn, kl⟩, fun k hk => ⟨(f (p + 4) k (by omega) (by omega) (by omega)).trans (kk k hk).1, (f (p + 5) k (by omega) (by omega) (by omega)).trans (kk k hk).2⟩⟩, gd, g3⟩
  obtain ⟨a, r1, r2, r3, c1, c2, c3, c4, c5, c6, c7⟩ := kc i cm hi
  have n := CW_nk W r3
  have n3 : ¬ a = p + 3 := fun e => by
    rw [e, PW_sk P] at r3
    exact absurd r3 (by decide)
  have ea : ∀ y, F' a y = F a y := fun y => f a y n.1 n.2 n3
  exact ⟨a, r1, r2, r3, (ea 1).trans c1, (ea 2).trans c2, (ea 3).trans c3, (ea 4).trans c4, (ea 5).trans c5, (ea 6).trans c6, (ea 7).trans c7⟩
/-- a command's object -/
theorem E_c {h : m_H} {u b p : Nat} {G : tx_G} {F : m_M} {c : Int} (E : q_EE h u b p G F) (c0 : 0 ≤ c) (c1 : c < (G.2.1.length : Int)) : ∃ a : Nat, m_R h (p + 1) c.toNat = some a ∧ a < m_n h ∧ m_k h a = 1 ∧ F a 1 = sp_c G c 1 ∧ F a 2 = sp_c G c 2 ∧ F a 3 = sp_c G c 3 ∧ F a 4 = sp_c G c 4 ∧ F a 5 = sp_c G c 5 ∧ F a 6 = sp_c G c 6 ∧ F a 7 = sp_c G c 7 := by
  obtain ⟨-, ⟨-, -, kc, -, -⟩, -, -⟩ := E
  have hlt : c.toNat < G.2.1.length := by omega
  have e : sp_c G c = G.2.1[c.toNat] := by
    funext j
    show (G.2.1.getD c.toNat (fun _ => 0)) j = _
    rw [List.getD_eq_getElem?_getD, List.getElem?_eq_getElem hlt]
    rfl
  rw [e]
  exact kc c.toNat _ (List.getElem?_eq_getElem hlt)
theorem sc_of {F : m_M} {p : Nat} : ∀ (cs : List Int) (i : Int), 0 ≤ i → (∀ k, k < cs.length → F (p + 4) (i.toNat + k) = tx_op (cs.getD k 0) ∧ F (p + 5) (i.toNat + k) = tx_od (cs.getD k 0)) → sc_at F p i cs
  | [], _, _, _ => trivial
  | c :: cs, i, h0, h => ⟨h 0 (Nat.succ_pos _), sc_of cs (i + 1) (by omega) fun k hk => by
      have := h (k + 1) (Nat.succ_lt_succ hk)
      rw [show (i + 1).toNat + k = i.toNat + (k + 1) by omega]
      exact this⟩
theorem E_sc {h : m_H} {u b p : Nat} {G : tx_G} {F : m_M} {f g : Int} (E : q_EE h u b p G F) (f0 : 0 ≤ f) (fg : f ≤ g) (g1 : g ≤ (G.2.2.length : Int)) : sc_at F p f (sp_g G f g) ∧ f + ((sp_g G f g).length : Int) = g ∧ ∀ c, c ∈ sp_g G f g → sp_cc c ∧ sp_c3 c := by
  obtain ⟨-, ⟨-, -, -, -, kk⟩, gd, g3⟩ := E
  have hl : (sp_g G f g).length = (g - f).toNat := by
    unfold sp_g
    rw [List.length_take, List.length_drop]
    omega
  refine ⟨sc_of _ f f0 fun k hk => ?_, by rw [hl]; omega, fun c hc => ⟨gd.2.1.2.2 c (List.mem_of_mem_drop (List.mem_of_mem_take hc)), g3.1 c (List.mem_of_mem_drop (List.mem_of_mem_take hc))⟩⟩
  rw [hl] at hk
  have e : (sp_g G f g).getD k 0 = G.2.2.getD (f.toNat + k) 0 := by
    unfold sp_g
    rw [List.getD_eq_getElem?_getD, List.getD_eq_getElem?_getD, List.getElem?_take, if_pos hk, List.getElem?_drop]
  rw [e]
  exact kk _ (by omega)
/-! rows that commute -/
/-- the journal's places -/
def sp_jd (k : Nat) : Prop := k = 2 ∨ (3 ≤ k ∧ k ≤ 11) ∨ 1592 ≤ k
section CO
variable {G : tx_G} {s t : sp_R} {ev d q dr y v : Int} {j k : Nat}
theorem ad_jd (h : ∀ k, k = 0 ∨ sp_jd k → t k = s k) (hk : sp_jd k) : sp_ad t ev d q k = sp_ad s ev d q k := by
  unfold sp_ad
  rw [h 2 (Or.inr (Or.inl rfl)), h 0 (Or.inl rfl)]
  unfold tx_u1
  (repeat' split) <;> first | rfl | exact h k (Or.inr hk)
theorem no_jd (v0 : 0 ≤ ev) (v8 : ev ≤ 8) (h : ∀ k, k = 0 ∨ sp_jd k → t k = s k) (hk : sp_jd k) : sp_no t ev d q k = sp_no s ev d q k := by
  have hc : ∀ k, k = 0 ∨ sp_jd k → sp_ct t ev k = sp_ct s ev k := by
    intro k hk
    unfold sp_ct tx_u1
    split
    · rw [h (3 + ev).toNat (Or.inr (Or.inr (Or.inl (by omega))))]
    · exact h k hk
  have hs : ∀ k, k = 0 ∨ sp_jd k → sp_sh (sp_ct t ev) k = sp_sh (sp_ct s ev) k := by
    intro k hk
    unfold sp_sh tx_u1
    split
    · rfl
    · by_cases c : 1592 ≤ k ∧ k < 2388
      · refine (if_pos c).trans (Eq.trans ?_ (if_pos c).symm)
        exact hc _ (Or.inr (Or.inr (Or.inr (by omega))))
      · refine (if_neg c).trans (Eq.trans ?_ (if_neg c).symm)
        exact hc k hk
  unfold sp_no
  rw [h 2 (Or.inr (Or.inl rfl))]
  split
  · exact ad_jd hs hk
  · exact ad_jd hc hk
theorem no_pt (v0 : 0 ≤ ev) (v8 : ev ≤ 8) (h2 : 0 ≤ s 2 ∧ s 2 ≤ 200) (h : ∀ k, k = 0 ∨ sp_jd k → t k = s k) {r : sp_R} (r1 : ∀ k, sp_jd k → r k = sp_no s ev d q k) (r2 : ∀ k, ¬ sp_jd k → r k = t k) : sp_no t ev d q = r := by
  funext k
  by_cases c : sp_jd k
  · rw [no_jd v0 v8 h c, r1 k c]
  · rw [no_n v0 v8 (by rw [h 2 (Or.inr (Or.inl rfl))]; exact h2) (by unfold sp_jd at c; omega), r2 k c]
theorem no_u (v0 : 0 ≤ ev) (v8 : ev ≤ 8) (h2 : 0 ≤ s 2 ∧ s 2 ≤ 200) (j0 : 12 ≤ j) (j1 : j < 1592) : sp_no (tx_u1 s j v) ev d q = tx_u1 (sp_no s ev d q) j v := by
  refine no_pt v0 v8 h2 (fun k hk => u1_n (by unfold sp_jd at hk; omega)) (fun k hk => u1_n (by unfold sp_jd at hk; omega)) (fun k hk => ?_)
  unfold tx_u1
  split
  · rfl
  · exact no_n v0 v8 h2 (by unfold sp_jd at hk; omega)
theorem ls_u (h : ¬ (80 + 4 * dr ≤ j ∧ j < 84 + 4 * dr)) : sp_ls (tx_u1 s j v) dr = tx_u1 (sp_ls s dr) j v := by
  funext k
  unfold sp_ls tx_u1
  by_cases e : k = j
  · subst e
    rw [if_neg h, if_pos rfl, if_pos rfl]
  · rw [if_neg e, if_neg e]
theorem ls_n (h : ¬ (80 + 4 * dr ≤ k ∧ k < 84 + 4 * dr)) : sp_ls s dr k = s k := if_neg h
theorem no_ls (v0 : 0 ≤ ev) (v8 : ev ≤ 8) (h2 : 0 ≤ s 2 ∧ s 2 ≤ 200) (d0 : 0 ≤ dr) (d4 : dr < 4) : sp_no (sp_ls s dr) ev d q = sp_ls (sp_no s ev d q) dr := by
  refine no_pt v0 v8 h2 (fun k hk => ls_n (by unfold sp_jd at hk; omega)) (fun k hk => ls_n (by unfold sp_jd at hk; omega)) (fun k hk => ?_)
  unfold sp_ls
  split
  · rfl
  · exact no_n v0 v8 h2 (by unfold sp_jd at hk; omega)
theorem o_ls (d0 : 0 ≤ dr) (d4 : dr < 4) (q0 : 0 ≤ q) {i : Int} (i0 : 0 ≤ i) : sp_o (sp_ls s dr) q i = sp_o s q i := ls_n (by omega)
theorem b2_ls {k dr' : Int} (hk : k = 28 ∨ k = 32) (e0 : 0 ≤ dr') (e4 : dr' < 4) (d0 : 0 ≤ dr) (d4 : dr < 4) : sp_b2 (sp_ls s dr) k dr' q = sp_ls (sp_b2 s k dr' q) dr := by
  unfold sp_b2
  rw [ls_n (by omega)]
  split
  · rw [ls_u (by omega)]
  · rfl
theorem b2_n {k dr' : Int} {i : Nat} (hi : ¬ i = (k + dr').toNat) : sp_b2 s k dr' q i = s i := by
  unfold sp_b2
  split
  · exact u1_n hi
  · rfl
theorem bad_ls (h2 : 0 ≤ s 2 ∧ s 2 ≤ 200) (d0 : 0 ≤ dr) (d4 : dr < 4) (q0 : 0 ≤ q) (hd : 0 ≤ sp_o s q 0 ∧ sp_o s q 0 < 4) : sp_bad (sp_ls s dr) q y = sp_ls (sp_bad s q y) dr := by
  have e : sp_b1 (sp_ls s dr) q y = sp_ls (sp_b1 s q y) dr := by
    unfold sp_b1 sp_u
    rw [ls_u (by omega), ls_u (by omega), ls_u (by omega), ls_n (by omega)]
  unfold sp_bad
  rw [o_ls d0 d4 q0 (by decide), e, b2_ls (Or.inl rfl) hd.1 hd.2 d0 d4, b2_ls (Or.inr rfl) hd.1 hd.2 d0 d4, no_ls (by decide) (by decide) ?_ d0 d4]
  rw [b2_n (by omega), b2_n (by omega)]
  unfold sp_b1 sp_u
  rw [u1_n (by omega), u1_n (by omega), u1_n (by omega)]
  exact h2
theorem k2_ls (h2 : 0 ≤ s 2 ∧ s 2 ≤ 200) (d0 : 0 ≤ dr) (d4 : dr < 4) (q0 : ¬ q = -1 → 0 ≤ q ∧ 0 ≤ sp_o s q 0 ∧ sp_o s q 0 < 4) : sp_k2 G (sp_ls s dr) q = sp_ls (sp_k2 G s q) dr := by
  unfold sp_k2
  by_cases e : q = -1
  · rw [if_pos e, if_pos e]
  · obtain ⟨a, c1, c2⟩ := q0 e
    have eu : sp_u (sp_ls s dr) q 10 (sp_o s q 10 + 1) = sp_ls (sp_u s q 10 (sp_o s q 10 + 1)) dr := by
      unfold sp_u
      rw [ls_u (by omega)]
    have o0 : sp_o (sp_u s q 10 (sp_o s q 10 + 1)) q 0 = sp_o s q 0 := by
      unfold sp_u
      exact u1_n (by omega)
    rw [if_neg e, if_neg e, o_ls d0 d4 a (by decide), eu]
    split
    · rfl
    · refine bad_ls ?_ d0 d4 a (by rw [o0]; exact ⟨c1, c2⟩)
      unfold sp_u
      rw [u1_n (by omega)]
      exact h2
/-- codes on a row that is the same in the drivers' cells -/
theorem ex_cg {ar re : Int} (d0 : 0 ≤ dr) (d4 : dr < 4) : ∀ (cs st : List Int) (s t : sp_R), (∀ c, c ∈ cs → sp_cc c) → (∀ k, 48 ≤ k → k < 96 → t k = s k) → ∀ {st' : List Int} {s' : sp_R}, sp_ex (sp_op dr ar re) dr cs st s = some (st', s') → ∃ t', sp_ex (sp_op dr ar re) dr cs st t = some (st', t') ∧ ∀ k, 48 ≤ k → k < 96 → t' k = s' k
  | [], st, s, t, hm, ha, st', s', h => by
    rw [sp_ex] at h
    obtain ⟨rfl, rfl⟩ := Prod.mk.inj (Option.some.inj h)
    exact ⟨t, by rw [sp_ex], ha⟩
  | c :: cs, st, s, t, hm, ha, st', s', h => by
    have c0 : 0 ≤ c := (hm c List.mem_cons_self).1
    have hm2 : ∀ c, c ∈ cs → sp_cc c := fun c hc => hm c (List.mem_cons_of_mem _ hc)
    have hu : ∀ (j : Nat) (v : Int), ∀ k, 48 ≤ k → k < 96 → tx_u1 t j v k = tx_u1 s j v k := by
      intro j v k k0 k1
      unfold tx_u1
      split
      · rfl
      · exact ha k k0 k1
    rw [ex_c] at h ⊢
    by_cases q1 : c = 23
    · rw [if_pos q1] at h ⊢
      split at h
      · split at h
        · rename_i c1
          simp only [if_pos c1]
          exact ex_cg d0 d4 cs _ s t hm2 ha h
        · exact absurd h (by simp)
      · exact absurd h (by simp)
    · rw [if_neg q1] at h ⊢
      by_cases q2 : 20 ≤ c ∧ c ≤ 28
      · rw [if_pos q2] at h ⊢
        split at h
        · split at h
          · rename_i c1
            simp only [if_pos c1]
            exact ex_cg d0 d4 cs _ s t hm2 ha h
          · exact absurd h (by simp)
        · exact absurd h (by simp)
      · rw [if_neg q2] at h ⊢
        by_cases q3 : 40 ≤ c ∧ c ≤ 47
        · rw [if_pos q3] at h ⊢
          split at h
          · exact ex_cg d0 d4 cs _ _ _ hm2 (hu _ _) h
          · exact absurd h (by simp)
        · rw [if_neg q3] at h ⊢
          by_cases q4 : 50 ≤ c ∧ c ≤ 53
          · rw [if_pos q4] at h ⊢
            split at h
            · exact ex_cg d0 d4 cs _ _ _ hm2 (hu _ _) h
            · exact absurd h (by simp)
          · rw [if_neg q4] at h ⊢
            split at h
            · exact absurd h (by simp)
            · rename_i c1
              rw [if_neg c1]
              have e : sp_op dr ar re c t = sp_op dr ar re c s := by
                unfold sp_op
                split
                · rfl
                · split
                  · exact ha _ (by omega) (by omega)
                  · split
                    · exact ha _ (by omega) (by omega)
                    · rfl
              rw [e]
              exact ex_cg d0 d4 cs _ s t hm2 ha h
theorem ke_cg {D : Nat} (gd : q_gd G) (hI : sp_I G D s) (q0 : 0 ≤ q) (q1 : q < s 1) (ha : ∀ k, 48 ≤ k → k < 96 → t k = s k) (ho : ∀ i : Int, (i = 0 ∨ i = 1 ∨ i = 2 ∨ i = 8) → sp_o t q i = sp_o s q i) (k : Nat) : sp_ke G t q k = if 48 ≤ k ∧ k < 96 then sp_ke G s q k else t k := by
  obtain ⟨d0, d4⟩ := o_dr hI q0 q1
  have hqq := I_q hI q0 q1
  obtain ⟨s', hx⟩ := (gd.1 (sp_o s q 1) hqq.2.1 hqq.2.2).2.2.2.2.2.2 (sp_op (sp_o s q 0) (sp_o s q 2) (sp_o s q 8)) (sp_o s q 0) s
  obtain ⟨t', hy, hk⟩ := ex_cg d0 d4 (sp_g G (sp_c G (sp_o s q 1) 6) (sp_c G (sp_o s q 1) 7)) [] s t (fun c hc => gd.2.1.2.2 c (List.mem_of_mem_drop (List.mem_of_mem_take hc))) ha hx
  have e : sp_ke G s q = s' := by
    unfold sp_ke sp_xk
    rw [hx]
    rfl
  have e2 : sp_ke G t q = t' := by
    unfold sp_ke sp_xk
    rw [ho 0 (by omega), ho 1 (by omega), ho 2 (by omega), ho 8 (by omega), hy]
    rfl
  rw [e, e2]
  by_cases c : 48 ≤ k ∧ k < 96
  · rw [if_pos c]
    exact hk k c.1 c.2
  · rw [if_neg c]
    exact ex_fr d0 d4 _ _ _ hy k c
theorem lg_n {k : Nat} (h1 : ¬ k = (112 + 20 * dr + s (44 + dr).toNat).toNat) (h2 : ¬ k = (44 + dr).toNat) : sp_lg s dr q k = s k := (u1_n h2).trans (u1_n h1)
theorem wel_c (gd : q_gd G) (hI : sp_I G 4 s) (q0 : 0 ≤ q) (q1 : q < s 1) : sp_no (sp_lg (sp_ke G (sp_w1 s q y) q) (sp_o s q 0) q) 2 (sp_o s q 0) q = sp_w3 G s q y := by
  obtain ⟨d0, d4⟩ := o_dr hI q0 q1
  have hn := I_n hI
  obtain ⟨i1, i2, i3, i4⟩ := I_w1 (y := y) hI q0 q1
  have hd := I_d hI d0 d4
  have hg := I_n hI
  have k1 := I_ke gd i1 q0 (by rw [i2]; exact q1)
  have j1 := I_no (ev := 2) (dr := sp_o s q 0) (q := q) (by decide) (by decide) i1
  have k2 := I_ke gd j1.1 q0 (by rw [j1.2, i2]; exact q1)
  have w2 : sp_w1 s q y 2 = s 2 := by
    unfold sp_w1 sp_u
    rw [u1_n (by omega), u1_n (by omega), u1_n (by omega), u1_n (by omega)]
  have hw2 : 0 ≤ sp_w1 s q y 2 ∧ sp_w1 s q y 2 ≤ 200 := by rw [w2]; exact hn.2.1
  have a44 : sp_ke G (sp_w1 s q y) q (44 + sp_o s q 0).toNat = s (44 + sp_o s q 0).toNat := (k1.2.2 _ (by omega)).trans i3
  have b44 : sp_ke G (sp_no (sp_w1 s q y) 2 (sp_o s q 0) q) q (44 + sp_o s q 0).toNat = s (44 + sp_o s q 0).toNat := (k2.2.2 _ (by omega)).trans ((no_n (by decide) (by decide) hw2 (by omega)).trans i3)
  refine no_pt (s := sp_w1 s q y) (by decide) (by decide) hw2 (fun k hk => ?_) (fun k hk => ?_) (fun k hk => ?_)
  · unfold sp_jd at hk
    rw [lg_n (by rw [a44]; omega) (by omega)]
    exact k1.2.2 k (by omega)
  · unfold sp_jd at hk
    unfold sp_w3 sp_w2
    rw [lg_n (by rw [b44]; omega) (by omega)]
    exact k2.2.2 k (by omega)
  · unfold sp_w3 sp_w2 sp_lg
    rw [a44, b44]
    have e : sp_ke G (sp_no (sp_w1 s q y) 2 (sp_o s q 0) q) q k = sp_ke G (sp_w1 s q y) q k := by
      rw [ke_cg gd i1 q0 (by rw [i2]; exact q1) (fun i i0 i1 => no_n (by decide) (by decide) hw2 (by omega)) (fun i hi => no_n (by decide) (by decide) hw2 (by omega)) k]
      split
      · rfl
      · rename_i c
        rw [no_n (by decide) (by decide) hw2 (by unfold sp_jd at hk; omega)]
        exact (k1.2.2 k c).symm
    unfold tx_u1
    (repeat' split) <;> first | rfl | exact e
theorem k1_c (h2 : 0 ≤ s 2 ∧ s 2 ≤ 200) (d0 : 0 ≤ dr) (d4 : dr < 4) : sp_k1 s dr = sp_ls (sp_no (tx_u1 s (20 + dr).toNat (s (20 + dr).toNat + 1)) 4 dr (-1)) dr := by
  unfold sp_k1
  rw [no_u (by decide) (by decide) h2 (by omega) (by omega), no_n (by decide) (by decide) h2 (by omega)]
end CO
