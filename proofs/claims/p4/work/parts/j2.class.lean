/-! the class between calls, exactly -/
/-- where a World's rows begin -/
def bo (v : Nat) : Nat := if v = 2 then 9 else v + 1
theorem bo_or (v : Nat) : (v = 2 ∧ bo v = 9) ∨ (¬ v = 2 ∧ bo v = v + 1) := by
  unfold bo
  split <;> omega
theorem CW_c2 {h h' : m_H} {u b : Nat} (W : CW h u b) (en : m_n h ≤ m_n h') (eX : m_n h' ≤ m_X) (ek : ∀ x, x < m_n h → m_k h' x = m_k h x ∧ m_l h' x = m_l h x) (eR : ∀ x y, x < m_n h → ((x = u ∧ ¬ y = 0) ∨ (b ≤ x ∧ x < b + 124)) → m_R h' x y = m_R h x y) : CW h' u b := by
  obtain ⟨w_un, w_bn, w_X, w_ub, w_uk, w_u4, w_u5, w_u6, w_dk, w_dl, w_qk, w_ql, w_jk, w_j0, w_jk0, w_jl0, w_j1, w_jk1, w_jl1, w_j2, w_jk2, w_jl2, w_j3, w_jk3, w_jl3, w_j4, w_jk4, w_jl4, w_D, w_Q⟩ := W
  exact ⟨(by omega), (by omega), eX, w_ub, (by rw [(ek _ (by omega)).1]; exact w_uk), (by rw [eR _ _ (by omega) (by omega)]; exact w_u4), (by rw [eR _ _ (by omega) (by omega)]; exact w_u5), (by rw [eR _ _ (by omega) (by omega)]; exact w_u6), (by rw [(ek _ (by omega)).1]; exact w_dk), (by rw [(ek _ (by omega)).2]; exact w_dl), (by rw [(ek _ (by omega)).1]; exact w_qk), (by rw [(ek _ (by omega)).2]; exact w_ql), (by rw [(ek _ (by omega)).1]; exact w_jk), (by rw [eR _ _ (by omega) (by omega)]; exact w_j0), (by rw [(ek _ (by omega)).1]; exact w_jk0), (by rw [(ek _ (by omega)).2]; exact w_jl0), (by rw [eR _ _ (by omega) (by omega)]; exact w_j1), (by rw [(ek _ (by omega)).1]; exact w_jk1), (by rw [(ek _ (by omega)).2]; exact w_jl1), (by rw [eR _ _ (by omega) (by omega)]; exact w_j2), (by rw [(ek _ (by omega)).1]; exact w_jk2), (by rw [(ek _ (by omega)).2]; exact w_jl2), (by rw [eR _ _ (by omega) (by omega)]; exact w_j3), (by rw [(ek _ (by omega)).1]; exact w_jk3), (by rw [(ek _ (by omega)).2]; exact w_jl3), (by rw [eR _ _ (by omega) (by omega)]; exact w_j4), (by rw [(ek _ (by omega)).1]; exact w_jk4), (by rw [(ek _ (by omega)).2]; exact w_jl4), (fun d hd => by
    have := w_D d hd
    rw [eR _ _ (by omega) (by omega), (ek _ (by omega)).1, eR _ _ (by omega) (by omega), eR _ _ (by omega) (by omega), eR _ _ (by omega) (by omega), (ek _ (by omega)).1, (ek _ (by omega)).2, (ek _ (by omega)).1, (ek _ (by omega)).2, (ek _ (by omega)).1, (ek _ (by omega)).2]
    exact this), (fun q hq => by
    have := w_Q q hq
    rw [eR _ _ (by omega) (by omega), (ek _ (by omega)).1]
    exact this)⟩
theorem PW_cg {h h' : m_H} {p : Nat} (W : PW h p) (en : m_n h ≤ m_n h') (eX : m_n h' ≤ m_X) (ek : ∀ x, x < m_n h → m_k h' x = m_k h x ∧ m_l h' x = m_l h x) (eR : ∀ x y, x < m_n h → (p ≤ x ∧ x < p + 6) → m_R h' x y = m_R h x y) : PW h' p := by
  obtain ⟨w_pn, w_pX, w_pk, w_p2, w_p10, w_ck, w_cl, w_ok, w_o0, w_o1, w_o3, w_sk, w_sl, w_ak, w_bk, w_al⟩ := W
  exact ⟨(by omega), eX, (by rw [(ek _ (by omega)).1]; exact w_pk), (by rw [eR _ _ (by omega) (by omega)]; exact w_p2), (by rw [eR _ _ (by omega) (by omega)]; exact w_p10), (by rw [(ek _ (by omega)).1]; exact w_ck), (by rw [(ek _ (by omega)).2]; exact w_cl), (by rw [(ek _ (by omega)).1]; exact w_ok), (by rw [eR _ _ (by omega) (by omega)]; exact w_o0), (by rw [eR _ _ (by omega) (by omega)]; exact w_o1), (by rw [eR _ _ (by omega) (by omega)]; exact w_o3), (by rw [(ek _ (by omega)).1]; exact w_sk), (by rw [(ek _ (by omega)).2]; exact w_sl), (by rw [(ek _ (by omega)).1]; exact w_ak), (by rw [(ek _ (by omega)).1]; exact w_bk), (by rw [(ek _ (by omega)).2, (ek _ (by omega)).2]; exact w_al)⟩
/-- what a call may do besides: so many cells and slots more; the reference stands -/
def q_sT (h h' : m_H) (F F' : m_M) (n s : Nat) : Prop := m_n h ≤ m_n h' ∧ m_n h' ≤ m_n h + n ∧ m_c h' ≤ m_c h + n ∧ m_s h' ≤ m_s h + s ∧ (∀ x, 135 ≤ x → x < 157 → m_k h' x = m_k h x ∧ m_l h' x = m_l h x ∧ ∀ y, m_R h' x y = m_R h x y) ∧ (∀ x y, 135 ≤ x → x < 157 → F' x y = F x y)
theorem st_rf {h : m_H} {F : m_M} {n s : Nat} : q_sT h h F F n s := ⟨Nat.le_refl _, by omega, by omega, by omega, fun _ _ _ => ⟨rfl, rfl, fun _ => rfl⟩, fun _ _ _ _ => rfl⟩
theorem st_tr {h g k : m_H} {F G K : m_M} {n s m t : Nat} (a : q_sT h g F G n s) (b : q_sT g k G K m t) : q_sT h k F K (n + m) (s + t) := by
  obtain ⟨a1, a2, a3, a4, a5, a6⟩ := a
  obtain ⟨b1, b2, b3, b4, b5, b6⟩ := b
  exact ⟨by omega, by omega, by omega, by omega, fun x h1 h2 => ⟨(b5 x h1 h2).1.trans (a5 x h1 h2).1, (b5 x h1 h2).2.1.trans (a5 x h1 h2).2.1, fun y => ((b5 x h1 h2).2.2 y).trans ((a5 x h1 h2).2.2 y)⟩, fun x y h1 h2 => (b6 x y h1 h2).trans (a6 x y h1 h2)⟩
theorem st_le {h h' : m_H} {F F' : m_M} {n s m t : Nat} (a : q_sT h h' F F' n s) (h1 : n ≤ m) (h2 : s ≤ t) : q_sT h h' F F' m t := ⟨a.1, by have := a.2.1; omega, by have := a.2.2.1; omega, by have := a.2.2.2.1; omega, a.2.2.2.2⟩
theorem st_I {h : m_H} {F F' : m_M} {n s : Nat} (f : ∀ x y, 135 ≤ x → x < 157 → F' x y = F x y) : q_sT h h F F' n s := ⟨Nat.le_refl _, by omega, by omega, by omega, fun _ _ _ => ⟨rfl, rfl, fun _ => rfl⟩, f⟩
/-- whose a cell is, with new cells of n -/
def o_w (ow : Nat → Nat) (n : Nat) : Nat → Nat := fun x => if n ≤ x then n else ow x
theorem o_lo {ow : Nat → Nat} {n x : Nat} (h : x < n) : o_w ow n x = ow x := if_neg (by omega)
theorem o_hi {ow : Nat → Nat} {n x : Nat} (h : n ≤ x) : o_w ow n x = n := if_pos h
/-- the cells of a World -/
abbrev c_in (v x : Nat) : Prop := x = v ∨ (bo v ≤ x ∧ x < bo v + 124)
/-- a World's cells, what never changes of its ints -/
def KS (ow : Nat → Nat) (h : m_H) (F : m_M) (v : Nat) : Prop := ((v = 2 ∨ 157 ≤ v) ∧ ow v = v ∧ ∀ x, bo v ≤ x → x < bo v + 124 → ow x = v) ∧ CW h v (bo v) ∧ (∀ d : Nat, d < 4 → F (bo v + 8 + 4 * d) 0 = (d : Int)) ∧ zK (bo v) F
/-- a program's cells, what it says -/
def KQ (ow : Nat → Nat) (h : m_H) (F : m_M) (p : Nat) (G : tx_G) : Prop := ((p = 3 ∨ 157 ≤ p) ∧ ∀ x, p ≤ x → x < p + 6 → ow x = p) ∧ PW h p ∧ q_kp h p F G ∧ q_g3 G ∧ F p 3 = G.1 2 ∧ ∀ i a, i < G.2.1.length → m_R h (p + 1) i = some a → 157 ≤ a
/-- the World v stands with the program p, as the row s -/
def KX (ow : Nat → Nat) (h : m_H) (F : m_M) (v p : Nat) (G : tx_G) (s : sp_R) : Prop := KS ow h F v ∧ m_R h v 0 = some p ∧ q_zz v (bo v) G (-1) F s
theorem KS_o {ow : Nat → Nat} {h : m_H} {F : m_M} {v x : Nat} (K : KS ow h F v) (hx : c_in v x) : ow x = v ∧ x < m_n h := by
  have un := CW_un K.2.1
  have bn := CW_bn K.2.1
  rcases hx with rfl | hx
  · exact ⟨K.1.2.1, un⟩
  · exact ⟨K.1.2.2 x hx.1 hx.2, by omega⟩
theorem KS_cg {ow ow' : Nat → Nat} {h h' : m_H} {F F' : m_M} {v : Nat} (K : KS ow h F v) (en : m_n h ≤ m_n h') (eX : m_n h' ≤ m_X) (ek : ∀ x, x < m_n h → m_k h' x = m_k h x ∧ m_l h' x = m_l h x) (eo : ∀ x, x < m_n h → ow' x = ow x) (eR : ∀ x y, x < m_n h → ((x = v ∧ ¬ y = 0) ∨ (bo v ≤ x ∧ x < bo v + 124)) → m_R h' x y = m_R h x y) (eF : ∀ x, (bo v ≤ x ∧ x < bo v + 124) → F' x 0 = F x 0) : KS ow' h' F' v := by
  obtain ⟨⟨v1, v2, v3⟩, W, n1, n2⟩ := K
  have un := CW_un W
  have bn := CW_bn W
  exact ⟨⟨v1, by rw [eo v un]; exact v2, fun x h1 h2 => by rw [eo x (by omega)]; exact v3 x h1 h2⟩, CW_c2 W en eX ek eR, fun d hd => (eF _ (by omega)).trans (n1 d hd), fun q hq => (eF _ (by omega)).trans (n2 q hq)⟩
theorem KS_F {ow : Nat → Nat} {h : m_H} {F F' : m_M} {v : Nat} (K : KS ow h F v) (eF : ∀ x, (bo v ≤ x ∧ x < bo v + 124) → F' x 0 = F x 0) : KS ow h F' v := KS_cg K (Nat.le_refl _) (CW_X K.2.1) (fun _ _ => ⟨rfl, rfl⟩) (fun _ _ => rfl) (fun _ _ _ _ => rfl) eF
theorem KQ_cg {ow ow' : Nat → Nat} {h h' : m_H} {F F' : m_M} {p : Nat} {G : tx_G} (K : KQ ow h F p G) (en : m_n h ≤ m_n h') (eX : m_n h' ≤ m_X) (ek : ∀ x, x < m_n h → m_k h' x = m_k h x ∧ m_l h' x = m_l h x) (eo : ∀ x, x < m_n h → ow' x = ow x) (eR : ∀ x y, x < m_n h → (p ≤ x ∧ x < p + 6) → m_R h' x y = m_R h x y) (eF : ∀ x y, (p ≤ x ∧ x < p + 6 ∧ ¬ x = p + 3) → F' x y = F x y) (eC : ∀ a y, m_k h a = 1 → 157 ≤ a → a < m_n h → F' a y = F a y) : KQ ow' h' F' p G := by
  obtain ⟨⟨v1, v2⟩, P, ⟨⟨k0, k4, k5, k6, k7, k8, k9⟩, k1, kc, ⟨kn, kl⟩, kk⟩, g3, k3, ka⟩ := K
  have pn := PW_pn P
  have e : ∀ y, F' p y = F p y := fun y => eF p y (by omega)
  refine ⟨⟨v1, fun x h1 h2 => by rw [eo x (by omega)]; exact v2 x h1 h2⟩, PW_cg P en eX ek eR, ⟨⟨(e 0).trans k0, (e 4).trans k4, (e 5).trans k5, (e 6).trans k6, (e 7).trans k7, (e 8).trans k8, (e 9).trans k9⟩, (e 1).trans k1, fun i cm hi => ?_, ⟨(eF _ _ (by omega)).trans kn, by rw [(ek _ (by omega)).2]; exact kl⟩, fun k hk => ⟨(eF _ _ (by omega)).trans (kk k hk).1, (eF _ _ (by omega)).trans (kk k hk).2⟩⟩, g3, (e 3).trans k3, fun i a hi hr => ka i a hi (by rw [eR _ _ (by omega) (by omega)] at hr; exact hr)⟩
  obtain ⟨a, r1, r2, r3, c1, c2, c3, c4, c5, c6, c7⟩ := kc i cm hi
  have hlt : i < G.2.1.length := by
    by_cases q : i < G.2.1.length
    · exact q
    · rw [List.getElem?_eq_none (by omega)] at hi
      cases hi
  have a9 := ka i a hlt r1
  have ea : ∀ y, F' a y = F a y := fun y => eC a y r3 a9 r2
  exact ⟨a, by rw [eR _ _ (by omega) (by omega)]; exact r1, by omega, by rw [(ek a r2).1]; exact r3, (ea 1).trans c1, (ea 2).trans c2, (ea 3).trans c3, (ea 4).trans c4, (ea 5).trans c5, (ea 6).trans c6, (ea 7).trans c7⟩
theorem KQ_F {ow : Nat → Nat} {h : m_H} {F F' : m_M} {p : Nat} {G : tx_G} (K : KQ ow h F p G) (eF : ∀ x y, (p ≤ x ∧ x < p + 6 ∧ ¬ x = p + 3) → F' x y = F x y) (eC : ∀ a y, m_k h a = 1 → 157 ≤ a → a < m_n h → F' a y = F a y) : KQ ow h F' p G := KQ_cg K (Nat.le_refl _) (PW_pX K.2.1) (fun _ _ => ⟨rfl, rfl⟩) (fun _ _ => rfl) (fun _ _ _ _ => rfl) eF eC
/-- a World isn't its program; they are apart -/
theorem KQ_ne {ow : Nat → Nat} {h : m_H} {F : m_M} {v p : Nat} {G : tx_G} (K : KS ow h F v) (Q : KQ ow h F p G) : ¬ v = p := fun e => by
  have k1 := CW_uk K.2.1
  have k2 := PW_pk Q.2.1
  rw [e, k2] at k1
  omega
theorem KQ_in {ow : Nat → Nat} {h : m_H} {F : m_M} {v p x : Nat} {G : tx_G} (K : KS ow h F v) (Q : KQ ow h F p G) (hx : c_in v x) : ¬ (p ≤ x ∧ x < p + 6) := fun e => by
  have a := (KS_o K hx).1
  have b := Q.1.2 x e.1 e.2
  exact KQ_ne K Q (a.symm.trans b)
theorem KQ_ds {ow : Nat → Nat} {h : m_H} {F : m_M} {v p : Nat} {G : tx_G} (K : KS ow h F v) (Q : KQ ow h F p G) : q_ds v (bo v) p := by
  refine ⟨?_, ?_⟩
  · by_cases c : p + 6 ≤ bo v
    · exact Or.inl c
    · by_cases c2 : bo v + 124 ≤ p
      · exact Or.inr c2
      · exfalso
        by_cases c3 : p ≤ bo v
        · exact KQ_in K Q (x := bo v) (Or.inr ⟨by omega, by omega⟩) ⟨c3, by omega⟩
        · exact KQ_in K Q (x := p) (Or.inr ⟨by omega, by omega⟩) ⟨by omega, by omega⟩
  · have := KQ_in K Q (x := v) (Or.inl rfl)
    omega
theorem KX_E {ow : Nat → Nat} {h : m_H} {F : m_M} {v p : Nat} {G : tx_G} (K : KS ow h F v) (hr : m_R h v 0 = some p) (Q : KQ ow h F p G) (gd : q_gd G) : q_EE h v (bo v) p G F := ⟨⟨K.2.1, Q.2.1, hr, KQ_ds K Q⟩, Q.2.2.1, gd, Q.2.2.2.1⟩
/-- two Worlds are apart -/
theorem KS_ap {ow : Nat → Nat} {h : m_H} {F F' : m_M} {u v : Nat} (K : KS ow h F u) (M : KS ow h F' v) (hn : ¬ u = v) : q_ap u (bo u) v (bo v) := by
  have key : ∀ x, c_in u x → c_in v x → False := fun x h1 h2 => hn ((KS_o K h1).1.symm.trans (KS_o M h2).1)
  refine ⟨?_, hn, ?_, ?_⟩
  · by_cases c : bo u ≤ bo v
    · by_cases c2 : bo v < bo u + 124
      · exact (key (bo v) (Or.inr ⟨c, c2⟩) (Or.inr ⟨by omega, by omega⟩)).elim
      · omega
    · by_cases c2 : bo u < bo v + 124
      · exact (key (bo u) (Or.inr ⟨by omega, by omega⟩) (Or.inr ⟨by omega, c2⟩)).elim
      · omega
  · by_cases c : u < bo v
    · omega
    · by_cases c2 : u < bo v + 124
      · exact (key u (Or.inl rfl) (Or.inr ⟨by omega, c2⟩)).elim
      · omega
  · by_cases c : v < bo u
    · omega
    · by_cases c2 : v < bo u + 124
      · exact (key v (Or.inr ⟨by omega, c2⟩) (Or.inl rfl)).elim
      · omega
/-- the static part of the class -/
def q_ST (h : m_H) : Prop := (157 ≤ m_n h ∧ m_n h ≤ 900000) ∧ m_k h 0 = 11 ∧ m_R h 0 0 = some 1 ∧ m_k h 1 = 101 ∧ m_l h 1 = 900 ∧ m_R h 0 4 = some 133 ∧ m_k h 133 = 3 ∧ m_R h 133 0 = some 134 ∧ m_k h 134 = 210 ∧ m_l h 134 = 10
/-- the Worlds besides the one at work: 0 to 9 history, 10 kept, 11 trial -/
def q_sl (h : m_H) (i : Nat) : Option Nat := if i < 10 then m_R h 134 i else if i = 10 then m_R h 0 5 else m_R h 0 7
theorem sl_h {h : m_H} {i : Nat} (hi : i < 10) : q_sl h i = m_R h 134 i := if_pos hi
theorem sl_k {h : m_H} : q_sl h 10 = m_R h 0 5 := rfl
theorem sl_t {h : m_H} : q_sl h 11 = m_R h 0 7 := rfl
def c_st (ow : Nat → Nat) (h : m_H) (u : Nat) : Prop := q_ST h ∧ (∀ x, x < 2 ∨ (133 ≤ x ∧ x < 157) → ow x = 0) ∧ m_R h 0 3 = some u
def c_sl (ow : Nat → Nat) (h : m_H) (F : m_M) (u : Nat) : Prop := ∀ i, i < 12 → ∀ v, q_sl h i = some v → ¬ v = u ∧ KS ow h F v ∧ ∀ j, j < 12 → q_sl h j = some v → j = i
/-- slot i holds the row s -/
def c_ct (h : m_H) (F : m_M) (p : Nat) (G : tx_G) (i : Nat) (s : sp_R) : Prop := ∃ v, q_sl h i = some v ∧ m_R h v 0 = some p ∧ q_zz v (bo v) G (-1) F s
/-- the World at work, the other Worlds' cells -/
def q_C0 (ow : Nat → Nat) (h : m_H) (F : m_M) (u p : Nat) (G : tx_G) (s : sp_R) : Prop := c_st ow h u ∧ KQ ow h F p G ∧ KX ow h F u p G s ∧ c_sl ow h F u
theorem C0_E {ow : Nat → Nat} {h : m_H} {F : m_M} {u p : Nat} {G : tx_G} {s : sp_R} (C : q_C0 ow h F u p G s) (gd : q_gd G) : q_EE h u (bo u) p G F := KX_E C.2.2.1.1 C.2.2.1.2.1 C.2.1 gd
/-- a world's or a program's cell is none of the statics -/
theorem KS_s {ow : Nat → Nat} {h : m_H} {F : m_M} {u v x : Nat} (C : c_st ow h u) (K : KS ow h F v) (hx : c_in v x) : ¬ (x < 2 ∨ (133 ≤ x ∧ x < 157)) := fun e => by
  have a := C.2.1 x e
  have b := (KS_o K hx).1
  have c := K.1.1
  omega
theorem KQ_s {ow : Nat → Nat} {h : m_H} {F : m_M} {u p x : Nat} {G : tx_G} (C : c_st ow h u) (Q : KQ ow h F p G) (h1 : p ≤ x) (h2 : x < p + 6) : ¬ (x < 2 ∨ (133 ≤ x ∧ x < 157)) := fun e => by
  have a := C.2.1 x e
  have b := Q.1.2 x h1 h2
  have c := Q.1.1
  omega
/-- the World at work, worked on -/
theorem C0_w {ow : Nat → Nat} {h : m_H} {F F' : m_M} {u p : Nat} {G : tx_G} {s s' : sp_R} (C : q_C0 ow h F u p G s) (f : q_fw u (bo u) p F F') (Z : q_zz u (bo u) G (-1) F' s') : q_C0 ow h F' u p G s' ∧ (∀ j t, j < 12 → sp_I G 4 t → c_ct h F p G j t → c_ct h F' p G j t) ∧ ∀ x y, x < 2 ∨ (133 ≤ x ∧ x < 157) → F' x y = F x y := by
  obtain ⟨c1, Q, ⟨K, hr, -⟩, c4⟩ := C
  have k2 := CW_uk K.2.1
  have k3 := PW_sk Q.2.1
  have K' : KS ow h F' u := ⟨K.1, K.2.1, fun d hd => (Z.2.1 d hd).1, Z.2.2.2.2.2.2.2.2.1⟩
  have oth : ∀ v, ¬ v = u → KS ow h F v → ∀ x y, c_in v x → F' x y = F x y := fun v hv M x y hx => by
    have o1 := (KS_o M hx).1
    refine f x y (fun e => ?_) (fun e => ?_) (fun e => KQ_in M Q hx (by omega))
    · exact hv (o1.symm.trans (KS_o K (Or.inl e)).1)
    · exact hv (o1.symm.trans (KS_o K (Or.inr e)).1)
  refine ⟨⟨c1, KQ_F Q (fun x y hx => ?_) (fun a y ha h1 h2 => ?_), ⟨K', hr, Z⟩, fun i hi v hv => ?_⟩, fun j t hj ht hc => ?_, fun x y hx => ?_⟩
  · refine f x y (fun e => KQ_in K Q (Or.inl e) (by omega)) (fun e => KQ_in K Q (Or.inr e) (by omega)) hx.2.2
  · have n := CW_nk K.2.1 ha
    exact f a y n.1 n.2 (fun e => by rw [e, k3] at ha; exact absurd ha (by decide))
  · obtain ⟨d1, d2, d3⟩ := c4 i hi v hv
    exact ⟨d1, KS_F d2 (fun x hx => oth v d1 d2 x 0 (Or.inr hx)), d3⟩
  · obtain ⟨v, e1, e2, e3⟩ := hc
    obtain ⟨d1, d2, -⟩ := c4 j hj v e1
    exact ⟨v, e1, e2, Z_out ht e3 (fun x y hx => oth v d1 d2 x y hx)⟩
  · exact f x y (fun e => KS_s c1 K (Or.inl e) hx) (fun e => KS_s c1 K (Or.inr e) hx) (fun e => KQ_s c1 Q (x := x) (by omega) (by omega) hx)
/-- only ints of the class's own changed -/
theorem C0_s {ow : Nat → Nat} {h : m_H} {F F' : m_M} {u p : Nat} {G : tx_G} {s : sp_R} (C : q_C0 ow h F u p G s) (hI : sp_I G 4 s) (f : ∀ x y, ¬ (x < 2 ∨ (133 ≤ x ∧ x < 157)) → F' x y = F x y) : q_C0 ow h F' u p G s ∧ ∀ j t, j < 12 → sp_I G 4 t → c_ct h F p G j t → c_ct h F' p G j t := by
  obtain ⟨c1, Q, ⟨K, hr, Z⟩, c4⟩ := C
  have oth : ∀ v, KS ow h F v → ∀ x y, c_in v x → F' x y = F x y := fun v M x y hx => f x y (KS_s c1 M hx)
  refine ⟨⟨c1, KQ_F Q (fun x y hx => f x y (KQ_s c1 Q hx.1 hx.2.1)) (fun a y ha h1 h2 => f a y (by omega)), ⟨KS_F K (fun x hx => oth u K x 0 (Or.inr hx)), hr, Z_out hI Z (fun x y hx => oth u K x y hx)⟩, fun i hi v hv => ?_⟩, fun j t hj ht hc => ?_⟩
  · obtain ⟨d1, d2, d3⟩ := c4 i hi v hv
    exact ⟨d1, KS_F d2 (fun x hx => oth v d2 x 0 (Or.inr hx)), d3⟩
  · obtain ⟨v, e1, e2, e3⟩ := hc
    obtain ⟨d1, d2, -⟩ := c4 j hj v e1
    exact ⟨v, e1, e2, Z_out ht e3 (fun x y hx => oth v d2 x y hx)⟩
/-- the heap's references of a static cell, and a World's program, set -/
theorem sl_R {h : m_H} {v : Nat} {r : Option Nat} {j : Nat} (h0 : ¬ v = 0) (h1 : ¬ v = 134) : q_sl (m_setR h v 0 r) j = q_sl h j := by
  unfold q_sl
  rw [sR_na (by omega), sR_na (by omega), sR_na (by omega)]
theorem c1_R {ow : Nat → Nat} {h : m_H} {u v : Nat} {r : Option Nat} (c : c_st ow h u) (h0 : ¬ v = 0) (h1 : ¬ v = 133) : c_st ow (m_setR h v 0 r) u := by
  obtain ⟨⟨s1, k0, r00, k1, l1, r04, k133, r133, k134, l134⟩, c2, c3⟩ := c
  have eR : ∀ x y, ¬ x = v → m_R (m_setR h v 0 r) x y = m_R h x y := fun x y hx => sR_na hx
  exact ⟨⟨s1, k0, by rw [eR _ _ (by omega)]; exact r00, k1, l1, by rw [eR _ _ (by omega)]; exact r04, k133, by rw [eR _ _ (by omega)]; exact r133, k134, l134⟩, c2, by rw [eR _ _ (by omega)]; exact c3⟩
/-- the World at work copied into slot i -/
theorem C0_ci {ow : Nat → Nat} {h : m_H} {F F' : m_M} {u p v i : Nat} {G : tx_G} {s : sp_R} (C : q_C0 ow h F u p G s) (hI : sp_I G 4 s) (hi : i < 12) (hv : q_sl h i = some v) (H : q_ce v (bo v) u (bo u) F F') : q_C0 ow (m_setR h v 0 (some p)) F' u p G s ∧ (∀ j t, j < 12 → ¬ j = i → sp_I G 4 t → c_ct h F p G j t → c_ct (m_setR h v 0 (some p)) F' p G j t) ∧ c_ct (m_setR h v 0 (some p)) F' p G i s ∧ (∀ x y, x < 2 ∨ (133 ≤ x ∧ x < 157) → F' x y = F x y) ∧ q_sT h (m_setR h v 0 (some p)) F F' 0 0 ∧ ∀ x y, ¬ c_in v x → F' x y = F x y := by
  obtain ⟨c1, Q, ⟨K, hr, Z⟩, c4⟩ := C
  obtain ⟨ne, M, uq⟩ := c4 i hi v hv
  have v1 := M.1.1
  have f0 : ∀ x y, ¬ c_in v x → F' x y = F x y := fun x y hx => H.1 x y (fun e => hx (Or.inl e)) (fun e => hx (Or.inr e))
  have st : ∀ x y, x < 2 ∨ (133 ≤ x ∧ x < 157) → F' x y = F x y := fun x y hx => f0 x y (fun e => KS_s c1 M e hx)
  have oth : ∀ w, ¬ w = v → KS ow h F w → ∀ x y, c_in w x → F' x y = F x y := fun w hw N x y hx => f0 x y (fun e => hw ((KS_o N hx).1.symm.trans (KS_o M e).1))
  have eR : ∀ x y, ¬ x = v → m_R (m_setR h v 0 (some p)) x y = m_R h x y := fun x y hx => sR_na hx
  have KR : ∀ w, KS ow h F w → (∀ x, (bo w ≤ x ∧ x < bo w + 124) → F' x 0 = F x 0) → KS ow (m_setR h v 0 (some p)) F' w := fun w N hF => by
    refine KS_cg N (Nat.le_of_eq (h_n_setR _ _ _ _).symm) (by rw [h_n_setR]; exact CW_X N.2.1) (fun _ _ => ⟨rfl, rfl⟩) (fun _ _ => rfl) (fun x y hx hxy => ?_) hF
    rw [h_R_setR, if_neg]
    intro e
    rcases hxy with e2 | e2
    · exact e2.2 e.2
    · have o1 := (KS_o N (Or.inr e2)).1
      rw [e.1, M.1.2.1] at o1
      rw [e.1, o1] at e2
      have := bo_or w
      omega
  have un : ¬ u = v := fun e => ne e.symm
  have Ku := KR u K (fun x hx => oth u un K x 0 (Or.inr hx))
  have nums : ∀ x, (bo v ≤ x ∧ x < bo v + 124) → (∃ d, d < 4 ∧ x = bo v + 8 + 4 * d) ∨ (∃ q, q < 100 ∧ x = bo v + 24 + q) → F' x 0 = F x 0 := fun x hx e => by
    rcases e with ⟨d, hd, rfl⟩ | ⟨q, hq, rfl⟩
    · exact H.2.2.1 d hd
    · exact H.2.2.2.1 q hq
  have M0 := KS_cg (F' := F) M (Nat.le_of_eq (h_n_setR h v 0 (some p)).symm) (by rw [h_n_setR]; exact CW_X M.2.1) (fun _ _ => ⟨rfl, rfl⟩) (fun _ _ => rfl) (fun x y hx hxy => by
    rw [h_R_setR, if_neg]
    intro e
    rcases hxy with e2 | e2
    · exact e2.2 e.2
    · have := bo_or v
      omega) (fun _ _ => rfl)
  have Kv : KS ow (m_setR h v 0 (some p)) F' v := ⟨M0.1, M0.2.1, fun d hd => (H.2.2.1 d hd).trans (M.2.2.1 d hd), fun q hq => (H.2.2.2.1 q hq).trans (M.2.2.2 q hq)⟩
  have Zv := Z_cp hI H M.2.2.1 M.2.2.2 Z
  have hq : KQ ow (m_setR h v 0 (some p)) F' p G := by
    refine KQ_cg Q (Nat.le_of_eq (h_n_setR _ _ _ _).symm) (by rw [h_n_setR]; exact CW_X M.2.1) (fun _ _ => ⟨rfl, rfl⟩) (fun _ _ => rfl) (fun x y hx hxy => eR x y (fun e => KQ_in M Q (Or.inl e) hxy)) (fun x y hx => f0 x y (fun e => KQ_in M Q e ⟨hx.1, hx.2.1⟩)) (fun a y ha h1 h2 => f0 a y (fun e => ?_))
    have n := CW_nk M.2.1 ha
    rcases e with e | e
    · exact n.1 e
    · exact n.2 e
  refine ⟨⟨c1_R c1 (by omega) (by omega), hq, ⟨Ku, (eR u 0 un).trans hr, Z_out hI Z (fun x y hx => oth u un K x y hx)⟩, fun j hj w hw => ?_⟩, fun j t hj hji ht hc => ?_, ⟨v, by rw [sl_R (by omega) (by omega)]; exact hv, sR_eq rfl rfl, Zv⟩, st, ⟨by rw [h_n_setR]; omega, by rw [h_n_setR]; omega, by rw [h_c_setR]; omega, by rw [h_s_setR]; omega, fun x h1 h2 => ⟨rfl, rfl, fun y => eR x y (by omega)⟩, fun x y h1 h2 => st x y (by omega)⟩, f0⟩
  · rw [sl_R (by omega) (by omega)] at hw
    obtain ⟨d1, d2, d3⟩ := c4 j hj w hw
    refine ⟨d1, ?_, fun k hk he => d3 k hk (by rw [sl_R (by omega) (by omega)] at he; exact he)⟩
    by_cases e : w = v
    · rw [e]; exact Kv
    · exact KR w d2 (fun x hx => oth w e d2 x 0 (Or.inr hx))
  · obtain ⟨w, e1, e2, e3⟩ := hc
    obtain ⟨d1, d2, d3⟩ := c4 j hj w e1
    have wv : ¬ w = v := fun e => hji (by rw [e] at e1; exact uq j hj e1)
    exact ⟨w, by rw [sl_R (by omega) (by omega)]; exact e1, (eR w 0 wv).trans e2, Z_out ht e3 (fun x y hx => oth w wv d2 x y hx)⟩
/-- slot i copied into the World at work -/
theorem C0_co {ow : Nat → Nat} {h : m_H} {F F' : m_M} {u p v i : Nat} {G : tx_G} {s t : sp_R} (C : q_C0 ow h F u p G s) (ht : sp_I G 4 t) (hi : i < 12) (hv : q_sl h i = some v) (hvt : q_zz v (bo v) G (-1) F t) (H : q_ce u (bo u) v (bo v) F F') : q_C0 ow (m_setR h u 0 (some p)) F' u p G t ∧ (∀ j r, j < 12 → sp_I G 4 r → c_ct h F p G j r → c_ct (m_setR h u 0 (some p)) F' p G j r) ∧ (∀ x y, x < 2 ∨ (133 ≤ x ∧ x < 157) → F' x y = F x y) ∧ q_sT h (m_setR h u 0 (some p)) F F' 0 0 := by
  obtain ⟨c1, Q, ⟨K, hr, Z⟩, c4⟩ := C
  have v1 := K.1.1
  have f0 : ∀ x y, ¬ c_in u x → F' x y = F x y := fun x y hx => H.1 x y (fun e => hx (Or.inl e)) (fun e => hx (Or.inr e))
  have st : ∀ x y, x < 2 ∨ (133 ≤ x ∧ x < 157) → F' x y = F x y := fun x y hx => f0 x y (fun e => KS_s c1 K e hx)
  have oth : ∀ w, ¬ w = u → KS ow h F w → ∀ x y, c_in w x → F' x y = F x y := fun w hw N x y hx => f0 x y (fun e => hw ((KS_o N hx).1.symm.trans (KS_o K e).1))
  have eR : ∀ x y, ¬ x = u → m_R (m_setR h u 0 (some p)) x y = m_R h x y := fun x y hx => sR_na hx
  have KR : ∀ w, KS ow h F w → (∀ x, (bo w ≤ x ∧ x < bo w + 124) → F' x 0 = F x 0) → KS ow (m_setR h u 0 (some p)) F' w := fun w N hF => by
    refine KS_cg N (Nat.le_of_eq (h_n_setR _ _ _ _).symm) (by rw [h_n_setR]; exact CW_X N.2.1) (fun _ _ => ⟨rfl, rfl⟩) (fun _ _ => rfl) (fun x y hx hxy => ?_) hF
    rw [h_R_setR, if_neg]
    intro e
    rcases hxy with e2 | e2
    · exact e2.2 e.2
    · have o1 := (KS_o N (Or.inr e2)).1
      rw [e.1, K.1.2.1] at o1
      rw [e.1, o1] at e2
      have := bo_or w
      omega
  have M0 := KR
  have M1 := KS_cg (F' := F) K (Nat.le_of_eq (h_n_setR h u 0 (some p)).symm) (by rw [h_n_setR]; exact CW_X K.2.1) (fun _ _ => ⟨rfl, rfl⟩) (fun _ _ => rfl) (fun x y hx hxy => by
    rw [h_R_setR, if_neg]
    intro e
    rcases hxy with e2 | e2
    · exact e2.2 e.2
    · have := bo_or u
      omega) (fun _ _ => rfl)
  have Ku : KS ow (m_setR h u 0 (some p)) F' u := ⟨M1.1, M1.2.1, fun d hd => (H.2.2.1 d hd).trans (K.2.2.1 d hd), fun q hq => (H.2.2.2.1 q hq).trans (K.2.2.2 q hq)⟩
  have Zu := Z_cp ht H K.2.2.1 K.2.2.2 hvt
  have hq : KQ ow (m_setR h u 0 (some p)) F' p G := by
    refine KQ_cg Q (Nat.le_of_eq (h_n_setR _ _ _ _).symm) (by rw [h_n_setR]; exact CW_X K.2.1) (fun _ _ => ⟨rfl, rfl⟩) (fun _ _ => rfl) (fun x y hx hxy => eR x y (fun e => KQ_in K Q (Or.inl e) hxy)) (fun x y hx => f0 x y (fun e => KQ_in K Q e ⟨hx.1, hx.2.1⟩)) (fun a y ha h1 h2 => f0 a y (fun e => ?_))
    have n := CW_nk K.2.1 ha
    rcases e with e | e
    · exact n.1 e
    · exact n.2 e
  refine ⟨⟨c1_R c1 (by omega) (by omega), hq, ⟨Ku, sR_eq rfl rfl, Zu⟩, fun j hj w hw => ?_⟩, fun j r hj hr' hc => ?_, st, ⟨by rw [h_n_setR]; omega, by rw [h_n_setR]; omega, by rw [h_c_setR]; omega, by rw [h_s_setR]; omega, fun x h1 h2 => ⟨rfl, rfl, fun y => eR x y (by omega)⟩, fun x y h1 h2 => st x y (by omega)⟩⟩
  · rw [sl_R (by omega) (by omega)] at hw
    obtain ⟨d1, d2, d3⟩ := c4 j hj w hw
    exact ⟨d1, KR w d2 (fun x hx => oth w d1 d2 x 0 (Or.inr hx)), fun k hk he => d3 k hk (by rw [sl_R (by omega) (by omega)] at he; exact he)⟩
  · obtain ⟨w, e1, e2, e3⟩ := hc
    obtain ⟨d1, d2, d3⟩ := c4 j hj w e1
    exact ⟨w, by rw [sl_R (by omega) (by omega)]; exact e1, (eR w 0 d1).trans e2, Z_out hr' e3 (fun x y hx => oth w d1 d2 x y hx)⟩
