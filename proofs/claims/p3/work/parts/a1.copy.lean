/-! new Worlds, copies -/
/-- what a call may do besides: so many cells and slots more; the reference stands -/
def q_sT (h h' : m_H) (F F' : m_M) (n s : Nat) : Prop := m_n h ≤ m_n h' ∧ m_n h' ≤ m_n h + n ∧ m_c h' ≤ m_c h + n ∧ m_s h' ≤ m_s h + s ∧ (∀ x, 135 ≤ x → x < 157 → m_k h' x = m_k h x ∧ m_l h' x = m_l h x ∧ ∀ y, m_R h' x y = m_R h x y) ∧ (∀ x y, 135 ≤ x → x < 157 → F' x y = F x y)
theorem st_rf {h : m_H} {F : m_M} {n s : Nat} : q_sT h h F F n s := ⟨Nat.le_refl _, by omega, by omega, by omega, fun _ _ _ => ⟨rfl, rfl, fun _ => rfl⟩, fun _ _ _ _ => rfl⟩
theorem st_tr {h g k : m_H} {F G K : m_M} {n s m t : Nat} (a : q_sT h g F G n s) (b : q_sT g k G K m t) : q_sT h k F K (n + m) (s + t) := by
  obtain ⟨a1, a2, a3, a4, a5, a6⟩ := a
  obtain ⟨b1, b2, b3, b4, b5, b6⟩ := b
  exact ⟨by omega, by omega, by omega, by omega, fun x h1 h2 => ⟨(b5 x h1 h2).1.trans (a5 x h1 h2).1, (b5 x h1 h2).2.1.trans (a5 x h1 h2).2.1, fun y => ((b5 x h1 h2).2.2 y).trans ((a5 x h1 h2).2.2 y)⟩, fun x y h1 h2 => (b6 x y h1 h2).trans (a6 x y h1 h2)⟩
theorem st_le {h h' : m_H} {F F' : m_M} {n s m t : Nat} (a : q_sT h h' F F' n s) (h1 : n ≤ m) (h2 : s ≤ t) : q_sT h h' F F' m t := ⟨a.1, by have := a.2.1; omega, by have := a.2.2.1; omega, by have := a.2.2.2.1; omega, a.2.2.2.2⟩
theorem st_I {h : m_H} {F F' : m_M} {n s : Nat} (f : ∀ x y, 135 ≤ x → x < 157 → F' x y = F x y) : q_sT h h F F' n s := ⟨Nat.le_refl _, by omega, by omega, by omega, fun _ _ _ => ⟨rfl, rfl, fun _ => rfl⟩, f⟩
/-- only what is nobody's, or new, changed -/
theorem KP_0 {ow ow' : Nat → Nat} {h h' : m_H} {F F' : m_M} {v p : Nat} (K : KP ow h F v p) (o0 : ow 0 = 0) (en : m_n h ≤ m_n h') (eX : m_n h' ≤ m_X) (ek : ∀ x, x < m_n h → m_k h' x = m_k h x ∧ m_l h' x = m_l h x) (eo : ∀ x, x < m_n h → ow' x = ow x) (eR : ∀ x y, x < m_n h → ¬ ow x = 0 → m_R h' x y = m_R h x y) (eF : ∀ x y, x < m_n h → ¬ ow x = 0 → F' x y = F x y) : KP ow' h' F' v p :=
  KP_cg (u := 0) (s := 0) K en eX ek eo ⟨by have := K.1.1; omega, by have := K.2.1.1; omega⟩ (Or.inl o0) (fun x y hx h0 _ => eR x y hx h0) (fun x y hx h0 _ _ => eF x y hx h0)
/-- whose a cell is, with n new cells of v -/
def o_w (ow : Nat → Nat) (n : Nat) : Nat → Nat := fun x => if n ≤ x then n else ow x
theorem o_lo {ow : Nat → Nat} {n x : Nat} (h : x < n) : o_w ow n x = ow x := if_neg (by omega)
theorem o_hi {ow : Nat → Nat} {n x : Nat} (h : n ≤ x) : o_w ow n x = n := if_pos h
/-- the new World at the heap's end -/
theorem KP_nw {ow : Nat → Nat} {h h' : m_H} {F F' : m_M} {u p n : Nat} (K : KP ow h F u p) (hn : n = m_n h) (n9 : 157 ≤ n) (W : CW h' n (n + 1)) (up : m_R h' n 0 = some p) (G : q_gr (m_mk h 10 0 7) h' n 124 2736) (U : ∀ nd nc, q_u n (n + 1) nd nc F') (f : ∀ x y, x < n → F' x y = F x y) : KP (o_w ow n) h' F' n p := by
  subst hn
  have kn := KP_n K
  obtain ⟨g1, g2, g3, g4, g5⟩ := G
  rw [h_n_mk] at g1 g4 g5
  obtain ⟨-, ⟨p1, p2⟩, ⟨W0, P, up0, dj, C, nn, z1, z2, z3⟩, -⟩ := K
  have b1 : bo (m_n h) = m_n h + 1 := by have := bo_or (m_n h); omega
  have ek : ∀ x, x < m_n h → m_k h' x = m_k h x ∧ m_l h' x = m_l h x := fun x hx => by rw [(g4 x (by omega)).1, (g4 x (by omega)).2, hk_old (by omega), hl_old (by omega)]; exact ⟨rfl, rfl⟩
  have eR : ∀ x y, x < m_n h → m_R h' x y = m_R h x y := fun x y hx => by rw [g5 x y (by omega) (by omega), hR_old (by omega)]
  refine ⟨⟨Or.inr n9, o_hi (Nat.le_refl _), fun x h1 h2 => o_hi (by omega)⟩, ⟨p1, fun x h1 h2 => by rw [o_lo (by omega)]; exact p2 x h1 h2⟩, ⟨by rw [b1]; exact W, PW_cg P (by omega) (CW_X W) ek (fun x y hx _ => eR x y hx), up, by rw [b1]; omega, ?_, by rw [f _ _ (by omega), f _ _ (by omega)]; exact nn, by rw [f _ _ (by omega)]; exact z1, by rw [f _ _ (by omega), (ek _ (by omega)).2]; exact z2, by rw [f _ _ (by omega)]; exact z3⟩, by rw [b1]; exact U _ _⟩
  intro c hc
  rw [f _ _ (by omega)] at hc
  obtain ⟨k, r1, r2, r3⟩ := C c hc
  exact ⟨k, by rw [eR _ _ (by omega)]; exact r1, by omega, by rw [(ek _ r2).1]; exact r3⟩
/-- a copy of u into v -/
theorem KP_cp {ow : Nat → Nat} {h : m_H} {F F' : m_M} {u p v q : Nat} (K : KP ow h F v q) (M : KP ow h F u p) (ne : ¬ v = u) (o0 : ow 0 = 0) (U : q_u v (bo v) (F p 0) (F p 1) F') (f : ∀ x y, ¬ x = v → ¬ (bo v ≤ x ∧ x < bo v + 124) → F' x y = F x y) : KP ow (m_setR h v 0 (some p)) F' v p ∧ ∀ w r, KP ow h F w r → ¬ w = v → KP ow (m_setR h v 0 (some p)) F' w r := by
  have kn := KP_n K
  have km := KP_n M
  have hb := bo_or v
  have K0 := K
  have M0 := M
  obtain ⟨⟨v1, v2, v3⟩, -, ⟨W, -⟩, -⟩ := K
  obtain ⟨-, ⟨p1, p2⟩, ⟨W0, P, up0, dj, C, nn, z1, z2, z3⟩, -⟩ := M
  have k1 := CW_uk W
  have k2 := PW_pk P
  have pv : ¬ p = v := fun e => by rw [e] at k2; omega
  have pd : ∀ x, p ≤ x → x < p + 6 → ¬ x = v ∧ ¬ (bo v ≤ x ∧ x < bo v + 124) := fun x h1 h2 => by
    have o1 := p2 x h1 h2
    refine ⟨fun e => ?_, fun e => ?_⟩
    · subst e
      omega
    · have := v3 x e.1 e.2
      omega
  have fp : ∀ x y, p ≤ x → x < p + 6 → F' x y = F x y := fun x y h1 h2 => f x y (pd x h1 h2).1 (pd x h1 h2).2
  have eR : ∀ x y, ¬ (x = v ∧ y = 0) → m_R (m_setR h v 0 (some p)) x y = m_R h x y := fun x y hx => by rw [h_R_setR, if_neg hx]
  refine ⟨⟨⟨v1, v2, v3⟩, ⟨p1, p2⟩, ⟨CW_R (by omega) W, PW_cg P (Nat.le_of_eq (h_n_setR _ _ _ _).symm) (by rw [h_n_setR]; exact PW_pX P) (fun _ _ => ⟨rfl, rfl⟩) (fun x y hx h1 => eR x y (fun e => (pd x h1.1 h1.2).1 e.1)), sR_eq rfl rfl, ?_, ?_, by rw [fp _ _ (by omega) (by omega), fp _ _ (by omega) (by omega)]; exact nn, by rw [fp _ _ (by omega) (by omega)]; exact z1, by rw [fp _ _ (by omega) (by omega)]; exact z2, by rw [fp _ _ (by omega) (by omega)]; exact z3⟩, by rw [fp _ _ (by omega) (by omega), fp _ _ (by omega) (by omega)]; exact U⟩, fun w r N hw => ?_⟩
  · have d0 := pd p (by omega) (by omega)
    have d5 := pd (p + 5) (by omega) (by omega)
    have d1 : ∀ x, p ≤ x → x < p + 6 → ¬ x = v := fun x a b => (pd x a b).1
    have e1 := d1 (p + 1) (by omega) (by omega)
    have e2 := d1 (p + 2) (by omega) (by omega)
    have e3 := d1 (p + 3) (by omega) (by omega)
    have e4 := d1 (p + 4) (by omega) (by omega)
    omega
  · intro c hc
    rw [fp _ _ (by omega) (by omega)] at hc
    obtain ⟨k, r1, r2, r3⟩ := C c hc
    exact ⟨k, by rw [eR _ _ (fun e => (pd (p + 1) (by omega) (by omega)).1 e.1)]; exact r1, r2, r3⟩
  · have k3 := PW_pk N.2.2.1.2.1
    exact KP_cg (u := v) (s := 0) N (Nat.le_of_eq (h_n_setR _ _ _ _).symm) (by rw [h_n_setR]; exact CW_X W) (fun _ _ => ⟨rfl, rfl⟩) (fun _ _ => rfl) ⟨hw, fun e => by rw [e] at k3; omega⟩ (Or.inl o0) (fun x y hx h0 h1 => eR x y (fun e => h1 (by rw [e.1]; exact v2))) (fun x y hx h0 h1 h2 => f x y (fun e => h1 (by rw [e]; exact v2)) (fun e => h1 (v3 x e.1 e.2)))
