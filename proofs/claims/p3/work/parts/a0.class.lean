/-! the class between calls -/
/-- where a World's rows begin -/
def bo (v : Nat) : Nat := if v = 2 then 9 else v + 1
theorem bo_or (v : Nat) : (v = 2 ∧ bo v = 9) ∨ (¬ v = 2 ∧ bo v = v + 1) := by
  unfold bo
  split <;> omega
theorem CW_cg {h h' : m_H} {u b : Nat} (W : CW h u b) (en : m_n h ≤ m_n h') (eX : m_n h' ≤ m_X) (ek : ∀ x, x < m_n h → m_k h' x = m_k h x ∧ m_l h' x = m_l h x) (eR : ∀ x y, x < m_n h → (x = u ∨ (b ≤ x ∧ x < b + 124)) → m_R h' x y = m_R h x y) : CW h' u b := by
  obtain ⟨w_un, w_bn, w_X, w_ub, w_uk, w_u4, w_u5, w_u6, w_dk, w_dl, w_qk, w_ql, w_jk, w_j0, w_jk0, w_jl0, w_j1, w_jk1, w_jl1, w_j2, w_jk2, w_jl2, w_j3, w_jk3, w_jl3, w_j4, w_jk4, w_jl4, w_D, w_Q⟩ := W
  exact ⟨(by omega), (by omega), eX, w_ub, (by rw [(ek _ (by omega)).1]; exact w_uk), (by rw [eR _ _ (by omega) (by omega)]; exact w_u4), (by rw [eR _ _ (by omega) (by omega)]; exact w_u5), (by rw [eR _ _ (by omega) (by omega)]; exact w_u6), (by rw [(ek _ (by omega)).1]; exact w_dk), (by rw [(ek _ (by omega)).2]; exact w_dl), (by rw [(ek _ (by omega)).1]; exact w_qk), (by rw [(ek _ (by omega)).2]; exact w_ql), (by rw [(ek _ (by omega)).1]; exact w_jk), (by rw [eR _ _ (by omega) (by omega)]; exact w_j0), (by rw [(ek _ (by omega)).1]; exact w_jk0), (by rw [(ek _ (by omega)).2]; exact w_jl0), (by rw [eR _ _ (by omega) (by omega)]; exact w_j1), (by rw [(ek _ (by omega)).1]; exact w_jk1), (by rw [(ek _ (by omega)).2]; exact w_jl1), (by rw [eR _ _ (by omega) (by omega)]; exact w_j2), (by rw [(ek _ (by omega)).1]; exact w_jk2), (by rw [(ek _ (by omega)).2]; exact w_jl2), (by rw [eR _ _ (by omega) (by omega)]; exact w_j3), (by rw [(ek _ (by omega)).1]; exact w_jk3), (by rw [(ek _ (by omega)).2]; exact w_jl3), (by rw [eR _ _ (by omega) (by omega)]; exact w_j4), (by rw [(ek _ (by omega)).1]; exact w_jk4), (by rw [(ek _ (by omega)).2]; exact w_jl4), (fun d hd => by
    have := w_D d hd
    rw [eR _ _ (by omega) (by omega), (ek _ (by omega)).1, eR _ _ (by omega) (by omega), eR _ _ (by omega) (by omega), eR _ _ (by omega) (by omega), (ek _ (by omega)).1, (ek _ (by omega)).2, (ek _ (by omega)).1, (ek _ (by omega)).2, (ek _ (by omega)).1, (ek _ (by omega)).2]
    exact this), (fun q hq => by
    have := w_Q q hq
    rw [eR _ _ (by omega) (by omega), (ek _ (by omega)).1]
    exact this)⟩
theorem PW_cg {h h' : m_H} {p : Nat} (W : PW h p) (en : m_n h ≤ m_n h') (eX : m_n h' ≤ m_X) (ek : ∀ x, x < m_n h → m_k h' x = m_k h x ∧ m_l h' x = m_l h x) (eR : ∀ x y, x < m_n h → (p ≤ x ∧ x < p + 6) → m_R h' x y = m_R h x y) : PW h' p := by
  obtain ⟨w_pn, w_pX, w_pk, w_p2, w_p10, w_ck, w_cl, w_ok, w_o0, w_o1, w_o3, w_sk, w_sl, w_ak, w_bk, w_al⟩ := W
  exact ⟨(by omega), eX, (by rw [(ek _ (by omega)).1]; exact w_pk), (by rw [eR _ _ (by omega) (by omega)]; exact w_p2), (by rw [eR _ _ (by omega) (by omega)]; exact w_p10), (by rw [(ek _ (by omega)).1]; exact w_ck), (by rw [(ek _ (by omega)).2]; exact w_cl), (by rw [(ek _ (by omega)).1]; exact w_ok), (by rw [eR _ _ (by omega) (by omega)]; exact w_o0), (by rw [eR _ _ (by omega) (by omega)]; exact w_o1), (by rw [eR _ _ (by omega) (by omega)]; exact w_o3), (by rw [(ek _ (by omega)).1]; exact w_sk), (by rw [(ek _ (by omega)).2]; exact w_sl), (by rw [(ek _ (by omega)).1]; exact w_ak), (by rw [(ek _ (by omega)).1]; exact w_bk), (by rw [(ek _ (by omega)).2, (ek _ (by omega)).2]; exact w_al)⟩
/-- a World over another heap, other ints -/
theorem CX_cg {h h' : m_H} {u b p : Nat} {F F' : m_M} (X : CX h u b p F) (en : m_n h ≤ m_n h') (eX : m_n h' ≤ m_X) (ek : ∀ x, x < m_n h → m_k h' x = m_k h x ∧ m_l h' x = m_l h x) (eR : ∀ x y, x < m_n h → (x = u ∨ (b ≤ x ∧ x < b + 124) ∨ (p ≤ x ∧ x < p + 6)) → m_R h' x y = m_R h x y) (eF : ∀ x y, p ≤ x → x < p + 6 → ¬ x = p + 3 → F' x y = F x y) : CX h' u b p F' := by
  obtain ⟨W, P, up, dj, C, nn, z1, z2, z3⟩ := X
  have e0 : F' p 0 = F p 0 := eF _ _ (by omega) (by omega) (by omega)
  have e1 : F' p 1 = F p 1 := eF _ _ (by omega) (by omega) (by omega)
  have e2 : F' (p + 2) 2 = F (p + 2) 2 := eF _ _ (by omega) (by omega) (by omega)
  have un := CW_un W
  have pn := PW_pn P
  refine ⟨CW_cg W en eX ek (fun x y hx h1 => eR x y hx (by omega)), PW_cg P en eX ek (fun x y hx h1 => eR x y hx (by omega)), (eR _ _ un (by omega)).trans up, dj, ?_, by rw [e0, e1]; exact nn, by rw [e2]; exact z1, by rw [e2, (ek _ (by omega)).2]; exact z2, by rw [e2]; exact z3⟩
  intro c hc
  rw [e1] at hc
  obtain ⟨k, r1, r2, r3⟩ := C c hc
  exact ⟨k, by rw [eR _ _ (by omega) (by omega)]; exact r1, by omega, by rw [(ek _ r2).1]; exact r3⟩
/-- a World that stands with the program p; ow: whose each cell is -/
def KP (ow : Nat → Nat) (h : m_H) (F : m_M) (v p : Nat) : Prop := ((v = 2 ∨ 157 ≤ v) ∧ ow v = v ∧ (∀ x, bo v ≤ x → x < bo v + 124 → ow x = v)) ∧ ((p = 3 ∨ 157 ≤ p) ∧ (∀ x, p ≤ x → x < p + 6 → ow x = p)) ∧ CX h v (bo v) p F ∧ q_u v (bo v) (F p 0) (F p 1) F
def KW (ow : Nat → Nat) (h : m_H) (F : m_M) (v : Nat) : Prop := ∃ p, KP ow h F v p
theorem KP_ne {ow : Nat → Nat} {h : m_H} {F : m_M} {v p : Nat} (K : KP ow h F v p) : ¬ v = p := fun e => by
  have k1 := CW_uk K.2.2.1.1
  have k2 := PW_pk K.2.2.1.2.1
  rw [e, k2] at k1
  omega
theorem KP_n {ow : Nat → Nat} {h : m_H} {F : m_M} {v p : Nat} (K : KP ow h F v p) : v < m_n h ∧ bo v + 124 ≤ m_n h ∧ p + 6 ≤ m_n h := ⟨CW_un K.2.2.1.1, CW_bn K.2.2.1.1, PW_pn K.2.2.1.2.1⟩
/-- nothing of the World, nothing of its program but the stack changed -/
theorem KP_cg {ow ow' : Nat → Nat} {h h' : m_H} {F F' : m_M} {v p u s : Nat} (K : KP ow h F v p) (en : m_n h ≤ m_n h') (eX : m_n h' ≤ m_X) (ek : ∀ x, x < m_n h → m_k h' x = m_k h x ∧ m_l h' x = m_l h x) (eo : ∀ x, x < m_n h → ow' x = ow x) (hu : ¬ v = u ∧ ¬ p = u) (hs : ow s = 0 ∨ (s = ow s + 3 ∧ ¬ ow s = v)) (eR : ∀ x y, x < m_n h → ¬ ow x = 0 → ¬ ow x = u → m_R h' x y = m_R h x y) (eF : ∀ x y, x < m_n h → ¬ ow x = 0 → ¬ ow x = u → ¬ x = s → F' x y = F x y) : KP ow' h' F' v p := by
  have kn := KP_n K
  have hb := bo_or v
  obtain ⟨⟨v1, v2, v3⟩, ⟨p1, p2⟩, X, U⟩ := K
  have fp : ∀ x y, p ≤ x → x < p + 6 → ¬ x = p + 3 → F' x y = F x y := fun x y h1 h2 h3 => by
    have := p2 x h1 h2
    refine eF x y (by omega) (by omega) (by omega) (fun e => ?_)
    subst e
    omega
  have fv : ∀ x y, (x = v ∨ (bo v ≤ x ∧ x < bo v + 124)) → F' x y = F x y := fun x y h1 => by
    have e : ow x = v := by
      rcases h1 with rfl | h1
      · exact v2
      · exact v3 x h1.1 h1.2
    refine eF x y (by omega) (by omega) (by omega) (fun e9 => ?_)
    subst e9
    omega
  have rR : ∀ x y, x < m_n h → (x = v ∨ (bo v ≤ x ∧ x < bo v + 124) ∨ (p ≤ x ∧ x < p + 6)) → m_R h' x y = m_R h x y := fun x y hx h1 => by
    rcases h1 with h1 | h1 | h1
    · subst h1
      exact eR _ y hx (by omega) (by omega)
    · have := v3 x h1.1 h1.2
      exact eR x y hx (by omega) (by omega)
    · have := p2 x h1.1 h1.2
      exact eR x y hx (by omega) (by omega)
  refine ⟨⟨v1, by rw [eo _ (by omega)]; exact v2, fun x h1 h2 => by rw [eo _ (by omega)]; exact v3 x h1 h2⟩, ⟨p1, fun x h1 h2 => by rw [eo _ (by omega)]; exact p2 x h1 h2⟩, CX_cg X en eX ek rR fp, ?_⟩
  rw [fp p 0 (by omega) (by omega) (by omega), fp p 1 (by omega) (by omega) (by omega)]
  exact q_u_cg (fun x y hc => fv x y (by unfold q_uc at hc; omega)) U
/-- two Worlds are apart -/
theorem KP_ap {ow : Nat → Nat} {h : m_H} {F : m_M} {u v p q : Nat} (K : KP ow h F u p) (M : KP ow h F v q) (hn : ¬ u = v) : q_ap u (bo u) v (bo v) := by
  have b1 := bo_or u
  have b2 := bo_or v
  obtain ⟨⟨u1, u2, u3⟩, -⟩ := K
  obtain ⟨⟨v1, v2, v3⟩, -⟩ := M
  refine ⟨?_, hn, ?_, ?_⟩
  · by_cases c : bo u ≤ bo v
    · by_cases c2 : bo v < bo u + 124
      · have e1 := u3 (bo v) c c2
        have e2 := v3 (bo v) (by omega) (by omega)
        omega
      · omega
    · by_cases c2 : bo u < bo v + 124
      · have e1 := u3 (bo u) (by omega) (by omega)
        have e2 := v3 (bo u) (by omega) (by omega)
        omega
      · omega
  · by_cases c : u < bo v
    · omega
    · by_cases c2 : u < bo v + 124
      · have e2 := v3 u (by omega) (by omega)
        omega
      · omega
  · by_cases c : v < bo u
    · omega
    · by_cases c2 : v < bo u + 124
      · have e2 := u3 v (by omega) (by omega)
        omega
      · omega
/-- Worlds besides the one at work -/
def q_O (h : m_H) (v : Nat) : Prop := m_R h 0 5 = some v ∨ m_R h 0 7 = some v ∨ ∃ i, i < 10 ∧ m_R h 134 i = some v
/-- the static part of the class -/
def q_ST (h : m_H) : Prop := (157 ≤ m_n h ∧ m_n h ≤ 900000) ∧ m_k h 0 = 11 ∧ m_R h 0 0 = some 1 ∧ m_k h 1 = 101 ∧ m_l h 1 = 900 ∧ m_R h 0 4 = some 133 ∧ m_k h 133 = 3 ∧ m_R h 133 0 = some 134 ∧ m_k h 134 = 210 ∧ m_l h 134 = 10
def q_SI (F : m_M) : Prop := (0 ≤ F 0 1 ∧ F 0 1 ≤ 900) ∧ (F 0 6 = 0 ∨ F 0 6 = 1) ∧ (0 ≤ F 133 1 ∧ F 133 1 ≤ 9) ∧ (0 ≤ F 133 2 ∧ F 133 2 ≤ 10)
/-- THE CLASS BETWEEN CALLS: the World u at work, its program p -/
def q_CI (ow : Nat → Nat) (h : m_H) (F : m_M) (u p : Nat) : Prop := q_ST h ∧ q_SI F ∧ (∀ x, x < 2 ∨ (133 ≤ x ∧ x < 157) → ow x = 0) ∧ m_R h 0 3 = some u ∧ KP ow h F u p ∧ ∀ v, q_O h v → ¬ v = u ∧ KW ow h F v
/-- a World of the class is worked on -/
theorem KP_x {ow : Nat → Nat} {h : m_H} {F F' : m_M} {v p : Nat} (K : KP ow h F v p) (H : q_x v (bo v) p F F') : KP ow h F' v p := by
  obtain ⟨v1, p1, X, U⟩ := K
  have X0 := X
  obtain ⟨W, P, up, ⟨dj1, dj2⟩, C, nn, z1, z2, z3⟩ := X
  have f : ∀ x y, p ≤ x → x < p + 6 → ¬ x = p + 3 → F' x y = F x y := fun x y h1 h2 h3 => H.1 x y (by omega) (by omega) h3
  refine ⟨v1, p1, CX_cg X0 (Nat.le_refl _) (CW_X W) (fun _ _ => ⟨rfl, rfl⟩) (fun _ _ _ _ => rfl) f, ?_⟩
  rw [f p 0 (by omega) (by omega) (by omega), f p 1 (by omega) (by omega) (by omega)]
  exact H.2.1
theorem CI_x {ow : Nat → Nat} {h : m_H} {F F' : m_M} {u p v q : Nat} (I : q_CI ow h F u p) (hv : v = u ∨ q_O h v) (K : KP ow h F v q) (H : q_x v (bo v) q F F') : q_CI ow h F' u (if v = u then q else p) := by
  have hb := bo_or v
  have K9 := K
  obtain ⟨⟨v1, v2, v3⟩, ⟨p1, p2⟩, -⟩ := K9
  obtain ⟨⟨s1, s2⟩, i2, i3, i4, i5, i6⟩ := I
  have oq : ow (q + 3) = q := p2 _ (by omega) (by omega)
  have kq : ¬ q = v := fun e => KP_ne K e.symm
  have st : ∀ x y, x < 2 ∨ (133 ≤ x ∧ x < 157) → F' x y = F x y := fun x y hx => H.1 x y (by omega) (by omega) (by omega)
  have oth : ∀ w r, KP ow h F w r → ¬ w = v → KP ow h F' w r := fun w r M hw => by
    have k1 := CW_uk K.2.2.1.1
    have k2 := PW_pk M.2.2.1.2.1
    have k3 := CW_uk M.2.2.1.1
    have k4 := PW_pk K.2.2.1.2.1
    refine KP_cg (u := v) (s := q + 3) M (Nat.le_refl _) (CW_X M.2.2.1.1) (fun _ _ => ⟨rfl, rfl⟩) (fun _ _ => rfl) ⟨hw, fun e => ?_⟩ (Or.inr ⟨by omega, fun e => ?_⟩) (fun _ _ _ _ _ => rfl) (fun x y hx h0 h1 h2 => H.1 x y (fun e => h1 (by rw [e]; exact v2)) (fun e => h1 (v3 x e.1 e.2)) h2)
    · rw [e] at k2
      omega
    · rw [oq] at e
      rw [e] at k4
      omega
  refine ⟨⟨s1, s2⟩, ?_, i3, i4, ?_, fun w hw => ⟨(i6 w hw).1, ?_⟩⟩
  · unfold q_SI
    rw [st _ _ (by omega), st _ _ (by omega), st _ _ (by omega), st _ _ (by omega)]
    exact i2
  · by_cases c : v = u
    · subst c
      rw [if_pos rfl]
      exact KP_x K H
    · rw [if_neg c]
      exact oth u p i5 (fun e => c e.symm)
  · obtain ⟨r, M⟩ := (i6 w hw).2
    by_cases c : w = v
    · subst c
      exact ⟨q, KP_x K H⟩
    · exact ⟨r, oth w r M c⟩
