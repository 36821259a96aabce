/-! the class's state under new Worlds, copies, changes of its own cells -/
/-- ints of its own -/
theorem CI_I {ow : Nat → Nat} {h : m_H} {F F' : m_M} {u p : Nat} (I : q_CI ow h F u p) (f : ∀ x y, ¬ x = 0 → ¬ x = 1 → ¬ x = 133 → F' x y = F x y) (s : q_SI F') : q_CI ow h F' u p := by
  obtain ⟨i1, i2, i3, i4, i5, i6⟩ := I
  have o0 := i3 0 (by omega)
  have K : ∀ w r, KP ow h F w r → KP ow h F' w r := fun w r M => KP_0 M o0 (Nat.le_refl _) (CW_X M.2.2.1.1) (fun _ _ => ⟨rfl, rfl⟩) (fun _ _ => rfl) (fun _ _ _ _ => rfl) (fun x y hx h0 => f x y (fun e => h0 (i3 x (by omega))) (fun e => h0 (i3 x (by omega))) (fun e => h0 (i3 x (by omega))))
  exact ⟨i1, s, i3, i4, K u p i5, fun v hv => ⟨(i6 v hv).1, (i6 v hv).2.elim (fun r M => ⟨r, K v r M⟩)⟩⟩
/-- a reference of its own: one more World besides -/
theorem CI_R {ow : Nat → Nat} {h : m_H} {F : m_M} {u p a k v : Nat} (I : q_CI ow h F u p) (ha : (a = 134 ∧ k < 10) ∨ (a = 0 ∧ (k = 5 ∨ k = 7))) (ne : ¬ v = u) (M : KW ow h F v) : q_CI ow (m_setR h a k (some v)) F u p ∧ KW ow (m_setR h a k (some v)) F v := by
  obtain ⟨i1, i2, i3, i4, i5, i6⟩ := I
  have o0 := i3 0 (by omega)
  have K : ∀ w r, KP ow h F w r → KP ow (m_setR h a k (some v)) F w r := fun w r N => KP_0 N o0 (Nat.le_of_eq (h_n_setR _ _ _ _).symm) (by rw [h_n_setR]; exact CW_X N.2.2.1.1) (fun _ _ => ⟨rfl, rfl⟩) (fun _ _ => rfl) (fun x y hx h0 => sR_na (fun e => h0 (i3 x (by omega)))) (fun _ _ _ _ => rfl)
  have KK : ∀ w, KW ow h F w → KW ow (m_setR h a k (some v)) F w := fun w hw => hw.elim (fun r N => ⟨r, K w r N⟩)
  have eR : ∀ x y, ¬ (x = a ∧ y = k) → m_R (m_setR h a k (some v)) x y = m_R h x y := fun x y hx => by rw [h_R_setR, if_neg hx]
  obtain ⟨s1, k0, r00, k1, l1, r04, k133, r133, k134, l134⟩ := i1
  refine ⟨⟨⟨s1, k0, by rw [eR _ _ (by omega)]; exact r00, k1, l1, by rw [eR _ _ (by omega)]; exact r04, k133, by rw [eR _ _ (by omega)]; exact r133, k134, l134⟩, i2, i3, by rw [eR _ _ (by omega)]; exact i4, K u p i5, fun w hw => ?_⟩, KK v M⟩
  by_cases c : w = v
  · subst c
    exact ⟨ne, KK w M⟩
  · have hw' : q_O h w := by
      rcases hw with e | e | ⟨i, hi, e⟩
      · by_cases c9 : 0 = a ∧ 5 = k
        · obtain ⟨rfl, rfl⟩ := c9
          rw [sR_eq rfl rfl] at e
          exact absurd (Option.some.inj e).symm c
        · rw [eR _ _ c9] at e
          exact Or.inl e
      · by_cases c9 : 0 = a ∧ 7 = k
        · obtain ⟨rfl, rfl⟩ := c9
          rw [sR_eq rfl rfl] at e
          exact absurd (Option.some.inj e).symm c
        · rw [eR _ _ c9] at e
          exact Or.inr (Or.inl e)
      · by_cases c9 : 134 = a ∧ i = k
        · obtain ⟨rfl, rfl⟩ := c9
          rw [sR_eq rfl rfl] at e
          exact absurd (Option.some.inj e).symm c
        · rw [eR _ _ c9] at e
          exact Or.inr (Or.inr ⟨i, hi, e⟩)
    exact ⟨(i6 w hw').1, KK w (i6 w hw').2⟩
/-- a new World at the heap's end -/
theorem CI_nw {ow : Nat → Nat} {h h' : m_H} {F F' : m_M} {u p n : Nat} (I : q_CI ow h F u p) (hn : n = m_n h) (n9 : n ≤ 899000) (W : CW h' n (n + 1)) (up : m_R h' n 0 = some p) (G : q_gr (m_mk h 10 0 7) h' n 124 2736) (U : ∀ nd nc, q_u n (n + 1) nd nc F') (f : ∀ x y, x < n → F' x y = F x y) : q_CI (o_w ow n) h' F' u p ∧ KP (o_w ow n) h' F' n p ∧ q_sT h h' F F' 125 2743 ∧ ¬ n = u := by
  subst hn
  obtain ⟨i1, i2, i3, i4, i5, i6⟩ := I
  obtain ⟨⟨s1, s2⟩, k0, r00, k1, l1, r04, k133, r133, k134, l134⟩ := i1
  have N := KP_nw i5 rfl s1 W up G U f
  obtain ⟨g1, g2, g3, g4, g5⟩ := G
  rw [h_n_mk] at g1 g4 g5
  rw [h_c_mk] at g2
  rw [h_s_mk] at g3
  have hX : m_X = 1000000000 := rfl
  have o0 := i3 0 (by omega)
  have ek : ∀ x, x < m_n h → m_k h' x = m_k h x ∧ m_l h' x = m_l h x := fun x hx => by rw [(g4 x (by omega)).1, (g4 x (by omega)).2, hk_old (by omega), hl_old (by omega)]; exact ⟨rfl, rfl⟩
  have eR : ∀ x y, x < m_n h → m_R h' x y = m_R h x y := fun x y hx => by rw [g5 x y (by omega) (by omega), hR_old (by omega)]
  have K : ∀ w r, KP ow h F w r → KP (o_w ow (m_n h)) h' F' w r := fun w r M => KP_0 M o0 (by omega) (by omega) ek (fun x hx => o_lo hx) (fun x y hx _ => eR x y hx) (fun x y hx _ => f x y hx)
  have hu := (KP_n i5).1
  refine ⟨⟨⟨by omega, by rw [(ek _ (by omega)).1]; exact k0, by rw [eR _ _ (by omega)]; exact r00, by rw [(ek _ (by omega)).1]; exact k1, by rw [(ek _ (by omega)).2]; exact l1, by rw [eR _ _ (by omega)]; exact r04, by rw [(ek _ (by omega)).1]; exact k133, by rw [eR _ _ (by omega)]; exact r133, by rw [(ek _ (by omega)).1]; exact k134, by rw [(ek _ (by omega)).2]; exact l134⟩, ?_, fun x hx => by rw [o_lo (by omega)]; exact i3 x hx, by rw [eR _ _ (by omega)]; exact i4, K u p i5, fun w hw => ?_⟩, N, ⟨by omega, by omega, by omega, by omega, fun x h1 h2 => ⟨(ek x (by omega)).1, (ek x (by omega)).2, fun y => eR x y (by omega)⟩, fun x y h1 h2 => f x y (by omega)⟩, by omega⟩
  · unfold q_SI
    rw [f _ _ (by omega), f _ _ (by omega), f _ _ (by omega), f _ _ (by omega)]
    exact i2
  · have hw' : q_O h w := by
      rcases hw with e | e | ⟨i, hi, e⟩
      · rw [eR _ _ (by omega)] at e
        exact Or.inl e
      · rw [eR _ _ (by omega)] at e
        exact Or.inr (Or.inl e)
      · rw [eR _ _ (by omega)] at e
        exact Or.inr (Or.inr ⟨i, hi, e⟩)
    exact ⟨(i6 w hw').1, (i6 w hw').2.elim (fun r M => ⟨r, K w r M⟩)⟩
/-- a copy of x, with the program q, into v: v is the World at work, or another -/
theorem CI_cp {ow : Nat → Nat} {h : m_H} {F F' : m_M} {u p v x q r : Nat} (I : q_CI ow h F u p) (hv : v = u ∨ q_O h v) (V : KP ow h F v r) (N : KP ow h F x q) (ne : ¬ v = x) (U : q_u v (bo v) (F q 0) (F q 1) F') (f : ∀ x y, ¬ x = v → ¬ (bo v ≤ x ∧ x < bo v + 124) → F' x y = F x y) : q_CI ow (m_setR h v 0 (some q)) F' u (if v = u then q else p) ∧ KP ow (m_setR h v 0 (some q)) F' v q ∧ q_sT h (m_setR h v 0 (some q)) F F' 0 0 := by
  obtain ⟨i1, i2, i3, i4, i5, i6⟩ := I
  have o0 := i3 0 (by omega)
  have hb := bo_or v
  obtain ⟨Z1, Z2⟩ := KP_cp V N ne o0 U f
  have v1 := V.1.1
  have eR : ∀ x y, ¬ x = v → m_R (m_setR h v 0 (some q)) x y = m_R h x y := fun x y hx => sR_na hx
  obtain ⟨s1, k0, r00, k1, l1, r04, k133, r133, k134, l134⟩ := i1
  refine ⟨⟨⟨s1, k0, by rw [eR _ _ (by omega)]; exact r00, k1, l1, by rw [eR _ _ (by omega)]; exact r04, k133, by rw [eR _ _ (by omega)]; exact r133, k134, l134⟩, ?_, i3, by rw [eR _ _ (by omega)]; exact i4, ?_, fun w hw => ?_⟩, Z1, ⟨by rw [h_n_setR]; omega, by rw [h_n_setR]; omega, by rw [h_c_setR]; omega, by rw [h_s_setR]; omega, fun x h1 h2 => ⟨rfl, rfl, fun y => eR x y (by omega)⟩, fun x y h1 h2 => f x y (by omega) (by omega)⟩⟩
  · unfold q_SI
    rw [f _ _ (by omega) (by omega), f _ _ (by omega) (by omega), f _ _ (by omega) (by omega), f _ _ (by omega) (by omega)]
    exact i2
  · by_cases c : v = u
    · subst c
      rw [if_pos rfl]
      exact Z1
    · rw [if_neg c]
      exact Z2 u p i5 (fun e => c e.symm)
  · have hw' : q_O h w := by
      rcases hw with e | e | ⟨i, hi, e⟩
      · rw [eR _ _ (by omega)] at e
        exact Or.inl e
      · rw [eR _ _ (by omega)] at e
        exact Or.inr (Or.inl e)
      · rw [eR _ _ (by omega)] at e
        exact Or.inr (Or.inr ⟨i, hi, e⟩)
    refine ⟨(i6 w hw').1, ?_⟩
    by_cases c : w = v
    · subst c
      exact ⟨q, Z1⟩
    · exact (i6 w hw').2.elim (fun r M => ⟨r, Z2 w r M c⟩)
