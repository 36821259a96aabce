/-! a row of the world; driver D may have one log entry more -/
def q_rD (r : Nat → Int) (nd nc ev : Int) (D : Nat) : Prop := (0 ≤ r 1 ∧ r 1 ≤ 100) ∧ (0 ≤ r 2 ∧ r 2 ≤ 200) ∧ (∀ d, d < 4 → -1 ≤ r (28 + d) ∧ r (28 + d) < r 1 ∧ -1 ≤ r (32 + d) ∧ r (32 + d) < r 1) ∧ (∀ d, d < 4 → 0 ≤ r (44 + d) ∧ r (44 + d) ≤ ev ∧ (d = D ∨ r (44 + d) < ev)) ∧ (∀ d k : Nat, d < 4 → (k : Int) < r (44 + d) → 0 ≤ r (112 + 20 * d + k) ∧ r (112 + 20 * d + k) < r 1) ∧ (∀ q : Nat, (q : Int) < r 1 → 0 ≤ r (192 + 14 * q) ∧ r (192 + 14 * q) < nd ∧ 0 ≤ r (193 + 14 * q) ∧ r (193 + 14 * q) < nc)
theorem q_rD_rr {r : Nat → Int} {nd nc ev : Int} (h : q_rD r nd nc ev 4) : q_rr r nd nc ev := by
  obtain ⟨b1, b2, b3, b4, b5, b6⟩ := h
  exact ⟨b1, b2, b3, fun d hd => by have := b4 d hd; omega, b5, b6⟩
theorem q_rr_rD {r : Nat → Int} {nd nc ev : Int} {D : Nat} (h : q_rr r nd nc ev) : q_rD r nd nc ev D := by
  obtain ⟨b1, b2, b3, b4, b5, b6⟩ := h
  exact ⟨b1, b2, b3, fun d hd => by have := b4 d hd; omega, b5, b6⟩
/-- from F0 to F only row a changed (and the stack), and it is a row of the world with as many requests -/
def q_ww (a D : Nat) (F0 F : m_M) : Prop := (∀ x y, ¬ x = a → ¬ x = 153 → ¬ (x = 135 ∧ y = 36) → F x y = F0 x y) ∧ q_rD (F a) (F0 136 0) (F0 136 1) (F0 136 7) D ∧ F a 1 = F0 a 1 ∧ F0 136 7 ≤ 20
section UU
variable {a D : Nat} {F0 F F' : m_M} {j : Nat} {v : Int}
theorem ww_fr (h1 : ∀ x y, ¬ x = a → ¬ x = 153 → ¬ (x = 135 ∧ y = 36) → F' x y = F x y) (h2 : q_rD (F' a) (F0 136 0) (F0 136 1) (F0 136 7) D) (h3 : F' a 1 = F a 1) (hB : q_ww a D F0 F) : q_ww a D F0 F' :=
  ⟨fun x y x1 x2 x3 => (h1 x y x1 x2 x3).trans (hB.1 x y x1 x2 x3), h2, h3.trans hB.2.2.1, hB.2.2.2⟩
theorem rD_cg {r r' : Nat → Int} {nd nc ev : Int} (he : ev ≤ 20) (h : ∀ j, q_cr j → r' j = r j) (hq : q_rD r nd nc ev D) : q_rD r' nd nc ev D := by
  obtain ⟨b1, b2, b3, b4, b5, b6⟩ := hq
  have h1 := h 1 (by unfold q_cr; omega)
  have h2 := h 2 (by unfold q_cr; omega)
  refine ⟨by rw [h1]; exact b1, by rw [h2]; exact b2, fun d hd => ?_, fun d hd => ?_, fun d k hd hk => ?_, fun q hq => ?_⟩
  · rw [h1, h (28 + d) (by unfold q_cr; omega), h (32 + d) (by unfold q_cr; omega)]
    exact b3 d hd
  · rw [h (44 + d) (by unfold q_cr; omega)]
    exact b4 d hd
  · rw [h (44 + d) (by unfold q_cr; omega)] at hk
    have := b4 d hd
    rw [h1, h (112 + 20 * d + k) (by unfold q_cr; omega)]
    exact b5 d k hd hk
  · rw [h1] at hq
    rw [h (192 + 14 * q) (by unfold q_cr; omega), h (193 + 14 * q) (by unfold q_cr; omega)]
    exact b6 q hq
theorem uu_wg (hB : q_ww a D F0 F) (h : q_wg a F F') : q_ww a D F0 F' := ww_fr h.1 (rD_cg hB.2.2.2 h.2 hB.2.1) (h.2 1 (by unfold q_cr; omega)) hB
theorem uu_nc (hj : ¬ q_cr j) (hB : q_ww a D F0 F) : q_ww a D F0 (m_up F a j v) := by
  refine uu_wg hB ⟨fun x y x1 x2 x3 => up_na x1, fun i hi => up_nk (fun e => hj (e ▸ hi))⟩
theorem uu_2 (h0 : 0 ≤ v) (h2 : v ≤ 200) (hB : q_ww a D F0 F) : q_ww a D F0 (m_up F a 2 v) := by
  obtain ⟨b1, b2, b3, b4, b5, b6⟩ := hB.2.1
  have g : ∀ j, ¬ j = 2 → m_up F a 2 v a j = F a j := fun j hj => up_nk hj
  refine ww_fr (fun x y x1 x2 x3 => up_na x1) ⟨?_, ?_, fun d hd => ?_, fun d hd => ?_, fun d k hd hk => ?_, fun q hq => ?_⟩ (g 1 (by omega)) hB
  · rw [g 1 (by omega)]; exact b1
  · rw [up_eq rfl rfl]; exact ⟨h0, h2⟩
  · rw [g 1 (by omega), g (28 + d) (by omega), g (32 + d) (by omega)]; exact b3 d hd
  · rw [g (44 + d) (by omega)]; exact b4 d hd
  · rw [g (44 + d) (by omega)] at hk
    rw [g 1 (by omega), g (112 + 20 * d + k) (by omega)]; exact b5 d k hd hk
  · rw [g 1 (by omega)] at hq
    rw [g (192 + 14 * q) (by omega), g (193 + 14 * q) (by omega)]; exact b6 q hq
theorem uu_fl (h0 : 28 ≤ j) (h1 : j ≤ 35) (h2 : -1 ≤ v) (h3 : v < F0 a 1) (hB : q_ww a D F0 F) : q_ww a D F0 (m_up F a j v) := by
  have e1 := hB.2.2.1
  obtain ⟨b1, b2, b3, b4, b5, b6⟩ := hB.2.1
  have g : ∀ i, ¬ i = j → m_up F a j v a i = F a i := fun i hi => up_nk hi
  refine ww_fr (fun x y x1 x2 x3 => up_na x1) ⟨?_, ?_, fun d hd => ?_, fun d hd => ?_, fun d k hd hk => ?_, fun q hq => ?_⟩ (g 1 (by omega)) hB
  · rw [g 1 (by omega)]; exact b1
  · rw [g 2 (by omega)]; exact b2
  · have := b3 d hd
    rw [g 1 (by omega)]
    by_cases c1 : 28 + d = j
    · rw [up_eq rfl c1, g (32 + d) (by omega)]; omega
    · by_cases c2 : 32 + d = j
      · rw [up_eq rfl c2, g (28 + d) (by omega)]; omega
      · rw [g (28 + d) c1, g (32 + d) c2]; exact this
  · rw [g (44 + d) (by omega)]; exact b4 d hd
  · rw [g (44 + d) (by omega)] at hk
    rw [g 1 (by omega), g (112 + 20 * d + k) (by omega)]; exact b5 d k hd hk
  · rw [g 1 (by omega)] at hq
    rw [g (192 + 14 * q) (by omega), g (193 + 14 * q) (by omega)]; exact b6 q hq
/-- a log made empty -/
theorem uu_l0 (h0 : 44 ≤ j) (h1 : j ≤ 47) (h2 : 1 ≤ F0 136 7) (h3 : D = 4 ∨ 44 + D = j) (hB : q_ww a D F0 F) : q_ww a 4 F0 (m_up F a j 0) := by
  have e1 := hB.2.2.1
  obtain ⟨b1, b2, b3, b4, b5, b6⟩ := hB.2.1
  have g : ∀ i, ¬ i = j → m_up F a j 0 a i = F a i := fun i hi => up_nk hi
  refine ⟨fun x y x1 x2 x3 => (up_na x1).trans (hB.1 x y x1 x2 x3), ⟨?_, ?_, fun d hd => ?_, fun d hd => ?_, fun d k hd hk => ?_, fun q hq => ?_⟩, (g 1 (by omega)).trans e1, hB.2.2.2⟩
  · rw [g 1 (by omega)]; exact b1
  · rw [g 2 (by omega)]; exact b2
  · rw [g 1 (by omega), g (28 + d) (by omega), g (32 + d) (by omega)]; exact b3 d hd
  · have := b4 d hd
    by_cases c1 : 44 + d = j
    · rw [up_eq rfl c1]; omega
    · rw [g (44 + d) c1]; omega
  · have := b4 d hd
    have := hB.2.2.2
    by_cases c1 : 44 + d = j
    · rw [up_eq rfl c1] at hk; omega
    · rw [g (44 + d) c1] at hk
      rw [g 1 (by omega), g (112 + 20 * d + k) (by omega)]; exact b5 d k hd hk
  · rw [g 1 (by omega)] at hq
    rw [g (192 + 14 * q) (by omega), g (193 + 14 * q) (by omega)]; exact b6 q hq
/-- one log entry more -/
theorem uu_lg {dr q : Int} (d0 : 0 ≤ dr) (d4 : dr < 4) (q0 : 0 ≤ q) (q1 : q < F0 a 1) (hB : q_ww a 4 F0 F) : q_ww a dr.toNat F0 (m_up (m_up F a (44 + dr).toNat (F a (44 + dr).toNat + 1)) a (112 + 20 * dr + F a (44 + dr).toNat).toNat q) := by
  have e1 := hB.2.2.1
  have e20 := hB.2.2.2
  obtain ⟨b1, b2, b3, b4, b5, b6⟩ := hB.2.1
  have bd := b4 dr.toNat (by omega)
  have ed : (44 + dr).toNat = 44 + dr.toNat := by omega
  rw [ed]
  have g : ∀ i, ¬ i = 44 + dr.toNat → ¬ i = (112 + 20 * dr + F a (44 + dr.toNat)).toNat → m_up (m_up F a (44 + dr.toNat) (F a (44 + dr.toNat) + 1)) a (112 + 20 * dr + F a (44 + dr.toNat)).toNat q a i = F a i := fun i h1 h2 => (up_nk h2).trans (up_nk h1)
  refine ⟨fun x y x1 x2 x3 => ((up_na x1).trans (up_na x1)).trans (hB.1 x y x1 x2 x3), ⟨?_, ?_, fun d hd => ?_, fun d hd => ?_, fun d k hd hk => ?_, fun q hq => ?_⟩, (g 1 (by omega) (by omega)).trans e1, hB.2.2.2⟩
  · rw [g 1 (by omega) (by omega)]; exact b1
  · rw [g 2 (by omega) (by omega)]; exact b2
  · rw [g 1 (by omega) (by omega), g (28 + d) (by omega) (by omega), g (32 + d) (by omega) (by omega)]; exact b3 d hd
  · have := b4 d hd
    by_cases c1 : 44 + d = 44 + dr.toNat
    · rw [up_nk (by omega), up_eq rfl c1]; omega
    · rw [g (44 + d) c1 (by omega)]; omega
  · have := b4 d hd
    rw [g 1 (by omega) (by omega)]
    by_cases c1 : 44 + d = 44 + dr.toNat
    · rw [up_nk (by omega), up_eq rfl c1] at hk
      by_cases c2 : 112 + 20 * d + k = (112 + 20 * dr + F a (44 + dr.toNat)).toNat
      · rw [up_eq rfl c2]; omega
      · rw [up_nk c2, up_nk (by omega)]
        refine b5 d k hd ?_
        rw [c1]
        omega
    · rw [g (44 + d) c1 (by omega)] at hk
      rw [g (112 + 20 * d + k) (by omega) (by omega)]
      exact b5 d k hd hk
  · rw [g 1 (by omega) (by omega)] at hq
    rw [g (192 + 14 * q) (by omega) (by omega), g (193 + 14 * q) (by omega) (by omega)]; exact b6 q hq
theorem ww_D (h : F a (44 + D) < F0 136 7) (hB : q_ww a D F0 F) : q_ww a 4 F0 F := by
  obtain ⟨b0, ⟨b1, b2, b3, b4, b5, b6⟩, c1, c2⟩ := hB
  refine ⟨b0, ⟨b1, b2, b3, fun d hd => ?_, b5, b6⟩, c1, c2⟩
  have := b4 d hd
  by_cases e : d = D
  · subst e; omega
  · omega
/-- what is known of a driver's numbers, and of a request's -/
theorem ww_d {dr : Int} (hB : q_ww a D F0 F) (d0 : 0 ≤ dr) (d4 : dr < 4) : (-1 ≤ F a (28 + dr).toNat ∧ F a (28 + dr).toNat < F0 a 1) ∧ (-1 ≤ F a (32 + dr).toNat ∧ F a (32 + dr).toNat < F0 a 1) ∧ (0 ≤ F a (44 + dr).toNat ∧ F a (44 + dr).toNat ≤ F0 136 7 ∧ (dr.toNat = D ∨ F a (44 + dr).toNat < F0 136 7)) := by
  have e1 := hB.2.2.1
  obtain ⟨b1, b2, b3, b4, b5, b6⟩ := hB.2.1
  have := b3 dr.toNat (by omega)
  have := b4 dr.toNat (by omega)
  rw [show (28 + dr).toNat = 28 + dr.toNat by omega, show (32 + dr).toNat = 32 + dr.toNat by omega, show (44 + dr).toNat = 44 + dr.toNat by omega]
  omega
theorem ww_q {q : Int} (hB : q_ww a D F0 F) (q0 : 0 ≤ q) (q1 : q < F0 a 1) : (0 ≤ F a (192 + 14 * q + 0).toNat ∧ F a (192 + 14 * q + 0).toNat < F0 136 0) ∧ (0 ≤ F a (192 + 14 * q + 1).toNat ∧ F a (192 + 14 * q + 1).toNat < F0 136 1) := by
  have e1 := hB.2.2.1
  obtain ⟨b1, b2, b3, b4, b5, b6⟩ := hB.2.1
  have := b6 q.toNat (by omega)
  rw [show (192 + 14 * q + 0).toNat = 192 + 14 * q.toNat by omega, show (192 + 14 * q + 1).toNat = 193 + 14 * q.toNat by omega]
  omega
theorem ww_l {dr k : Int} (hB : q_ww a D F0 F) (d0 : 0 ≤ dr) (d4 : dr < 4) (k0 : 0 ≤ k) (k1 : k < F a (44 + dr).toNat) : 0 ≤ F a (112 + 20 * dr + k).toNat ∧ F a (112 + 20 * dr + k).toNat < F0 a 1 := by
  have e1 := hB.2.2.1
  obtain ⟨b1, b2, b3, b4, b5, b6⟩ := hB.2.1
  rw [show (44 + dr).toNat = 44 + dr.toNat by omega] at k1
  have := b5 dr.toNat k.toNat (by omega) (by omega)
  rw [show (112 + 20 * dr + k).toNat = 112 + 20 * dr.toNat + k.toNat by omega]
  omega
theorem ww_n (hB : q_ww a D F0 F) (ha : a = 147 ∨ a = 148) : (0 ≤ F a 1 ∧ F a 1 ≤ 100 ∧ F a 1 = F0 a 1) ∧ (0 ≤ F a 2 ∧ F a 2 ≤ 200) ∧ (∀ j, F 136 j = F0 136 j) := by
  obtain ⟨b1, b2, b3, b4, b5, b6⟩ := hB.2.1
  exact ⟨⟨b1.1, b1.2, hB.2.2.1⟩, b2, fun j => hB.1 136 j (by omega) (by omega) (by omega)⟩
theorem ww_co {c : Int} (hc : q_cd F0) (hB : q_ww a D F0 F) (ha : a = 147 ∨ a = 148) (c0 : 0 ≤ c) (c1 : c < F0 136 1) : q_co 0 c.toNat 900 F :=
  q_co_fr (fun x y1 y2 => hB.1 x _ (by omega) (by omega) (by omega)) (fun j _ => hB.1 144 j (by omega) (by omega) (by omega)) (Int.le_refl _) (hc.2.1 c.toNat (by omega))
end UU
