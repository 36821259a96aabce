/-! rows of the world stay rows of the world (pure) -/
/-- the places that safety speaks of -/
def q_cr (j : Nat) : Prop := j = 1 ∨ j = 2 ∨ (28 ≤ j ∧ j ≤ 35) ∨ (44 ≤ j ∧ j ≤ 47) ∨ (112 ≤ j ∧ j < 192) ∨ (192 ≤ j ∧ j < 1592 ∧ (j - 192) % 14 ≤ 1)
/-- a row of the world; driver D may have one log entry more -/
def q_rD (r : Nat → Int) (nd nc ev : Int) (D : Nat) : Prop := (0 ≤ r 1 ∧ r 1 ≤ 100) ∧ (0 ≤ r 2 ∧ r 2 ≤ 200) ∧ (∀ d, d < 4 → -1 ≤ r (28 + d) ∧ r (28 + d) < r 1 ∧ -1 ≤ r (32 + d) ∧ r (32 + d) < r 1) ∧ (∀ d, d < 4 → 0 ≤ r (44 + d) ∧ r (44 + d) ≤ ev ∧ (d = D ∨ r (44 + d) < ev)) ∧ (∀ d k : Nat, d < 4 → (k : Int) < r (44 + d) → 0 ≤ r (112 + 20 * d + k) ∧ r (112 + 20 * d + k) < r 1) ∧ (∀ q : Nat, (q : Int) < r 1 → 0 ≤ r (192 + 14 * q) ∧ r (192 + 14 * q) < nd ∧ 0 ≤ r (193 + 14 * q) ∧ r (193 + 14 * q) < nc)
def sp_I (G : tx_G) (D : Nat) (s : sp_R) : Prop := q_rD s (G.1 0) (G.2.1.length : Int) (G.1 7) D ∧ (1 ≤ G.1 0 ∧ G.1 0 ≤ 4) ∧ (1 ≤ G.1 7 ∧ G.1 7 ≤ 20)
section RI
variable {G : tx_G} {D : Nat} {s s' : sp_R} {j : Nat} {v : Int}
theorem I_cg (h : ∀ j, q_cr j → s' j = s j) (hI : sp_I G D s) : sp_I G D s' := by
  obtain ⟨⟨b1, b2, b3, b4, b5, b6⟩, h4, h7⟩ := hI
  have h1 := h 1 (by unfold q_cr; omega)
  have h2 := h 2 (by unfold q_cr; omega)
  refine ⟨⟨by rw [h1]; exact b1, by rw [h2]; exact b2, fun d hd => ?_, fun d hd => ?_, fun d k hd hk => ?_, fun q hq => ?_⟩, h4, h7⟩
  · rw [h1, h (28 + d) (by unfold q_cr; omega), h (32 + d) (by unfold q_cr; omega)]
    exact b3 d hd
  · rw [h (44 + d) (by unfold q_cr; omega)]
    exact b4 d hd
  · rw [h (44 + d) (by unfold q_cr; omega)] at hk
    have := b4 d hd
    rw [h1, h (112 + 20 * d + k) (by unfold q_cr; omega)]
    exact b5 d k hd hk
  · rw [h1] at hq
    rw [h (192 + 14 * q) (by unfold q_cr; omega), h (193 + 14 * q) (by unfold q_cr; omega)]
    exact b6 q hq
theorem I_nc (hj : ¬ q_cr j) (hI : sp_I G D s) : sp_I G D (tx_u1 s j v) := I_cg (fun i hi => u1_n (fun e => hj (e ▸ hi))) hI
theorem I_2 (h0 : 0 ≤ v) (h2 : v ≤ 200) (hI : sp_I G D s) : sp_I G D (tx_u1 s 2 v) := by
  obtain ⟨⟨b1, b2, b3, b4, b5, b6⟩, h4, h7⟩ := hI
  have g : ∀ i, ¬ i = 2 → tx_u1 s 2 v i = s i := fun i hi => u1_n hi
  refine ⟨⟨?_, ?_, fun d hd => ?_, fun d hd => ?_, fun d k hd hk => ?_, fun q hq => ?_⟩, h4, h7⟩
  · rw [g 1 (by omega)]; exact b1
  · rw [u1_e]; exact ⟨h0, h2⟩
  · rw [g 1 (by omega), g (28 + d) (by omega), g (32 + d) (by omega)]; exact b3 d hd
  · rw [g (44 + d) (by omega)]; exact b4 d hd
  · rw [g (44 + d) (by omega)] at hk
    rw [g 1 (by omega), g (112 + 20 * d + k) (by omega)]; exact b5 d k hd hk
  · rw [g 1 (by omega)] at hq
    rw [g (192 + 14 * q) (by omega), g (193 + 14 * q) (by omega)]; exact b6 q hq
theorem I_fl (h0 : 28 ≤ j) (h1 : j ≤ 35) (h2 : -1 ≤ v) (h3 : v < s 1) (hI : sp_I G D s) : sp_I G D (tx_u1 s j v) := by
  obtain ⟨⟨b1, b2, b3, b4, b5, b6⟩, h4, h7⟩ := hI
  have g : ∀ i, ¬ i = j → tx_u1 s j v i = s i := fun i hi => u1_n hi
  have ge : tx_u1 s j v j = v := u1_e
  refine ⟨⟨?_, ?_, fun d hd => ?_, fun d hd => ?_, fun d k hd hk => ?_, fun q hq => ?_⟩, h4, h7⟩
  · rw [g 1 (by omega)]; exact b1
  · rw [g 2 (by omega)]; exact b2
  · have := b3 d hd
    rw [g 1 (by omega)]
    by_cases c1 : 28 + d = j
    · rw [c1, ge, g (32 + d) (by omega)]; omega
    · by_cases c2 : 32 + d = j
      · rw [c2, ge, g (28 + d) (by omega)]; omega
      · rw [g (28 + d) c1, g (32 + d) c2]; exact this
  · rw [g (44 + d) (by omega)]; exact b4 d hd
  · rw [g (44 + d) (by omega)] at hk
    rw [g 1 (by omega), g (112 + 20 * d + k) (by omega)]; exact b5 d k hd hk
  · rw [g 1 (by omega)] at hq
    rw [g (192 + 14 * q) (by omega), g (193 + 14 * q) (by omega)]; exact b6 q hq
/-- a log made empty -/
theorem I_l0 (h0 : 44 ≤ j) (h1 : j ≤ 47) (h3 : D = 4 ∨ 44 + D = j) (hI : sp_I G D s) : sp_I G 4 (tx_u1 s j 0) := by
  obtain ⟨⟨b1, b2, b3, b4, b5, b6⟩, h4, h7⟩ := hI
  have g : ∀ i, ¬ i = j → tx_u1 s j 0 i = s i := fun i hi => u1_n hi
  have ge : tx_u1 s j 0 j = 0 := u1_e
  refine ⟨⟨?_, ?_, fun d hd => ?_, fun d hd => ?_, fun d k hd hk => ?_, fun q hq => ?_⟩, h4, h7⟩
  · rw [g 1 (by omega)]; exact b1
  · rw [g 2 (by omega)]; exact b2
  · rw [g 1 (by omega), g (28 + d) (by omega), g (32 + d) (by omega)]; exact b3 d hd
  · have := b4 d hd
    by_cases c1 : 44 + d = j
    · rw [c1, ge]; omega
    · rw [g (44 + d) c1]; omega
  · have := b4 d hd
    by_cases c1 : 44 + d = j
    · rw [c1, ge] at hk; omega
    · rw [g (44 + d) c1] at hk
      rw [g 1 (by omega), g (112 + 20 * d + k) (by omega)]; exact b5 d k hd hk
  · rw [g 1 (by omega)] at hq
    rw [g (192 + 14 * q) (by omega), g (193 + 14 * q) (by omega)]; exact b6 q hq
/-- one log entry more -/
theorem I_lg {dr q : Int} (d0 : 0 ≤ dr) (d4 : dr < 4) (q0 : 0 ≤ q) (q1 : q < s 1) (hI : sp_I G 4 s) : sp_I G dr.toNat (sp_lg s dr q) := by
  obtain ⟨⟨b1, b2, b3, b4, b5, b6⟩, h4, h7⟩ := hI
  have bd := b4 dr.toNat (by omega)
  have ed : (44 + dr).toNat = 44 + dr.toNat := by omega
  unfold sp_lg
  rw [ed]
  have g : ∀ i, ¬ i = 44 + dr.toNat → ¬ i = (112 + 20 * dr + s (44 + dr.toNat)).toNat → tx_u1 (tx_u1 s (112 + 20 * dr + s (44 + dr.toNat)).toNat q) (44 + dr.toNat) (s (44 + dr.toNat) + 1) i = s i := fun i h1 h2 => (u1_n h1).trans (u1_n h2)
  have ge : tx_u1 (tx_u1 s (112 + 20 * dr + s (44 + dr.toNat)).toNat q) (44 + dr.toNat) (s (44 + dr.toNat) + 1) (44 + dr.toNat) = s (44 + dr.toNat) + 1 := u1_e
  have gq : tx_u1 (tx_u1 s (112 + 20 * dr + s (44 + dr.toNat)).toNat q) (44 + dr.toNat) (s (44 + dr.toNat) + 1) (112 + 20 * dr + s (44 + dr.toNat)).toNat = q := (u1_n (by omega)).trans u1_e
  refine ⟨⟨?_, ?_, fun d hd => ?_, fun d hd => ?_, fun d k hd hk => ?_, fun q hq => ?_⟩, h4, h7⟩
  · rw [g 1 (by omega) (by omega)]; exact b1
  · rw [g 2 (by omega) (by omega)]; exact b2
  · rw [g 1 (by omega) (by omega), g (28 + d) (by omega) (by omega), g (32 + d) (by omega) (by omega)]; exact b3 d hd
  · have := b4 d hd
    by_cases c1 : 44 + d = 44 + dr.toNat
    · rw [c1, ge]; omega
    · rw [g (44 + d) c1 (by omega)]; omega
  · have := b4 d hd
    rw [g 1 (by omega) (by omega)]
    by_cases c1 : 44 + d = 44 + dr.toNat
    · rw [c1, ge] at hk
      by_cases c2 : 112 + 20 * d + k = (112 + 20 * dr + s (44 + dr.toNat)).toNat
      · rw [c2, gq]; omega
      · rw [g _ (by omega) c2]
        refine b5 d k hd ?_
        rw [c1]
        omega
    · rw [g (44 + d) c1 (by omega)] at hk
      rw [g (112 + 20 * d + k) (by omega) (by omega)]
      exact b5 d k hd hk
  · rw [g 1 (by omega) (by omega)] at hq
    rw [g (192 + 14 * q) (by omega) (by omega), g (193 + 14 * q) (by omega) (by omega)]; exact b6 q hq
theorem I_D (h : s (44 + D) < G.1 7) (hI : sp_I G D s) : sp_I G 4 s := by
  obtain ⟨⟨b1, b2, b3, b4, b5, b6⟩, h4, h7⟩ := hI
  refine ⟨⟨b1, b2, b3, fun d hd => ?_, b5, b6⟩, h4, h7⟩
  have := b4 d hd
  by_cases e : d = D
  · subst e; omega
  · omega
theorem I_4 (hI : sp_I G 4 s) : sp_I G D s := by
  obtain ⟨⟨b1, b2, b3, b4, b5, b6⟩, h4, h7⟩ := hI
  exact ⟨⟨b1, b2, b3, fun d hd => by have := b4 d hd; omega, b5, b6⟩, h4, h7⟩
/-- what is known of a driver's numbers, of a request's, of the row's -/
theorem I_d {dr : Int} (hI : sp_I G D s) (d0 : 0 ≤ dr) (d4 : dr < 4) : (-1 ≤ s (28 + dr).toNat ∧ s (28 + dr).toNat < s 1) ∧ (-1 ≤ s (32 + dr).toNat ∧ s (32 + dr).toNat < s 1) ∧ (0 ≤ s (44 + dr).toNat ∧ s (44 + dr).toNat ≤ G.1 7 ∧ (dr.toNat = D ∨ s (44 + dr).toNat < G.1 7)) := by
  obtain ⟨⟨b1, b2, b3, b4, b5, b6⟩, h4, h7⟩ := hI
  have := b3 dr.toNat (by omega)
  have := b4 dr.toNat (by omega)
  rw [show (28 + dr).toNat = 28 + dr.toNat by omega, show (32 + dr).toNat = 32 + dr.toNat by omega, show (44 + dr).toNat = 44 + dr.toNat by omega]
  omega
theorem I_q {q : Int} (hI : sp_I G D s) (q0 : 0 ≤ q) (q1 : q < s 1) : (0 ≤ s (192 + 14 * q + 0).toNat ∧ s (192 + 14 * q + 0).toNat < G.1 0) ∧ (0 ≤ s (192 + 14 * q + 1).toNat ∧ s (192 + 14 * q + 1).toNat < (G.2.1.length : Int)) := by
  obtain ⟨⟨b1, b2, b3, b4, b5, b6⟩, h4, h7⟩ := hI
  have := b6 q.toNat (by omega)
  rw [show (192 + 14 * q + 0).toNat = 192 + 14 * q.toNat by omega, show (192 + 14 * q + 1).toNat = 193 + 14 * q.toNat by omega]
  omega
theorem I_l {dr k : Int} (hI : sp_I G D s) (d0 : 0 ≤ dr) (d4 : dr < 4) (k0 : 0 ≤ k) (k1 : k < s (44 + dr).toNat) : 0 ≤ s (112 + 20 * dr + k).toNat ∧ s (112 + 20 * dr + k).toNat < s 1 := by
  obtain ⟨⟨b1, b2, b3, b4, b5, b6⟩, h4, h7⟩ := hI
  rw [show (44 + dr).toNat = 44 + dr.toNat by omega] at k1
  have := b5 dr.toNat k.toNat (by omega) (by omega)
  rw [show (112 + 20 * dr + k).toNat = 112 + 20 * dr.toNat + k.toNat by omega]
  omega
theorem I_n (hI : sp_I G D s) : (0 ≤ s 1 ∧ s 1 ≤ 100) ∧ (0 ≤ s 2 ∧ s 2 ≤ 200) ∧ (1 ≤ G.1 0 ∧ G.1 0 ≤ 4) ∧ (1 ≤ G.1 7 ∧ G.1 7 ≤ 20) := ⟨hI.1.1, hI.1.2.1, hI.2.1, hI.2.2⟩
end RI
/-! the journal -/
section NO
variable {G : tx_G} {D : Nat} {s : sp_R} {ev dr q : Int}
theorem I_no (v0 : 0 ≤ ev) (v8 : ev ≤ 8) (hI : sp_I G D s) : sp_I G D (sp_no s ev dr q) ∧ sp_no s ev dr q 1 = s 1 := by
  have hc : sp_I G D (sp_ct s ev) := I_nc (by unfold q_cr; omega) hI
  have c2 : sp_ct s ev 2 = s 2 := u1_n (by omega)
  have c1 : sp_ct s ev 1 = s 1 := u1_n (by omega)
  have key : ∀ t : sp_R, sp_I G D t → t 2 ≤ 199 → t 1 = s 1 → sp_I G D (sp_ad t ev dr q) ∧ sp_ad t ev dr q 1 = s 1 := by
    intro t ht h2 h1
    have := (I_n ht).2.1
    unfold sp_ad
    refine ⟨I_2 (by omega) (by omega) (I_nc (by unfold q_cr; omega) (I_nc (by unfold q_cr; omega) (I_nc (by unfold q_cr; omega) (I_nc (by unfold q_cr; omega) ht)))), ?_⟩
    rw [u1_n (by omega), u1_n (by omega), u1_n (by omega), u1_n (by omega), u1_n (by omega)]
    exact h1
  unfold sp_no
  split
  · rename_i e
    refine key _ ?_ ?_ ?_
    · unfold sp_sh
      refine I_2 (by decide) (by decide) (I_cg (fun j hj => ?_) hc)
      rw [if_neg (by unfold q_cr at hj; omega)]
    · unfold sp_sh
      rw [u1_e]
      decide
    · unfold sp_sh
      rw [u1_n (by decide), if_neg (by decide)]
      exact c1
  · have := (I_n hI).2.1
    exact key _ hc (by omega) c1
end NO
