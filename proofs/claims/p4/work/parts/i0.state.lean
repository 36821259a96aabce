/-! what lies between calls, as both sides have it (pure) -/
/-- program, row, history, kept row, text and its length, place of the first error -/
abbrev q_A : Type := tx_G × sp_R × (Nat × (Nat → sp_R)) × (Bool × sp_R) × ((Nat → Int) × Nat) × Int
def aG (A : q_A) : tx_G := A.1
def aS (A : q_A) : sp_R := A.2.1
def aN (A : q_A) : Nat := A.2.2.1.1
def aH (A : q_A) : Nat → sp_R := A.2.2.1.2
def aK (A : q_A) : Bool := A.2.2.2.1.1
def aR (A : q_A) : sp_R := A.2.2.2.1.2
def aB (A : q_A) : Nat → Int := A.2.2.2.2.1.1
def aF (A : q_A) : Nat := A.2.2.2.2.1.2
def aE (A : q_A) : Int := A.2.2.2.2.2
abbrev is_D (A : q_A) (x : Int) : Prop := 0 ≤ x ∧ x < (aG A).1 0
abbrev is_C (A : q_A) (x : Int) : Prop := 0 ≤ x ∧ x < ((aG A).2.1.length : Int)
abbrev is_Q (A : q_A) (x : Int) : Prop := 0 ≤ x ∧ x < aS A 1
/-- a row remembered: at most ten -/
def a_hp (A : q_A) : Nat × (Nat → sp_R) := if aN A = 10 then (10, fun i => if i = 9 then aS A else aH A (i + 1)) else (aN A + 1, fun i => if i = aN A then aS A else aH A i)
/-- an operation: the row is remembered, then changed -/
def a_op (A : q_A) (s : sp_R) : q_A := (aG A, s, a_hp A, A.2.2.2)
/-- a row of the world, of small numbers -/
def q_row (G : tx_G) (B : Int) (s : sp_R) : Prop := sp_I G 4 s ∧ sp_B B s ∧ s 0 ≤ 1000000 ∧ ∀ k, 2392 ≤ k → s k = 0
/-- all is in order -/
def q_ok (B : Int) (A : q_A) : Prop := q_gd (aG A) ∧ q_row (aG A) B (aS A) ∧ (aN A ≤ 10 ∧ ∀ i, i < aN A → q_row (aG A) B (aH A i)) ∧ (aK A = true → q_row (aG A) B (aR A)) ∧ aF A ≤ 900
theorem row_m {G : tx_G} {B B' : Int} {s : sp_R} (h : B ≤ B') (r : q_row G B s) : q_row G B' s := ⟨r.1, B_m h r.2.1, r.2.2⟩
theorem row_J {G : tx_G} {B : Int} {s : sp_R} (r : q_row G B s) : sp_J G B (s 1) s := ⟨r.1, rfl, r.2.1⟩
theorem ok_m {B B' : Int} {A : q_A} (h : B ≤ B') (k : q_ok B A) : q_ok B' A := ⟨k.1, row_m h k.2.1, ⟨k.2.2.1.1, fun i hi => row_m h (k.2.2.1.2 i hi)⟩, fun e => row_m h (k.2.2.2.1 e), k.2.2.2.2⟩
theorem ok_op {B B' : Int} {A : q_A} {s : sp_R} (h : B ≤ B') (k : q_ok B A) (r : q_row (aG A) B' s) : q_ok B' (a_op A s) := by
  have k9 := ok_m h k
  refine ⟨k9.1, r, ?_, k9.2.2.2.1, k9.2.2.2.2⟩
  show (a_hp A).1 ≤ 10 ∧ ∀ i, i < (a_hp A).1 → q_row (aG A) B' ((a_hp A).2 i)
  unfold a_hp
  split
  · refine ⟨Nat.le_refl _, fun i hi => ?_⟩
    show q_row (aG A) B' (if i = 9 then aS A else aH A (i + 1))
    split
    · exact k9.2.1
    · exact k9.2.2.1.2 _ (by omega)
  · have := k9.2.2.1.1
    refine ⟨by show aN A + 1 ≤ 10; omega, fun i hi => ?_⟩
    have hi : i < aN A + 1 := hi
    show q_row (aG A) B' (if i = aN A then aS A else aH A i)
    split
    · exact k9.2.1
    · exact k9.2.2.1.2 _ (by omega)
/-- rows that agree -/
theorem row_eq {G : tx_G} {B : Int} {s : sp_R} {f : Nat → Int} (r : q_row G B s) (h : ∀ k, f k = if k < 2392 then s k else 0) : f = s := by
  funext k
  rw [h k]
  split
  · rfl
  · exact (r.2.2.2 k (by omega)).symm
/-! answers: whether it throws (0: not), and the value -/
def v_if (c : Prop) [Decidable c] (v : Int) : Int × Int := if c then (0, v) else (1, 0)
theorem v_y {c : Prop} [Decidable c] {v : Int} (h : c) : v_if c v = (0, v) := if_pos h
theorem v_n {c : Prop} [Decidable c] {v : Int} (h : ¬ c) : v_if c v = (1, 0) := if_neg h
def v_dU (s : sp_R) (x : Int) : Int := if s (12 + x).toNat = 1 then s (16 + x).toNat else -1
def v_lg (s : sp_R) (x i : Int) : Int := if i < s (44 + x).toNat then s (112 + 20 * x + i).toNat else -1
def v_lf (s : sp_R) (q : Int) : Int := if s (12 + sp_o s q 0).toNat = 0 ∧ s (32 + sp_o s q 0).toNat = q then s (36 + sp_o s q 0).toNat else 0
def v_rq (s : sp_R) (q y : Int) : Int := if y < 11 then sp_o s q y else if 11 < y then (if y = 14 ∧ sp_o s q 6 < 2 then -1 else sp_o s q (y - 1)) else v_lf s q
def v_tt (s : sp_R) (x : Int) : Int := if 0 ≤ x ∧ x ≤ 8 then s (3 + x).toNat else -1
def v_dc (G : tx_G) (s : sp_R) (q : Int) : Int := if sp_o s q 6 = 1 then (if sp_c G (sp_o s q 1) 1 = 2 then 2 else if sp_c G (sp_o s q 1) 1 = 3 ∧ sp_v (sp_xt G s q) = 1 then 1 else 0) else -1
/-! THE REFERENCE BETWEEN CALLS -/
def q_bg (F : m_M) : Prop := (0 ≤ F 135 19 ∧ F 135 19 ≤ 900) ∧ (∀ k, k < 900 → 0 ≤ F 151 k ∧ F 151 k ≤ 255) ∧ (0 ≤ F 135 24 ∧ F 135 24 ≤ 1000000)
def q_RX (F : m_M) (A : q_A) : Prop := q_bg F ∧ q_pR F (aG A) ∧ F 147 = aS A ∧ (F 135 17 = (aN A : Int) ∧ ∀ i, i < aN A → ∀ k, k < 2392 → F 150 (2392 * i + k) = aH A i k) ∧ (F 135 16 = (if aK A = true then 1 else 0) ∧ (aK A = true → ∀ k, k < 2392 → F 149 k = aR A k)) ∧ (F 151 = aB A ∧ F 135 19 = (aF A : Int)) ∧ F 135 27 = aE A ∧ ∀ k, 2392 ≤ k → F 148 k = 0
/-- the places that it speaks of -/
def q_rx (x y : Nat) : Prop := (136 ≤ x ∧ x ≤ 144) ∨ x = 147 ∨ (x = 148 ∧ 2392 ≤ y) ∨ x = 149 ∨ x = 150 ∨ x = 151 ∨ (x = 135 ∧ (y = 16 ∨ y = 17 ∨ y = 19 ∨ y = 24 ∨ y = 27))
theorem pR_cg {F F' : m_M} {G : tx_G} (e : ∀ x y, 136 ≤ x → x ≤ 144 → F' x y = F x y) (P : q_pR F G) : q_pR F' G := by
  obtain ⟨⟨p0, p2, p3, p4, p5, p6, p7, p8⟩, p1, p9, pc, pl, pk⟩ := P
  refine ⟨⟨?_, ?_, ?_, ?_, ?_, ?_, ?_, ?_⟩, ?_, p9, fun i c hc => ?_, pl, fun k hk => ?_⟩
  · rw [e 136 0 (by decide) (by decide)]; exact p0
  · rw [e 136 2 (by decide) (by decide)]; exact p2
  · rw [e 136 3 (by decide) (by decide)]; exact p3
  · rw [e 136 4 (by decide) (by decide)]; exact p4
  · rw [e 136 5 (by decide) (by decide)]; exact p5
  · rw [e 136 6 (by decide) (by decide)]; exact p6
  · rw [e 136 7 (by decide) (by decide)]; exact p7
  · rw [e 136 8 (by decide) (by decide)]; exact p8
  · rw [e 136 1 (by decide) (by decide)]; exact p1
  · rw [e 137 i (by decide) (by decide), e 138 i (by decide) (by decide), e 143 i (by decide) (by decide), e 139 i (by decide) (by decide), e 140 i (by decide) (by decide), e 141 i (by decide) (by decide), e 142 i (by decide) (by decide)]
    exact pc i c hc
  · rw [e 144 k (by decide) (by decide)]
    exact pk k hk
theorem bf_cg {F F' : m_M} (f : ∀ x y, (x = 151 ∨ (x = 135 ∧ (y = 19 ∨ y = 24))) → F' x y = F x y) (b : q_bg F) : q_bg F' := by
  obtain ⟨b1, b2, b3⟩ := b
  exact ⟨by rw [f 135 19 (by omega)]; exact b1, fun k hk => by rw [f 151 k (by omega)]; exact b2 k hk, by rw [f 135 24 (by omega)]; exact b3⟩
theorem RX_fr {F F' : m_M} {A : q_A} (f : ∀ x y, q_rx x y → F' x y = F x y) (X : q_RX F A) : q_RX F' A := by
  obtain ⟨a1, a2, a3, ⟨a4, a5⟩, ⟨a6, a7⟩, ⟨a8, a9⟩, a10, a11⟩ := X
  have g : ∀ a, 136 ≤ a → a ≤ 151 → ¬ a = 145 → ¬ a = 146 → ¬ a = 148 → F' a = F a := fun a h1 h2 h3 h4 h5 => funext fun k => f a k (by unfold q_rx; omega)
  have g5 : ∀ y, (y = 16 ∨ y = 17 ∨ y = 19 ∨ y = 24 ∨ y = 27) → F' 135 y = F 135 y := fun y h => f 135 y (by unfold q_rx; omega)
  refine ⟨bf_cg (fun x y h => f x y (by unfold q_rx; omega)) a1, pR_cg (fun x y h1 h2 => f x y (by unfold q_rx; omega)) a2, (g 147 (by omega) (by omega) (by omega) (by omega) (by omega)).trans a3, ⟨(g5 17 (by omega)).trans a4, fun i hi k hk => ?_⟩, ⟨(g5 16 (by omega)).trans a6, fun e k hk => ?_⟩, ⟨(g 151 (by omega) (by omega) (by omega) (by omega) (by omega)).trans a8, (g5 19 (by omega)).trans a9⟩, (g5 27 (by omega)).trans a10, fun k hk => (f 148 k (by unfold q_rx; omega)).trans (a11 k hk)⟩
  · rw [g 150 (by omega) (by omega) (by omega) (by omega) (by omega)]
    exact a5 i hi k hk
  · rw [g 149 (by omega) (by omega) (by omega) (by omega) (by omega)]
    exact a7 e k hk
/-- the row in force changed, by a change of row 147 alone -/
theorem RX_s {F F' : m_M} {A : q_A} {s : sp_R} (f : sp_f 147 F F') (hs : F' 147 = s) (X : q_RX F A) : q_RX F' (aG A, s, A.2.2) := by
  obtain ⟨a1, a2, a3, ⟨a4, a5⟩, ⟨a6, a7⟩, ⟨a8, a9⟩, a10, a11⟩ := X
  have g : ∀ a, ¬ a = 147 → ¬ a = 153 → ¬ a = 135 → F' a = F a := fun a h1 h2 h3 => funext fun k => f a k h1 h2 (by omega)
  have g5 : ∀ y, ¬ y = 36 → F' 135 y = F 135 y := fun y h => f 135 y (by omega) (by omega) (by omega)
  refine ⟨bf_cg (fun x y h => f x y (by omega) (by omega) (by omega)) a1, pR_cg (fun x y h1 h2 => f x y (by omega) (by omega) (by omega)) a2, hs, ⟨(g5 17 (by omega)).trans a4, fun i hi k hk => ?_⟩, ⟨(g5 16 (by omega)).trans a6, fun e k hk => ?_⟩, ⟨(g 151 (by omega) (by omega) (by omega)).trans a8, (g5 19 (by omega)).trans a9⟩, (g5 27 (by omega)).trans a10, fun k hk => (f 148 k (by omega) (by omega) (by omega)).trans (a11 k hk)⟩
  · rw [g 150 (by omega) (by omega) (by omega)]
    exact a5 i hi k hk
  · rw [g 149 (by omega) (by omega) (by omega)]
    exact a7 e k hk
theorem f_xf {a : Nat} {F F' : m_M} (ha : a = 147 ∨ a = 148) (f : sp_f a F F') : q_xf F F' := fun x y hxy => f x y (by omega) (by omega) (by omega)
theorem A_e {A : q_A} : (aG A, aS A, A.2.2) = A := rfl
