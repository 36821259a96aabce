/-! READING, as both sides have it: bytes b, n of them; tokens by the place where they begin -/
def tx_L (c : Int) : Bool := decide (97 ≤ c) && decide (c ≤ 122)
def tx_D (c : Int) : Bool := decide (48 ≤ c) && decide (c ≤ 57)
def tx_S (c : Int) : Bool := decide (c = 32) || decide (c = 10)
theorem tx_L_iff {c : Int} : tx_L c = true ↔ 97 ≤ c ∧ c ≤ 122 := by unfold tx_L; simp
theorem tx_D_iff {c : Int} : tx_D c = true ↔ 48 ≤ c ∧ c ≤ 57 := by unfold tx_D; simp
theorem tx_S_iff {c : Int} : tx_S c = true ↔ c = 32 ∨ c = 10 := by unfold tx_S; simp
/-- from p on, while the bytes are such -/
def tx_run (P : Int → Bool) (b : Nat → Int) (n : Nat) : Nat → Nat → Nat
  | 0, p => p
  | f + 1, p => if p < n ∧ P (b p) = true then tx_run P b n f (p + 1) else p
def tx_w (P : Int → Bool) (b : Nat → Int) (n p : Nat) : Nat := tx_run P b n (n - p) p
section TXW
variable {P : Int → Bool} {b : Nat → Int} {n p : Nat}
theorem tx_w_go (h1 : p < n) (h2 : P (b p) = true) : tx_w P b n p = tx_w P b n (p + 1) := by
  unfold tx_w
  obtain ⟨k, hk⟩ : ∃ k, n - p = k + 1 := ⟨n - p - 1, by omega⟩
  rw [hk, show n - (p + 1) = k by omega]
  exact if_pos ⟨h1, h2⟩
theorem tx_w_no (h : ¬ (p < n ∧ P (b p) = true)) : tx_w P b n p = p := by
  unfold tx_w
  cases hk : n - p with
  | zero => rfl
  | succ k => exact if_neg h
theorem tx_run_ge : ∀ (f p : Nat), p ≤ tx_run P b n f p
  | 0, p => Nat.le_refl p
  | f + 1, p => by
    unfold tx_run
    split
    · exact Nat.le_trans (Nat.le_succ p) (tx_run_ge f (p + 1))
    · exact Nat.le_refl p
theorem tx_run_le : ∀ (f p : Nat), p ≤ n → tx_run P b n f p ≤ n
  | 0, p, h => h
  | f + 1, p, h => by
    unfold tx_run
    split
    · next w => exact tx_run_le f (p + 1) w.1
    · exact h
theorem tx_w_ge : p ≤ tx_w P b n p := tx_run_ge _ _
theorem tx_w_le (h : p ≤ n) : tx_w P b n p ≤ n := tx_run_le _ _ h
theorem tx_run_in : ∀ (f p q : Nat), p ≤ q → q < tx_run P b n f p → q < n ∧ P (b q) = true
  | 0, p, q, h1, h2 => absurd h2 (Nat.not_lt.mpr h1)
  | f + 1, p, q, h1, h2 => by
    unfold tx_run at h2
    split at h2
    · next w =>
      by_cases e : p = q
      · subst e; exact w
      · exact tx_run_in f (p + 1) q (by omega) h2
    · omega
theorem tx_w_in {q : Nat} (h1 : p ≤ q) (h2 : q < tx_w P b n p) : q < n ∧ P (b q) = true := tx_run_in _ _ _ h1 h2
theorem tx_run_st : ∀ (f p : Nat), n - p ≤ f → ¬ (tx_run P b n f p < n ∧ P (b (tx_run P b n f p)) = true)
  | 0, p, h => fun w => by
    have : tx_run P b n 0 p = p := rfl
    rw [this] at w
    omega
  | f + 1, p, h => by
    unfold tx_run
    split
    · exact tx_run_st f (p + 1) (by omega)
    · next w => exact w
theorem tx_w_st : ¬ (tx_w P b n p < n ∧ P (b (tx_w P b n p)) = true) := tx_run_st _ _ (Nat.le_refl _)
end TXW
/-- the next token's place; a token's end; the place behind it -/
def tx_sk (b : Nat → Int) (n p : Nat) : Nat := tx_w tx_S b n p
def tx_te (b : Nat → Int) (n p : Nat) : Nat := if tx_L (b p) = true then tx_w tx_L b n p else if tx_D (b p) = true then tx_w tx_D b n p else p + 1
def tx_nx (b : Nat → Int) (n p : Nat) : Nat := tx_sk b n (tx_te b n p)
/-- a token's kind: 0 the end, 1 a word, 2 a number, 3 a sign -/
def tx_k (b : Nat → Int) (n p : Nat) : Int := if n ≤ p then 0 else if tx_L (b p) = true then 1 else if tx_D (b p) = true then 2 else 3
def tx_nr (b : Nat → Int) : Nat → Nat → Int → Int
  | 0, _, t => t
  | k + 1, p, t => tx_nr b k (p + 1) (if 99999 < t then 1000000 else 10 * t + b p - 48)
/-- a number's value -/
def tx_nv (b : Nat → Int) (n p : Nat) : Int := tx_nr b (tx_te b n p - p) p 0
/-- which of the quoted words it is, as a constant's number -/
def tx_wd (b : Nat → Int) (n p : Nat) : Option Nat := if p < n ∧ tx_L (b p) = true then p_find (fun k => Int32.ofInt (b k)) 0 (Int32.ofNat p) (Int32.ofNat (tx_te b n p)) else none
/-- a sign -/
def tx_g (b : Nat → Int) (n p : Nat) (c : Int) : Bool := decide (p < n) && decide (b p = c)
section TXT
variable {b : Nat → Int} {n p : Nat}
theorem tx_sk_ge : p ≤ tx_sk b n p := tx_w_ge
theorem tx_sk_le (h : p ≤ n) : tx_sk b n p ≤ n := tx_w_le h
theorem tx_te_gt (h : p < n) : p < tx_te b n p := by
  unfold tx_te
  split
  · next w => rw [tx_w_go h w]; exact tx_w_ge
  · split
    · next w => rw [tx_w_go h w]; exact tx_w_ge
    · exact Nat.lt_succ_self p
theorem tx_te_le (h : p < n) : tx_te b n p ≤ n := by
  unfold tx_te
  split
  · exact tx_w_le (Nat.le_of_lt h)
  · split
    · exact tx_w_le (Nat.le_of_lt h)
    · exact h
theorem tx_nx_gt (h : p < n) : p < tx_nx b n p := Nat.lt_of_lt_of_le (tx_te_gt h) tx_sk_ge
theorem tx_nx_le (h : p < n) : tx_nx b n p ≤ n := tx_sk_le (tx_te_le h)
theorem tx_k0 (h : tx_k b n p = 0) : n ≤ p := by
  unfold tx_k at h
  split at h
  · next w => exact w
  · exfalso
    (repeat' split at h) <;> omega
theorem tx_k1 : tx_k b n p = 1 ↔ p < n ∧ tx_L (b p) = true := by
  unfold tx_k
  by_cases h1 : n ≤ p
  · rw [if_pos h1]; constructor <;> intro z <;> omega
  · rw [if_neg h1]
    by_cases h2 : tx_L (b p) = true
    · rw [if_pos h2]; exact ⟨fun _ => ⟨by omega, h2⟩, fun _ => rfl⟩
    · rw [if_neg h2]
      constructor
      · intro z; exfalso; split at z <;> omega
      · exact fun z => absurd z.2 h2
theorem tx_k2 : tx_k b n p = 2 ↔ p < n ∧ tx_D (b p) = true := by
  unfold tx_k
  by_cases h1 : n ≤ p
  · rw [if_pos h1]; constructor <;> intro z <;> omega
  · rw [if_neg h1]
    by_cases h2 : tx_L (b p) = true
    · rw [if_pos h2]
      refine ⟨fun z => by omega, fun z => ?_⟩
      have a1 := tx_L_iff.mp h2
      have a2 := tx_D_iff.mp z.2
      omega
    · rw [if_neg h2]
      by_cases h3 : tx_D (b p) = true
      · rw [if_pos h3]; exact ⟨fun _ => ⟨by omega, h3⟩, fun _ => rfl⟩
      · rw [if_neg h3]; exact ⟨fun z => by omega, fun z => absurd z.2 h3⟩
theorem tx_g_iff {c : Int} : tx_g b n p c = true ↔ p < n ∧ b p = c := by unfold tx_g; simp
end TXT
/-! the grammar: where a reading stands: (0, p) at the token p, (e, p) behind the error e at p -/
abbrev tx_St : Type := Int × Nat
abbrev tx_T : Type := (Nat → Int) × Nat
def tx_sg (T : tx_T) (c : Int) (s : tx_St) : tx_St := if s.1 = 0 then (if tx_g T.1 T.2 s.2 c = true then (0, tx_nx T.1 T.2 s.2) else (1, s.2)) else s
def tx_nb (T : tx_T) (lo hi : Int) (s : tx_St) : tx_St × Int := if s.1 = 0 then (if tx_k T.1 T.2 s.2 = 2 then (if lo ≤ tx_nv T.1 T.2 s.2 ∧ tx_nv T.1 T.2 s.2 ≤ hi then ((0, tx_nx T.1 T.2 s.2), tx_nv T.1 T.2 s.2) else ((2, s.2), lo)) else ((1, s.2), lo)) else (s, lo)
def tx_wr (T : tx_T) (j : Nat) (s : tx_St) : tx_St := if s.1 = 0 then (if tx_wd T.1 T.2 s.2 = some (m_X + 1 + j) then (0, tx_nx T.1 T.2 s.2) else (1, s.2)) else s
/-- is the token the word j -/
def tx_is (T : tx_T) (p j : Nat) : Prop := tx_wd T.1 T.2 p = some (m_X + 1 + j)
/-- expressions: mode 0 an operand, 1 a product, 2 its rest, 3 a sum, 4 its rest, 5 a factor, 6 a conjunction, 7 its rest, 8 a test, 9 its rest, 10 a side; a: a query; pl: where it stands; o: how many are open -/
def tx_x (T : tx_T) (a : Bool) (pl : Int) : Nat → Nat → tx_St → Int → tx_St × List Int
  | 0, _, s, _ => (s, [])
  | f + 1, m, (e, p), o =>
    if e = 0 then
      match m with
      | 0 => if tx_k T.1 T.2 p = 2 then ((tx_nb T 0 65535 (0, p)).1, [1000 + (tx_nb T 0 65535 (0, p)).2])
          else if tx_g T.1 T.2 p 40 = true then (if o < 6 then (tx_sg T 41 (tx_x T a pl f 3 (0, tx_nx T.1 T.2 p) (o + 1)).1, (tx_x T a pl f 3 (0, tx_nx T.1 T.2 p) (o + 1)).2) else ((3, p), []))
          else if tx_wd T.1 T.2 p = some (m_X + 1 + 8) ∧ ¬ pl = 3 then ((tx_nb T 0 7 (0, tx_nx T.1 T.2 p)).1, [(tx_nb T 0 7 (0, tx_nx T.1 T.2 p)).2])
          else if tx_wd T.1 T.2 p = some (m_X + 1 + 9) ∧ ¬ pl = 0 then ((tx_nb T 0 3 (0, tx_nx T.1 T.2 p)).1, [8 + (tx_nb T 0 3 (0, tx_nx T.1 T.2 p)).2])
          else if tx_wd T.1 T.2 p = some (m_X + 1 + 10) then ((0, tx_nx T.1 T.2 p), [12])
          else if tx_wd T.1 T.2 p = some (m_X + 1 + 11) ∧ (pl = 2 ∨ pl = 3) then ((0, tx_nx T.1 T.2 p), [13])
          else ((1, p), [])
      | 1 => ((tx_x T a pl f 2 (tx_x T a pl f 0 (0, p) o).1 o).1, (tx_x T a pl f 0 (0, p) o).2 ++ (tx_x T a pl f 2 (tx_x T a pl f 0 (0, p) o).1 o).2)
      | 2 => if tx_g T.1 T.2 p 42 = true then ((tx_x T a pl f 2 (tx_x T a pl f 0 (0, tx_nx T.1 T.2 p) o).1 o).1, (tx_x T a pl f 0 (0, tx_nx T.1 T.2 p) o).2 ++ 28 :: (tx_x T a pl f 2 (tx_x T a pl f 0 (0, tx_nx T.1 T.2 p) o).1 o).2) else ((0, p), [])
      | 3 => ((tx_x T a pl f 4 (tx_x T a pl f 1 (0, p) o).1 o).1, (tx_x T a pl f 1 (0, p) o).2 ++ (tx_x T a pl f 4 (tx_x T a pl f 1 (0, p) o).1 o).2)
      | 4 => if tx_g T.1 T.2 p 43 = true ∨ tx_g T.1 T.2 p 45 = true then ((tx_x T a pl f 4 (tx_x T a pl f 1 (0, tx_nx T.1 T.2 p) o).1 o).1, (tx_x T a pl f 1 (0, tx_nx T.1 T.2 p) o).2 ++ (if tx_g T.1 T.2 p 43 = true then 26 else 27) :: (tx_x T a pl f 4 (tx_x T a pl f 1 (0, tx_nx T.1 T.2 p) o).1 o).2) else ((0, p), [])
      | 5 => if tx_wd T.1 T.2 p = some (m_X + 1 + 7) then (if o < 6 then ((tx_x T a pl f 5 (0, tx_nx T.1 T.2 p) (o + 1)).1, (tx_x T a pl f 5 (0, tx_nx T.1 T.2 p) (o + 1)).2 ++ [23]) else ((3, p), []))
          else if tx_g T.1 T.2 p (if a = true then 40 else 91) = true then (if o < 6 then (tx_sg T (if a = true then 41 else 93) (tx_x T a pl f 8 (0, tx_nx T.1 T.2 p) (o + 1)).1, (tx_x T a pl f 8 (0, tx_nx T.1 T.2 p) (o + 1)).2) else ((3, p), []))
          else match (tx_x T a pl f 10 (0, p) o).1 with
            | (e1, p1) => if e1 = 0 then (if tx_g T.1 T.2 p1 60 = true ∨ tx_g T.1 T.2 p1 62 = true ∨ tx_g T.1 T.2 p1 61 = true then ((tx_x T a pl f 10 (0, tx_nx T.1 T.2 p1) o).1, (tx_x T a pl f 10 (0, p) o).2 ++ (tx_x T a pl f 10 (0, tx_nx T.1 T.2 p1) o).2 ++ [if tx_g T.1 T.2 p1 60 = true then 20 else if tx_g T.1 T.2 p1 62 = true then 22 else 21]) else ((1, p1), [])) else ((e1, p1), [])
      | 6 => ((tx_x T a pl f 7 (tx_x T a pl f 5 (0, p) o).1 o).1, (tx_x T a pl f 5 (0, p) o).2 ++ (tx_x T a pl f 7 (tx_x T a pl f 5 (0, p) o).1 o).2)
      | 7 => if tx_wd T.1 T.2 p = some (m_X + 1 + 6) then ((tx_x T a pl f 7 (tx_x T a pl f 5 (0, tx_nx T.1 T.2 p) o).1 o).1, (tx_x T a pl f 5 (0, tx_nx T.1 T.2 p) o).2 ++ 24 :: (tx_x T a pl f 7 (tx_x T a pl f 5 (0, tx_nx T.1 T.2 p) o).1 o).2) else ((0, p), [])
      | 8 => ((tx_x T a pl f 9 (tx_x T a pl f 6 (0, p) o).1 o).1, (tx_x T a pl f 6 (0, p) o).2 ++ (tx_x T a pl f 9 (tx_x T a pl f 6 (0, p) o).1 o).2)
      | 9 => if tx_wd T.1 T.2 p = some (m_X + 1 + 5) then ((tx_x T a pl f 9 (tx_x T a pl f 6 (0, tx_nx T.1 T.2 p) o).1 o).1, (tx_x T a pl f 6 (0, tx_nx T.1 T.2 p) o).2 ++ 25 :: (tx_x T a pl f 9 (tx_x T a pl f 6 (0, tx_nx T.1 T.2 p) o).1 o).2) else ((0, p), [])
      | _ => if a = true then (if tx_k T.1 T.2 p = 2 then ((tx_nb T 0 99999 (0, p)).1, [1000 + (tx_nb T 0 99999 (0, p)).2])
            else match tx_wd T.1 T.2 p with
              | some w => if m_X + 25 ≤ w ∧ w ≤ m_X + 35 then ((0, tx_nx T.1 T.2 p), [((w - (m_X + 25) : Nat) : Int)]) else ((1, p), [])
              | none => ((1, p), []))
          else tx_x T a pl f 3 (0, p) o
    else ((e, p), [])
/-- the value of an expression's reading, for all counts from some on -/
def tx_ev (T : tx_T) (a : Bool) (pl : Int) (m : Nat) (s : tx_St) (o : Int) (r : tx_St × List Int) : Prop := ∃ f0, ∀ f, f0 ≤ f → tx_x T a pl f m s o = r
