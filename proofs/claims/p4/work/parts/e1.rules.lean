/-! the grammar's rules -/
section EVR
variable {T : tx_T} {a : Bool} {pl : Int} {m p : Nat} {e o : Int} {s s1 s2 s3 : tx_St} {c1 c2 : List Int}
theorem ev_of {r : tx_St × List Int} (f0 : Nat) (h : ∀ f, f0 ≤ f → tx_x T a pl (f + 1) m s o = r) : tx_ev T a pl m s o r :=
  ⟨f0 + 1, fun f hf => by
    obtain ⟨k, rfl⟩ : ∃ k, f = k + 1 := ⟨f - 1, by omega⟩
    exact h k (by omega)⟩
theorem ev_det {r r' : tx_St × List Int} (h1 : tx_ev T a pl m s o r) (h2 : tx_ev T a pl m s o r') : r = r' := by
  obtain ⟨f1, g1⟩ := h1
  obtain ⟨f2, g2⟩ := h2
  exact (g1 (f1 + f2) (by omega)).symm.trans (g2 (f1 + f2) (by omega))
theorem ev_bad (h : ¬ e = 0) : tx_ev T a pl m (e, p) o ((e, p), []) := ev_of 0 (fun f _ => if_neg h)
theorem tx_x0 {f : Nat} : tx_x T a pl (f + 1) 0 (0, p) o = (if tx_k T.1 T.2 p = 2 then ((tx_nb T 0 65535 (0, p)).1, [1000 + (tx_nb T 0 65535 (0, p)).2])
          else if tx_g T.1 T.2 p 40 = true then (if o < 6 then (tx_sg T 41 (tx_x T a pl f 3 (0, tx_nx T.1 T.2 p) (o + 1)).1, (tx_x T a pl f 3 (0, tx_nx T.1 T.2 p) (o + 1)).2) else ((3, p), []))
          else if tx_wd T.1 T.2 p = some (m_X + 1 + 8) ∧ ¬ pl = 3 then ((tx_nb T 0 7 (0, tx_nx T.1 T.2 p)).1, [(tx_nb T 0 7 (0, tx_nx T.1 T.2 p)).2])
          else if tx_wd T.1 T.2 p = some (m_X + 1 + 9) ∧ ¬ pl = 0 then ((tx_nb T 0 3 (0, tx_nx T.1 T.2 p)).1, [8 + (tx_nb T 0 3 (0, tx_nx T.1 T.2 p)).2])
          else if tx_wd T.1 T.2 p = some (m_X + 1 + 10) then ((0, tx_nx T.1 T.2 p), [12])
          else if tx_wd T.1 T.2 p = some (m_X + 1 + 11) ∧ (pl = 2 ∨ pl = 3) then ((0, tx_nx T.1 T.2 p), [13])
          else ((1, p), [])) := if_pos rfl
theorem tx_x1 {f : Nat} : tx_x T a pl (f + 1) 1 (0, p) o = ((tx_x T a pl f 2 (tx_x T a pl f 0 (0, p) o).1 o).1, (tx_x T a pl f 0 (0, p) o).2 ++ (tx_x T a pl f 2 (tx_x T a pl f 0 (0, p) o).1 o).2) := if_pos rfl
theorem tx_x2 {f : Nat} : tx_x T a pl (f + 1) 2 (0, p) o = (if tx_g T.1 T.2 p 42 = true then ((tx_x T a pl f 2 (tx_x T a pl f 0 (0, tx_nx T.1 T.2 p) o).1 o).1, (tx_x T a pl f 0 (0, tx_nx T.1 T.2 p) o).2 ++ 28 :: (tx_x T a pl f 2 (tx_x T a pl f 0 (0, tx_nx T.1 T.2 p) o).1 o).2) else ((0, p), [])) := if_pos rfl
theorem tx_x3 {f : Nat} : tx_x T a pl (f + 1) 3 (0, p) o = ((tx_x T a pl f 4 (tx_x T a pl f 1 (0, p) o).1 o).1, (tx_x T a pl f 1 (0, p) o).2 ++ (tx_x T a pl f 4 (tx_x T a pl f 1 (0, p) o).1 o).2) := if_pos rfl
theorem tx_x4 {f : Nat} : tx_x T a pl (f + 1) 4 (0, p) o = (if tx_g T.1 T.2 p 43 = true ∨ tx_g T.1 T.2 p 45 = true then ((tx_x T a pl f 4 (tx_x T a pl f 1 (0, tx_nx T.1 T.2 p) o).1 o).1, (tx_x T a pl f 1 (0, tx_nx T.1 T.2 p) o).2 ++ (if tx_g T.1 T.2 p 43 = true then 26 else 27) :: (tx_x T a pl f 4 (tx_x T a pl f 1 (0, tx_nx T.1 T.2 p) o).1 o).2) else ((0, p), [])) := if_pos rfl
theorem tx_x5 {f : Nat} : tx_x T a pl (f + 1) 5 (0, p) o = (if tx_wd T.1 T.2 p = some (m_X + 1 + 7) then (if o < 6 then ((tx_x T a pl f 5 (0, tx_nx T.1 T.2 p) (o + 1)).1, (tx_x T a pl f 5 (0, tx_nx T.1 T.2 p) (o + 1)).2 ++ [23]) else ((3, p), []))
          else if tx_g T.1 T.2 p (if a = true then 40 else 91) = true then (if o < 6 then (tx_sg T (if a = true then 41 else 93) (tx_x T a pl f 8 (0, tx_nx T.1 T.2 p) (o + 1)).1, (tx_x T a pl f 8 (0, tx_nx T.1 T.2 p) (o + 1)).2) else ((3, p), []))
          else match (tx_x T a pl f 10 (0, p) o).1 with
            | (e1, p1) => if e1 = 0 then (if tx_g T.1 T.2 p1 60 = true ∨ tx_g T.1 T.2 p1 62 = true ∨ tx_g T.1 T.2 p1 61 = true then ((tx_x T a pl f 10 (0, tx_nx T.1 T.2 p1) o).1, (tx_x T a pl f 10 (0, p) o).2 ++ (tx_x T a pl f 10 (0, tx_nx T.1 T.2 p1) o).2 ++ [if tx_g T.1 T.2 p1 60 = true then 20 else if tx_g T.1 T.2 p1 62 = true then 22 else 21]) else ((1, p1), [])) else ((e1, p1), [])) := if_pos rfl
theorem tx_x6 {f : Nat} : tx_x T a pl (f + 1) 6 (0, p) o = ((tx_x T a pl f 7 (tx_x T a pl f 5 (0, p) o).1 o).1, (tx_x T a pl f 5 (0, p) o).2 ++ (tx_x T a pl f 7 (tx_x T a pl f 5 (0, p) o).1 o).2) := if_pos rfl
theorem tx_x7 {f : Nat} : tx_x T a pl (f + 1) 7 (0, p) o = (if tx_wd T.1 T.2 p = some (m_X + 1 + 6) then ((tx_x T a pl f 7 (tx_x T a pl f 5 (0, tx_nx T.1 T.2 p) o).1 o).1, (tx_x T a pl f 5 (0, tx_nx T.1 T.2 p) o).2 ++ 24 :: (tx_x T a pl f 7 (tx_x T a pl f 5 (0, tx_nx T.1 T.2 p) o).1 o).2) else ((0, p), [])) := if_pos rfl
theorem tx_x8 {f : Nat} : tx_x T a pl (f + 1) 8 (0, p) o = ((tx_x T a pl f 9 (tx_x T a pl f 6 (0, p) o).1 o).1, (tx_x T a pl f 6 (0, p) o).2 ++ (tx_x T a pl f 9 (tx_x T a pl f 6 (0, p) o).1 o).2) := if_pos rfl
theorem tx_x9 {f : Nat} : tx_x T a pl (f + 1) 9 (0, p) o = (if tx_wd T.1 T.2 p = some (m_X + 1 + 5) then ((tx_x T a pl f 9 (tx_x T a pl f 6 (0, tx_nx T.1 T.2 p) o).1 o).1, (tx_x T a pl f 6 (0, tx_nx T.1 T.2 p) o).2 ++ 25 :: (tx_x T a pl f 9 (tx_x T a pl f 6 (0, tx_nx T.1 T.2 p) o).1 o).2) else ((0, p), [])) := if_pos rfl
theorem tx_x10 {f : Nat} : tx_x T a pl (f + 1) 10 (0, p) o = (if a = true then (if tx_k T.1 T.2 p = 2 then ((tx_nb T 0 99999 (0, p)).1, [1000 + (tx_nb T 0 99999 (0, p)).2])
            else match tx_wd T.1 T.2 p with
              | some w => if m_X + 25 ≤ w ∧ w ≤ m_X + 35 then ((0, tx_nx T.1 T.2 p), [((w - (m_X + 25) : Nat) : Int)]) else ((1, p), [])
              | none => ((1, p), []))
          else tx_x T a pl f 3 (0, p) o) := if_pos rfl
/-- two readings, one behind the other -/
theorem ev_seq {m1 m2 : Nat} (hx : ∀ f, tx_x T a pl (f + 1) m (0, p) o = ((tx_x T a pl f m2 (tx_x T a pl f m1 (0, p) o).1 o).1, (tx_x T a pl f m1 (0, p) o).2 ++ (tx_x T a pl f m2 (tx_x T a pl f m1 (0, p) o).1 o).2)) (h1 : tx_ev T a pl m1 (0, p) o (s1, c1)) (h2 : tx_ev T a pl m2 s1 o (s2, c2)) : tx_ev T a pl m (0, p) o (s2, c1 ++ c2) := by
  obtain ⟨f1, g1⟩ := h1
  obtain ⟨f2, g2⟩ := h2
  refine ev_of (f1 + f2) (fun f hf => ?_)
  rw [hx, g1 f (by omega)]
  dsimp only
  rw [g2 f (by omega)]
theorem ev_prd (h1 : tx_ev T a pl 0 (0, p) o (s1, c1)) (h2 : tx_ev T a pl 2 s1 o (s2, c2)) : tx_ev T a pl 1 (0, p) o (s2, c1 ++ c2) := ev_seq (fun _ => tx_x1) h1 h2
theorem ev_sum (h1 : tx_ev T a pl 1 (0, p) o (s1, c1)) (h2 : tx_ev T a pl 4 s1 o (s2, c2)) : tx_ev T a pl 3 (0, p) o (s2, c1 ++ c2) := ev_seq (fun _ => tx_x3) h1 h2
theorem ev_cnj (h1 : tx_ev T a pl 5 (0, p) o (s1, c1)) (h2 : tx_ev T a pl 7 s1 o (s2, c2)) : tx_ev T a pl 6 (0, p) o (s2, c1 ++ c2) := ev_seq (fun _ => tx_x6) h1 h2
theorem ev_tst (h1 : tx_ev T a pl 6 (0, p) o (s1, c1)) (h2 : tx_ev T a pl 9 s1 o (s2, c2)) : tx_ev T a pl 8 (0, p) o (s2, c1 ++ c2) := ev_seq (fun _ => tx_x8) h1 h2
/-- an operator, what stands behind it, the rest -/
theorem ev_opr {m1 : Nat} {k : Int} (hx : ∀ f, tx_x T a pl (f + 1) m (0, p) o = ((tx_x T a pl f m (tx_x T a pl f m1 (0, tx_nx T.1 T.2 p) o).1 o).1, (tx_x T a pl f m1 (0, tx_nx T.1 T.2 p) o).2 ++ k :: (tx_x T a pl f m (tx_x T a pl f m1 (0, tx_nx T.1 T.2 p) o).1 o).2)) (h1 : tx_ev T a pl m1 (0, tx_nx T.1 T.2 p) o (s1, c1)) (h2 : tx_ev T a pl m s1 o (s2, c2)) : tx_ev T a pl m (0, p) o (s2, c1 ++ k :: c2) := by
  obtain ⟨f1, g1⟩ := h1
  obtain ⟨f2, g2⟩ := h2
  refine ev_of (f1 + f2) (fun f hf => ?_)
  rw [hx, g1 f (by omega)]
  dsimp only
  rw [g2 f (by omega)]
theorem ev_mul (h : tx_g T.1 T.2 p 42 = true) (h1 : tx_ev T a pl 0 (0, tx_nx T.1 T.2 p) o (s1, c1)) (h2 : tx_ev T a pl 2 s1 o (s2, c2)) : tx_ev T a pl 2 (0, p) o (s2, c1 ++ 28 :: c2) := ev_opr (fun _ => by rw [tx_x2, if_pos h]) h1 h2
theorem ev_mul0 (h : ¬ tx_g T.1 T.2 p 42 = true) : tx_ev T a pl 2 (0, p) o ((0, p), []) := ev_of 0 (fun f _ => by rw [tx_x2, if_neg h])
theorem ev_add (h : tx_g T.1 T.2 p 43 = true ∨ tx_g T.1 T.2 p 45 = true) (h1 : tx_ev T a pl 1 (0, tx_nx T.1 T.2 p) o (s1, c1)) (h2 : tx_ev T a pl 4 s1 o (s2, c2)) : tx_ev T a pl 4 (0, p) o (s2, c1 ++ (if tx_g T.1 T.2 p 43 = true then 26 else 27) :: c2) := ev_opr (fun _ => by rw [tx_x4, if_pos h]) h1 h2
theorem ev_add0 (h1 : ¬ tx_g T.1 T.2 p 43 = true) (h2 : ¬ tx_g T.1 T.2 p 45 = true) : tx_ev T a pl 4 (0, p) o ((0, p), []) := ev_of 0 (fun f _ => by rw [tx_x4, if_neg (fun h => h.elim h1 h2)])
theorem ev_and (h : tx_wd T.1 T.2 p = some (m_X + 1 + 6)) (h1 : tx_ev T a pl 5 (0, tx_nx T.1 T.2 p) o (s1, c1)) (h2 : tx_ev T a pl 7 s1 o (s2, c2)) : tx_ev T a pl 7 (0, p) o (s2, c1 ++ 24 :: c2) := ev_opr (fun _ => by rw [tx_x7, if_pos h]) h1 h2
theorem ev_and0 (h : ¬ tx_wd T.1 T.2 p = some (m_X + 1 + 6)) : tx_ev T a pl 7 (0, p) o ((0, p), []) := ev_of 0 (fun f _ => by rw [tx_x7, if_neg h])
theorem ev_or (h : tx_wd T.1 T.2 p = some (m_X + 1 + 5)) (h1 : tx_ev T a pl 6 (0, tx_nx T.1 T.2 p) o (s1, c1)) (h2 : tx_ev T a pl 9 s1 o (s2, c2)) : tx_ev T a pl 9 (0, p) o (s2, c1 ++ 25 :: c2) := ev_opr (fun _ => by rw [tx_x9, if_pos h]) h1 h2
theorem ev_or0 (h : ¬ tx_wd T.1 T.2 p = some (m_X + 1 + 5)) : tx_ev T a pl 9 (0, p) o ((0, p), []) := ev_of 0 (fun f _ => by rw [tx_x9, if_neg h])
/-- a sign is no word, no number -/
theorem tx_gk {c : Int} (h : tx_g T.1 T.2 p c = true) (hc : tx_L c = false) (hd : tx_D c = false) : tx_k T.1 T.2 p = 3 := by
  obtain ⟨h1, h2⟩ := tx_g_iff.mp h
  unfold tx_k
  rw [if_neg (by omega), h2, hc, hd]
  rfl
theorem tx_gw {c : Int} (h : tx_g T.1 T.2 p c = true) (hc : tx_L c = false) : tx_wd T.1 T.2 p = none := by
  obtain ⟨h1, h2⟩ := tx_g_iff.mp h
  unfold tx_wd
  rw [h2, hc, if_neg (by simp)]
theorem tx_wk {w : Nat} (h : tx_wd T.1 T.2 p = some w) : tx_k T.1 T.2 p = 1 := by
  unfold tx_wd at h
  by_cases c : p < T.2 ∧ tx_L (T.1 p) = true
  · exact tx_k1.mpr c
  · rw [if_neg c] at h; cases h
theorem tx_gp {c : Int} (h : tx_g T.1 T.2 p c = true) : p < T.2 := (tx_g_iff.mp h).1
theorem tx_g2 {c d : Int} (h : tx_g T.1 T.2 p c = true) (hd : ¬ c = d) : ¬ tx_g T.1 T.2 p d = true := fun z => hd ((tx_g_iff.mp h).2.symm.trans (tx_g_iff.mp z).2)
/-! operands -/
theorem ev_num (h : tx_k T.1 T.2 p = 2) : tx_ev T a pl 0 (0, p) o ((tx_nb T 0 65535 (0, p)).1, [1000 + (tx_nb T 0 65535 (0, p)).2]) := ev_of 0 (fun f _ => by rw [tx_x0, if_pos h])
theorem ev_par (h : tx_g T.1 T.2 p 40 = true) (ho : o < 6) (h1 : tx_ev T a pl 3 (0, tx_nx T.1 T.2 p) (o + 1) (s1, c1)) : tx_ev T a pl 0 (0, p) o (tx_sg T 41 s1, c1) := by
  obtain ⟨f1, g1⟩ := h1
  exact ev_of f1 (fun f hf => by rw [tx_x0, if_neg (by rw [tx_gk h rfl rfl]; decide), if_pos h, if_pos ho, g1 f hf])
theorem ev_par6 (h : tx_g T.1 T.2 p 40 = true) (ho : ¬ o < 6) : tx_ev T a pl 0 (0, p) o ((3, p), []) := ev_of 0 (fun f _ => by rw [tx_x0, if_neg (by rw [tx_gk h rfl rfl]; decide), if_pos h, if_neg ho])
theorem tx_wg {w : Nat} {c : Int} (h : tx_wd T.1 T.2 p = some w) (hc : tx_L c = false) : ¬ tx_g T.1 T.2 p c = true := fun z => by rw [tx_gw z hc] at h; cases h
theorem ev_reg (h : tx_wd T.1 T.2 p = some (m_X + 1 + 8)) (hp : ¬ pl = 3) : tx_ev T a pl 0 (0, p) o ((tx_nb T 0 7 (0, tx_nx T.1 T.2 p)).1, [(tx_nb T 0 7 (0, tx_nx T.1 T.2 p)).2]) := ev_of 0 (fun f _ => by rw [tx_x0, if_neg (by rw [tx_wk h]; decide), if_neg (tx_wg h rfl), if_pos ⟨h, hp⟩])
theorem ev_var (h : tx_wd T.1 T.2 p = some (m_X + 1 + 9)) (hp : ¬ pl = 0) : tx_ev T a pl 0 (0, p) o ((tx_nb T 0 3 (0, tx_nx T.1 T.2 p)).1, [8 + (tx_nb T 0 3 (0, tx_nx T.1 T.2 p)).2]) := ev_of 0 (fun f _ => by rw [tx_x0, if_neg (by rw [tx_wk h]; decide), if_neg (tx_wg h rfl), if_neg (fun z => by rw [h] at z; exact absurd (Option.some.inj z.1) (by decide)), if_pos ⟨h, hp⟩])
theorem ev_arg (h : tx_wd T.1 T.2 p = some (m_X + 1 + 10)) : tx_ev T a pl 0 (0, p) o ((0, tx_nx T.1 T.2 p), [12]) := ev_of 0 (fun f _ => by rw [tx_x0, if_neg (by rw [tx_wk h]; decide), if_neg (tx_wg h rfl), if_neg (fun z => by rw [h] at z; exact absurd (Option.some.inj z.1) (by decide)), if_neg (fun z => by rw [h] at z; exact absurd (Option.some.inj z.1) (by decide)), if_pos h])
theorem ev_res (h : tx_wd T.1 T.2 p = some (m_X + 1 + 11)) (hp : pl = 2 ∨ pl = 3) : tx_ev T a pl 0 (0, p) o ((0, tx_nx T.1 T.2 p), [13]) := ev_of 0 (fun f _ => by rw [tx_x0, if_neg (by rw [tx_wk h]; decide), if_neg (tx_wg h rfl), if_neg (fun z => by rw [h] at z; exact absurd (Option.some.inj z.1) (by decide)), if_neg (fun z => by rw [h] at z; exact absurd (Option.some.inj z.1) (by decide)), if_neg (fun z => by rw [h] at z; exact absurd (Option.some.inj z) (by decide)), if_pos ⟨h, hp⟩])
theorem ev_op1 (h1 : ¬ tx_k T.1 T.2 p = 2) (h2 : ¬ tx_g T.1 T.2 p 40 = true) (h3 : ¬ (tx_wd T.1 T.2 p = some (m_X + 1 + 8) ∧ ¬ pl = 3)) (h4 : ¬ (tx_wd T.1 T.2 p = some (m_X + 1 + 9) ∧ ¬ pl = 0)) (h5 : ¬ tx_wd T.1 T.2 p = some (m_X + 1 + 10)) (h6 : ¬ (tx_wd T.1 T.2 p = some (m_X + 1 + 11) ∧ (pl = 2 ∨ pl = 3))) : tx_ev T a pl 0 (0, p) o ((1, p), []) := ev_of 0 (fun f _ => by rw [tx_x0, if_neg h1, if_neg h2, if_neg h3, if_neg h4, if_neg h5, if_neg h6])
/-! factors, sides -/
theorem ev_not (h : tx_wd T.1 T.2 p = some (m_X + 1 + 7)) (ho : o < 6) (h1 : tx_ev T a pl 5 (0, tx_nx T.1 T.2 p) (o + 1) (s1, c1)) : tx_ev T a pl 5 (0, p) o (s1, c1 ++ [23]) := by
  obtain ⟨f1, g1⟩ := h1
  exact ev_of f1 (fun f hf => by rw [tx_x5, if_pos h, if_pos ho, g1 f hf])
theorem ev_not6 (h : tx_wd T.1 T.2 p = some (m_X + 1 + 7)) (ho : ¬ o < 6) : tx_ev T a pl 5 (0, p) o ((3, p), []) := ev_of 0 (fun f _ => by rw [tx_x5, if_pos h, if_neg ho])
theorem ev_grp (h : tx_g T.1 T.2 p (if a = true then 40 else 91) = true) (ho : o < 6) (h1 : tx_ev T a pl 8 (0, tx_nx T.1 T.2 p) (o + 1) (s1, c1)) : tx_ev T a pl 5 (0, p) o (tx_sg T (if a = true then 41 else 93) s1, c1) := by
  obtain ⟨f1, g1⟩ := h1
  have hw : tx_wd T.1 T.2 p = none := tx_gw h (by cases a <;> rfl)
  exact ev_of f1 (fun f hf => by rw [tx_x5, if_neg (by rw [hw]; exact fun z => by cases z), if_pos h, if_pos ho, g1 f hf])
theorem ev_grp6 (h : tx_g T.1 T.2 p (if a = true then 40 else 91) = true) (ho : ¬ o < 6) : tx_ev T a pl 5 (0, p) o ((3, p), []) := by
  have hw : tx_wd T.1 T.2 p = none := tx_gw h (by cases a <;> rfl)
  exact ev_of 0 (fun f _ => by rw [tx_x5, if_neg (by rw [hw]; exact fun z => by cases z), if_pos h, if_neg ho])
theorem ev_cmpE {p1 : Nat} (h : ¬ tx_wd T.1 T.2 p = some (m_X + 1 + 7)) (h2 : ¬ tx_g T.1 T.2 p (if a = true then 40 else 91) = true) (h1 : tx_ev T a pl 10 (0, p) o ((e, p1), c1)) (he : ¬ e = 0) : tx_ev T a pl 5 (0, p) o ((e, p1), []) := by
  obtain ⟨f1, g1⟩ := h1
  refine ev_of f1 (fun f hf => ?_)
  rw [tx_x5, if_neg h, if_neg h2, g1 f hf]
  exact if_neg he
theorem ev_cmp1 {p1 : Nat} (h : ¬ tx_wd T.1 T.2 p = some (m_X + 1 + 7)) (h2 : ¬ tx_g T.1 T.2 p (if a = true then 40 else 91) = true) (h1 : tx_ev T a pl 10 (0, p) o ((0, p1), c1)) (h3 : ¬ (tx_g T.1 T.2 p1 60 = true ∨ tx_g T.1 T.2 p1 62 = true ∨ tx_g T.1 T.2 p1 61 = true)) : tx_ev T a pl 5 (0, p) o ((1, p1), []) := by
  obtain ⟨f1, g1⟩ := h1
  refine ev_of f1 (fun f hf => ?_)
  rw [tx_x5, if_neg h, if_neg h2, g1 f hf]
  exact (if_pos rfl).trans (if_neg h3)
theorem ev_cmp {p1 : Nat} (h : ¬ tx_wd T.1 T.2 p = some (m_X + 1 + 7)) (h2 : ¬ tx_g T.1 T.2 p (if a = true then 40 else 91) = true) (h1 : tx_ev T a pl 10 (0, p) o ((0, p1), c1)) (h3 : tx_g T.1 T.2 p1 60 = true ∨ tx_g T.1 T.2 p1 62 = true ∨ tx_g T.1 T.2 p1 61 = true) (h4 : tx_ev T a pl 10 (0, tx_nx T.1 T.2 p1) o (s2, c2)) : tx_ev T a pl 5 (0, p) o (s2, c1 ++ c2 ++ [if tx_g T.1 T.2 p1 60 = true then 20 else if tx_g T.1 T.2 p1 62 = true then 22 else 21]) := by
  obtain ⟨f1, g1⟩ := h1
  obtain ⟨f2, g2⟩ := h4
  refine ev_of (f1 + f2) (fun f hf => ?_)
  rw [tx_x5, if_neg h, if_neg h2, g1 f (by omega)]
  refine (if_pos rfl).trans ((if_pos h3).trans ?_)
  rw [g2 f (by omega)]
theorem ev_sideS {r : tx_St × List Int} (ha : a = false) (h1 : tx_ev T a pl 3 (0, p) o r) : tx_ev T a pl 10 (0, p) o r := by
  obtain ⟨f1, g1⟩ := h1
  exact ev_of f1 (fun f hf => by rw [tx_x10, if_neg (by rw [ha]; decide), g1 f hf])
theorem ev_sideN (ha : a = true) (h : tx_k T.1 T.2 p = 2) : tx_ev T a pl 10 (0, p) o ((tx_nb T 0 99999 (0, p)).1, [1000 + (tx_nb T 0 99999 (0, p)).2]) := ev_of 0 (fun f _ => by rw [tx_x10, if_pos ha, if_pos h])
theorem ev_sideW {w : Nat} (ha : a = true) (h : tx_wd T.1 T.2 p = some w) (h1 : m_X + 25 ≤ w) (h2 : w ≤ m_X + 35) : tx_ev T a pl 10 (0, p) o ((0, tx_nx T.1 T.2 p), [((w - (m_X + 25) : Nat) : Int)]) := ev_of 0 (fun f _ => by
  rw [tx_x10, if_pos ha, if_neg (by rw [tx_wk h]; decide), h]
  exact if_pos ⟨h1, h2⟩)
theorem ev_side1 (ha : a = true) (h : ¬ tx_k T.1 T.2 p = 2) (h1 : ∀ w, tx_wd T.1 T.2 p = some w → ¬ (m_X + 25 ≤ w ∧ w ≤ m_X + 35)) : tx_ev T a pl 10 (0, p) o ((1, p), []) := ev_of 0 (fun f _ => by
  rw [tx_x10, if_pos ha, if_neg h]
  cases hw : tx_wd T.1 T.2 p with
  | none => rfl
  | some w => exact if_neg (h1 w hw))
theorem nb_len {lo hi : Int} (h : (tx_nb T lo hi (0, p)).1.1 = 0) : p < (tx_nb T lo hi (0, p)).1.2 ∧ (tx_nb T lo hi (0, p)).1.2 ≤ T.2 := by
  unfold tx_nb at h ⊢
  rw [if_pos rfl] at h ⊢
  by_cases h2 : tx_k T.1 T.2 p = 2
  · rw [if_pos h2] at h ⊢
    by_cases h3 : lo ≤ tx_nv T.1 T.2 p ∧ tx_nv T.1 T.2 p ≤ hi
    · rw [if_pos h3] at h ⊢
      exact ⟨tx_nx_gt (tx_k2.mp h2).1, tx_nx_le (tx_k2.mp h2).1⟩
    · rw [if_neg h3] at h
      exact absurd h (by simp)
  · rw [if_neg h2] at h
    exact absurd h (by simp)
theorem sg_len {c : Int} (h : (tx_sg T c s).1 = 0) : s.1 = 0 ∧ s.2 < (tx_sg T c s).2 ∧ (tx_sg T c s).2 ≤ T.2 := by
  unfold tx_sg at h ⊢
  by_cases h1 : s.1 = 0
  · rw [if_pos h1] at h ⊢
    by_cases h2 : tx_g T.1 T.2 s.2 c = true
    · rw [if_pos h2] at h ⊢
      exact ⟨h1, tx_nx_gt (tx_gp h2), tx_nx_le (tx_gp h2)⟩
    · rw [if_neg h2] at h
      exact absurd h (by simp)
  · rw [if_neg h1] at h
    exact absurd h h1
/-- a reading makes no more codes than it takes bytes -/
theorem tx_len : ∀ (f m p : Nat) (o : Int), m ≤ 10 → p ≤ T.2 → (tx_x T a pl f m (0, p) o).1.1 = 0 → p + (tx_x T a pl f m (0, p) o).2.length ≤ (tx_x T a pl f m (0, p) o).1.2 ∧ (tx_x T a pl f m (0, p) o).1.2 ≤ T.2 := by
  intro f
  induction f with
  | zero => exact fun m p o hm hp _ => ⟨Nat.le_refl _, hp⟩
  | succ f ih =>
    have ihs : ∀ (m : Nat) (s : tx_St) (o : Int), m ≤ 10 → (s.1 = 0 → s.2 ≤ T.2) → (tx_x T a pl f m s o).1.1 = 0 → s.1 = 0 ∧ s.2 + (tx_x T a pl f m s o).2.length ≤ (tx_x T a pl f m s o).1.2 ∧ (tx_x T a pl f m s o).1.2 ≤ T.2 := by
      intro m s o hm hs hz
      obtain ⟨e, q⟩ := s
      by_cases z : e = 0
      · subst z
        exact ⟨rfl, ih m q o hm (hs rfl) hz⟩
      · exfalso
        cases f with
        | zero => exact z hz
        | succ f => exact z (by rw [show tx_x T a pl (f + 1) m (e, q) o = ((e, q), []) from if_neg z] at hz; exact hz)
    intro m p o hm hp hz
    rcases (show m = 0 ∨ m = 1 ∨ m = 2 ∨ m = 3 ∨ m = 4 ∨ m = 5 ∨ m = 6 ∨ m = 7 ∨ m = 8 ∨ m = 9 ∨ m = 10 by omega) with rfl | rfl | rfl | rfl | rfl | rfl | rfl | rfl | rfl | rfl | rfl
    · rw [tx_x0] at hz ⊢
      by_cases h1 : tx_k T.1 T.2 p = 2
      · rw [if_pos h1] at hz ⊢
        have := nb_len hz
        exact ⟨this.1, this.2⟩
      · rw [if_neg h1] at hz ⊢
        by_cases h : tx_g T.1 T.2 p 40 = true
        · have gt := tx_nx_gt (b := T.1) (n := T.2) (p := p) (tx_gp h)
          have le := tx_nx_le (b := T.1) (n := T.2) (p := p) (tx_gp h)
          rw [if_pos h] at hz ⊢
          by_cases ho : o < 6
          · rw [if_pos ho] at hz ⊢
            have g := sg_len hz
            have i1 := ih 3 _ (o + 1) (by decide) le g.1
            dsimp only
            omega
          · rw [if_neg ho] at hz
            exact absurd hz (by simp)
        · rw [if_neg h] at hz ⊢
          by_cases h2 : tx_wd T.1 T.2 p = some (m_X + 1 + 8) ∧ ¬ pl = 3
          · have gt := tx_nx_gt (b := T.1) (n := T.2) (p := p) (tx_k1.mp (tx_wk h2.1)).1
            rw [if_pos h2] at hz ⊢
            have := nb_len hz
            dsimp only [List.length_cons, List.length_nil]
            omega
          · rw [if_neg h2] at hz ⊢
            by_cases h3 : tx_wd T.1 T.2 p = some (m_X + 1 + 9) ∧ ¬ pl = 0
            · have gt := tx_nx_gt (b := T.1) (n := T.2) (p := p) (tx_k1.mp (tx_wk h3.1)).1
              rw [if_pos h3] at hz ⊢
              have := nb_len hz
              dsimp only [List.length_cons, List.length_nil]
              omega
            · rw [if_neg h3] at hz ⊢
              by_cases h4 : tx_wd T.1 T.2 p = some (m_X + 1 + 10)
              · have gt := tx_nx_gt (b := T.1) (n := T.2) (p := p) (tx_k1.mp (tx_wk h4)).1
                have le := tx_nx_le (b := T.1) (n := T.2) (p := p) (tx_k1.mp (tx_wk h4)).1
                rw [if_pos h4]
                exact ⟨gt, le⟩
              · rw [if_neg h4] at hz ⊢
                by_cases h5 : tx_wd T.1 T.2 p = some (m_X + 1 + 11) ∧ (pl = 2 ∨ pl = 3)
                · have gt := tx_nx_gt (b := T.1) (n := T.2) (p := p) (tx_k1.mp (tx_wk h5.1)).1
                  have le := tx_nx_le (b := T.1) (n := T.2) (p := p) (tx_k1.mp (tx_wk h5.1)).1
                  rw [if_pos h5]
                  exact ⟨gt, le⟩
                · rw [if_neg h5] at hz
                  exact absurd hz (by simp)
    · rw [tx_x1] at hz ⊢
      have i2 := ihs 2 (tx_x T a pl f 0 (0, p) o).1 o (by decide) (fun z => (ih 0 p o (by decide) hp z).2) hz
      have i1 := ih 0 p o (by decide) hp i2.1
      dsimp only
      rw [List.length_append]
      omega
    · rw [tx_x2] at hz ⊢
      by_cases h : tx_g T.1 T.2 p 42 = true
      · have gt := tx_nx_gt (b := T.1) (n := T.2) (p := p) (tx_gp h)
        have le := tx_nx_le (b := T.1) (n := T.2) (p := p) (tx_gp h)
        rw [if_pos h] at hz ⊢
        have i2 := ihs 2 (tx_x T a pl f 0 (0, tx_nx T.1 T.2 p) o).1 o (by decide) (fun z => (ih 0 _ o (by decide) le z).2) hz
        have i1 := ih 0 _ o (by decide) le i2.1
        dsimp only
        rw [List.length_append, List.length_cons]
        omega
      · rw [if_neg h] at hz ⊢
        exact ⟨Nat.le_refl _, hp⟩
    · rw [tx_x3] at hz ⊢
      have i2 := ihs 4 (tx_x T a pl f 1 (0, p) o).1 o (by decide) (fun z => (ih 1 p o (by decide) hp z).2) hz
      have i1 := ih 1 p o (by decide) hp i2.1
      dsimp only
      rw [List.length_append]
      omega
    · rw [tx_x4] at hz ⊢
      by_cases h : tx_g T.1 T.2 p 43 = true ∨ tx_g T.1 T.2 p 45 = true
      · have gt := tx_nx_gt (b := T.1) (n := T.2) (p := p) (h.elim tx_gp tx_gp)
        have le := tx_nx_le (b := T.1) (n := T.2) (p := p) (h.elim tx_gp tx_gp)
        rw [if_pos h] at hz ⊢
        have i2 := ihs 4 (tx_x T a pl f 1 (0, tx_nx T.1 T.2 p) o).1 o (by decide) (fun z => (ih 1 _ o (by decide) le z).2) hz
        have i1 := ih 1 _ o (by decide) le i2.1
        dsimp only
        rw [List.length_append, List.length_cons]
        omega
      · rw [if_neg h] at hz ⊢
        exact ⟨Nat.le_refl _, hp⟩
    · rw [tx_x5] at hz ⊢
      by_cases h : tx_wd T.1 T.2 p = some (m_X + 1 + 7)
      · have gt := tx_nx_gt (b := T.1) (n := T.2) (p := p) (tx_k1.mp (tx_wk h)).1
        have le := tx_nx_le (b := T.1) (n := T.2) (p := p) (tx_k1.mp (tx_wk h)).1
        rw [if_pos h] at hz ⊢
        by_cases ho : o < 6
        · rw [if_pos ho] at hz ⊢
          have i1 := ih 5 _ (o + 1) (by decide) le hz
          dsimp only
          rw [List.length_append]
          dsimp only [List.length_cons, List.length_nil]
          omega
        · rw [if_neg ho] at hz
          exact absurd hz (by simp)
      · rw [if_neg h] at hz ⊢
        by_cases h2 : tx_g T.1 T.2 p (if a = true then 40 else 91) = true
        · have gt := tx_nx_gt (b := T.1) (n := T.2) (p := p) (tx_gp h2)
          have le := tx_nx_le (b := T.1) (n := T.2) (p := p) (tx_gp h2)
          rw [if_pos h2] at hz ⊢
          by_cases ho : o < 6
          · rw [if_pos ho] at hz ⊢
            have g := sg_len hz
            have i1 := ih 8 _ (o + 1) (by decide) le g.1
            dsimp only
            omega
          · rw [if_neg ho] at hz
            exact absurd hz (by simp)
        · rw [if_neg h2] at hz ⊢
          have i1 := ih 10 p o (by decide) hp
          generalize hr : tx_x T a pl f 10 (0, p) o = r at hz i1 ⊢
          obtain ⟨⟨e1, p1⟩, c1⟩ := r
          dsimp only at hz i1 ⊢
          by_cases z : e1 = 0
          · rw [if_pos z] at hz ⊢
            have i1 := i1 z
            by_cases h3 : tx_g T.1 T.2 p1 60 = true ∨ tx_g T.1 T.2 p1 62 = true ∨ tx_g T.1 T.2 p1 61 = true
            · have lt : p1 < T.2 := h3.elim tx_gp (fun z => z.elim tx_gp tx_gp)
              have gt := tx_nx_gt (b := T.1) (n := T.2) (p := p1) lt
              have le := tx_nx_le (b := T.1) (n := T.2) (p := p1) lt
              rw [if_pos h3] at hz ⊢
              have i2 := ih 10 _ o (by decide) le hz
              dsimp only
              rw [List.length_append, List.length_append]
              dsimp only [List.length_cons, List.length_nil]
              omega
            · rw [if_neg h3] at hz
              exact absurd hz (by simp)
          · rw [if_neg z] at hz
            exact absurd hz z
    · rw [tx_x6] at hz ⊢
      have i2 := ihs 7 (tx_x T a pl f 5 (0, p) o).1 o (by decide) (fun z => (ih 5 p o (by decide) hp z).2) hz
      have i1 := ih 5 p o (by decide) hp i2.1
      dsimp only
      rw [List.length_append]
      omega
    · rw [tx_x7] at hz ⊢
      by_cases h : tx_wd T.1 T.2 p = some (m_X + 1 + 6)
      · have gt := tx_nx_gt (b := T.1) (n := T.2) (p := p) (tx_k1.mp (tx_wk h)).1
        have le := tx_nx_le (b := T.1) (n := T.2) (p := p) (tx_k1.mp (tx_wk h)).1
        rw [if_pos h] at hz ⊢
        have i2 := ihs 7 (tx_x T a pl f 5 (0, tx_nx T.1 T.2 p) o).1 o (by decide) (fun z => (ih 5 _ o (by decide) le z).2) hz
        have i1 := ih 5 _ o (by decide) le i2.1
        dsimp only
        rw [List.length_append, List.length_cons]
        omega
      · rw [if_neg h] at hz ⊢
        exact ⟨Nat.le_refl _, hp⟩
    · rw [tx_x8] at hz ⊢
      have i2 := ihs 9 (tx_x T a pl f 6 (0, p) o).1 o (by decide) (fun z => (ih 6 p o (by decide) hp z).2) hz
      have i1 := ih 6 p o (by decide) hp i2.1
      dsimp only
      rw [List.length_append]
      omega
    · rw [tx_x9] at hz ⊢
      by_cases h : tx_wd T.1 T.2 p = some (m_X + 1 + 5)
      · have gt := tx_nx_gt (b := T.1) (n := T.2) (p := p) (tx_k1.mp (tx_wk h)).1
        have le := tx_nx_le (b := T.1) (n := T.2) (p := p) (tx_k1.mp (tx_wk h)).1
        rw [if_pos h] at hz ⊢
        have i2 := ihs 9 (tx_x T a pl f 6 (0, tx_nx T.1 T.2 p) o).1 o (by decide) (fun z => (ih 6 _ o (by decide) le z).2) hz
        have i1 := ih 6 _ o (by decide) le i2.1
        dsimp only
        rw [List.length_append, List.length_cons]
        omega
      · rw [if_neg h] at hz ⊢
        exact ⟨Nat.le_refl _, hp⟩
    · rw [tx_x10] at hz ⊢
      by_cases ha : a = true
      · rw [if_pos ha] at hz ⊢
        by_cases h1 : tx_k T.1 T.2 p = 2
        · rw [if_pos h1] at hz ⊢
          have := nb_len hz
          exact ⟨this.1, this.2⟩
        · rw [if_neg h1] at hz ⊢
          cases hw : tx_wd T.1 T.2 p with
          | none => rw [hw] at hz; exact absurd hz (by simp)
          | some w =>
            have gt := tx_nx_gt (b := T.1) (n := T.2) (p := p) (tx_k1.mp (tx_wk hw)).1
            have le := tx_nx_le (b := T.1) (n := T.2) (p := p) (tx_k1.mp (tx_wk hw)).1
            rw [hw] at hz
            dsimp only at hz ⊢
            by_cases h2 : m_X + 25 ≤ w ∧ w ≤ m_X + 35
            · rw [if_pos h2]
              exact ⟨gt, le⟩
            · rw [if_neg h2] at hz
              exact absurd hz (by simp)
      · rw [if_neg ha] at hz ⊢
        exact ih 3 p o (by decide) hp hz
theorem ev_len {p' : Nat} (h : tx_ev T a pl m (0, p) o ((e, p'), c1)) (hp : p ≤ T.2) (z : e = 0) (hm : m ≤ 10 := by decide) : p + c1.length ≤ p' ∧ p' ≤ T.2 := by
  obtain ⟨f, g⟩ := h
  have g := g f (Nat.le_refl _)
  have := tx_len (T := T) (a := a) (pl := pl) f m p o hm hp (by rw [g]; exact z)
  rw [g] at this
  exact this
end EVR
