/-! which codes a text, a query can have (pure) -/
def C3 (c : List Int) : Prop := ∀ x, x ∈ c → sp_c3 x
def sp_cq (x : Int) : Prop := (0 ≤ x ∧ x ≤ 10) ∨ (20 ≤ x ∧ x ≤ 25) ∨ 1000 ≤ x
def Cq (c : List Int) : Prop := ∀ x, x ∈ c → sp_cq x
section C3S
variable {c c1 c2 : List Int} {x : Int}
theorem C3_0 : C3 [] := fun x hx => absurd hx List.not_mem_nil
theorem C3_a (h1 : C3 c1) (h2 : C3 c2) : C3 (c1 ++ c2) := fun x hx => (List.mem_append.mp hx).elim (h1 x) (h2 x)
theorem C3_c (h1 : sp_c3 x) (h2 : C3 c) : C3 (x :: c) := fun y hy => (List.mem_cons.mp hy).elim (fun e => e ▸ h1) (h2 y)
theorem Cq_0 : Cq [] := fun x hx => absurd hx List.not_mem_nil
theorem Cq_a (h1 : Cq c1) (h2 : Cq c2) : Cq (c1 ++ c2) := fun x hx => (List.mem_append.mp hx).elim (h1 x) (h2 x)
theorem Cq_c (h1 : sp_cq x) (h2 : Cq c) : Cq (x :: c) := fun y hy => (List.mem_cons.mp hy).elim (fun e => e ▸ h1) (h2 y)
end C3S
theorem x_c3 {T : tx_T} {a : Bool} {pl : Int} : ∀ (f m : Nat) (s : tx_St) (o : Int), m ≤ 10 → C3 (tx_x T a pl f m s o).2 := by
  intro f
  induction f with
  | zero => exact fun m s o _ => C3_0
  | succ f ih =>
    intro m s o hm
    obtain ⟨e, p⟩ := s
    by_cases z : e = 0
    · subst z
      have n0 := nb_v (T := T) (lo := 0) (hi := 65535) (s := (0, p)) (by decide)
      have n1 := nb_v (T := T) (lo := 0) (hi := 7) (s := (0, tx_nx T.1 T.2 p)) (by decide)
      have n2 := nb_v (T := T) (lo := 0) (hi := 3) (s := (0, tx_nx T.1 T.2 p)) (by decide)
      have n3 := nb_v (T := T) (lo := 0) (hi := 99999) (s := (0, p)) (by decide)
      rcases (show m = 0 ∨ m = 1 ∨ m = 2 ∨ m = 3 ∨ m = 4 ∨ m = 5 ∨ m = 6 ∨ m = 7 ∨ m = 8 ∨ m = 9 ∨ m = 10 by omega) with rfl | rfl | rfl | rfl | rfl | rfl | rfl | rfl | rfl | rfl | rfl
      · rw [tx_x0]
        (repeat' split) <;> (repeat' first | exact C3_0 | exact ih _ _ _ (by decide) | refine C3_c (by unfold sp_c3; omega) ?_)
      · rw [tx_x1]
        exact C3_a (ih _ _ _ (by decide)) (ih _ _ _ (by decide))
      · rw [tx_x2]
        (repeat' split) <;> (repeat' first | exact C3_0 | exact ih _ _ _ (by decide) | refine C3_a ?_ ?_ | refine C3_c (by unfold sp_c3; omega) ?_)
      · rw [tx_x3]
        exact C3_a (ih _ _ _ (by decide)) (ih _ _ _ (by decide))
      · rw [tx_x4]
        (repeat' split) <;> (repeat' first | exact C3_0 | exact ih _ _ _ (by decide) | refine C3_a ?_ ?_ | refine C3_c (by unfold sp_c3; omega) ?_)
      · rw [tx_x5]
        (repeat' split) <;> (repeat' first | exact C3_0 | exact ih _ _ _ (by decide) | refine C3_a ?_ ?_ | refine C3_c (by unfold sp_c3; omega) ?_ | split)
      · rw [tx_x6]
        exact C3_a (ih _ _ _ (by decide)) (ih _ _ _ (by decide))
      · rw [tx_x7]
        (repeat' split) <;> (repeat' first | exact C3_0 | exact ih _ _ _ (by decide) | refine C3_a ?_ ?_ | refine C3_c (by unfold sp_c3; omega) ?_)
      · rw [tx_x8]
        exact C3_a (ih _ _ _ (by decide)) (ih _ _ _ (by decide))
      · rw [tx_x9]
        (repeat' split) <;> (repeat' first | exact C3_0 | exact ih _ _ _ (by decide) | refine C3_a ?_ ?_ | refine C3_c (by unfold sp_c3; omega) ?_)
      · rw [tx_x10]
        (repeat' split) <;> (repeat' first | exact C3_0 | exact ih _ _ _ (by decide) | refine C3_c (by unfold sp_c3; omega) ?_)
    · rw [show tx_x T a pl (f + 1) m (e, p) o = ((e, p), []) from if_neg z]
      exact C3_0
theorem x_cq {T : tx_T} {pl : Int} : ∀ (f m : Nat) (s : tx_St) (o : Int), 5 ≤ m → m ≤ 10 → Cq (tx_x T true pl f m s o).2 := by
  intro f
  induction f with
  | zero => exact fun m s o _ _ => Cq_0
  | succ f ih =>
    intro m s o h5 hm
    obtain ⟨e, p⟩ := s
    by_cases z : e = 0
    · subst z
      have n3 := nb_v (T := T) (lo := 0) (hi := 99999) (s := (0, p)) (by decide)
      rcases (show m = 5 ∨ m = 6 ∨ m = 7 ∨ m = 8 ∨ m = 9 ∨ m = 10 by omega) with rfl | rfl | rfl | rfl | rfl | rfl
      · rw [tx_x5]
        (repeat' split) <;> (repeat' first | exact Cq_0 | exact ih _ _ _ (by decide) (by decide) | refine Cq_a ?_ ?_ | refine Cq_c (by unfold sp_cq; omega) ?_ | split)
      · rw [tx_x6]
        exact Cq_a (ih _ _ _ (by decide) (by decide)) (ih _ _ _ (by decide) (by decide))
      · rw [tx_x7]
        (repeat' split) <;> (repeat' first | exact Cq_0 | exact ih _ _ _ (by decide) (by decide) | refine Cq_a ?_ ?_ | refine Cq_c (by unfold sp_cq; omega) ?_)
      · rw [tx_x8]
        exact Cq_a (ih _ _ _ (by decide) (by decide)) (ih _ _ _ (by decide) (by decide))
      · rw [tx_x9]
        (repeat' split) <;> (repeat' first | exact Cq_0 | exact ih _ _ _ (by decide) (by decide) | refine Cq_a ?_ ?_ | refine Cq_c (by unfold sp_cq; omega) ?_)
      · rw [tx_x10, if_pos rfl]
        (repeat' split) <;> (repeat' first | exact Cq_0 | refine Cq_c (by unfold sp_cq; omega) ?_)
    · rw [show tx_x T true pl (f + 1) m (e, p) o = ((e, p), []) from if_neg z]
      exact Cq_0
theorem ev_c3 {T : tx_T} {a : Bool} {pl : Int} {m : Nat} {s s' : tx_St} {o : Int} {c : List Int} (h : tx_ev T a pl m s o (s', c)) (hm : m ≤ 10) : C3 c := by
  obtain ⟨f0, h⟩ := h
  have := x_c3 (T := T) (a := a) (pl := pl) f0 m s o hm
  rw [h f0 (Nat.le_refl _)] at this
  exact this
theorem ev_cq {T : tx_T} {pl : Int} {m : Nat} {s s' : tx_St} {o : Int} {c : List Int} (h : tx_ev T true pl m s o (s', c)) (h5 : 5 ≤ m) (hm : m ≤ 10) : Cq c := by
  obtain ⟨f0, h⟩ := h
  have := x_cq (T := T) (pl := pl) f0 m s o h5 hm
  rw [h f0 (Nat.le_refl _)] at this
  exact this
theorem st_c3 {T : tx_T} {j : Nat} {pl mo to : Int} (hm : (to = 40 ∧ mo = 7) ∨ (to = 50 ∧ mo = 3)) : ∀ (f : Nat) (s : tx_St) (r : tx_St × List Int), tx_st T j pl mo to f s r → C3 r.2
  | 0, _, _, h => h.elim
  | f + 1, s, r, h => by
    by_cases z : s.1 = 0 ∧ tx_wd T.1 T.2 s.2 = some (m_X + 1 + j)
    · obtain ⟨s2, c2, r3, h1, h2, h3⟩ := h.1 z
      have n := nb_v (T := T) (lo := 0) (hi := mo) (s := (0, tx_nx T.1 T.2 s.2)) (by omega)
      rw [h3]
      exact C3_a (ev_c3 h1 (by decide)) (C3_c (by unfold sp_c3; omega) (st_c3 hm f s2 r3 h2))
    · rw [h.2 z]
      exact C3_0
theorem cm_c3 {T : tx_T} {G : tx_G} {p : Nat} {r : tx_St × tx_C × List Int} (h : tx_cm T G p r) (hi : C3 G.2.2) : C3 r.2.2 := by
  obtain ⟨s1, s3, c1, s5, c2, s6, c3, s7, c4, a1, a2, a3, a4, a5, a6, a7, a8⟩ := h
  have e1 : C3 c1 := by
    by_cases z : (tx_kd T s1).2 = 3
    · exact ev_c3 (a2 z) (by decide)
    · rw [(a3 z).2]
      exact C3_0
  have e2 : C3 c2 := by
    by_cases z : (tx_nb T 1 50 (tx_wr T 2 s3)).1.1 = 0 ∧ tx_wd T.1 T.2 (tx_nb T 1 50 (tx_wr T 2 s3)).1.2 = some (m_X + 1 + 32)
    · exact ev_c3 (a4 z) (by decide)
    · rw [(a5 z).2]
      exact C3_0
  obtain ⟨f3, a6⟩ := a6
  obtain ⟨f4, a7⟩ := a7
  have e3 := st_c3 (Or.inl ⟨rfl, rfl⟩) f3 _ _ a6
  have e4 := st_c3 (Or.inr ⟨rfl, rfl⟩) f4 _ _ a7
  rw [a8]
  exact C3_a hi (C3_a e1 (C3_a e2 (C3_a e3 e4)))
theorem u_23 {D : Nat → Int} {a c : Int} (h : a ≤ c) : tx_u1 (tx_u1 D 2 a) 3 c 2 ≤ tx_u1 (tx_u1 D 2 a) 3 c 3 := by
  rw [u1_e, u1_n (by decide), u1_e]
  exact h
theorem u_no {D : Nat → Int} {j : Nat} {v : Int} (h2 : ¬ j = 2) (h3 : ¬ j = 3) (h : D 2 ≤ D 3) : tx_u1 D j v 2 ≤ tx_u1 D j v 3 := by
  rw [u1_n (fun e => h2 e.symm), u1_n (fun e => h3 e.symm)]
  exact h
theorem g3_mk {D : Nat → Int} {r : List tx_C × List Int} (h1 : C3 r.2) (h : D 2 ≤ D 3) : q_g3 (D, r) := ⟨h1, h⟩
theorem c1_g3 {T : tx_T} {G : tx_G} {p : Nat} {Z : tx_G × tx_St} (h : tx_c1 T G p Z) (hi : q_g3 G) : q_g3 Z.1 := by
  obtain ⟨a1, a2, a3, a4, a5⟩ := h
  by_cases y : tx_is T p 1
  · by_cases c8 : G.2.1.length = 8
    · rw [a1 y c8]
      exact hi
    · obtain ⟨r, h1, h2⟩ := a2 y c8
      rw [h2]
      exact ⟨cm_c3 h1 hi.1, hi.2⟩
  · by_cases q : ∃ j, 14 ≤ j ∧ j ≤ 19 ∧ tx_is T p j
    · obtain ⟨j, y1, y2, y3⟩ := q
      by_cases j14 : j = 14
      · subst j14
        rw [a3 y3]
        have n1 := nb_v (T := T) (lo := 1) (hi := 100) (s := (0, tx_nx T.1 T.2 p)) (by decide)
        have n2 := nb_v (T := T) (lo := (tx_nb T 1 100 (0, tx_nx T.1 T.2 p)).2) (hi := 1000) (s := (tx_nb T 1 100 (0, tx_nx T.1 T.2 p)).1) (by omega)
        exact g3_mk hi.1 (u_23 n2.1)
      · obtain ⟨x, hx, rfl⟩ := tb_j j (by omega) y2
        rw [a4 x hx y3]
        have hl : ¬ x.1 = 2 ∧ ¬ x.1 = 3 := by rcases tb_in hx with rfl | rfl | rfl | rfl | rfl <;> decide
        exact g3_mk hi.1 (u_no hl.1 hl.2 hi.2)
    · rw [a5 y (fun j h1 h2 h3 => q ⟨j, h1, h2, h3⟩)]
      exact hi
theorem tl_g3 {T : tx_T} : ∀ (f : Nat) (X Y : tx_G × tx_St), tx_tl T f X Y → q_g3 X.1 → q_g3 Y.1
  | 0, _, _, h, _ => h.elim
  | f + 1, X, Y, h, hi => by
    by_cases c : X.2.1 = 0 ∧ ¬ tx_k T.1 T.2 X.2.2 = 0
    · obtain ⟨Z, h1, h2⟩ := h.1 c
      have a := c1_g3 h1 hi
      exact tl_g3 f _ Y h2 a
    · rw [h.2 c]
      exact hi
theorem g3_0 : q_g3 (tx_D0, [], []) := ⟨C3_0, by decide⟩
theorem g3_tx {T : tx_T} {Y : tx_G × tx_St} (h : tx_tx T Y) : q_g3 Y.1 := by
  obtain ⟨f, h⟩ := h
  exact tl_g3 f _ Y h (g3_mk (D := tx_u1 tx_D0 0 (tx_nb T 1 4 (tx_wr T 0 (0, tx_sk T.1 T.2 0))).2) (r := ([], [])) C3_0 (u_no (by decide) (by decide) (by decide)))
