/-! A TEXT, as both sides read it -/
abbrev tx_C : Type := Nat → Int
/-- a command: 0 its name's place, 1 its class, 2 its time, 3 to 7 where its test, result, settings, keepings begin, its end -/
def tx_mk (U : List Int) : tx_C := fun j => U.getD j 0
/-- settings, commands, codes -/
abbrev tx_G : Type := (Nat → Int) × List tx_C × List Int
def tx_u1 (D : Nat → Int) (j : Nat) (v : Int) : Nat → Int := fun i => if i = j then v else D i
theorem u1_e {D : Nat → Int} {j : Nat} {v : Int} : tx_u1 D j v j = v := if_pos rfl
theorem u1_n {D : Nat → Int} {i j : Nat} {v : Int} (h : ¬ i = j) : tx_u1 D j v i = D i := if_neg h
/-- two tokens are the same word -/
def tx_same (T : tx_T) (p q : Nat) : Prop := tx_te T.1 T.2 p - p = tx_te T.1 T.2 q - q ∧ ∀ k, k < tx_te T.1 T.2 p - p → T.1 (p + k) = T.1 (q + k)
def tx_isn (T : tx_T) (p : Nat) : Prop := tx_k T.1 T.2 p = 1 ∧ tx_wd T.1 T.2 p = none
def tx_old (T : tx_T) (cms : List tx_C) (p : Nat) : Prop := ∃ c, c ∈ cms ∧ tx_same T (c 0).toNat p
/-- a name -/
def tx_nm (T : tx_T) (cms : List tx_C) (s r : tx_St) : Prop := (¬ s.1 = 0 → r = s) ∧ (s.1 = 0 → ¬ tx_isn T s.2 → r = (1, s.2)) ∧ (s.1 = 0 → tx_isn T s.2 → tx_old T cms s.2 → r = (4, s.2)) ∧ (s.1 = 0 → tx_isn T s.2 → ¬ tx_old T cms s.2 → r = (0, tx_nx T.1 T.2 s.2))
theorem nm_det {T : tx_T} {cms : List tx_C} {s r r' : tx_St} (h : tx_nm T cms s r) (h' : tx_nm T cms s r') : r = r' := by
  by_cases z : s.1 = 0
  · by_cases z1 : tx_isn T s.2
    · by_cases z2 : tx_old T cms s.2
      · exact (h.2.2.1 z z1 z2).trans (h'.2.2.1 z z1 z2).symm
      · exact (h.2.2.2 z z1 z2).trans (h'.2.2.2 z z1 z2).symm
    · exact (h.2.1 z z1).trans (h'.2.1 z z1).symm
  · exact (h.1 z).trans (h'.1 z).symm
/-- a class -/
def tx_kd (T : tx_T) (s : tx_St) : tx_St × Int := if s.1 = 0 then (match tx_wd T.1 T.2 s.2 with | some w => if m_X + 21 ≤ w ∧ w ≤ m_X + 24 then ((0, tx_nx T.1 T.2 s.2), ((w - (m_X + 21) : Nat) : Int)) else ((1, s.2), -1) | none => ((1, s.2), -1)) else (s, -1)
theorem kd_b {T : tx_T} {e : Int} {p : Nat} (z : ¬ e = 0) : tx_kd T (e, p) = ((e, p), -1) := if_neg z
theorem kd_y {T : tx_T} {p i : Nat} (hi : i < 4) (h : tx_wd T.1 T.2 p = some (m_X + 1 + (20 + i))) : tx_kd T (0, p) = ((0, tx_nx T.1 T.2 p), (i : Int)) := by
  unfold tx_kd
  rw [if_pos rfl]
  dsimp only
  rw [h]
  dsimp only
  rw [if_pos (by omega), show m_X + 1 + (20 + i) - (m_X + 21) = i by omega]
theorem kd_n {T : tx_T} {p : Nat} (h : ∀ i, i < 4 → ¬ tx_wd T.1 T.2 p = some (m_X + 1 + (20 + i))) : tx_kd T (0, p) = ((1, p), -1) := by
  unfold tx_kd
  rw [if_pos rfl]
  dsimp only
  cases hw : tx_wd T.1 T.2 p with
  | none => rfl
  | some w =>
    dsimp only
    rw [if_neg (fun q => h (w - (m_X + 21)) (by omega) (by rw [hw, show m_X + 1 + (20 + (w - (m_X + 21))) = w by omega]))]
/-- settings, keepings: word j, place pl, the greatest number mo, codes from to on -/
def tx_st (T : tx_T) (j : Nat) (pl mo to : Int) : Nat → tx_St → tx_St × List Int → Prop
  | 0, _, _ => False
  | f + 1, s, r => (s.1 = 0 ∧ tx_wd T.1 T.2 s.2 = some (m_X + 1 + j) → ∃ s2 c2 r3, tx_ev T false pl 3 (tx_sg T 61 (tx_nb T 0 mo (0, tx_nx T.1 T.2 s.2)).1) 0 (s2, c2) ∧ tx_st T j pl mo to f s2 r3 ∧ r = (r3.1, c2 ++ (to + (tx_nb T 0 mo (0, tx_nx T.1 T.2 s.2)).2) :: r3.2)) ∧ (¬ (s.1 = 0 ∧ tx_wd T.1 T.2 s.2 = some (m_X + 1 + j)) → r = (s, []))
def tx_sv (T : tx_T) (j : Nat) (pl mo to : Int) (s : tx_St) (r : tx_St × List Int) : Prop := ∃ f, tx_st T j pl mo to f s r
section TXV
variable {T : tx_T} {j : Nat} {pl mo to : Int}
theorem st_det : ∀ (f f' : Nat) (s : tx_St) (r r' : tx_St × List Int), tx_st T j pl mo to f s r → tx_st T j pl mo to f' s r' → r = r'
  | 0, _, _, _, _, h, _ => h.elim
  | _ + 1, 0, _, _, _, _, h => h.elim
  | f + 1, f' + 1, s, r, r', h, h' => by
    by_cases z : s.1 = 0 ∧ tx_wd T.1 T.2 s.2 = some (m_X + 1 + j)
    · obtain ⟨s2, c2, r3, h1, h2, h3⟩ := h.1 z
      obtain ⟨s2', c2', r3', h1', h2', h3'⟩ := h'.1 z
      have e := ev_det h1 h1'
      cases e
      have e := st_det f f' s2 r3 r3' h2 h2'
      rw [h3, h3', e]
    · exact (h.2 z).trans (h'.2 z).symm
theorem sv_det {s : tx_St} {r r' : tx_St × List Int} (h : tx_sv T j pl mo to s r) (h' : tx_sv T j pl mo to s r') : r = r' := by
  obtain ⟨f, h⟩ := h
  obtain ⟨f', h'⟩ := h'
  exact st_det f f' s r r' h h'
theorem sv_b {e : Int} {p : Nat} (z : ¬ e = 0) : tx_sv T j pl mo to (e, p) ((e, p), []) := ⟨1, fun q => absurd q.1 z, fun _ => rfl⟩
theorem sv_0 {p : Nat} (z : ¬ tx_wd T.1 T.2 p = some (m_X + 1 + j)) : tx_sv T j pl mo to (0, p) ((0, p), []) := ⟨1, fun q => absurd q.2 z, fun _ => rfl⟩
theorem sv_s {p : Nat} {s2 : tx_St} {c2 : List Int} {r3 : tx_St × List Int} (z : tx_wd T.1 T.2 p = some (m_X + 1 + j)) (h1 : tx_ev T false pl 3 (tx_sg T 61 (tx_nb T 0 mo (0, tx_nx T.1 T.2 p)).1) 0 (s2, c2)) (h2 : tx_sv T j pl mo to s2 r3) : tx_sv T j pl mo to (0, p) (r3.1, c2 ++ (to + (tx_nb T 0 mo (0, tx_nx T.1 T.2 p)).2) :: r3.2) := by
  obtain ⟨f, h2⟩ := h2
  exact ⟨f + 1, fun _ => ⟨_, _, _, h1, h2, rfl⟩, fun q => absurd ⟨rfl, z⟩ q⟩
end TXV
/-- a command, from its word on -/
def tx_cm (T : tx_T) (G : tx_G) (p : Nat) (r : tx_St × tx_C × List Int) : Prop := ∃ s1 s3 c1 s5 c2 s6 c3 s7 c4, tx_nm T G.2.1 (0, tx_nx T.1 T.2 p) s1 ∧ ((tx_kd T s1).2 = 3 → tx_ev T false 0 8 (tx_kd T s1).1 0 (s3, c1)) ∧ (¬ (tx_kd T s1).2 = 3 → s3 = (tx_kd T s1).1 ∧ c1 = []) ∧ ((tx_nb T 1 50 (tx_wr T 2 s3)).1.1 = 0 ∧ tx_wd T.1 T.2 (tx_nb T 1 50 (tx_wr T 2 s3)).1.2 = some (m_X + 1 + 32) → tx_ev T false 1 3 (0, tx_nx T.1 T.2 (tx_nb T 1 50 (tx_wr T 2 s3)).1.2) 0 (s5, c2)) ∧ (¬ ((tx_nb T 1 50 (tx_wr T 2 s3)).1.1 = 0 ∧ tx_wd T.1 T.2 (tx_nb T 1 50 (tx_wr T 2 s3)).1.2 = some (m_X + 1 + 32)) → s5 = (tx_nb T 1 50 (tx_wr T 2 s3)).1 ∧ c2 = []) ∧ tx_sv T 3 2 7 40 s5 (s6, c3) ∧ tx_sv T 4 3 3 50 s6 (s7, c4) ∧ r = (s7, tx_mk [(tx_nx T.1 T.2 p : Int), (tx_kd T s1).2, (tx_nb T 1 50 (tx_wr T 2 s3)).2, (G.2.2.length : Int), (G.2.2.length + c1.length : Nat), (G.2.2.length + c1.length + c2.length : Nat), (G.2.2.length + c1.length + c2.length + c3.length : Nat), (G.2.2.length + c1.length + c2.length + c3.length + c4.length : Nat)], G.2.2 ++ (c1 ++ (c2 ++ (c3 ++ c4))))
theorem cm_det {T : tx_T} {G : tx_G} {p : Nat} {r r' : tx_St × tx_C × List Int} (h : tx_cm T G p r) (h' : tx_cm T G p r') : r = r' := by
  obtain ⟨s1, s3, c1, s5, c2, s6, c3, s7, c4, a1, a2, a3, a4, a5, a6, a7, a8⟩ := h
  obtain ⟨t1, t3, d1, t5, d2, t6, d3, t7, d4, b1, b2, b3, b4, b5, b6, b7, b8⟩ := h'
  obtain rfl := nm_det a1 b1
  have e : (s3, c1) = (t3, d1) := by
    by_cases z : (tx_kd T s1).2 = 3
    · exact ev_det (a2 z) (b2 z)
    · rw [(a3 z).1, (a3 z).2, (b3 z).1, (b3 z).2]
  cases e
  have e : (s5, c2) = (t5, d2) := by
    by_cases z : (tx_nb T 1 50 (tx_wr T 2 s3)).1.1 = 0 ∧ tx_wd T.1 T.2 (tx_nb T 1 50 (tx_wr T 2 s3)).1.2 = some (m_X + 1 + 32)
    · exact ev_det (a4 z) (b4 z)
    · rw [(a5 z).1, (a5 z).2, (b5 z).1, (b5 z).2]
  cases e
  have e := sv_det a6 b6
  cases e
  have e := sv_det a7 b7
  cases e
  exact a8.trans b8.symm
/-- the settings with one number: which, from, to -/
def tx_tb : List (Nat × Int × Int) := [(4, 1, 1000), (5, 0, 20), (6, 1, 20), (7, 1, 20), (8, 1, 50)]
theorem is_inj {T : tx_T} {p i j : Nat} (h : tx_is T p i) (h' : tx_is T p j) : i = j := by
  have e := Option.some.inj (Eq.trans (Eq.symm h) h')
  omega
/-- a clause without its ';' -/
def tx_c1 (T : tx_T) (G : tx_G) (p : Nat) (Y : tx_G × tx_St) : Prop := (tx_is T p 1 → G.2.1.length = 8 → Y = (G, (3, p))) ∧ (tx_is T p 1 → ¬ G.2.1.length = 8 → ∃ r, tx_cm T G p r ∧ Y = ((G.1, G.2.1 ++ [r.2.1], r.2.2), r.1)) ∧ (tx_is T p 14 → Y = ((tx_u1 (tx_u1 G.1 2 (tx_nb T 1 100 (0, tx_nx T.1 T.2 p)).2) 3 (tx_nb T (tx_nb T 1 100 (0, tx_nx T.1 T.2 p)).2 1000 (tx_nb T 1 100 (0, tx_nx T.1 T.2 p)).1).2, G.2), (tx_nb T (tx_nb T 1 100 (0, tx_nx T.1 T.2 p)).2 1000 (tx_nb T 1 100 (0, tx_nx T.1 T.2 p)).1).1)) ∧ (∀ x, x ∈ tx_tb → tx_is T p (11 + x.1) → Y = ((tx_u1 G.1 x.1 (tx_nb T x.2.1 x.2.2 (0, tx_nx T.1 T.2 p)).2, G.2), (tx_nb T x.2.1 x.2.2 (0, tx_nx T.1 T.2 p)).1)) ∧ (¬ tx_is T p 1 → (∀ j, 14 ≤ j → j ≤ 19 → ¬ tx_is T p j) → Y = (G, (1, p)))
theorem tb_j : ∀ j, 15 ≤ j → j ≤ 19 → ∃ x, x ∈ tx_tb ∧ j = 11 + x.1 := fun j h1 h2 => by
  rcases (show j = 15 ∨ j = 16 ∨ j = 17 ∨ j = 18 ∨ j = 19 by omega) with rfl | rfl | rfl | rfl | rfl
  · exact ⟨(4, 1, 1000), by decide, rfl⟩
  · exact ⟨(5, 0, 20), by decide, rfl⟩
  · exact ⟨(6, 1, 20), by decide, rfl⟩
  · exact ⟨(7, 1, 20), by decide, rfl⟩
  · exact ⟨(8, 1, 50), by decide, rfl⟩
theorem c1_det {T : tx_T} {G : tx_G} {p : Nat} {Y Y' : tx_G × tx_St} (h : tx_c1 T G p Y) (h' : tx_c1 T G p Y') : Y = Y' := by
  obtain ⟨a1, a2, a3, a4, a5⟩ := h
  obtain ⟨b1, b2, b3, b4, b5⟩ := h'
  by_cases z : tx_is T p 1
  · by_cases z8 : G.2.1.length = 8
    · exact (a1 z z8).trans (b1 z z8).symm
    · obtain ⟨r, h1, h2⟩ := a2 z z8
      obtain ⟨r', h1', h2'⟩ := b2 z z8
      obtain rfl := cm_det h1 h1'
      exact h2.trans h2'.symm
  · by_cases y : ∃ j, 14 ≤ j ∧ j ≤ 19 ∧ tx_is T p j
    · obtain ⟨j, y1, y2, y3⟩ := y
      by_cases j14 : j = 14
      · subst j14
        exact (a3 y3).trans (b3 y3).symm
      · obtain ⟨x, hx, rfl⟩ := tb_j j (by omega) y2
        exact (a4 x hx y3).trans (b4 x hx y3).symm
    · have y : ∀ j, 14 ≤ j → j ≤ 19 → ¬ tx_is T p j := fun j h1 h2 h3 => y ⟨j, h1, h2, h3⟩
      exact (a5 z y).trans (b5 z y).symm
theorem c1_cm8 {T : tx_T} {G : tx_G} {p : Nat} (h : tx_is T p 1) (h8 : G.2.1.length = 8) : tx_c1 T G p (G, (3, p)) :=
  ⟨fun _ _ => rfl, fun _ q => absurd h8 q, fun q => absurd (is_inj h q) (by decide), fun x hx q => by
    have := is_inj h q
    omega, fun q => absurd h q⟩
theorem c1_cm {T : tx_T} {G : tx_G} {p : Nat} {r : tx_St × tx_C × List Int} (h : tx_is T p 1) (h8 : ¬ G.2.1.length = 8) (hr : tx_cm T G p r) : tx_c1 T G p ((G.1, G.2.1 ++ [r.2.1], r.2.2), r.1) :=
  ⟨fun _ q => absurd q h8, fun _ _ => ⟨r, hr, rfl⟩, fun q => absurd (is_inj h q) (by decide), fun x hx q => by
    have := is_inj h q
    omega, fun q => absurd h q⟩
theorem c1_dl {T : tx_T} {G : tx_G} {p : Nat} (h : tx_is T p 14) : tx_c1 T G p ((tx_u1 (tx_u1 G.1 2 (tx_nb T 1 100 (0, tx_nx T.1 T.2 p)).2) 3 (tx_nb T (tx_nb T 1 100 (0, tx_nx T.1 T.2 p)).2 1000 (tx_nb T 1 100 (0, tx_nx T.1 T.2 p)).1).2, G.2), (tx_nb T (tx_nb T 1 100 (0, tx_nx T.1 T.2 p)).2 1000 (tx_nb T 1 100 (0, tx_nx T.1 T.2 p)).1).1) :=
  ⟨fun q => absurd (is_inj h q) (by decide), fun q => absurd (is_inj h q) (by decide), fun _ => rfl, fun x hx q => by
    have e := is_inj h q
    have : x.1 = 4 ∨ x.1 = 5 ∨ x.1 = 6 ∨ x.1 = 7 ∨ x.1 = 8 := by
      revert hx
      unfold tx_tb
      intro hx
      simp only [List.mem_cons, List.not_mem_nil, or_false] at hx
      rcases hx with rfl | rfl | rfl | rfl | rfl <;> decide
    omega, fun _ q => absurd h (q 14 (by decide) (by decide))⟩
theorem tb_in {x : Nat × Int × Int} (hx : x ∈ tx_tb) : x = (4, 1, 1000) ∨ x = (5, 0, 20) ∨ x = (6, 1, 20) ∨ x = (7, 1, 20) ∨ x = (8, 1, 50) := by
  unfold tx_tb at hx
  simpa only [List.mem_cons, List.not_mem_nil, or_false] using hx
theorem c1_nb {T : tx_T} {G : tx_G} {p : Nat} {x : Nat × Int × Int} (hx : x ∈ tx_tb) (h : tx_is T p (11 + x.1)) : tx_c1 T G p ((tx_u1 G.1 x.1 (tx_nb T x.2.1 x.2.2 (0, tx_nx T.1 T.2 p)).2, G.2), (tx_nb T x.2.1 x.2.2 (0, tx_nx T.1 T.2 p)).1) := by
  have hx4 : 4 ≤ x.1 ∧ x.1 ≤ 8 := by rcases tb_in hx with rfl | rfl | rfl | rfl | rfl <;> decide
  refine ⟨fun q => ?_, fun q => ?_, fun q => ?_, fun y hy q => ?_, fun _ q => absurd h (q _ (by omega) (by omega))⟩
  · have := is_inj h q
    omega
  · have := is_inj h q
    omega
  · have := is_inj h q
    omega
  · have e := is_inj h q
    have e : x = y := by
      rcases tb_in hx with rfl | rfl | rfl | rfl | rfl <;> rcases tb_in hy with rfl | rfl | rfl | rfl | rfl <;> first | rfl | (exfalso; revert e; decide)
    rw [e]
theorem c1_no {T : tx_T} {G : tx_G} {p : Nat} (h : ¬ tx_is T p 1) (h2 : ∀ j, 14 ≤ j → j ≤ 19 → ¬ tx_is T p j) : tx_c1 T G p (G, (1, p)) :=
  ⟨fun q => absurd q h, fun q => absurd q h, fun q => absurd q (h2 14 (by decide) (by decide)), fun x hx q => by
    have hx4 : 4 ≤ x.1 ∧ x.1 ≤ 8 := by rcases tb_in hx with rfl | rfl | rfl | rfl | rfl <;> decide
    exact absurd q (h2 _ (by omega) (by omega)), fun _ _ => rfl⟩
/-- clauses, to the end -/
def tx_tl (T : tx_T) : Nat → tx_G × tx_St → tx_G × tx_St → Prop
  | 0, _, _ => False
  | f + 1, X, Y => (X.2.1 = 0 ∧ ¬ tx_k T.1 T.2 X.2.2 = 0 → ∃ Z : tx_G × tx_St, tx_c1 T X.1 X.2.2 Z ∧ tx_tl T f (Z.1, tx_sg T 59 Z.2) Y) ∧ (¬ (X.2.1 = 0 ∧ ¬ tx_k T.1 T.2 X.2.2 = 0) → Y = X)
theorem tl_det {T : tx_T} : ∀ (f f' : Nat) (X Y Y' : tx_G × tx_St), tx_tl T f X Y → tx_tl T f' X Y' → Y = Y'
  | 0, _, _, _, _, h, _ => h.elim
  | _ + 1, 0, _, _, _, _, h => h.elim
  | f + 1, f' + 1, X, Y, Y', h, h' => by
    by_cases z : X.2.1 = 0 ∧ ¬ tx_k T.1 T.2 X.2.2 = 0
    · obtain ⟨Z, h1, h2⟩ := h.1 z
      obtain ⟨Z', h1', h2'⟩ := h'.1 z
      obtain rfl := c1_det h1 h1'
      exact tl_det f f' _ _ _ h2 h2'
    · exact (h.2 z).trans (h'.2 z).symm
/-- at first -/
def tx_D0 : Nat → Int := fun j => ([1, 0, 2, 32, 20, 5, 3, 4, 1] : List Int).getD j 0
/-- behind the head of a text -/
def tx_h0 (T : tx_T) : tx_G × tx_St := ((tx_u1 tx_D0 0 (tx_nb T 1 4 (tx_wr T 0 (0, tx_sk T.1 T.2 0))).2, [], []), tx_sg T 59 (tx_nb T 1 4 (tx_wr T 0 (0, tx_sk T.1 T.2 0))).1)
/-- a text -/
def tx_tx (T : tx_T) (Y : tx_G × tx_St) : Prop := ∃ f, tx_tl T f (tx_h0 T) Y
theorem tx_det {T : tx_T} {Y Y' : tx_G × tx_St} (h : tx_tx T Y) (h' : tx_tx T Y') : Y = Y' := by
  obtain ⟨f, h⟩ := h
  obtain ⟨f', h'⟩ := h'
  exact tl_det f f' _ _ _ h h'
/-- a query: does it ask for the first; where it ends; its codes -/
def tx_q0 (T : tx_T) : tx_St := if tx_wd T.1 T.2 (tx_sk T.1 T.2 0) = some (m_X + 1 + 13) then (0, tx_nx T.1 T.2 (tx_sk T.1 T.2 0)) else tx_wr T 12 (0, tx_sk T.1 T.2 0)
def tx_qy (T : tx_T) (r : tx_St × List Int) : Prop := ∃ s c, tx_ev T true 0 8 (tx_q0 T) 0 (s, c) ∧ r = (tx_qe T true s, c)
theorem qy_det {T : tx_T} {r r' : tx_St × List Int} (h : tx_qy T r) (h' : tx_qy T r') : r = r' := by
  obtain ⟨s, c, h1, h2⟩ := h
  obtain ⟨s', c', h1', h2'⟩ := h'
  have e := ev_det h1 h1'
  cases e
  exact h2.trans h2'.symm
