/-! a sum with what waits, against the spec: the frame (m, a) in which the reading stands: is a product pending, which code of a sum (0: none); the frames outside of the brackets that are open -/
def mm (m : Bool) : List Int := if m = true then [28] else []
def aa (a : Int) : List Int := if a = 0 then [] else [a]
theorem mm_f : mm false = [] := rfl
theorem mm_t : mm true = [28] := rfl
theorem aa_0 : aa 0 = [] := rfl
theorem aa_n {a : Int} (h : ¬ a = 0) : aa a = [a] := if_neg h
/-- behind an operand -/
def u_R (T : tx_T) (pl : Int) : List (Bool × Int) → Bool → Int → tx_St → Int → tx_St × List Int → Prop
  | [], m, a, s, o, r => ∃ s1 c1 s2 c2, tx_ev T false pl 2 s o (s1, c1) ∧ tx_ev T false pl 4 s1 o (s2, c2) ∧ r = (s2, mm m ++ (c1 ++ (aa a ++ c2)))
  | g :: gs, m, a, s, o, r => ∃ s1 c1 s2 c2 r3, tx_ev T false pl 2 s o (s1, c1) ∧ tx_ev T false pl 4 s1 o (s2, c2) ∧ u_R T pl gs g.1 g.2 (tx_sg T 41 s2) (o - 1) r3 ∧ r = (r3.1, mm m ++ (c1 ++ (aa a ++ (c2 ++ r3.2))))
/-- at an operand -/
def u_N (T : tx_T) (pl : Int) (gs : List (Bool × Int)) (m : Bool) (a : Int) (s : tx_St) (o : Int) (r : tx_St × List Int) : Prop := ∃ s1 c1 r2, tx_ev T false pl 0 s o (s1, c1) ∧ u_R T pl gs m a s1 o r2 ∧ r = (r2.1, c1 ++ r2.2)
section UNW
variable {T : tx_T} {pl o a : Int} {m : Bool} {gs : List (Bool × Int)} {p : Nat} {e : Int} {r : tx_St × List Int}
theorem bad_R (z : ¬ e = 0) : ∀ (gs : List (Bool × Int)) (m : Bool) (a o : Int), ∃ c, u_R T pl gs m a (e, p) o ((e, p), c)
  | [], m, a, o => ⟨_, _, _, _, _, ev_bad z, ev_bad z, rfl⟩
  | g :: gs, m, a, o => by
    obtain ⟨c, hc⟩ := bad_R z gs g.1 g.2 (o - 1)
    exact ⟨_, _, _, _, _, _, ev_bad z, ev_bad z, by rw [sg_b z]; exact hc, rfl⟩
theorem bad_N (z : ¬ e = 0) : ∃ c, u_N T pl gs m a (e, p) o ((e, p), c) := by
  obtain ⟨c, hc⟩ := bad_R (T := T) (pl := pl) (p := p) z gs m a o
  exact ⟨_, _, _, _, ev_bad z, hc, rfl⟩
/-- an operand read -/
theorem u_op {s1 : tx_St} {c1 : List Int} {s : tx_St} (h : tx_ev T false pl 0 s o (s1, c1)) (hr : u_R T pl gs m a s1 o r) : u_N T pl gs m a s o (r.1, c1 ++ r.2) := ⟨_, _, _, h, hr, rfl⟩
/-- a bracket opens -/
theorem u_par (h : tx_g T.1 T.2 p 40 = true) (ho : o < 6) (hr : u_N T pl ((m, a) :: gs) false 0 (0, tx_nx T.1 T.2 p) (o + 1) r) : u_N T pl gs m a (0, p) o r := by
  obtain ⟨s1, c1, r2, h1, ⟨s2, c2, s3, c3, r3, h2, h3, h4, rfl⟩, rfl⟩ := hr
  rw [show o + 1 - 1 = o by omega] at h4
  refine ⟨_, _, r3, ev_par h ho (ev_sum (ev_prd h1 h2) h3), h4, ?_⟩
  rw [mm_f, aa_0]
  simp only [List.nil_append, List.append_assoc]
theorem u_par6 (h : tx_g T.1 T.2 p 40 = true) (ho : ¬ o < 6) : ∃ c, u_N T pl gs m a (0, p) o ((3, p), c) := by
  obtain ⟨c, hc⟩ := bad_R (T := T) (pl := pl) (p := p) (e := 3) (by decide) gs m a o
  exact ⟨_, _, _, _, ev_par6 h ho, hc, rfl⟩
/-- the frame's rest behind the rest of its product -/
def u_S (T : tx_T) (pl : Int) (gs : List (Bool × Int)) (a : Int) (s1 : tx_St) (o : Int) (r : tx_St × List Int) : Prop := ∃ c0, r.2 = aa a ++ c0 ∧ ∀ (m : Bool) (s : tx_St) (c1 : List Int), tx_ev T false pl 2 s o (s1, c1) → u_R T pl gs m a s o (r.1, mm m ++ (c1 ++ (aa a ++ c0)))
theorem u_RS {s : tx_St} (h : u_R T pl gs m a s o r) : ∃ s1 c1 r1, tx_ev T false pl 2 s o (s1, c1) ∧ u_S T pl gs a s1 o r1 ∧ r = (r1.1, mm m ++ (c1 ++ r1.2)) := by
  cases gs with
  | nil =>
    obtain ⟨s1, c1, s2, c2, h1, h2, rfl⟩ := h
    exact ⟨s1, c1, (s2, aa a ++ c2), h1, ⟨c2, rfl, fun m s c1 h => ⟨_, _, _, _, h, h2, rfl⟩⟩, rfl⟩
  | cons g gs =>
    obtain ⟨s1, c1, s2, c2, r3, h1, h2, h3, rfl⟩ := h
    exact ⟨s1, c1, (r3.1, aa a ++ (c2 ++ r3.2)), h1, ⟨c2 ++ r3.2, rfl, fun m s c1 h => ⟨_, _, _, _, _, h, h2, h3, rfl⟩⟩, rfl⟩
/-- a product goes on -/
theorem u_mul (h : tx_g T.1 T.2 p 42 = true) (hr : u_N T pl gs true a (0, tx_nx T.1 T.2 p) o r) : u_R T pl gs m a (0, p) o (r.1, mm m ++ r.2) := by
  obtain ⟨s1, c1, r2, h1, h2, rfl⟩ := hr
  obtain ⟨s2, c2, r3, h3, ⟨c0, e0, hS⟩, rfl⟩ := u_RS h2
  have := hS m (0, p) _ (ev_mul h h1 h3)
  rw [e0, mm_t]
  simpa only [List.append_assoc, List.cons_append, List.nil_append] using this
/-- a sum goes on -/
theorem u_add {c : Int} (hn : ¬ tx_g T.1 T.2 p 42 = true) (hc : ¬ c = 0) (h : ∀ {s1 s2 : tx_St} {c1 c2 : List Int}, tx_ev T false pl 1 (0, tx_nx T.1 T.2 p) o (s1, c1) → tx_ev T false pl 4 s1 o (s2, c2) → tx_ev T false pl 4 (0, p) o (s2, c1 ++ c :: c2)) (hr : u_N T pl gs false c (0, tx_nx T.1 T.2 p) o r) : u_R T pl gs m a (0, p) o (r.1, mm m ++ (aa a ++ r.2)) := by
  obtain ⟨s1, c1, r2, h1, h2, rfl⟩ := hr
  cases gs with
  | nil =>
    obtain ⟨s2, c2, s3, c3, h3, h4, rfl⟩ := h2
    refine ⟨_, _, _, _, ev_mul0 hn, h (ev_prd h1 h3) h4, ?_⟩
    rw [mm_f, aa_n hc]
    simp only [List.append_assoc, List.cons_append, List.nil_append]
  | cons g gs =>
    obtain ⟨s2, c2, s3, c3, r3, h3, h4, h5, rfl⟩ := h2
    refine ⟨_, _, _, _, _, ev_mul0 hn, h (ev_prd h1 h3) h4, h5, ?_⟩
    rw [mm_f, aa_n hc]
    simp only [List.append_assoc, List.cons_append, List.nil_append]
/-- a bracket closes -/
theorem u_cls {g : Bool × Int} (h : tx_g T.1 T.2 p 41 = true) (hr : u_R T pl gs g.1 g.2 (0, tx_nx T.1 T.2 p) (o - 1) r) : u_R T pl (g :: gs) m a (0, p) o (r.1, mm m ++ (aa a ++ r.2)) := by
  have n2 : ¬ tx_g T.1 T.2 p 42 = true := tx_g2 h (by decide)
  have n4 : ¬ (tx_g T.1 T.2 p 43 = true ∨ tx_g T.1 T.2 p 45 = true) := fun z => z.elim (tx_g2 h (by decide)) (tx_g2 h (by decide))
  refine ⟨_, _, _, _, r, ev_mul0 n2, ev_add0 (fun y => n4 (Or.inl y)) (fun y => n4 (Or.inr y)), by rw [sg_y h]; exact hr, ?_⟩
  simp only [List.nil_append]
/-- the end of a sum -/
theorem u_end (h1 : ¬ tx_g T.1 T.2 p 42 = true) (h2 : ¬ (tx_g T.1 T.2 p 43 = true ∨ tx_g T.1 T.2 p 45 = true)) : u_R T pl [] m a (0, p) o ((0, p), mm m ++ aa a) := by
  refine ⟨_, _, _, _, ev_mul0 h1, ev_add0 (fun y => h2 (Or.inl y)) (fun y => h2 (Or.inr y)), ?_⟩
  simp only [List.nil_append, List.append_nil]
theorem u_enE {g : Bool × Int} (h1 : ¬ tx_g T.1 T.2 p 42 = true) (h2 : ¬ (tx_g T.1 T.2 p 43 = true ∨ tx_g T.1 T.2 p 45 = true)) (h3 : ¬ tx_g T.1 T.2 p 41 = true) : ∃ c, u_R T pl (g :: gs) m a (0, p) o ((1, p), c) := by
  obtain ⟨c, hc⟩ := bad_R (T := T) (pl := pl) (p := p) (e := 1) (by decide) gs g.1 g.2 (o - 1)
  exact ⟨_, _, _, _, _, _, ev_mul0 h1, ev_add0 (fun y => h2 (Or.inl y)) (fun y => h2 (Or.inr y)), by rw [sg_n h3]; exact hc, rfl⟩
/-- the whole -/
theorem u_all {s1 : tx_St} {c1 : List Int} (h : u_N T pl [] false 0 (0, p) o r) : tx_ev T false pl 3 (0, p) o r := by
  obtain ⟨s1, c1, r2, h1, ⟨s2, c2, s3, c3, h2, h3, rfl⟩, rfl⟩ := h
  have := ev_sum (ev_prd h1 h2) h3
  rw [mm_f, aa_0]
  simpa only [List.nil_append, List.append_assoc] using this
end UNW
