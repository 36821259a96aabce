/-! a test with what waits, against the spec: the frame (or pending, and pending, how many 'not') in which the reading stands; the frames outside of the brackets that are open -/
def nn (k : Nat) : List Int := List.replicate k 23
def da (x : Bool) : List Int := if x = true then [24] else []
def dr (x : Bool) : List Int := if x = true then [25] else []
abbrev t_F : Type := Bool × Bool × Nat
theorem nn_0 : nn 0 = [] := rfl
theorem nn_s {k : Nat} : nn (k + 1) = 23 :: nn k := rfl
theorem nn_c {k : Nat} : nn k ++ [23] = 23 :: nn k := by
  induction k with
  | zero => rfl
  | succ k ih => rw [nn_s, List.cons_append, ih]
/-- behind a factor: c the sign that closes a bracket -/
def t_R (T : tx_T) (a : Bool) (pl c : Int) : List t_F → t_F → tx_St → Int → tx_St × List Int → Prop
  | [], f, s, o, r => ∃ s1 c1 s2 c2, tx_ev T a pl 7 s (o - f.2.2) (s1, c1) ∧ tx_ev T a pl 9 s1 (o - f.2.2) (s2, c2) ∧ r = (s2, nn f.2.2 ++ (da f.2.1 ++ (c1 ++ (dr f.1 ++ c2))))
  | g :: gs, f, s, o, r => ∃ s1 c1 s2 c2 r3, tx_ev T a pl 7 s (o - f.2.2) (s1, c1) ∧ tx_ev T a pl 9 s1 (o - f.2.2) (s2, c2) ∧ t_R T a pl c gs g (tx_sg T c s2) (o - f.2.2 - 1) r3 ∧ r = (r3.1, nn f.2.2 ++ (da f.2.1 ++ (c1 ++ (dr f.1 ++ (c2 ++ r3.2)))))
/-- at a factor -/
def t_N (T : tx_T) (a : Bool) (pl c : Int) (gs : List t_F) (f : t_F) (s : tx_St) (o : Int) (r : tx_St × List Int) : Prop := ∃ s1 c1 r2, tx_ev T a pl 5 s o (s1, c1) ∧ t_R T a pl c gs f s1 o r2 ∧ r = (r2.1, c1 ++ r2.2)
section TUN
variable {T : tx_T} {a : Bool} {pl c o : Int} {gs : List t_F} {f : t_F} {x y : Bool} {k p : Nat} {e : Int} {r : tx_St × List Int}
theorem bad_tR (z : ¬ e = 0) : ∀ (gs : List t_F) (f : t_F) (o : Int), ∃ cc, t_R T a pl c gs f (e, p) o ((e, p), cc)
  | [], f, o => ⟨_, _, _, _, _, ev_bad z, ev_bad z, rfl⟩
  | g :: gs, f, o => by
    obtain ⟨cc, hc⟩ := bad_tR z gs g (o - f.2.2 - 1)
    exact ⟨_, _, _, _, _, _, ev_bad z, ev_bad z, by rw [sg_b z]; exact hc, rfl⟩
theorem bad_tN (z : ¬ e = 0) : ∃ cc, t_N T a pl c gs f (e, p) o ((e, p), cc) := by
  obtain ⟨cc, hc⟩ := bad_tR (T := T) (a := a) (pl := pl) (c := c) (p := p) z gs f o
  exact ⟨_, _, _, _, ev_bad z, hc, rfl⟩
theorem t_op {s1 : tx_St} {c1 : List Int} {s : tx_St} (h : tx_ev T a pl 5 s o (s1, c1)) (hr : t_R T a pl c gs f s1 o r) : t_N T a pl c gs f s o (r.1, c1 ++ r.2) := ⟨_, _, _, h, hr, rfl⟩
/-- a 'not' more -/
theorem t_not (h : tx_wd T.1 T.2 p = some (m_X + 1 + 7)) (ho : o < 6) (hr : t_N T a pl c gs (x, y, k + 1) (0, tx_nx T.1 T.2 p) (o + 1) r) : t_N T a pl c gs (x, y, k) (0, p) o r := by
  obtain ⟨s1, c1, r2, h1, h2, rfl⟩ := hr
  cases gs with
  | nil =>
    obtain ⟨s2, c2, s3, c3, h3, h4, rfl⟩ := h2
    rw [show o + 1 - ((x, y, k + 1) : t_F).2.2 = o - ((x, y, k) : t_F).2.2 by show o + 1 - ((k + 1 : Nat) : Int) = o - (k : Int); omega] at h3 h4
    refine ⟨_, _, _, ev_not h ho h1, ⟨_, _, _, _, h3, h4, rfl⟩, ?_⟩
    simp only [nn_s, List.append_assoc, List.cons_append, List.nil_append]
  | cons g gs =>
    obtain ⟨s2, c2, s3, c3, r3, h3, h4, h5, rfl⟩ := h2
    rw [show o + 1 - ((x, y, k + 1) : t_F).2.2 = o - ((x, y, k) : t_F).2.2 by show o + 1 - ((k + 1 : Nat) : Int) = o - (k : Int); omega] at h3 h4 h5
    refine ⟨_, _, _, ev_not h ho h1, ⟨_, _, _, _, _, h3, h4, h5, rfl⟩, ?_⟩
    simp only [nn_s, List.append_assoc, List.cons_append, List.nil_append]
theorem t_not6 (h : tx_wd T.1 T.2 p = some (m_X + 1 + 7)) (ho : ¬ o < 6) : ∃ cc, t_N T a pl c gs f (0, p) o ((3, p), cc) := by
  obtain ⟨cc, hc⟩ := bad_tR (T := T) (a := a) (pl := pl) (c := c) (p := p) (e := 3) (by decide) gs f o
  exact ⟨_, _, _, _, ev_not6 h ho, hc, rfl⟩
/-- a bracket opens -/
theorem t_grp (h : tx_g T.1 T.2 p (if a = true then 40 else 91) = true) (hc : c = if a = true then 41 else 93) (ho : o < 6) (hr : t_N T a pl c (f :: gs) (false, false, 0) (0, tx_nx T.1 T.2 p) (o + 1) r) : t_N T a pl c gs f (0, p) o r := by
  obtain ⟨s1, c1, r2, h1, ⟨s2, c2, s3, c3, r3, h2, h3, h4, rfl⟩, rfl⟩ := hr
  rw [show o + 1 - ((false, false, 0) : t_F).2.2 = o + 1 by show o + 1 - ((0 : Nat) : Int) = o + 1; omega] at h2 h3 h4
  rw [show o + 1 - 1 = o by omega] at h4
  refine ⟨_, _, r3, ev_grp h ho (ev_tst (ev_cnj h1 h2) h3), by rw [← hc]; exact h4, ?_⟩
  show (r3.1, c1 ++ (nn 0 ++ (da false ++ (c2 ++ (dr false ++ (c3 ++ r3.2)))))) = _
  rw [nn_0, show da false = [] from rfl, show dr false = [] from rfl]
  simp only [List.nil_append, List.append_assoc]
theorem t_grp6 (h : tx_g T.1 T.2 p (if a = true then 40 else 91) = true) (ho : ¬ o < 6) : ∃ cc, t_N T a pl c gs f (0, p) o ((3, p), cc) := by
  obtain ⟨cc, hc⟩ := bad_tR (T := T) (a := a) (pl := pl) (c := c) (p := p) (e := 3) (by decide) gs f o
  exact ⟨_, _, _, _, ev_grp6 h ho, hc, rfl⟩
/-- a conjunction goes on -/
theorem t_and (h : tx_wd T.1 T.2 p = some (m_X + 1 + 6)) (hr : t_N T a pl c gs (x, true, 0) (0, tx_nx T.1 T.2 p) (o - k) r) : t_R T a pl c gs (x, y, k) (0, p) o (r.1, nn k ++ (da y ++ r.2)) := by
  obtain ⟨s1, c1, r2, h1, h2, rfl⟩ := hr
  cases gs with
  | nil =>
    obtain ⟨s2, c2, s3, c3, h3, h4, rfl⟩ := h2
    rw [show o - (k : Int) - ((x, true, 0) : t_F).2.2 = o - (k : Int) by show o - (k : Int) - ((0 : Nat) : Int) = _; omega] at h3 h4
    refine ⟨_, _, _, _, ev_and h h1 h3, h4, ?_⟩
    show (s3, nn k ++ (da y ++ (c1 ++ (nn 0 ++ ([24] ++ (c2 ++ (dr x ++ c3))))))) = _
    rw [nn_0]
    simp only [List.append_assoc, List.cons_append, List.nil_append]
  | cons g gs =>
    obtain ⟨s2, c2, s3, c3, r3, h3, h4, h5, rfl⟩ := h2
    rw [show o - (k : Int) - ((x, true, 0) : t_F).2.2 = o - (k : Int) by show o - (k : Int) - ((0 : Nat) : Int) = _; omega] at h3 h4 h5
    refine ⟨_, _, _, _, _, ev_and h h1 h3, h4, h5, ?_⟩
    show (r3.1, nn k ++ (da y ++ (c1 ++ (nn 0 ++ ([24] ++ (c2 ++ (dr x ++ (c3 ++ r3.2)))))))) = _
    rw [nn_0]
    simp only [List.append_assoc, List.cons_append, List.nil_append]
/-- a test goes on -/
theorem t_or (hn : ¬ tx_wd T.1 T.2 p = some (m_X + 1 + 6)) (h : tx_wd T.1 T.2 p = some (m_X + 1 + 5)) (hr : t_N T a pl c gs (true, false, 0) (0, tx_nx T.1 T.2 p) (o - k) r) : t_R T a pl c gs (x, y, k) (0, p) o (r.1, nn k ++ (da y ++ (dr x ++ r.2))) := by
  obtain ⟨s1, c1, r2, h1, h2, rfl⟩ := hr
  cases gs with
  | nil =>
    obtain ⟨s2, c2, s3, c3, h3, h4, rfl⟩ := h2
    rw [show o - (k : Int) - ((true, false, 0) : t_F).2.2 = o - (k : Int) by show o - (k : Int) - ((0 : Nat) : Int) = _; omega] at h3 h4
    refine ⟨_, _, _, _, ev_and0 hn, ev_or h (ev_cnj h1 h3) h4, ?_⟩
    show (s3, nn k ++ (da y ++ (dr x ++ (c1 ++ (nn 0 ++ ([] ++ (c2 ++ ([25] ++ c3)))))))) = _
    rw [nn_0]
    simp only [List.append_assoc, List.cons_append, List.nil_append]
  | cons g gs =>
    obtain ⟨s2, c2, s3, c3, r3, h3, h4, h5, rfl⟩ := h2
    rw [show o - (k : Int) - ((true, false, 0) : t_F).2.2 = o - (k : Int) by show o - (k : Int) - ((0 : Nat) : Int) = _; omega] at h3 h4 h5
    refine ⟨_, _, _, _, _, ev_and0 hn, ev_or h (ev_cnj h1 h3) h4, h5, ?_⟩
    show (r3.1, nn k ++ (da y ++ (dr x ++ (c1 ++ (nn 0 ++ ([] ++ (c2 ++ ([25] ++ (c3 ++ r3.2))))))))) = _
    rw [nn_0]
    simp only [List.append_assoc, List.cons_append, List.nil_append]
/-- a bracket closes -/
theorem t_cls {g : t_F} (h : tx_g T.1 T.2 p c = true) (hL : tx_L c = false) (hr : t_R T a pl c gs g (0, tx_nx T.1 T.2 p) (o - k - 1) r) : t_R T a pl c (g :: gs) (x, y, k) (0, p) o (r.1, nn k ++ (da y ++ (dr x ++ r.2))) := by
  have hw : tx_wd T.1 T.2 p = none := tx_gw h hL
  refine ⟨_, _, _, _, r, ev_and0 (by rw [hw]; exact fun z => by cases z), ev_or0 (by rw [hw]; exact fun z => by cases z), by rw [sg_y h]; exact hr, ?_⟩
  simp only [List.nil_append]
/-- the end of a test -/
theorem t_end (h1 : ¬ tx_wd T.1 T.2 p = some (m_X + 1 + 6)) (h2 : ¬ tx_wd T.1 T.2 p = some (m_X + 1 + 5)) : t_R T a pl c [] (x, y, k) (0, p) o ((0, p), nn k ++ (da y ++ dr x)) := by
  refine ⟨_, _, _, _, ev_and0 h1, ev_or0 h2, ?_⟩
  simp only [List.nil_append, List.append_nil]
theorem t_enE {g : t_F} (h1 : ¬ tx_wd T.1 T.2 p = some (m_X + 1 + 6)) (h2 : ¬ tx_wd T.1 T.2 p = some (m_X + 1 + 5)) (h3 : ¬ tx_g T.1 T.2 p c = true) : ∃ cc, t_R T a pl c (g :: gs) f (0, p) o ((1, p), cc) := by
  obtain ⟨cc, hc⟩ := bad_tR (T := T) (a := a) (pl := pl) (c := c) (p := p) (e := 1) (by decide) gs g (o - f.2.2 - 1)
  exact ⟨_, _, _, _, _, _, ev_and0 h1, ev_or0 h2, by rw [sg_n h3]; exact hc, rfl⟩
/-- the whole -/
theorem t_all (h : t_N T a pl c [] (false, false, 0) (0, p) o r) : tx_ev T a pl 8 (0, p) o r := by
  obtain ⟨s1, c1, r2, h1, ⟨s2, c2, s3, c3, h2, h3, rfl⟩, rfl⟩ := h
  rw [show o - ((false, false, 0) : t_F).2.2 = o by show o - ((0 : Nat) : Int) = o; omega] at h2 h3
  have := ev_tst (ev_cnj h1 h2) h3
  show tx_ev T a pl 8 (0, p) o (s3, c1 ++ (nn 0 ++ ([] ++ (c2 ++ ([] ++ c3)))))
  rw [nn_0]
  simpa only [List.nil_append, List.append_assoc] using this
end TUN
