/-! codes that leave one value (pure) -/
def cV (k : Int) (c : List Int) : Prop := (∀ x, x ∈ c → sp_cc x) ∧ ∀ (op : Int → sp_R → Int) (dr : Int) (r st : List Int) (s : sp_R), (st.length : Int) + k ≤ 64 → ∃ x, sp_ex op dr (c ++ r) st s = sp_ex op dr r (x :: st) s
def cT (k : Int) (c : List Int) : Prop := (∀ x, x ∈ c → sp_cc x) ∧ ∀ (op : Int → sp_R → Int) (dr : Int) (r st : List Int) (s : sp_R), (st.length : Int) + k ≤ 64 → ∃ x, (x = 0 ∨ x = 1) ∧ sp_ex op dr (c ++ r) st s = sp_ex op dr r (x :: st) s
def cA (k : Int) (c : List Int) : Prop := (∀ x, x ∈ c → sp_cc x) ∧ ∀ (op : Int → sp_R → Int) (dr : Int) (r st : List Int) (s : sp_R) (x : Int), (st.length : Int) + k ≤ 64 → ∃ y, sp_ex op dr (c ++ r) (x :: st) s = sp_ex op dr r (y :: st) s
def cB (k : Int) (c : List Int) : Prop := (∀ x, x ∈ c → sp_cc x) ∧ ∀ (op : Int → sp_R → Int) (dr : Int) (r st : List Int) (s : sp_R) (x : Int), (x = 0 ∨ x = 1) → (st.length : Int) + k ≤ 64 → ∃ y, (y = 0 ∨ y = 1) ∧ sp_ex op dr (c ++ r) (x :: st) s = sp_ex op dr r (y :: st) s
section CV
variable {k k1 k2 c : Int} {c1 c2 : List Int}
theorem cc_app (h1 : ∀ x, x ∈ c1 → sp_cc x) (h2 : ∀ x, x ∈ c2 → sp_cc x) : ∀ x, x ∈ c1 ++ c2 → sp_cc x := fun x hx => (List.mem_append.mp hx).elim (h1 x) (h2 x)
theorem cc_cons (h1 : sp_cc c) (h2 : ∀ x, x ∈ c2 → sp_cc x) : ∀ x, x ∈ c :: c2 → sp_cc x := fun x hx => (List.mem_cons.mp hx).elim (fun e => e ▸ h1) (h2 x)
theorem cc_nil : ∀ x, x ∈ ([] : List Int) → sp_cc x := fun x hx => absurd hx List.not_mem_nil
theorem cV_m (h : k1 ≤ k) (hc : cV k1 c1) : cV k c1 := ⟨hc.1, fun op dr r st s hk => hc.2 op dr r st s (by omega)⟩
theorem cT_m (h : k1 ≤ k) (hc : cT k1 c1) : cT k c1 := ⟨hc.1, fun op dr r st s hk => hc.2 op dr r st s (by omega)⟩
theorem cV_1 (h0 : 0 ≤ c) (h9 : c ≤ 200000) (h1 : ¬ (20 ≤ c ∧ c ≤ 28)) (h2 : ¬ (40 ≤ c ∧ c ≤ 47)) (h3 : ¬ (50 ≤ c ∧ c ≤ 53)) (hk : 1 ≤ k) : cV k [c] := by
  refine ⟨cc_cons ⟨h0, h9⟩ cc_nil, fun op dr r st s hs => ⟨op c s, ?_⟩⟩
  show sp_ex op dr (c :: r) st s = _
  rw [ex_c, if_neg (by omega), if_neg h1, if_neg h2, if_neg h3, if_neg (by omega)]
theorem cV_A (h1 : cV k1 c1) (h2 : cA k2 c2) (hk1 : k1 ≤ k) (hk2 : k2 ≤ k) : cV k (c1 ++ c2) := by
  refine ⟨cc_app h1.1 h2.1, fun op dr r st s hs => ?_⟩
  obtain ⟨x, hx⟩ := h1.2 op dr (c2 ++ r) st s (by omega)
  obtain ⟨y, hy⟩ := h2.2 op dr r st s x (by omega)
  exact ⟨y, by rw [List.append_assoc, hx, hy]⟩
theorem cT_B (h1 : cT k1 c1) (h2 : cB k2 c2) (hk1 : k1 ≤ k) (hk2 : k2 ≤ k) : cT k (c1 ++ c2) := by
  refine ⟨cc_app h1.1 h2.1, fun op dr r st s hs => ?_⟩
  obtain ⟨x, x1, hx⟩ := h1.2 op dr (c2 ++ r) st s (by omega)
  obtain ⟨y, y1, hy⟩ := h2.2 op dr r st s x x1 (by omega)
  exact ⟨y, y1, by rw [List.append_assoc, hx, hy]⟩
theorem cA_0 : cA k [] := ⟨cc_nil, fun op dr r st s x _ => ⟨x, rfl⟩⟩
theorem cB_0 : cB k [] := ⟨cc_nil, fun op dr r st s x hx _ => ⟨x, hx, rfl⟩⟩
theorem ok_of {x y : Int} (h1 : 20 ≤ c) (h2 : c ≤ 28) (h3 : ¬ c = 23) (h : c = 24 ∨ c = 25 → (x = 0 ∨ x = 1) ∧ (y = 0 ∨ y = 1)) : sp_ok c x y = true := by
  unfold sp_ok
  rw [Bool.and_eq_true, decide_eq_true_iff, decide_eq_true_iff]
  exact ⟨h, h3⟩
theorem ex_j {op : Int → sp_R → Int} {dr x y : Int} {r st : List Int} {s : sp_R} (h1 : 20 ≤ c) (h2 : c ≤ 28) (h3 : ¬ c = 23) (h : c = 24 ∨ c = 25 → (x = 0 ∨ x = 1) ∧ (y = 0 ∨ y = 1)) : sp_ex op dr (c :: r) (y :: x :: st) s = sp_ex op dr r (sp_j c x y :: st) s := by
  rw [ex_c, if_neg h3, if_pos ⟨h1, h2⟩]
  exact if_pos (ok_of h1 h2 h3 h)
theorem cA_op (h1 : cV k1 c1) (h2 : cA k2 c2) (hc : 26 ≤ c ∧ c ≤ 28) (hk1 : k1 + 1 ≤ k) (hk2 : k2 ≤ k) : cA k (c1 ++ c :: c2) := by
  refine ⟨cc_app h1.1 (cc_cons ⟨by omega, by omega⟩ h2.1), fun op dr r st s x hs => ?_⟩
  obtain ⟨y, hy⟩ := h1.2 op dr (c :: (c2 ++ r)) (x :: st) s (by show ((st.length + 1 : Nat) : Int) + k1 ≤ 64; omega)
  obtain ⟨z, hz⟩ := h2.2 op dr r st s (sp_j c x y) (by omega)
  refine ⟨z, ?_⟩
  rw [List.append_assoc]
  show sp_ex op dr (c1 ++ c :: (c2 ++ r)) (x :: st) s = _
  rw [hy, ex_j (by omega) (by omega) (by omega) (fun q => by omega), hz]
theorem j_01 {x y : Int} (hc : c = 24 ∨ c = 25 ∨ c = 20 ∨ c = 21 ∨ c = 22) : sp_j c x y = 0 ∨ sp_j c x y = 1 := by
  unfold sp_j
  (repeat' split) <;> first | exact Or.inl rfl | exact Or.inr rfl | (exfalso; omega)
theorem cB_op (h1 : cT k1 c1) (h2 : cB k2 c2) (hc : c = 24 ∨ c = 25) (hk1 : k1 + 1 ≤ k) (hk2 : k2 ≤ k) : cB k (c1 ++ c :: c2) := by
  refine ⟨cc_app h1.1 (cc_cons ⟨by omega, by omega⟩ h2.1), fun op dr r st s x hx hs => ?_⟩
  obtain ⟨y, y1, hy⟩ := h1.2 op dr (c :: (c2 ++ r)) (x :: st) s (by show ((st.length + 1 : Nat) : Int) + k1 ≤ 64; omega)
  obtain ⟨z, z1, hz⟩ := h2.2 op dr r st s (sp_j c x y) (j_01 (by omega)) (by omega)
  refine ⟨z, z1, ?_⟩
  rw [List.append_assoc]
  show sp_ex op dr (c1 ++ c :: (c2 ++ r)) (x :: st) s = _
  rw [hy, ex_j (by omega) (by omega) (by omega) (fun _ => ⟨hx, y1⟩), hz]
theorem cT_not (h1 : cT k1 c1) (hk : k1 ≤ k) : cT k (c1 ++ [23]) := by
  refine ⟨cc_app h1.1 (cc_cons ⟨by decide, by decide⟩ cc_nil), fun op dr r st s hs => ?_⟩
  obtain ⟨x, x1, hx⟩ := h1.2 op dr (23 :: r) st s (by omega)
  refine ⟨1 - x, by omega, ?_⟩
  rw [List.append_assoc]
  show sp_ex op dr (c1 ++ 23 :: r) st s = _
  rw [hx, ex_c, if_pos rfl]
  exact if_pos x1
theorem cT_cmp (h1 : cV k1 c1) (h2 : cV k2 c2) (hc : c = 20 ∨ c = 21 ∨ c = 22) (hk1 : k1 ≤ k) (hk2 : k2 + 1 ≤ k) : cT k (c1 ++ c2 ++ [c]) := by
  refine ⟨cc_app (cc_app h1.1 h2.1) (cc_cons ⟨by omega, by omega⟩ cc_nil), fun op dr r st s hs => ?_⟩
  obtain ⟨x, hx⟩ := h1.2 op dr (c2 ++ (c :: r)) st s (by omega)
  obtain ⟨y, hy⟩ := h2.2 op dr (c :: r) (x :: st) s (by show ((st.length + 1 : Nat) : Int) + k2 ≤ 64; omega)
  refine ⟨sp_j c x y, j_01 (by omega), ?_⟩
  rw [List.append_assoc, List.append_assoc]
  show sp_ex op dr (c1 ++ (c2 ++ (c :: r))) st s = _
  rw [hx, hy, ex_j (by omega) (by omega) (by omega) (fun q => by omega)]
end CV
def cP (L : Int) (c : List Int) : Nat → Prop
  | 0 => cV (1 + L) c
  | 1 => cV (2 + L) c
  | 2 => cA (2 + L) c
  | 3 => cV (3 + L) c
  | 4 => cA (3 + L) c
  | 5 => cT (4 + L) c
  | 6 => cT (5 + L) c
  | 7 => cB (5 + L) c
  | 8 => cT (6 + L) c
  | 9 => cB (6 + L) c
  | _ => cV (3 + L) c
def rkm : Nat → Nat
  | 0 => 1
  | 1 => 2
  | 2 => 1
  | 3 => 3
  | 4 => 1
  | 5 => 5
  | 6 => 6
  | 7 => 1
  | 8 => 7
  | 9 => 1
  | _ => 4
theorem rk_pos (m : Nat) : 1 ≤ rkm m := by
  unfold rkm
  split <;> decide
theorem x_val {T : tx_T} {a : Bool} {pl : Int} : ∀ (f m p : Nat) (o : Int), m ≤ 10 → 0 ≤ o → o ≤ 6 → p ≤ T.2 → 12 * (T.2 - p) + rkm m ≤ f → (tx_x T a pl f m (0, p) o).1.1 = 0 → cP (2 * (6 - o)) (tx_x T a pl f m (0, p) o).2 m := by
  intro f
  induction f with
  | zero =>
    intro m p o hm _ _ hp hf
    exfalso
    have := rk_pos m
    omega
  | succ f ih =>
    have ihs : ∀ (m : Nat) (s : tx_St) (o : Int), m ≤ 10 → 0 ≤ o → o ≤ 6 → (s.1 = 0 → s.2 ≤ T.2 ∧ 12 * (T.2 - s.2) + rkm m ≤ f) → (tx_x T a pl f m s o).1.1 = 0 → s.1 = 0 ∧ cP (2 * (6 - o)) (tx_x T a pl f m s o).2 m := by
      intro m s o hm o0 o6 hs hz
      obtain ⟨e, q⟩ := s
      by_cases z : e = 0
      · subst z
        exact ⟨rfl, ih m q o hm o0 o6 (hs rfl).1 (hs rfl).2 hz⟩
      · exfalso
        cases f with
        | zero => exact z hz
        | succ f => exact z (by rw [show tx_x T a pl (f + 1) m (e, q) o = ((e, q), []) from if_neg z] at hz; exact hz)
    intro m p o hm o0 o6 hp hf hz
    have len := @tx_len T a pl
    rcases (show m = 0 ∨ m = 1 ∨ m = 2 ∨ m = 3 ∨ m = 4 ∨ m = 5 ∨ m = 6 ∨ m = 7 ∨ m = 8 ∨ m = 9 ∨ m = 10 by omega) with rfl | rfl | rfl | rfl | rfl | rfl | rfl | rfl | rfl | rfl | rfl
    · have hf : 12 * (T.2 - p) + 1 ≤ f + 1 := hf
      show cV (1 + 2 * (6 - o)) _
      rw [tx_x0] at hz ⊢
      by_cases h1 : tx_k T.1 T.2 p = 2
      · rw [if_pos h1] at hz ⊢
        have := nb_v (T := T) (lo := 0) (hi := 65535) (s := (0, p)) (by decide)
        exact cV_1 (by omega) (by omega) (by omega) (by omega) (by omega) (by omega)
      · rw [if_neg h1] at hz ⊢
        by_cases h : tx_g T.1 T.2 p 40 = true
        · have gt := tx_nx_gt (b := T.1) (n := T.2) (p := p) (tx_gp h)
          have le := tx_nx_le (b := T.1) (n := T.2) (p := p) (tx_gp h)
          rw [if_pos h] at hz ⊢
          by_cases ho : o < 6
          · rw [if_pos ho] at hz ⊢
            have g := sg_len hz
            have i1 : cV (3 + 2 * (6 - (o + 1))) _ := ih 3 _ (o + 1) (by decide) (by omega) (by omega) le (by show 12 * (T.2 - _) + 3 ≤ f; omega) g.1
            exact cV_m (by omega) i1
          · rw [if_neg ho] at hz
            exact absurd hz (by simp)
        · rw [if_neg h] at hz ⊢
          by_cases h2 : tx_wd T.1 T.2 p = some (m_X + 1 + 8) ∧ ¬ pl = 3
          · rw [if_pos h2] at hz ⊢
            have := nb_v (T := T) (lo := 0) (hi := 7) (s := (0, tx_nx T.1 T.2 p)) (by decide)
            exact cV_1 (by omega) (by omega) (by omega) (by omega) (by omega) (by omega)
          · rw [if_neg h2] at hz ⊢
            by_cases h3 : tx_wd T.1 T.2 p = some (m_X + 1 + 9) ∧ ¬ pl = 0
            · rw [if_pos h3] at hz ⊢
              have := nb_v (T := T) (lo := 0) (hi := 3) (s := (0, tx_nx T.1 T.2 p)) (by decide)
              exact cV_1 (by omega) (by omega) (by omega) (by omega) (by omega) (by omega)
            · rw [if_neg h3] at hz ⊢
              by_cases h4 : tx_wd T.1 T.2 p = some (m_X + 1 + 10)
              · rw [if_pos h4]
                exact cV_1 (by decide) (by decide) (by decide) (by decide) (by decide) (by omega)
              · rw [if_neg h4] at hz ⊢
                by_cases h5 : tx_wd T.1 T.2 p = some (m_X + 1 + 11) ∧ (pl = 2 ∨ pl = 3)
                · rw [if_pos h5]
                  exact cV_1 (by decide) (by decide) (by decide) (by decide) (by decide) (by omega)
                · rw [if_neg h5] at hz
                  exact absurd hz (by simp)
    · have hf : 12 * (T.2 - p) + 2 ≤ f + 1 := hf
      show cV (2 + 2 * (6 - o)) _
      rw [tx_x1] at hz ⊢
      have i2 := ihs 2 (tx_x T a pl f 0 (0, p) o).1 o (by decide) o0 o6 (fun z => by have := len f 0 p o (by decide) hp z; exact ⟨this.2, by show 12 * (T.2 - _) + 1 ≤ f; omega⟩) hz
      have i1 : cV (1 + 2 * (6 - o)) _ := ih 0 p o (by decide) o0 o6 hp (by show 12 * (T.2 - p) + 1 ≤ f; omega) i2.1
      exact cV_A i1 (show cA (2 + 2 * (6 - o)) _ from i2.2) (by omega) (by omega)
    · have hf : 12 * (T.2 - p) + 1 ≤ f + 1 := hf
      show cA (2 + 2 * (6 - o)) _
      rw [tx_x2] at hz ⊢
      by_cases h : tx_g T.1 T.2 p 42 = true
      · have gt := tx_nx_gt (b := T.1) (n := T.2) (p := p) (tx_gp h)
        have le := tx_nx_le (b := T.1) (n := T.2) (p := p) (tx_gp h)
        rw [if_pos h] at hz ⊢
        have i2 := ihs 2 (tx_x T a pl f 0 (0, tx_nx T.1 T.2 p) o).1 o (by decide) o0 o6 (fun z => by have := len f 0 _ o (by decide) le z; exact ⟨this.2, by show 12 * (T.2 - _) + 1 ≤ f; omega⟩) hz
        have i1 : cV (1 + 2 * (6 - o)) _ := ih 0 _ o (by decide) o0 o6 le (by show 12 * (T.2 - _) + 1 ≤ f; omega) i2.1
        exact cA_op i1 (show cA (2 + 2 * (6 - o)) _ from i2.2) (by decide) (by omega) (by omega)
      · rw [if_neg h]
        exact cA_0
    · have hf : 12 * (T.2 - p) + 3 ≤ f + 1 := hf
      show cV (3 + 2 * (6 - o)) _
      rw [tx_x3] at hz ⊢
      have i2 := ihs 4 (tx_x T a pl f 1 (0, p) o).1 o (by decide) o0 o6 (fun z => by have := len f 1 p o (by decide) hp z; exact ⟨this.2, by show 12 * (T.2 - _) + 1 ≤ f; omega⟩) hz
      have i1 : cV (2 + 2 * (6 - o)) _ := ih 1 p o (by decide) o0 o6 hp (by show 12 * (T.2 - p) + 2 ≤ f; omega) i2.1
      exact cV_A i1 (show cA (3 + 2 * (6 - o)) _ from i2.2) (by omega) (by omega)
    · have hf : 12 * (T.2 - p) + 1 ≤ f + 1 := hf
      show cA (3 + 2 * (6 - o)) _
      rw [tx_x4] at hz ⊢
      by_cases h : tx_g T.1 T.2 p 43 = true ∨ tx_g T.1 T.2 p 45 = true
      · have lt : p < T.2 := h.elim tx_gp tx_gp
        have gt := tx_nx_gt (b := T.1) (n := T.2) (p := p) lt
        have le := tx_nx_le (b := T.1) (n := T.2) (p := p) lt
        rw [if_pos h] at hz ⊢
        have i2 := ihs 4 (tx_x T a pl f 1 (0, tx_nx T.1 T.2 p) o).1 o (by decide) o0 o6 (fun z => by have := len f 1 _ o (by decide) le z; exact ⟨this.2, by show 12 * (T.2 - _) + 1 ≤ f; omega⟩) hz
        have i1 : cV (2 + 2 * (6 - o)) _ := ih 1 _ o (by decide) o0 o6 le (by show 12 * (T.2 - _) + 2 ≤ f; omega) i2.1
        refine cA_op i1 (show cA (3 + 2 * (6 - o)) _ from i2.2) ?_ (by omega) (by omega)
        split <;> decide
      · rw [if_neg h]
        exact cA_0
    · have hf : 12 * (T.2 - p) + 5 ≤ f + 1 := hf
      show cT (4 + 2 * (6 - o)) _
      rw [tx_x5] at hz ⊢
      by_cases h : tx_wd T.1 T.2 p = some (m_X + 1 + 7)
      · have gt := tx_nx_gt (b := T.1) (n := T.2) (p := p) (tx_k1.mp (tx_wk h)).1
        have le := tx_nx_le (b := T.1) (n := T.2) (p := p) (tx_k1.mp (tx_wk h)).1
        rw [if_pos h] at hz ⊢
        by_cases ho : o < 6
        · rw [if_pos ho] at hz ⊢
          have i1 : cT (4 + 2 * (6 - (o + 1))) _ := ih 5 _ (o + 1) (by decide) (by omega) (by omega) le (by show 12 * (T.2 - _) + 5 ≤ f; omega) hz
          exact cT_not i1 (by omega)
        · rw [if_neg ho] at hz
          exact absurd hz (by simp)
      · rw [if_neg h] at hz ⊢
        by_cases h2 : tx_g T.1 T.2 p (if a = true then 40 else 91) = true
        · have gt := tx_nx_gt (b := T.1) (n := T.2) (p := p) (tx_gp h2)
          have le := tx_nx_le (b := T.1) (n := T.2) (p := p) (tx_gp h2)
          rw [if_pos h2] at hz ⊢
          by_cases ho : o < 6
          · rw [if_pos ho] at hz ⊢
            have g := sg_len hz
            have i1 : cT (6 + 2 * (6 - (o + 1))) _ := ih 8 _ (o + 1) (by decide) (by omega) (by omega) le (by show 12 * (T.2 - _) + 7 ≤ f; omega) g.1
            exact cT_m (by omega) i1
          · rw [if_neg ho] at hz
            exact absurd hz (by simp)
        · rw [if_neg h2] at hz ⊢
          have i1 := ih 10 p o (by decide) o0 o6 hp (by show 12 * (T.2 - p) + 4 ≤ f; omega)
          have l1 := len f 10 p o (by decide) hp
          generalize hr : tx_x T a pl f 10 (0, p) o = r at hz i1 l1 ⊢
          obtain ⟨⟨e1, p1⟩, c1⟩ := r
          dsimp only at hz i1 l1 ⊢
          by_cases z : e1 = 0
          · rw [if_pos z] at hz ⊢
            have i1 := i1 z
            have l1 := l1 z
            by_cases h3 : tx_g T.1 T.2 p1 60 = true ∨ tx_g T.1 T.2 p1 62 = true ∨ tx_g T.1 T.2 p1 61 = true
            · have lt : p1 < T.2 := h3.elim tx_gp (fun z => z.elim tx_gp tx_gp)
              have gt := tx_nx_gt (b := T.1) (n := T.2) (p := p1) lt
              have le := tx_nx_le (b := T.1) (n := T.2) (p := p1) lt
              rw [if_pos h3] at hz ⊢
              have i2 : cV (3 + 2 * (6 - o)) _ := ih 10 _ o (by decide) o0 o6 le (by show 12 * (T.2 - _) + 4 ≤ f; omega) hz
              refine cT_cmp (show cV (3 + 2 * (6 - o)) c1 from i1) i2 ?_ (by omega) (by omega)
              (repeat' split) <;> decide
            · rw [if_neg h3] at hz
              exact absurd hz (by simp)
          · rw [if_neg z] at hz
            exact absurd hz z
    · have hf : 12 * (T.2 - p) + 6 ≤ f + 1 := hf
      show cT (5 + 2 * (6 - o)) _
      rw [tx_x6] at hz ⊢
      have i2 := ihs 7 (tx_x T a pl f 5 (0, p) o).1 o (by decide) o0 o6 (fun z => by have := len f 5 p o (by decide) hp z; exact ⟨this.2, by show 12 * (T.2 - _) + 1 ≤ f; omega⟩) hz
      have i1 : cT (4 + 2 * (6 - o)) _ := ih 5 p o (by decide) o0 o6 hp (by show 12 * (T.2 - p) + 5 ≤ f; omega) i2.1
      exact cT_B i1 (show cB (5 + 2 * (6 - o)) _ from i2.2) (by omega) (by omega)
    · have hf : 12 * (T.2 - p) + 1 ≤ f + 1 := hf
      show cB (5 + 2 * (6 - o)) _
      rw [tx_x7] at hz ⊢
      by_cases h : tx_wd T.1 T.2 p = some (m_X + 1 + 6)
      · have gt := tx_nx_gt (b := T.1) (n := T.2) (p := p) (tx_k1.mp (tx_wk h)).1
        have le := tx_nx_le (b := T.1) (n := T.2) (p := p) (tx_k1.mp (tx_wk h)).1
        rw [if_pos h] at hz ⊢
        have i2 := ihs 7 (tx_x T a pl f 5 (0, tx_nx T.1 T.2 p) o).1 o (by decide) o0 o6 (fun z => by have := len f 5 _ o (by decide) le z; exact ⟨this.2, by show 12 * (T.2 - _) + 1 ≤ f; omega⟩) hz
        have i1 : cT (4 + 2 * (6 - o)) _ := ih 5 _ o (by decide) o0 o6 le (by show 12 * (T.2 - _) + 5 ≤ f; omega) i2.1
        exact cB_op i1 (show cB (5 + 2 * (6 - o)) _ from i2.2) (Or.inl rfl) (by omega) (by omega)
      · rw [if_neg h]
        exact cB_0
    · have hf : 12 * (T.2 - p) + 7 ≤ f + 1 := hf
      show cT (6 + 2 * (6 - o)) _
      rw [tx_x8] at hz ⊢
      have i2 := ihs 9 (tx_x T a pl f 6 (0, p) o).1 o (by decide) o0 o6 (fun z => by have := len f 6 p o (by decide) hp z; exact ⟨this.2, by show 12 * (T.2 - _) + 1 ≤ f; omega⟩) hz
      have i1 : cT (5 + 2 * (6 - o)) _ := ih 6 p o (by decide) o0 o6 hp (by show 12 * (T.2 - p) + 6 ≤ f; omega) i2.1
      exact cT_B i1 (show cB (6 + 2 * (6 - o)) _ from i2.2) (by omega) (by omega)
    · have hf : 12 * (T.2 - p) + 1 ≤ f + 1 := hf
      show cB (6 + 2 * (6 - o)) _
      rw [tx_x9] at hz ⊢
      by_cases h : tx_wd T.1 T.2 p = some (m_X + 1 + 5)
      · have gt := tx_nx_gt (b := T.1) (n := T.2) (p := p) (tx_k1.mp (tx_wk h)).1
        have le := tx_nx_le (b := T.1) (n := T.2) (p := p) (tx_k1.mp (tx_wk h)).1
        rw [if_pos h] at hz ⊢
        have i2 := ihs 9 (tx_x T a pl f 6 (0, tx_nx T.1 T.2 p) o).1 o (by decide) o0 o6 (fun z => by have := len f 6 _ o (by decide) le z; exact ⟨this.2, by show 12 * (T.2 - _) + 1 ≤ f; omega⟩) hz
        have i1 : cT (5 + 2 * (6 - o)) _ := ih 6 _ o (by decide) o0 o6 le (by show 12 * (T.2 - _) + 6 ≤ f; omega) i2.1
        exact cB_op i1 (show cB (6 + 2 * (6 - o)) _ from i2.2) (Or.inr rfl) (by omega) (by omega)
      · rw [if_neg h]
        exact cB_0
    · have hf : 12 * (T.2 - p) + 4 ≤ f + 1 := hf
      show cV (3 + 2 * (6 - o)) _
      rw [tx_x10] at hz ⊢
      by_cases ha : a = true
      · rw [if_pos ha] at hz ⊢
        by_cases h1 : tx_k T.1 T.2 p = 2
        · rw [if_pos h1] at hz ⊢
          have := nb_v (T := T) (lo := 0) (hi := 99999) (s := (0, p)) (by decide)
          exact cV_1 (by omega) (by omega) (by omega) (by omega) (by omega) (by omega)
        · rw [if_neg h1] at hz ⊢
          cases hw : tx_wd T.1 T.2 p with
          | none => rw [hw] at hz; exact absurd hz (by simp)
          | some w =>
            rw [hw] at hz
            dsimp only at hz ⊢
            by_cases h2 : m_X + 25 ≤ w ∧ w ≤ m_X + 35
            · rw [if_pos h2]
              exact cV_1 (by omega) (by omega) (by omega) (by omega) (by omega) (by omega)
            · rw [if_neg h2] at hz
              exact absurd hz (by simp)
      · rw [if_neg ha] at hz ⊢
        exact ih 3 p o (by decide) o0 o6 hp (by show 12 * (T.2 - p) + 3 ≤ f; omega) hz
/-- a reading's codes leave one value; a test's leave 0 or 1 -/
theorem ev_V {T : tx_T} {a : Bool} {pl : Int} {p : Nat} {s' : tx_St} {c : List Int} (h : tx_ev T a pl 3 (0, p) 0 (s', c)) (hp : p ≤ T.2) (z : s'.1 = 0) : cV 15 c := by
  obtain ⟨f0, g⟩ := h
  have g := g (f0 + 12 * (T.2 - p) + 3) (by omega)
  have := x_val (T := T) (a := a) (pl := pl) (f0 + 12 * (T.2 - p) + 3) 3 p 0 (by decide) (by decide) (by decide) hp (by show 12 * (T.2 - p) + 3 ≤ _; omega) (by rw [g]; exact z)
  rw [g] at this
  exact this
theorem ev_T {T : tx_T} {a : Bool} {pl : Int} {p : Nat} {s' : tx_St} {c : List Int} (h : tx_ev T a pl 8 (0, p) 0 (s', c)) (hp : p ≤ T.2) (z : s'.1 = 0) : cT 18 c := by
  obtain ⟨f0, g⟩ := h
  have g := g (f0 + 12 * (T.2 - p) + 7) (by omega)
  have := x_val (T := T) (a := a) (pl := pl) (f0 + 12 * (T.2 - p) + 7) 8 p 0 (by decide) (by decide) (by decide) hp (by show 12 * (T.2 - p) + 7 ≤ _; omega) (by rw [g]; exact z)
  rw [g] at this
  exact this
