/-! the program in force, as the worlds use it -/
def q_gc (G : tx_G) (c : Int) : Prop := (0 ≤ sp_c G c 1 ∧ sp_c G c 1 ≤ 3) ∧ (1 ≤ sp_c G c 2 ∧ sp_c G c 2 ≤ 50) ∧ (0 ≤ sp_c G c 3 ∧ sp_c G c 3 ≤ sp_c G c 4 ∧ sp_c G c 4 ≤ sp_c G c 5 ∧ sp_c G c 5 ≤ sp_c G c 6 ∧ sp_c G c 6 ≤ sp_c G c 7 ∧ sp_c G c 7 ≤ (G.2.2.length : Int)) ∧ (sp_c G c 1 = 3 → ∀ op dr s, ∃ x, sp_ex op dr (sp_g G (sp_c G c 3) (sp_c G c 4)) [] s = some ([x], s) ∧ (x = 0 ∨ x = 1)) ∧ (∀ op dr s, sp_c G c 4 = sp_c G c 5 ∨ ∃ x, sp_ex op dr (sp_g G (sp_c G c 4) (sp_c G c 5)) [] s = some ([x], s)) ∧ (∀ op dr s, ∃ s', sp_ex op dr (sp_g G (sp_c G c 5) (sp_c G c 6)) [] s = some ([], s')) ∧ (∀ op dr s, ∃ s', sp_ex op dr (sp_g G (sp_c G c 6) (sp_c G c 7)) [] s = some ([], s'))
def q_gd (G : tx_G) : Prop := (∀ c, 0 ≤ c → c < (G.2.1.length : Int) → q_gc G c) ∧ (G.2.1.length ≤ 8 ∧ G.2.2.length ≤ 900 ∧ ∀ x, x ∈ G.2.2 → sp_cc x) ∧ (1 ≤ G.1 0 ∧ G.1 0 ≤ 4) ∧ (1 ≤ G.1 2 ∧ G.1 2 ≤ 100) ∧ (1 ≤ G.1 3 ∧ G.1 3 ≤ 1000) ∧ (1 ≤ G.1 4 ∧ G.1 4 ≤ 1000) ∧ (0 ≤ G.1 5 ∧ G.1 5 ≤ 20) ∧ (1 ≤ G.1 6 ∧ G.1 6 ≤ 20) ∧ (1 ≤ G.1 7 ∧ G.1 7 ≤ 20) ∧ (1 ≤ G.1 8 ∧ G.1 8 ≤ 50)
section GP
variable {F F' : m_M} {G : tx_G} {a : Nat}
theorem pR_f (ha : a = 147 ∨ a = 148) (hf : sp_f a F F') (P : q_pR F G) : q_pR F' G := by
  obtain ⟨⟨p0, p2, p3, p4, p5, p6, p7, p8⟩, p1, p9, pc, pl, pk⟩ := P
  have e : ∀ x y, 136 ≤ x → x ≤ 144 → F' x y = F x y := fun x y h1 h2 => hf x y (by omega) (by omega) (by omega)
  refine ⟨⟨?_, ?_, ?_, ?_, ?_, ?_, ?_, ?_⟩, ?_, p9, fun i c hc => ?_, pl, fun k hk => ?_⟩
  · rw [e 136 0 (by decide) (by decide)]; exact p0
  · rw [e 136 2 (by decide) (by decide)]; exact p2
  · rw [e 136 3 (by decide) (by decide)]; exact p3
  · rw [e 136 4 (by decide) (by decide)]; exact p4
  · rw [e 136 5 (by decide) (by decide)]; exact p5
  · rw [e 136 6 (by decide) (by decide)]; exact p6
  · rw [e 136 7 (by decide) (by decide)]; exact p7
  · rw [e 136 8 (by decide) (by decide)]; exact p8
  · rw [e 136 1 (by decide) (by decide)]; exact p1
  · rw [e 137 i (by decide) (by decide), e 138 i (by decide) (by decide), e 143 i (by decide) (by decide), e 139 i (by decide) (by decide), e 140 i (by decide) (by decide), e 141 i (by decide) (by decide), e 142 i (by decide) (by decide)]
    exact pc i c hc
  · rw [e 144 k (by decide) (by decide)]
    exact pk k hk
theorem pR_c {c : Int} (P : q_pR F G) (c0 : 0 ≤ c) (c1 : c < (G.2.1.length : Int)) : F 137 c.toNat = sp_c G c 1 ∧ F 138 c.toNat = sp_c G c 2 ∧ F 143 c.toNat = sp_c G c 3 ∧ F 139 c.toNat = sp_c G c 4 ∧ F 140 c.toNat = sp_c G c 5 ∧ F 141 c.toNat = sp_c G c 6 ∧ F 142 c.toNat = sp_c G c 7 := by
  obtain ⟨-, -, -, pc, -, -⟩ := P
  have hlt : c.toNat < G.2.1.length := by omega
  have e : sp_c G c = G.2.1[c.toNat] := by
    funext j
    show (G.2.1.getD c.toNat (fun _ => 0)) j = _
    rw [List.getD_eq_getElem?_getD, List.getElem?_eq_getElem hlt]
    rfl
  have := pc c.toNat _ (List.getElem?_eq_getElem hlt)
  rw [e]
  exact this
theorem at_of : ∀ (cs : List Int) (i : Int), 0 ≤ i → (∀ k, k < cs.length → F 144 (i.toNat + k) = cs.getD k 0) → sp_at F i cs
  | [], _, _, _ => trivial
  | c :: cs, i, h0, h => ⟨h 0 (Nat.succ_pos _), at_of cs (i + 1) (by omega) fun k hk => by
      have := h (k + 1) (Nat.succ_lt_succ hk)
      rw [show (i + 1).toNat + k = i.toNat + (k + 1) by omega, this]
      rfl⟩
theorem at_g {f g : Int} (P : q_pR F G) (gd : q_gd G) (f0 : 0 ≤ f) (fg : f ≤ g) (g1 : g ≤ (G.2.2.length : Int)) : sp_at F f (sp_g G f g) ∧ f + ((sp_g G f g).length : Int) = g ∧ ∀ c, c ∈ sp_g G f g → sp_cc c := by
  obtain ⟨-, -, -, -, -, pk⟩ := P
  have hl : (sp_g G f g).length = (g - f).toNat := by
    unfold sp_g
    rw [List.length_take, List.length_drop]
    omega
  refine ⟨at_of _ f f0 fun k hk => ?_, by rw [hl]; omega, fun c hc => gd.2.1.2.2 c (List.mem_of_mem_drop (List.mem_of_mem_take hc))⟩
  rw [hl] at hk
  rw [pk _ (by omega)]
  unfold sp_g
  rw [List.getD_eq_getElem?_getD, List.getD_eq_getElem?_getD, List.getElem?_take, if_pos hk, List.getElem?_drop]
end GP
/-- what codes may change -/
theorem ex_fr {op : Int → sp_R → Int} {dr : Int} (d0 : 0 ≤ dr) (d4 : dr < 4) : ∀ (cs st : List Int) (s : sp_R) {st' : List Int} {s' : sp_R}, sp_ex op dr cs st s = some (st', s') → ∀ j, ¬ (48 ≤ j ∧ j < 96) → s' j = s j
  | [], st, s, st', s', h, j, hj => by
    rw [sp_ex] at h
    obtain ⟨rfl, rfl⟩ := Prod.mk.inj (Option.some.inj h)
    rfl
  | c :: cs, st, s, st', s', h, j, hj => by
    rw [ex_c] at h
    by_cases q1 : c = 23
    · rw [if_pos q1] at h
      split at h
      · split at h
        · exact ex_fr d0 d4 cs _ s h j hj
        · exact absurd h (by simp)
      · exact absurd h (by simp)
    · rw [if_neg q1] at h
      by_cases q2 : 20 ≤ c ∧ c ≤ 28
      · rw [if_pos q2] at h
        split at h
        · split at h
          · exact ex_fr d0 d4 cs _ s h j hj
          · exact absurd h (by simp)
        · exact absurd h (by simp)
      · rw [if_neg q2] at h
        by_cases q3 : 40 ≤ c ∧ c ≤ 47
        · rw [if_pos q3] at h
          split at h
          · exact (ex_fr d0 d4 cs _ _ h j hj).trans (u1_n (by omega))
          · exact absurd h (by simp)
        · rw [if_neg q3] at h
          by_cases q4 : 50 ≤ c ∧ c ≤ 53
          · rw [if_pos q4] at h
            split at h
            · exact (ex_fr d0 d4 cs _ _ h j hj).trans (u1_n (by omega))
            · exact absurd h (by simp)
          · rw [if_neg q4] at h
            split at h
            · exact absurd h (by simp)
            · exact ex_fr d0 d4 cs _ s h j hj
