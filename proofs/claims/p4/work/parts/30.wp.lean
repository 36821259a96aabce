/-! RUNS OF THE SMALL MACHINE, without the count of steps: more steps or a deeper stack change nothing -/
theorem m_ex_fuel {P : m_P} : ∀ (n k d y : Nat) (is : List Instr) (ls : m_F) (st : List Value) (h : m_H) (r : (Option Value ⊕ Nat) × m_H), m_ex P n d y is ls st h = some r → m_ex P (n + k) d y is ls st h = some r := by
  intro n
  induction n with
  | zero => intro k d y is ls st h r he; simp [m_ex] at he
  | succ n ih =>
    intro k d y is ls st h r he
    rw [show n + 1 + k = (n + k) + 1 by omega]
    cases is with
    | nil => simp [m_ex] at he
    | cons i is =>
      rw [m_ex] at he ⊢
      cases hq : m_st P y i is ls st h with
      | none => rw [hq] at he; cases he
      | some q =>
        rw [hq] at he
        rcases q with q | q | v | e
        · exact ih _ _ _ _ _ _ _ _ he
        · cases d with
          | zero => cases he
          | succ d' =>
            dsimp only at he ⊢
            cases hc : m_ex P n d' q.1 (m_tg P q.1 0) (m_ent (m_nl P q.1) q.2.1) [] h with
            | none => rw [hc] at he; cases he
            | some g =>
              rw [hc] at he
              rw [ih k _ _ _ _ _ _ _ hc]
              rcases g with ⟨v | e, h'⟩
              · exact ih _ _ _ _ _ _ _ _ he
              · dsimp only at he ⊢
                by_cases hi : m_isp i = true
                · rw [if_pos hi] at he; cases he
                · rw [if_neg hi] at he ⊢
                  cases hd : m_hd P y e with
                  | none => rw [hd] at he; exact he
                  | some r =>
                    rw [hd] at he
                    dsimp only at he ⊢
                    by_cases ho : m_ok1 ls r.1 = true
                    · rw [if_pos ho] at he ⊢; exact ih _ _ _ _ _ _ _ _ he
                    · rw [if_neg ho] at he; cases he
        · exact he
        · exact he
theorem m_ex_deep {P : m_P} : ∀ (n d y : Nat) (is : List Instr) (ls : m_F) (st : List Value) (h : m_H) (r : (Option Value ⊕ Nat) × m_H), m_ex P n d y is ls st h = some r → m_ex P n (d + 1) y is ls st h = some r := by
  intro n
  induction n with
  | zero => intro d y is ls st h r he; simp [m_ex] at he
  | succ n ih =>
    intro d y is ls st h r he
    cases is with
    | nil => simp [m_ex] at he
    | cons i is =>
      rw [m_ex] at he ⊢
      cases hq : m_st P y i is ls st h with
      | none => rw [hq] at he; cases he
      | some q =>
        rw [hq] at he
        rcases q with q | q | v | e
        · exact ih _ _ _ _ _ _ _ he
        · cases d with
          | zero => cases he
          | succ d' =>
            dsimp only at he ⊢
            cases hc : m_ex P n d' q.1 (m_tg P q.1 0) (m_ent (m_nl P q.1) q.2.1) [] h with
            | none => rw [hc] at he; cases he
            | some g =>
              rw [hc] at he
              rw [ih _ _ _ _ _ _ _ hc]
              rcases g with ⟨v | e, h'⟩
              · exact ih _ _ _ _ _ _ _ he
              · dsimp only at he ⊢
                by_cases hi : m_isp i = true
                · rw [if_pos hi] at he; cases he
                · rw [if_neg hi] at he ⊢
                  cases hd : m_hd P y e with
                  | none => rw [hd] at he; exact he
                  | some r =>
                    rw [hd] at he
                    dsimp only at he ⊢
                    by_cases ho : m_ok1 ls r.1 = true
                    · rw [if_pos ho] at he ⊢; exact ih _ _ _ _ _ _ _ he
                    · rw [if_neg ho] at he; cases he
        · exact he
        · exact he
/-- from here the small machine comes to an end with Q -/
def m_W (P : m_P) (d y : Nat) (is : List Instr) (ls : m_F) (st : List Value) (h : m_H) (Q : Option Value ⊕ Nat → m_H → Prop) : Prop := ∃ n o h', m_ex P n d y is ls st h = some (o, h') ∧ Q o h'
/-- how a caller goes on behind a call -/
def m_C (P : m_P) (d y : Nat) (sp : Bool) (is : List Instr) (ls : m_F) (st : List Value) (Q : Option Value ⊕ Nat → m_H → Prop) (o : Option Value ⊕ Nat) (h' : m_H) : Prop :=
  match o with
  | .inl v => m_W P d y is ls (v.toList ++ st) h' Q
  | .inr e => sp = false ∧ (match m_hd P y e with
    | none => m_hh P y = false ∧ Q (.inr e) h'
    | some r => m_ok1 ls r.1 = true ∧ m_W P d y (m_tg P y r.2) (ls.set r.1 none) [] h' Q)
section WP
variable {P : m_P} {d y : Nat} {i : Instr} {is : List Instr} {ls : m_F} {st : List Value} {h : m_H} {Q Q' : Option Value ⊕ Nat → m_H → Prop}
theorem m_W_mono (hW : m_W P d y is ls st h Q) (hQ : ∀ o h', Q o h' → Q' o h') : m_W P d y is ls st h Q' := by
  obtain ⟨n, o, h', a, b⟩ := hW
  exact ⟨n, o, h', a, hQ _ _ b⟩
theorem m_W_deep (hW : m_W P d y is ls st h Q) : m_W P (d + 1) y is ls st h Q := by
  obtain ⟨n, o, h', a, b⟩ := hW
  exact ⟨n, o, h', m_ex_deep _ _ _ _ _ _ _ _ a, b⟩
theorem m_W_le {d' : Nat} (hd : d ≤ d') (hW : m_W P d y is ls st h Q) : m_W P d' y is ls st h Q := by
  obtain ⟨k, rfl⟩ := Nat.exists_eq_add_of_le hd
  induction k with
  | zero => exact hW
  | succ k ih => exact m_W_deep (ih (Nat.le_add_right _ _))
theorem m_W_nx {q : List Instr × m_F × List Value × m_H} (hq : m_st P y i is ls st h = some (.inl q)) : m_W P d y (i :: is) ls st h Q = m_W P d y q.1 q.2.1 q.2.2.1 q.2.2.2 Q := by
  apply propext
  constructor
  · rintro ⟨n, o, h', a, b⟩
    cases n with
    | zero => simp [m_ex] at a
    | succ n =>
      rw [m_ex, hq] at a
      exact ⟨n, o, h', a, b⟩
  · rintro ⟨n, o, h', a, b⟩
    refine ⟨n + 1, o, h', ?_, b⟩
    rw [m_ex, hq]
    exact a
theorem m_W_ret {v : Option Value} (hq : m_st P y i is ls st h = some (.inr (.inr (.inl v)))) : m_W P d y (i :: is) ls st h Q = Q (.inl v) h := by
  apply propext
  constructor
  · rintro ⟨n, o, h', a, b⟩
    cases n with
    | zero => simp [m_ex] at a
    | succ n =>
      rw [m_ex, hq] at a
      cases a
      exact b
  · intro b
    refine ⟨1, _, _, ?_, b⟩
    rw [m_ex, hq]
theorem m_W_thr {e : Nat} (hq : m_st P y i is ls st h = some (.inr (.inr (.inr e)))) : m_W P d y (i :: is) ls st h Q = Q (.inr e) (m_bump h) := by
  apply propext
  constructor
  · rintro ⟨n, o, h', a, b⟩
    cases n with
    | zero => simp [m_ex] at a
    | succ n =>
      rw [m_ex, hq] at a
      cases a
      exact b
  · intro b
    refine ⟨1, _, _, ?_, b⟩
    rw [m_ex, hq]
theorem m_W_call {q : Nat × List Value × List Value} (hq : m_st P y i is ls st h = some (.inr (.inl q))) : m_W P (d + 1) y (i :: is) ls st h Q = m_W P d q.1 (m_tg P q.1 0) (m_ent (m_nl P q.1) q.2.1) [] h (m_C P (d + 1) y (m_isp i) is ls q.2.2 Q) := by
  apply propext
  constructor
  · rintro ⟨n, o, h', a, b⟩
    cases n with
    | zero => simp [m_ex] at a
    | succ n =>
      rw [m_ex, hq] at a
      dsimp only at a
      cases hc : m_ex P n d q.1 (m_tg P q.1 0) (m_ent (m_nl P q.1) q.2.1) [] h with
      | none => rw [hc] at a; cases a
      | some g =>
        rw [hc] at a
        rcases g with ⟨v | e, h1⟩
        · exact ⟨n, _, _, hc, n, o, h', a, b⟩
        · refine ⟨n, _, _, hc, ?_⟩
          dsimp only at a
          unfold m_C
          dsimp only
          by_cases hi : m_isp i = true
          · rw [if_pos hi] at a; cases a
          · rw [if_neg hi] at a
            refine ⟨Bool.eq_false_iff.mpr hi, ?_⟩
            cases hd : m_hd P y e with
            | none =>
              rw [hd] at a
              dsimp only at a ⊢
              by_cases hh : m_hh P y = true
              · rw [if_pos hh] at a; cases a
              · rw [if_neg hh] at a; cases a; exact ⟨Bool.eq_false_iff.mpr hh, b⟩
            | some r =>
              rw [hd] at a
              dsimp only at a ⊢
              by_cases ho : m_ok1 ls r.1 = true
              · rw [if_pos ho] at a; exact ⟨ho, n, o, h', a, b⟩
              · rw [if_neg ho] at a; cases a
  · rintro ⟨n, o, h1, a, b⟩
    rcases o with v | e
    · obtain ⟨k, o, h', a2, b2⟩ := b
      refine ⟨n + k + 1, o, h', ?_, b2⟩
      rw [m_ex, hq]
      dsimp only
      rw [m_ex_fuel n k _ _ _ _ _ _ _ a]
      dsimp only
      rw [Nat.add_comm n k]
      exact m_ex_fuel k n _ _ _ _ _ _ _ a2
    · unfold m_C at b
      dsimp only at b
      obtain ⟨hi, b⟩ := b
      cases hd : m_hd P y e with
      | none =>
        rw [hd] at b
        dsimp only at b
        refine ⟨n + 1, .inr e, h1, ?_, b.2⟩
        rw [m_ex, hq]
        dsimp only
        rw [a]
        dsimp only
        rw [if_neg (by rw [hi]; decide), hd]
        dsimp only
        rw [if_neg (by rw [b.1]; decide)]
      | some r =>
        rw [hd] at b
        dsimp only at b
        obtain ⟨ho, k, o, h', a2, b2⟩ := b
        refine ⟨n + k + 1, o, h', ?_, b2⟩
        rw [m_ex, hq]
        dsimp only
        rw [m_ex_fuel n k _ _ _ _ _ _ _ a]
        dsimp only
        rw [if_neg (by rw [hi]; decide), hd]
        dsimp only
        rw [if_pos ho, Nat.add_comm n k]
        exact m_ex_fuel k n _ _ _ _ _ _ _ a2
theorem m_C_inl {sp : Bool} {v : Option Value} : m_C P d y sp is ls st Q (.inl v) h = m_W P d y is ls (v.toList ++ st) h Q := of_eq_true (eq_self _)
theorem m_C_inr {sp : Bool} {e : Nat} : m_C P d y sp is ls st Q (.inr e) h = (sp = false ∧ (match m_hd P y e with | none => m_hh P y = false ∧ Q (.inr e) h | some r => m_ok1 ls r.1 = true ∧ m_W P d y (m_tg P y r.2) (ls.set r.1 none) [] h Q)) := of_eq_true (eq_self _)
end WP
