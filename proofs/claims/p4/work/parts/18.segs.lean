/-! a method's code in stretches, and its check in one -/
def m_fl : List (Nat × List Instr) → List Instr
  | [] => []
  | q :: S => q.2 ++ m_fl S
def m_tgl : List (Nat × List Instr) → Nat → List Instr
  | [], _ => []
  | q :: S, t => if t = q.1 then q.2 ++ m_fl S else m_tgl S t
def m_tgb (S : List (Nat × List Instr)) (t : Nat) : Bool := S.any (fun q => q.1 == t)
def m_ckS (lk : Nat → Option (Nat × Nat × Nat)) (tt : Option FieldType) (ini hh : Bool) (tg : Nat → Bool) (ra : Nat → Bool) (cv : Nat → Bool) (cc : ByteArray) : List (Nat × List Instr) → Bool
  | [] => true
  | q :: S => match m_seg lk tt ini hh tg ra cv cc q.2 q.1 with
    | none => false
    | some pc' => (match S with | [] => true | q' :: _ => q'.1 == pc') && m_ckS lk tt ini hh tg ra cv cc S
section SEGS
variable {l : Launch} {P : m_P} {cl : List vw_C} {D : va_G} {cA : Nat → ClassId} {tys : List (ClassId × FieldType)} {G : List Cond} {AOL : List String × List (Nat × String)} {TL : List (String × Nat × Nat × Nat × String)} {NL : List (String × Nat × MethodName × String)} {Y : Nat → MethodName} {B : Nat → ByteArray} {TT : Nat → Option FieldType} {INI : Nat → Bool} {TGz : Nat → Nat → Prop} {NM : Nat} {HH : Nat → List (Nat × Nat × Nat × Nat)} {lk : Nat → Option (Nat × Nat × Nat)} {hh : Bool} {tg ra cv : Nat → Bool} {z : Nat}
theorem m_ckS_at (hlk : ∀ ix q, lk ix = some q → m_lkok P cl G AOL TL NL tys cA Y TT INI NM (Y z).cls ix q) (htg : ∀ t, tg t = true → TGz z t) (hra : ∀ ci, ra ci = true → ∃ r : vw_C, cl[ci]? = some r ∧ m_aok tys cA (200 + ci) (.object r.1)) (hAk : m_aok tys cA 100 .int ∧ m_aok tys cA 101 .byte ∧ m_aok tys cA 102 .long ∧ m_aok tys cA 103 .double) (harr : Cond.arrayClass .int ∈ G ∧ Cond.arrayClass .byte ∈ G ∧ Cond.arrayClass .long ∈ G ∧ Cond.arrayClass .double ∈ G) (hhy : m_hh P z = hh) (hcov : hh = true → ∀ pc i, cv pc = true → m_cov P G Y B HH z pc i) :
    ∀ (S : List (Nat × List Instr)), m_ckS lk (TT z) (INI z) hh tg ra cv (B z) S = true → (∀ q S', S = q :: S' → m_at P cl G AOL TL NL tys cA Y B TT INI TGz NM HH z (m_fl S) q.1) ∧ ∀ t, m_tgb S t = true → m_at P cl G AOL TL NL tys cA Y B TT INI TGz NM HH z (m_tgl S t) t
  | [], _ => ⟨(fun _ _ h => by cases h), (fun t h => by cases (show false = true from h))⟩
  | q :: S, h => by
    unfold m_ckS at h
    split at h
    · cases h
    · next pc' hs =>
      obtain ⟨h1, h2⟩ := m_and h
      obtain ⟨i1, i2⟩ := m_ckS_at hlk htg hra hAk harr hhy hcov S h2
      have hhead : m_at P cl G AOL TL NL tys cA Y B TT INI TGz NM HH z (q.2 ++ m_fl S) q.1 := by
        refine m_seg_at hlk htg hra hAk harr hhy hcov q.2 (m_fl S) q.1 pc' hs ?_
        cases S with
        | nil => trivial
        | cons q' S' =>
          have e : q'.1 = pc' := by simpa using h1
          rw [← e]
          exact i1 q' S' rfl
      refine ⟨fun q0 S0 e => by cases e; exact hhead, fun t ht => ?_⟩
      unfold m_tgl
      by_cases e : t = q.1
      · rw [if_pos e, e]
        exact hhead
      · rw [if_neg e]
        refine i2 t ?_
        unfold m_tgb at ht ⊢
        rw [List.any_cons] at ht
        rcases (Bool.or_eq_true _ _).mp ht with w | w
        · exact absurd (by simpa using w : q.1 = t).symm e
        · exact w
theorem m_find_ok {t : List (Nat × Nat × Nat × Nat)} {Q : Nat → Nat × Nat × Nat → Prop} (h : ∀ e ∈ t, Q e.1 e.2) : ∀ ix q, (t.find? (fun e => e.1 == ix)).map (fun e => e.2) = some q → Q ix q := by
  intro ix q hq
  cases hf : t.find? (fun e => e.1 == ix) with
  | none => rw [hf] at hq; cases hq
  | some e =>
    rw [hf] at hq
    cases hq
    have h1 := List.find?_some hf
    have h2 : e.1 = ix := by simpa using h1
    rw [← h2]
    exact h e (List.mem_of_find?_eq_some hf)
end SEGS
