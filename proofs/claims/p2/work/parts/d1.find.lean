/-! Word.find at the machine -/
theorem w_fok (l : Launch) {L : Nat} {xs : Nat → Int32} {D : va_G} {cA : Nat → ClassId} {tys : List (ClassId × FieldType)} {xc : Nat → Nat} : m_fok l (p_P L xs) vwCl D cA tys p_G (m_XT (p_P L xs) xc p_AOL p_TL p_NL) xc := by
  sorry
