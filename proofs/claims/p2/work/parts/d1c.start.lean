/-! what the search reads, at the start -/
def f_six : List Nat := [166, 172, 175, 178, 181, 184, 187, 190, 193, 196, 199, 202, 205, 208, 211, 214, 217, 220, 223, 226, 229, 232, 235, 238, 241, 244, 247, 250, 253, 256, 259, 262, 265, 268, 271]
theorem n_fal : Cond.arrayOf (.static m_WE "ALL" "[LDriverHost$Word;") (.object m_WE) ∈ flatC (Jvm.Cond.and given_1 narrow_1) := by decide +kernel
theorem n_fle : Cond.eq (.length (.static m_WE "ALL" "[LDriverHost$Word;")) (.int (Int32.ofNat 35)) ∈ flatC (Jvm.Cond.and given_1 narrow_1) := by decide +kernel
theorem n_fel : ∀ i, i < 35 → Cond.eq (.elem (.static m_WE "ALL" "[LDriverHost$Word;") (.int (Int32.ofNat i))) (.static m_WE (m_WN.getD i "") m_WD) ∈ flatC (Jvm.Cond.and given_1 narrow_1) := by decide +kernel
theorem n_flt : ∀ i, i < 35 → Cond.eq (.field (.static m_WE (m_WN.getD i "") m_WD) m_WE "letters" "Ljava/lang/String;") (.string m_WE (f_six.getD i 0)) ∈ flatC (Jvm.Cond.and given_1 narrow_1) := by decide +kernel
theorem n_fex : ∀ i, i < 35 → Cond.exactly (.string m_WE (f_six.getD i 0)) "java/lang/String" ∈ flatC (Jvm.Cond.and given_1 narrow_1) := by decide +kernel
theorem n_fco : ∀ i, i < 35 → Cond.eq (.field (.string m_WE (f_six.getD i 0)) "java/lang/String" "coder" "B") (.int 0) ∈ flatC (Jvm.Cond.and given_1 narrow_1) := by decide +kernel
theorem n_far : ∀ i, i < 35 → Cond.arrayOf (.field (.string m_WE (f_six.getD i 0)) "java/lang/String" "value" "[B") .byte ∈ flatC (Jvm.Cond.and given_1 narrow_1) := by decide +kernel
theorem n_fln : ∀ i, i < 35 → Cond.eq (.length (.field (.string m_WE (f_six.getD i 0)) "java/lang/String" "value" "[B")) (.int (Int32.ofNat (m_let.getD i []).length)) ∈ flatC (Jvm.Cond.and given_1 narrow_1) := by decide +kernel
theorem n_fby : ∀ i, i < 35 → ∀ j, j < (m_let.getD i []).length → Cond.eq (.elem (.field (.string m_WE (f_six.getD i 0)) "java/lang/String" "value" "[B") (.int (Int32.ofNat j))) (.int ((m_let.getD i []).getD j 0)) ∈ flatC (Jvm.Cond.and given_1 narrow_1) := by decide +kernel
theorem n_fcs : Cond.eq (.static "java/lang/String" "COMPACT_STRINGS" "Z") (.int 1) ∈ flatC (Jvm.Cond.and given_1 narrow_1) := by decide +kernel
theorem n_fsi : Cond.isRef (.static "jdk/internal/util/Preconditions" "SIOOBE_FORMATTER" "Ljava/util/function/BiFunction;") ∈ flatC (Jvm.Cond.and given_1 narrow_1) := by decide +kernel
theorem n_ao2 : ∀ i, i < 35 → (m_X + 1 + i, m_WN.getD i "") ∈ p_AOL.2 := by decide +kernel
theorem k_fw : Cond.laysStatic m_WE "ALL" "[LDriverHost$Word;" ∈ lw_tbl ∧ Cond.laysStatic "java/lang/String" "COMPACT_STRINGS" "Z" ∈ lw_tbl ∧ Cond.initialized "java/lang/String" ∈ lw_tbl ∧ Cond.laysStatic "jdk/internal/util/Preconditions" "SIOOBE_FORMATTER" "Ljava/util/function/BiFunction;" ∈ lw_tbl ∧ Cond.initialized "jdk/internal/util/Preconditions" ∈ lw_tbl := by decide +kernel
theorem l_eqr {args : Array Value} {s : State} {t u : Term} {b : Nat} (h : (Cond.eq t u).before args s = true) (hu : u.eval args s none [] s = some (.ref b)) : t.eval args s none [] s = some (.ref b) := by
  cases hv : t.eval args s none [] s with
  | none => simp [Cond.before, Cond.holds, Cond.value, hv] at h
  | some w =>
    simp only [Cond.before, Cond.holds, Cond.value, hv, hu] at h
    cases w <;> simp_all
theorem l_WX {s : State} {args : Array Value} {xc : Nat → Nat} (hts : ∀ w ∈ lw_tbl, w.before args s = true) (hn : ∀ w ∈ flatC (Jvm.Cond.and given_1 narrow_1), w.before args s = true) (hc : ∀ q ∈ p_AOL.2, (Term.static "DriverHost$Word" q.2 "LDriverHost$Word;").eval args s none [] s = some (.ref (xc q.1))) : m_WX xc (fun q => s.heap.size ≤ q) s s.heap := by
  have hA : ∀ a : Nat, a < s.heap.size → ¬ (fun q : Nat => s.heap.size ≤ q) a := fun a h => Nat.not_le.mpr h
  have hcs : ∀ i, i < 35 → (Term.static m_WE (m_WN.getD i "") m_WD).eval args s none [] s = some (.ref (xc (m_X + 1 + i))) := fun i hi => hc _ (n_ao2 i hi)
  obtain ⟨t, ht, hT⟩ := va_Tof (N := 35) (f := fun j => .ref (xc (m_X + 1 + j))) (by decide) (hn _ n_fal) (va_eqt (hn _ n_fle)) (fun j hj => l_eqr (hn _ (n_fel j hj)) (hcs j hj)) hA
  have h0 : ∀ i : Nat, ∃ q : Nat × Nat, i < 35 → va_OF m_WE "letters" "Ljava/lang/String;" (.ref q.1) (xc (m_X + 1 + i)) (fun q => s.heap.size ≤ q) s s.heap ∧ va_O "java/lang/String" q.1 (fun q => s.heap.size ≤ q) s s.heap ∧ va_OF "java/lang/String" "coder" "B" (.int 0) q.1 (fun q => s.heap.size ≤ q) s s.heap ∧ va_OF "java/lang/String" "value" "[B" (.ref q.2) q.1 (fun q => s.heap.size ≤ q) s s.heap ∧ va_T .byte q.2 (m_let.getD i []).length (fun j => .int ((m_let.getD i []).getD j 0)) (fun q => s.heap.size ≤ q) s s.heap := by
    intro i
    by_cases hi : i < 35
    · obtain ⟨a, c, cell, k, q1, q2, q3, q4, q5, q6, -⟩ := Cond.exactly_spec (hn _ (n_fex i hi))
      obtain ⟨b, hb, hB⟩ := va_Tof (N := (m_let.getD i []).length) (f := fun j => .int ((m_let.getD i []).getD j 0)) (f_sm i hi).1 (hn _ (n_far i hi)) (va_eqt (hn _ (n_fln i hi))) (fun j hj => va_eqt (hn _ (n_fby i hi j hj))) hA
      exact ⟨(a, b), fun _ => ⟨vk_OFof (hcs i hi) (l_eqr (hn _ (n_flt i hi)) q1) hA, ⟨cell, q3, q5, by rw [q6]; exact q2, hA a (Array.getElem?_eq_some_iff.mp q3).1⟩, vk_OFof q1 (va_eqt (hn _ (n_fco i hi))) hA, vk_OFof q1 hb hA, hB⟩⟩
    · exact ⟨(0, 0), fun h => absurd h hi⟩
  obtain ⟨ad, had⟩ := Classical.axiomOfChoice h0
  exact ⟨t, fun i => (ad i).1, fun i => (ad i).2, va_Zref (hts _ k_fw.1) (hts _ k_thr.2.2.2) ht hA, hT, va_Zof (hts _ k_fw.2.1) (hts _ k_fw.2.2.1) (va_eqt (hn _ n_fcs)) hA, va_Zqof (hts _ k_fw.2.2.2.1) (hts _ k_fw.2.2.2.2) (hn _ n_fsi) hA, fun i hi => had i hi⟩
