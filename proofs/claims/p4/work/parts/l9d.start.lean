/-! what the search reads, at the start -/
theorem l_eqr {args : Array Value} {s : State} {t u : Term} {b : Nat} (h : (Cond.eq t u).before args s = true) (hu : u.eval args s none [] s = some (.ref b)) : t.eval args s none [] s = some (.ref b) := by
  cases hv : t.eval args s none [] s with
  | none => simp [Cond.before, Cond.holds, Cond.value, hv] at h
  | some w =>
    simp only [Cond.before, Cond.holds, Cond.value, hv, hu] at h
    cases w <;> simp_all
theorem l_WXi {s : State} {args : Array Value} {xi i : Nat} {A : Nat → Prop} (hn : ∀ w ∈ flatC (Jvm.Cond.and given_1 narrow_1), w.before args s = true) (hA : ∀ a : Nat, a < s.heap.size → ¬ A a) (hi : i < 35) (hc : (Term.static m_WE (m_WN.getD i "") m_WD).eval args s none [] s = some (.ref xi)) : ∃ a b : Nat, va_OF m_WE "letters" "Ljava/lang/String;" (.ref a) xi A s s.heap ∧ va_O "java/lang/String" a A s s.heap ∧ va_OF "java/lang/String" "coder" "B" (.int 0) a A s s.heap ∧ va_OF "java/lang/String" "value" "[B" (.ref b) a A s s.heap ∧ va_T .byte b (m_let.getD i []).length (fun j => .int ((m_let.getD i []).getD j 0)) A s s.heap := by
  have e1 := hn _ (List.mem_of_getElem? (n_fex i hi))
  have e2 := hn _ (List.mem_of_getElem? (n_fco i hi))
  have e3 := hn _ (List.mem_of_getElem? (n_far i hi))
  have e4 := hn _ (List.mem_of_getElem? (n_fln i hi))
  have e5 : ∀ j, j < (m_let.getD i []).length → _ := fun j hj => hn _ (List.mem_of_getElem? (n_fby i hi j hj))
  have e6 := hn _ (List.mem_of_getElem? (n_flt i hi))
  have e7 := (f_sm i hi).1
  generalize (m_let.getD i []) = bs at e4 e5 e7 ⊢
  generalize f_six.getD i 0 = k9 at e1 e2 e3 e4 e5 e6
  generalize m_WN.getD i "" = nm at hc e6
  obtain ⟨a, c, cell, k, q1, q2, q3, q4, q5, q6, -⟩ := Cond.exactly_spec e1
  obtain ⟨b, hb, hB⟩ := va_Tof (N := bs.length) (f := fun j => .int (bs.getD j 0)) (A := A) e7 e3 (va_eqt e4) (fun j hj => va_eqt (e5 j hj)) hA
  exact ⟨a, b, vk_OFof hc (l_eqr e6 q1) hA, ⟨cell, q3, q5, by rw [q6]; exact q2, hA a (Array.getElem?_eq_some_iff.mp q3).1⟩, vk_OFof q1 (va_eqt e2) hA, vk_OFof q1 hb hA, hB⟩
theorem l_WXa {s : State} {args : Array Value} {xa : Nat → Nat} {A : Nat → Prop} (hn : ∀ w ∈ flatC (Jvm.Cond.and given_1 narrow_1), w.before args s = true) (hA : ∀ a : Nat, a < s.heap.size → ¬ A a) (hcs : ∀ i, i < 35 → (Term.static m_WE (m_WN.getD i "") m_WD).eval args s none [] s = some (.ref (xa i))) : ∃ t : Nat, ((.static m_WE "ALL" "[LDriverHost$Word;") : Term).eval args s none [] s = some (.ref t) ∧ va_T (.object m_WE) t 35 (fun j => .ref (xa j)) A s s.heap := by
  have g1 : ∀ j, j < 35 → (Term.elem (.static m_WE "ALL" "[LDriverHost$Word;") (.int (Int32.ofNat j))).eval args s none [] s = some (.ref (xa j)) := fun j hj => l_eqr (hn _ (List.mem_of_getElem? (n_fel j hj))) (hcs j hj)
  exact va_Tof (show (35 : Nat) < 2 ^ 31 by omega) (hn _ n_fal) (va_eqt (hn _ n_fle)) g1 hA
theorem l_WXb {s : State} {args : Array Value} {xa : Nat → Nat} {A : Nat → Prop} (hn : ∀ w ∈ flatC (Jvm.Cond.and given_1 narrow_1), w.before args s = true) (hA : ∀ a : Nat, a < s.heap.size → ¬ A a) (hcs : ∀ i, i < 35 → (Term.static m_WE (m_WN.getD i "") m_WD).eval args s none [] s = some (.ref (xa i))) : ∃ adK adV : Nat → Nat, ∀ i, i < 35 → va_OF m_WE "letters" "Ljava/lang/String;" (.ref (adK i)) (xa i) A s s.heap ∧ va_O "java/lang/String" (adK i) A s s.heap ∧ va_OF "java/lang/String" "coder" "B" (.int 0) (adK i) A s s.heap ∧ va_OF "java/lang/String" "value" "[B" (.ref (adV i)) (adK i) A s s.heap ∧ va_T .byte (adV i) (m_let.getD i []).length (fun j => .int ((m_let.getD i []).getD j 0)) A s s.heap := by
  have h0 : ∀ i : Nat, ∃ q : Nat × Nat, i < 35 → va_OF m_WE "letters" "Ljava/lang/String;" (.ref q.1) (xa i) A s s.heap ∧ va_O "java/lang/String" q.1 A s s.heap ∧ va_OF "java/lang/String" "coder" "B" (.int 0) q.1 A s s.heap ∧ va_OF "java/lang/String" "value" "[B" (.ref q.2) q.1 A s s.heap ∧ va_T .byte q.2 (m_let.getD i []).length (fun j => .int ((m_let.getD i []).getD j 0)) A s s.heap := by
    intro i
    by_cases hi : i < 35
    · obtain ⟨a, b, z⟩ := l_WXi hn hA hi (hcs i hi)
      exact ⟨(a, b), fun _ => z⟩
    · exact ⟨(0, 0), fun h => absurd h hi⟩
  obtain ⟨ad, had⟩ := Classical.axiomOfChoice h0
  exact ⟨fun i => (ad i).1, fun i => (ad i).2, fun i hi => had i hi⟩
theorem l_WX {s : State} {args : Array Value} {xc : Nat → Nat} (hts : ∀ w ∈ lw_tbl, w.before args s = true) (hn : ∀ w ∈ flatC (Jvm.Cond.and given_1 narrow_1), w.before args s = true) (hc : ∀ q ∈ p_AOL.2, (Term.static "DriverHost$Word" q.2 "LDriverHost$Word;").eval args s none [] s = some (.ref (xc q.1))) : m_WX xc (fun q => s.heap.size ≤ q) s s.heap := by
  have hA : ∀ a : Nat, a < s.heap.size → ¬ (fun q : Nat => s.heap.size ≤ q) a := fun a h => Nat.not_le.mpr h
  have hcs : ∀ i, i < 35 → (Term.static m_WE (m_WN.getD i "") m_WD).eval args s none [] s = some (.ref ((fun i => xc (m_X + 1 + i)) i)) := fun i hi => hc (m_X + 1 + i, m_WN.getD i "") (n_ao2 i hi)
  obtain ⟨t, ht, hT⟩ := l_WXa hn hA hcs
  obtain ⟨adK, adV, h5⟩ := l_WXb hn hA hcs
  have z1 := va_Zref (hts _ k_fw.1) (hts _ k_thr.2.2.2) ht hA
  have z2 := va_Zof (hts _ k_fw.2.1) (hts _ k_fw.2.2.1) (va_eqt (hn _ n_fcs)) hA
  have z3 := va_Zqof (hts _ k_fw.2.2.2.1) (hts _ k_fw.2.2.2.2) (hn _ n_fsi) hA
  exact ⟨t, adK, adV, z1, hT, z2, z3, h5⟩
