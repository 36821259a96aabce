section MAIN2
variable {l : Launch} {P : m_P} {cl : List vw_C} {D : va_G} {cA : Nat → ClassId} {tys : List (ClassId × FieldType)} {G : List Cond} {XT : (Nat → Prop) → State → Heap → Prop} {xc : Nat → Nat} {AOL : List String × List (Nat × String)} {TL : List (String × Nat × Nat × Nat × String)} {NL : List (String × Nat × MethodName × String)} {Y : Nat → MethodName} {B : Nat → ByteArray} {TT : Nat → Option FieldType} {INI : Nat → Bool} {TGz : Nat → Nat → Prop} {NM : Nat} {HH : Nat → List (Nat × Nat × Nat × Nat)}
/-- a method's end -/
theorem m_end (S : m_stat l P cl G AOL TL NL tys cA Y B TT INI TGz NM HH XT xc) {z : Nat} {i : Instr} {is : List Instr} {ls : m_F} {st : List Value} {h : m_H} {v : Option Value} {p : Program} {e : Env} {R : Room} {s : State} {m : MethodId} {args : Array Value} {below : List Frame} {meth : Method} {c : Code} {A : Nat → Prop} {xa : Nat × (Nat → Nat)} {c0 s0 pc len : Nat} (E : m_env p s m args meth c R P cl D cA A tys G (Y z).cls (INI z) (m_nl P z) (B z)) (hlocks : meth.locks = false) (hr : meth.sig.returnType = TT z)
    (hq : m_st P z i is ls st h = some (.inr (.inr (.inl v)))) (hm : m_simA P cl G AOL TL NL tys cA Y B TT INI TGz NM HH z pc len i) (ht : m_ret (TT z) i ∨ ¬ (∃ t, m_ret t i)) :
    m_go p l e R s m args below meth c (vx_MQ below (m_Qc P cl D cA A xa (.inl v) h) (m_XC P cl D cA A xa (.inl v) h) args s (m_c h - c0) (m_s h - s0) A) P cl D cA A xa (m_nl P z) c0 s0 pc ls st h := by
  obtain ⟨hx, hb, -⟩ := E
  intro H locs ad la rel hl hs
  have hQ : ∀ (w : Option Value), v = w → (∀ u, w = some u → m_in (m_n h) u) → ∀ t : State, t.heap = H → s.WarmedH t.vm → m_Qc P cl D cA A xa (.inl v) h args s (.returned (w.map (m_cv ad))) t := by
    intro w hw hin t ht _
    subst hw
    exact ⟨v, ad, rfl, rfl, hin, by rw [ht]; exact rel.1, rel.2.1, rel.2.2.2.1, rel.2.2.2.2.1, rel.2.2.2.2.2, rel.2.2.1.F ht⟩
  have hf : ∀ q ∈ locs, A q.base := rel.2.2.1.2.2
  refine vx_ret ?_
  cases i
  case ireturn =>
    have hd : decode (B z) pc = .ok (.ireturn, 1) := by
      rcases hm with (hm | hm) | hm
      · exact hm.2
      · exact hm.elim
      · exact hm.1.elim
    have ht : TT z = some .int := ht.elim id (fun w => absurd ⟨some .int, rfl⟩ w)
    simp only [m_st] at hq
    split at hq
    · cases hq
      exact W.iret hx hb (hr.trans ht) (hQ _ rfl (fun u hu => by cases hu; trivial)) hf hd hlocks
    · cases hq
  case ret k =>
    have hd : decode (B z) pc = .ok (.ireturn, 1) := by
      rcases hm with (hm | hm) | hm
      · exact hm.2
      · exact hm.elim
      · exact hm.1.elim
    have ht : TT z = some .boolean := ht.elim id (fun w => absurd ⟨some .boolean, rfl⟩ w)
    simp only [m_st] at hq
    split at hq
    · split at hq
      · next w =>
        cases hq
        refine W.zret hx hb (hr.trans ht) ?_ (hQ _ rfl (fun u hu => by cases hu; trivial)) hf hd hlocks
        rcases w with rfl | rfl <;> rfl
      · cases hq
    · cases hq
  case areturn =>
    have hd : decode (B z) pc = .ok (.areturn, 1) := by
      rcases hm with (hm | hm) | hm
      · exact hm.2
      · exact hm.elim
      · exact hm.1.elim
    have ht : ∃ t, TT z = some t ∧ ((∃ n, t = .object n) ∨ ∃ u, t = .array u) := ht.elim id (fun w => absurd ⟨some (.object ""), ⟨_, rfl, Or.inl ⟨_, rfl⟩⟩⟩ w)
    obtain ⟨t, ht, ht2⟩ := ht
    simp only [m_st] at hq
    split at hq
    · cases hq
      exact W.aret hx hb (hr.trans ht) ht2 (Or.inr ⟨_, rfl⟩) (hQ _ rfl (fun u hu => by cases hu; exact g_hd hs)) hf hd hlocks
    · cases hq
      exact W.aret hx hb (hr.trans ht) ht2 (Or.inl rfl) (hQ _ rfl (fun u hu => by cases hu; trivial)) hf hd hlocks
    · cases hq
  case freturn =>
    have hd : decode (B z) pc = .ok (.freturn, 1) := by
      rcases hm with (hm | hm) | hm
      · exact hm.2
      · exact hm.elim
      · exact hm.1.elim
    have ht : TT z = some .float := ht.elim id (fun w => absurd ⟨some .float, rfl⟩ w)
    simp only [m_st] at hq
    split at hq
    · cases hq
      exact W.fret hx hb (hr.trans ht) (hQ _ rfl (fun u hu => by cases hu; trivial)) hf hd hlocks
    · cases hq
  case dreturn =>
    have hd : decode (B z) pc = .ok (.dreturn, 1) := by
      rcases hm with (hm | hm) | hm
      · exact hm.2
      · exact hm.elim
      · exact hm.1.elim
    have ht : TT z = some .double := ht.elim id (fun w => absurd ⟨some .double, rfl⟩ w)
    simp only [m_st] at hq
    split at hq
    · cases hq
      exact W.dret hx hb (hr.trans ht) (hQ _ rfl (fun u hu => by cases hu; trivial)) hf hd hlocks
    · cases hq
  case return_ =>
    have hd : decode (B z) pc = .ok (.return_, 1) := by
      rcases hm with (hm | hm) | hm
      · exact hm.2
      · exact hm.elim
      · exact hm.1.elim
    have ht : TT z = none := ht.elim id (fun w => absurd ⟨none, rfl⟩ w)
    simp only [m_st] at hq
    split at hq
    · cases hq
      exact W.vret hx hb (hr.trans ht) (hQ _ rfl (fun u hu => by cases hu)) hf hd hlocks
    · cases hq
  case newarray t =>
    exfalso
    cases t <;> simp only [m_st, m_nx] at hq <;> first | (cases hq; done) | ((repeat' split at hq) <;> (cases hq; done))
  all_goals
    exfalso
    simp only [m_st, m_nx] at hq
    first
      | (cases hq; done)
      | ((repeat' split at hq) <;> (cases hq; done))
/-- a throw -/
theorem m_thr (S : m_stat l P cl G AOL TL NL tys cA Y B TT INI TGz NM HH XT xc) {d z : Nat} {i : Instr} {is : List Instr} {ls : m_F} {st : List Value} {h : m_H} {x : Nat} {p : Program} {e : Env} {R : Room} {s : State} {m : MethodId} {args : Array Value} {below : List Frame} {meth : Method} {c : Code} {A : Nat → Prop} {xa : Nat × (Nat → Nat)} {c0 s0 pc len : Nat} (E : m_env p s m args meth c R P cl D cA A tys G (Y z).cls (INI z) (m_nl P z) (B z)) (X : m_ext s A xa XT P xc AOL TL NL) (hR : d + 8 ≤ R.frames ∧ 40 * d + 200 ≤ R.locals) (hlocks : meth.locks = false) (htab : c.exceptionTable.toList = tableOf (HH z)) (hhz : m_hh P z = false → HH z = []) (h0 : c0 ≤ m_c h) (h1 : s0 ≤ m_s h) (g0 : m_c (m_bump h) - c0 ≤ R.cells) (g1 : m_s (m_bump h) - s0 ≤ R.slots)
    (hq : m_st P z i is ls st h = some (.inr (.inr (.inr x)))) (hm : m_simA P cl G AOL TL NL tys cA Y B TT INI TGz NM HH z pc len i) :
    m_go p l e R s m args below meth c (vx_MQ below (m_Qc P cl D cA A xa (.inr x) (m_bump h)) (m_XC P cl D cA A xa (.inr x) (m_bump h)) args s (m_c (m_bump h) - c0) (m_s (m_bump h) - s0) A) P cl D cA A xa (m_nl P z) c0 s0 pc ls st h := by
  obtain ⟨hx, hb, hml, hown, hts, -⟩ := E
  intro H locs ad la rel hl hs
  cases i
  case invokedynamic k =>
    simp only [m_st] at hq
    split at hq
    · split at hq
      · next w =>
        cases hq
        rcases hm with (hm | hm) | hm
        · exact hm.elim
        · exact hm.elim
        · obtain ⟨⟨-, hx1, hnh, ik, is, ic, text, ht, l1, l2, l3, l4, l5, l6, l7, d0, d3, d4, d6, d9⟩, -⟩ := hm
          obtain ⟨-, -, ⟨z1, z2⟩, z3, -, ⟨z6, -⟩, -⟩ := X.2.1 _ _ _ X.2.2.1
          obtain ⟨sa, z4⟩ := z3 _ ht
          have z5 : ∀ w ∈ m_atS (Y z).cls ic x, w.before args s = true := vx_hat (fun w hw => hts _ (l6 w hw)) l7 (fun w hw => va_Nw.use (m_ng_all (Q := fun w => w.onTables = true) rfl (fun _ => rfl) w hw) (z6 _ hx1 w hw))
          have g0 : m_c h + 1 - c0 ≤ R.cells := g0
          have g1 : m_s h + 6 - s0 ≤ R.slots := g1
          have e0 : m_c (m_bump h) - c0 = m_c h - c0 + 1 := by show m_c h + 1 - c0 = _; omega
          have e1 : m_s (m_bump h) - s0 = m_s h - s0 + 6 := by show m_s h + 6 - s0 = _; omega
          have hfr : ["java/lang/Exception"].length + 4 < R.frames := by have := hR.1; show 1 + 4 < _; omega
          have hlo : ((st.map (m_cv ad)).map fun v => v.category).sum + (13 * (["java/lang/Exception"].length + 2) + 43) ≤ R.locals := by have := hR.2; rw [m_cat_map]; show _ + (13 * (1 + 2) + 43) ≤ _; omega
          refine t_make hx hb S.1 (m_rx0 x) (m_rx1 x) (m_rx2 x) (m_rx5 x) hown l3 (l4 _ List.mem_cons_self) (fun n hn => l4 _ (List.mem_cons_of_mem _ hn)) (hts _ l1) (hts _ l2) z4 z5 l5 z1 z2 rel.2.2.1 (hl.1.trans hml.symm) d0 d3 d4 d6 hfr hlo (by omega) (by omega) (fun q ce H1 hq hv hcl hz hk => ?_)
          refine vx_athrow hx hb d9 (vx_out (fun x hx => by rw [htab, hhz hnh] at hx; cases hx) hlocks hq hv hcl ?_ rel.2.2.1.2.2 (by omega) (by omega))
          intro t ht ha
          subst ht
          exact ⟨_, ad, rfl, rfl, rel.1.kept (fun j q hj => hk q.1 ((rel.1 j q hj).lt)), rel.2.1, rel.2.2.2.1, rel.2.2.2.2.1, rel.2.2.2.2.2, Nat.le_trans rel.2.2.1.1 hz, fun q q1 q2 => (hk q (Nat.lt_of_lt_of_le q1 rel.2.2.1.1)).trans (rel.2.2.1.2.1 q q1 q2)⟩
      · cases hq
    · cases hq
  case newarray t =>
    exfalso
    cases t <;> simp only [m_st, m_nx] at hq <;> first | (cases hq; done) | ((repeat' split at hq) <;> (cases hq; done))
  all_goals
    exfalso
    simp only [m_st, m_nx] at hq
    first
      | (cases hq; done)
      | ((repeat' split at hq) <;> (cases hq; done))
end MAIN2
