section MAIN3
variable {l : Launch} {P : m_P} {cl : List vw_C} {D : va_G} {cA : Nat → ClassId} {tys : List (ClassId × FieldType)} {G : List Cond} {XT : (Nat → Prop) → State → Heap → Prop} {xc : Nat → Nat} {AOL : List String × List (Nat × String)} {TL : List (String × Nat × Nat × Nat × String)} {NL : List (String × Nat × MethodName × String)} {Y : Nat → MethodName} {B : Nat → ByteArray} {TT : Nat → Option FieldType} {INI : Nat → Bool} {TGz : Nat → Nat → Prop} {NM : Nat} {HH : Nat → List (Nat × Nat × Nat × Nat)}
/-- a call of the small machine is one of the machine -/
theorem m_runs (S : m_stat l P cl G AOL TL NL tys cA Y B TT INI TGz NM HH XT xc) {d z zz : Nat} {i : Instr} {is : List Instr} {ls : m_F} {st as st' : List Value} {h : m_H} {p : Program} {e : Env} {R : Room} {s : State} {m : MethodId} {args : Array Value} {below : List Frame} {meth : Method} {c : Code} {A : Nat → Prop} {xa : Nat × (Nat → Nat)} {pc len cells slots mc ms : Nat} {H : Heap} {locs : List Loc} {ad : Nat → Nat} {la : Array Slot} {Qc : Array Value → State → Outcome → State → Prop} {XC : String → State → State → Prop} {free : Addr → Prop} (E : m_env p s m args meth c R P cl D cA A tys G (Y z).cls (INI z) (m_nl P z) (B z)) (X : m_ext s A xa XT P xc AOL TL NL) (hR : d + 1 + 8 ≤ R.frames ∧ 40 * (d + 1) + 200 ≤ R.locals) (rel : m_rel s P cl D cA A xa ad H locs h) (hl : m_lR ad (m_n h) ls la (m_nl P z))
    (hq : m_st P z i is ls st h = some (.inr (.inl (zz, as, st')))) (hm : m_simA P cl G AOL TL NL tys cA Y B TT INI TGz NM HH z pc len i) (hroom : cells + mc ≤ R.cells ∧ slots + ms ≤ R.slots) :
    zz < NM ∧ len = 3 ∧ st = as.reverse ++ st' ∧ (m_sl as).length ≤ m_nl P zz ∧ (vx_Met l (Y zz) (m_cw P Y B TT HH zz :: G) (m_rm d mc ms) (m_Pc P cl D cA tys XT ad h as H.size) Qc XC mc ms free → (m_isp i = true → ∀ E st t, ¬ XC E st t) →
      vx_Run p l e R s m args below meth c H locs cells slots mc ms (F0 m pc la (st.map (m_cv ad))) (st'.map (m_cv ad)) (Qc (as.map (m_cv ad)).toArray) XC free) := by
  obtain ⟨hx, hb, hml, hown, hts, hK, hA, -, -, -, -⟩ := E
  obtain ⟨-, hNM, hG, -, hXT, hXU, hM⟩ := S
  cases i
  case invokevirtual z1 =>
    simp only [m_st] at hq
    split at hq
    · next a as1 st1 hpop =>
      split at hq
      · next w =>
        cases hq
        obtain ⟨w1, w2, w3, w4⟩ := w
        obtain ⟨e1, e2⟩ := m_pop_eq hpop
        rcases hm with (hm | hm) | hm
        · exact hm.elim
        · exact hm.elim
        obtain ⟨⟨rfl, hzz, hnh, ix, l1, l2, l3, l4, ⟨r, r1, r2, r3⟩, hd⟩, -⟩ := hm
        have hcw : m_cw P Y B TT HH zz = Cond.code (Y zz) (B zz) (m_nl P zz) (TT zz) := by unfold m_cw; rw [hnh]; rfl
        obtain ⟨k1, k2, k3, k4, k5, -⟩ := hM _ hzz
        refine ⟨hzz, rfl, e1, w4, fun hC _ => ?_⟩
        rw [hcw] at hC k2
        have hpar : (parseMethodDescriptor (Y zz).desc).map (fun d => d.parameters.length) = some as1.length := by
          cases hpd : parseMethodDescriptor (Y zz).desc with
          | none => rw [hpd] at l4; cases l4
          | some md =>
            rw [hpd] at l4
            have l5 : md.parameters.length + 1 = m_na P zz := Option.some.inj l4
            simp only [Option.map_some, Option.some.injEq]
            simp only [List.length_cons] at e2
            omega
        have he := m_ws_at (P := P) (cA := cA) (ad := ad) w1
        rw [m_cell_obj w2 r3] at he
        have hcl := va_recv hK rel.1 r1 he
        rw [r2] at hcl
        refine vx_runV (C := (Y zz).cls) (b := ad a) (As := as1.map (m_cv ad)) (index := ix) ⟨hx, hb, hml, hown, hts⟩ hC (cwV as1.length hts (m_good hG k2 (fun w hw => ?_)) rfl rfl rfl ⟨rfl, k4.1, k4.2, hpar⟩ ⟨by have := hR.1; show d + 8 + 1 ≤ _; omega, by have := hR.2; show 8 + (m_nl P zz + 11) + (40 * d + 200) ≤ _; omega⟩) ⟨m_Pc_blind hXT, hcl, fun U hU hW => m_pre rel hA hK hXT X.2.2.1 U hU hW⟩ rfl (by simp) hl.1 ?_ (lv_room (by rw [m_cat_map]; exact w3)) hd hroom
        · rcases List.mem_cons.mp hw with rfl | hw
          · exact l1
          rcases List.mem_cons.mp hw with rfl | hw
          · exact l2
          rcases List.mem_cons.mp hw with rfl | hw
          · exact l3
          rcases List.mem_cons.mp hw with rfl | hw
          · exact k3
          · cases hw
        · show st.map (m_cv ad) = _
          rw [e1]
          simp [m_cv, List.map_reverse]
      · cases hq
    · cases hq
  case invokestatic z1 =>
    rcases hm with (hm | hm) | hm
    · exfalso
      obtain ⟨-, ix, hlib, -⟩ := hm
      rcases hlib with ⟨rfl, -⟩ | ⟨rfl, -⟩ | ⟨rfl, -⟩ <;> simp only [m_st, m_nx, ↓reduceIte, Nat.reduceEqDiff] at hq <;> (repeat' split at hq) <;> cases hq
    · exfalso
      obtain ⟨rfl, -⟩ := hm
      simp only [m_st, m_nx, ↓reduceIte, Nat.reduceEqDiff] at hq
      (repeat' split at hq) <;> cases hq
    obtain ⟨⟨rfl, hzz, ix, l1, l2, l4, hd⟩, -⟩ := hm
    simp only [m_st] at hq
    rw [if_neg (by omega), if_neg (by omega), if_neg (by omega), if_neg (by omega)] at hq
    split at hq
    · next as1 st1 hpop =>
      split at hq
      · next w =>
        cases hq
        obtain ⟨w3, w4⟩ := w
        obtain ⟨e1, e2⟩ := m_pop_eq hpop
        obtain ⟨k1, k2, k3, k4, k5, -⟩ := hM _ hzz
        refine ⟨hzz, rfl, e1, w4, fun hC _ => ?_⟩
        have hgd := m_good (ws := [.methodLink (Y z).cls ix (Y zz), .static (Y zz), .initialized (Y zz).cls]) hG k2 (fun w hw => by
          rcases List.mem_cons.mp hw with rfl | hw
          · exact l1
          rcases List.mem_cons.mp hw with rfl | hw
          · exact l2
          rcases List.mem_cons.mp hw with rfl | hw
          · exact k3
          · cases hw)
        have hrm : (m_rm d mc ms).frames + 1 ≤ R.frames ∧ 8 + (m_nl P zz + 11) + (m_rm d mc ms).locals ≤ R.locals := ⟨by have := hR.1; show d + 8 + 1 ≤ _; omega, by have := hR.2; show 8 + (m_nl P zz + 11) + (40 * d + 200) ≤ _; omega⟩
        have hstk : st.map (m_cv ad) = (as.map (m_cv ad)).reverse ++ st'.map (m_cv ad) := by
          rw [e1]
          simp [List.map_reverse]
        by_cases hh : m_hh P zz = true
        · have hcw : m_cw P Y B TT HH zz = Cond.codeWith (Y zz) (B zz) (m_nl P zz) (TT zz) (HH zz) := by unfold m_cw; rw [if_pos hh]
          rw [hcw] at hC hgd
          exact vx_runSX (As := as.map (m_cv ad)) (index := ix) ⟨hx, hb, hml, hown, hts⟩ hC (vx_cwSW as.length hts hgd rfl rfl rfl ⟨k4.1, k4.2, by rw [e2]; exact l4⟩ hrm) ⟨m_Pc_blind hXT, fun U hU hW => m_pre rel hA hK hXT X.2.2.1 U hU hW⟩ rfl (by simp) hl.1 hstk (lv_room (by rw [m_cat_map]; exact w3)) hd hroom
        · have hcw : m_cw P Y B TT HH zz = Cond.code (Y zz) (B zz) (m_nl P zz) (TT zz) := by unfold m_cw; rw [if_neg hh]
          rw [hcw] at hC hgd
          exact vx_runS (As := as.map (m_cv ad)) (index := ix) ⟨hx, hb, hml, hown, hts⟩ hC (va_cwS as.length hts hgd rfl rfl rfl ⟨k4.1, k4.2, by rw [e2]; exact l4⟩ hrm) ⟨m_Pc_blind hXT, fun U hU hW => m_pre rel hA hK hXT X.2.2.1 U hU hW⟩ rfl (by simp) hl.1 hstk (lv_room (by rw [m_cat_map]; exact w3)) hd hroom
      · cases hq
    · cases hq
  case invokespecial z1 =>
    rcases hm with (hm | hm) | hm
    · exfalso
      obtain ⟨-, rfl, -⟩ := hm
      simp only [m_st, m_nx, ↓reduceIte] at hq
      (repeat' split at hq) <;> cases hq
    · exact hm.elim
    obtain ⟨⟨rfl, hzz, hnh, hini, htt, ix, l1, l2, l4, hd⟩, -⟩ := hm
    have hcw : m_cw P Y B TT HH z1 = Cond.code (Y z1) (B z1) (m_nl P z1) (TT z1) := by unfold m_cw; rw [hnh]; rfl
    simp only [m_st] at hq
    rw [if_neg (by omega)] at hq
    split at hq
    · next a as1 st1 hpop =>
      split at hq
      · next w =>
        cases hq
        obtain ⟨w1, w2, w3, w4⟩ := w
        obtain ⟨e1, e2⟩ := m_pop_eq hpop
        obtain ⟨k1, k2, k3, k4, k5, k6, k7, k8, -⟩ := hM _ hzz
        refine ⟨hzz, rfl, e1, w4, fun hC hno => ?_⟩
        have hC := m_met hC (hno rfl)
        rw [hcw, htt] at hC k2
        have hpar : (parseMethodDescriptor (Y zz).desc).map (fun d => d.parameters.length) = some as1.length := by
          cases hpd : parseMethodDescriptor (Y zz).desc with
          | none => rw [hpd] at l4; cases l4
          | some md =>
            rw [hpd] at l4
            have l5 : md.parameters.length + 1 = m_na P zz := Option.some.inj l4
            simp only [Option.map_some, Option.some.injEq]
            simp only [List.length_cons] at e2
            omega
        have hgood : GoodIn G (Cond.code (Y zz) (B zz) (m_nl P zz) none :: G) := m_good (ws := []) hG k2 (fun w hw => nomatch hw)
        have hrm : (m_rm d mc ms).frames + 1 ≤ R.frames ∧ 8 + (m_nl P zz + 11) + (m_rm d mc ms).locals ≤ R.locals := ⟨by have := hR.1; show d + 8 + 1 ≤ _; omega, by have := hR.2; show 8 + (m_nl P zz + 11) + (40 * d + 200) ≤ _; omega⟩
        have hstk : st.map (m_cv ad) = (as1.map (m_cv ad)).reverse ++ Value.ref (ad a) :: st'.map (m_cv ad) := by
          rw [e1]
          simp [m_cv, List.map_reverse]
        have hpre : PreS s H (m_Pc P cl D cA tys XT ad h (.ref a :: as1) H.size) (.ref (ad a) :: as1.map (m_cv ad)) := ⟨m_Pc_blind hXT, fun U hU hW => m_pre rel hA hK hXT X.2.2.1 U hU hW⟩
        have conv : va_Run p l e R s m args below meth c H locs cells slots mc ms (F0 m pc la (st.map (m_cv ad))) (st'.map (m_cv ad)) (Qc (Value.ref (ad a) :: as1.map (m_cv ad)).toArray) free → vx_Run p l e R s m args below meth c H locs cells slots mc ms (F0 m pc la (st.map (m_cv ad))) (st'.map (m_cv ad)) (Qc ((Value.ref a :: as1).map (m_cv ad)).toArray) XC free := fun hv T hT Z => Or.inl (hv T hT Z)
        rcases l1 with l1 | ⟨host, l1⟩
        · exact conv (va_runI (index := ix) ⟨hx, hb, hml, hown, hts⟩ hC (cwI as1.length hts hgood rfl rfl rfl (hts _ k3) (hts _ l1) (hts _ l2) (k8 hini) ⟨k4.1, k4.2, hpar⟩ hrm) hpre rfl (by simp) hl.1 hstk (lv_room (by rw [m_cat_map]; exact w3)) hd hroom)
        · have hnl := (X.2.1 _ _ _ X.2.2.1).2.2.2.2.1 _ l1
          exact conv (va_runIN (index := ix) ⟨hx, hb, hml, hown, hts⟩ hC ⟨va_cnB as1.length hts hgood rfl rfl rfl hnl (hts _ k3) ⟨k4.1, k4.2, hpar⟩ hrm, k8 hini, hts _ l2⟩ hpre rfl (by simp) hl.1 hstk (lv_room (by rw [m_cat_map]; exact w3)) hd hroom)
      · cases hq
    · cases hq
  case newarray t =>
    exfalso
    cases t <;> simp only [m_st, m_nx] at hq <;> first | (cases hq; done) | ((repeat' split at hq) <;> (cases hq; done))
  all_goals
    exfalso
    simp only [m_st, m_nx] at hq
    first
      | (cases hq; done)
      | ((repeat' split at hq) <;> (cases hq; done))
end MAIN3
