/-! THE LINK: what holds at the start is what the small machine asks -/
theorem l_arr {s : State} {args : Array Value} {ty : FieldType} (h : (Cond.arrayClass ty).before args s = true) : ∃ cA : ClassId, ArrOfT s cA ty ∧ s.vm.findClass ("[" ++ ty.toString) = some cA := by
  obtain ⟨c, k, comp, h1, h2, h3⟩ := Cond.arrayClass_spec h
  exact ⟨c, fun n z => ⟨fun k h => (by cases h), k, h2, comp, h3⟩, h1⟩
theorem l_over {s : State} {args : Array Value} {C : String} (h : (Cond.arrayOver (.object C)).before args s = true) : ∃ cA : ClassId, ArrOfT s cA (.object C) ∧ va_RA s cA (.object C) := by
  obtain ⟨comp, c, k, h1, h2, h3, h4, h5⟩ := Cond.arrayOver_spec h
  exact ⟨c, fun n z => ⟨fun k h => (by cases h), k, h3, comp, h4⟩, k, comp, h3, h4, h1, h5⟩
/-- classes and rows as the tables have them -/
theorem l_K {s : State} {args : Array Value} (hts : ∀ w ∈ lw_tbl, w.before args s = true) (hG : ∀ w ∈ p_G, w.before args s = true) : ∃ (D : va_G) (cA : Nat → ClassId) (tys : List (ClassId × FieldType)), va_K D vwCl tys s ∧ (m_aok tys cA 100 .int ∧ m_aok tys cA 101 .byte ∧ m_aok tys cA 102 .long ∧ m_aok tys cA 103 .double) ∧ ∀ ci C, (ci, C) ∈ p_ra → m_aok tys cA (200 + ci) (.object C) := by
  obtain ⟨i0, i1, i2, i3, i4, i5, i6, i7, i8, i9, i10, i11, i12⟩ := k_inst
  obtain ⟨c0, s0, h0⟩ := u_known (C := RX0) (T := TX0) (N := 4) (n := 4) hts uw_0 (hts _ i0)
  obtain ⟨c1, s1, h1⟩ := u_known (C := RX1) (T := TX1) (N := 8) (n := 8) hts uw_1 (hts _ i1)
  obtain ⟨c2, s2, h2⟩ := u_known (C := RX2) (T := TX2) (N := 16) (n := 16) hts uw_2 (hts _ i2)
  obtain ⟨c3, s3, h3⟩ := u_known (C := RX3) (T := TX3) (N := 3) (n := 3) hts uw_3 (hts _ i3)
  obtain ⟨c4, s4, h4⟩ := u_known (C := RX4) (T := TX4) (N := 7) (n := 7) hts uw_4 (hts _ i4)
  obtain ⟨c5, s5, h5⟩ := u_known (C := RX5) (T := TX5) (N := 11) (n := 11) hts uw_5 (hts _ i5)
  obtain ⟨c6, s6, h6⟩ := u_known (C := RX6) (T := TX6) (N := 7) (n := 7) hts uw_6 (hts _ i6)
  obtain ⟨c7, s7, h7⟩ := u_known (C := RX7) (T := TX7) (N := 16) (n := 16) hts uw_7 (hts _ i7)
  obtain ⟨c8, s8, h8⟩ := u_known (C := RX8) (T := TX8) (N := 11) (n := 11) hts uw_8 (hts _ i8)
  obtain ⟨c9, s9, h9⟩ := u_known (C := RX9) (T := TX9) (N := 0) (n := 7) hts (fun w h => absurd h List.not_mem_nil) (hts _ i9)
  obtain ⟨c10, s10, h10⟩ := u_known (C := RX10) (T := TX10) (N := 7) (n := 7) hts uw_10 (hts _ i10)
  obtain ⟨c11, s11, h11⟩ := u_known (C := RX11) (T := TX11) (N := 8) (n := 8) hts uw_11 (hts _ i11)
  obtain ⟨c12, s12, h12⟩ := u_known (C := RX12) (T := TX12) (N := 37) (n := 37) hts uw_12 (hts _ i12)
  obtain ⟨aI, bI, dI⟩ := l_arr (hG _ p_arr.1)
  obtain ⟨aB, bB, dB⟩ := l_arr (hG _ p_arr.2.1)
  obtain ⟨aL, bL, dL⟩ := l_arr (hG _ p_arr.2.2.1)
  obtain ⟨aD, bD, dD⟩ := l_arr (hG _ p_arr.2.2.2)
  obtain ⟨r1, x1, y1⟩ := l_over (hts _ (k_over "DriverHost$Command" (by decide)))
  obtain ⟨r2, x2, y2⟩ := l_over (hts _ (k_over "DriverHost$Driver" (by decide)))
  obtain ⟨r7, x7, y7⟩ := l_over (hts _ (k_over "DriverHost$Request" (by decide)))
  obtain ⟨r9, x9, y9⟩ := l_over (hts _ (k_over "DriverHost$Word" (by decide)))
  obtain ⟨r10, x10, y10⟩ := l_over (hts _ (k_over "DriverHost$World" (by decide)))
  refine ⟨(fun k => if k = 0 then c0 else if k = 1 then c1 else if k = 2 then c2 else if k = 3 then c3 else if k = 4 then c4 else if k = 5 then c5 else if k = 6 then c6 else if k = 7 then c7 else if k = 8 then c8 else if k = 9 then c9 else if k = 10 then c10 else if k = 11 then c11 else c12, fun k => if k = 0 then s0 else if k = 1 then s1 else if k = 2 then s2 else if k = 3 then s3 else if k = 4 then s4 else if k = 5 then s5 else if k = 6 then s6 else if k = 7 then s7 else if k = 8 then s8 else if k = 9 then s9 else if k = 10 then s10 else if k = 11 then s11 else s12), fun z => if z = 100 then aI else if z = 101 then aB else if z = 102 then aL else if z = 103 then aD else if z = 201 then r1 else if z = 202 then r2 else if z = 207 then r7 else if z = 209 then r9 else r10, [(aI, .int), (aB, .byte), (aL, .long), (aD, .double), (r1, .object "DriverHost$Command"), (r2, .object "DriverHost$Driver"), (r7, .object "DriverHost$Request"), (r9, .object "DriverHost$Word"), (r10, .object "DriverHost$World")], ⟨fun k q hq => ?_, fun k q hq => ?_⟩, ⟨⟨0, rfl⟩, ⟨1, rfl⟩, ⟨2, rfl⟩, ⟨3, rfl⟩⟩, fun ci C hC => ?_⟩
  · match k, hq with
    | 0, hq => cases hq; exact h0
    | 1, hq => cases hq; exact h1
    | 2, hq => cases hq; exact h2
    | 3, hq => cases hq; exact h3
    | 4, hq => cases hq; exact h4
    | 5, hq => cases hq; exact h5
    | 6, hq => cases hq; exact h6
    | 7, hq => cases hq; exact h7
    | 8, hq => cases hq; exact h8
    | 9, hq => cases hq; exact h9
    | 10, hq => cases hq; exact h10
    | 11, hq => cases hq; exact h11
    | 12, hq => cases hq; exact h12
    | k + 13, hq => simp [vwCl] at hq
  · match k, hq with
    | 0, hq => cases hq; exact ⟨bI, dI⟩
    | 1, hq => cases hq; exact ⟨bB, dB⟩
    | 2, hq => cases hq; exact ⟨bL, dL⟩
    | 3, hq => cases hq; exact ⟨bD, dD⟩
    | 4, hq => cases hq; exact ⟨x1, y1⟩
    | 5, hq => cases hq; exact ⟨x2, y2⟩
    | 6, hq => cases hq; exact ⟨x7, y7⟩
    | 7, hq => cases hq; exact ⟨x9, y9⟩
    | 8, hq => cases hq; exact ⟨x10, y10⟩
    | k + 9, hq => simp at hq
  · simp only [p_ra, List.mem_cons, Prod.mk.injEq, List.not_mem_nil, or_false] at hC
    rcases hC with ⟨rfl, rfl⟩ | ⟨rfl, rfl⟩ | ⟨rfl, rfl⟩ | ⟨rfl, rfl⟩ | ⟨rfl, rfl⟩
    · exact ⟨4, rfl⟩
    · exact ⟨5, rfl⟩
    · exact ⟨6, rfl⟩
    · exact ⟨7, rfl⟩
    · exact ⟨8, rfl⟩
/-- what is said of the things outside, at the start -/
theorem l_XT {s : State} {b L : Nat} {xs : Nat → Int32} {args : Array Value} {xc : Nat → Nat} (hb : xc m_X = b) (hts : ∀ w ∈ lw_tbl, w.before args s = true) (hn : ∀ w ∈ flatC (Jvm.Cond.and given_1 narrow_1), w.before args s = true) (hc : ∀ q ∈ p_AOL.2, (Term.static "DriverHost$Word" q.2 "LDriverHost$Word;").eval args s none [] s = some (.ref (xc q.1))) (hEn : va_En m_WE m_WD m_WN m_WF (fun i => xc (m_X + 1 + i)) (fun q => s.heap.size ≤ q) s s.heap) (hWX : m_WX xc (fun q => s.heap.size ≤ q) s s.heap) (hX : va_X b L xs s s.heap) (hbl : b < s.heap.size) : m_XT (p_P L xs) xc p_AOL p_TL p_NL (fun q => s.heap.size ≤ q) s s.heap := by
  have hA : ∀ a : Nat, a < s.heap.size → ¬ (fun q : Nat => s.heap.size ≤ q) a := fun a h => Nat.not_le.mpr h
  refine ⟨fun C hC => va_AO.of (hts _ (k_over C hC)), ⟨?_, ?_, ?_⟩, ⟨vx_Zqof (hts _ k_thr.1) (hts _ k_thr.2.2.1) (hn _ n_thr.1) hA, vx_Zqof (hts _ k_thr.2.1) (hts _ k_thr.2.2.1) (hn _ n_thr.2.1) hA⟩, fun q hq => ?_, fun q hq => va_Nw.of rfl (hts _ (k_nest q hq)), ⟨fun x hx w hw => va_Nw.of (k_ngt x w hw) (hts _ (k_ng x hx w hw)), va_Nc.of (hn _ n_thr.2.2)⟩, fun q hq => va_Zof (hts _ (k_const q hq)) (hts _ k_thr.2.2.2) (hc q hq) hA, hEn, hWX⟩
  · rw [hb]; exact hX
  · rw [hb]; exact hbl
  · rw [hb]; exact hA b hbl
  · obtain ⟨a, c, cell, k, q1, -⟩ := Cond.exactly_spec (hn _ (n_str q hq))
    exact ⟨a, vk_R.of (hts _ (k_str q hq)) q1⟩
def R_law : String := "DriverHostLaw"
def lw_P (b : Addr) (xs : List Int32) (args : Array Value) (s : State) : Prop := args = #[.ref b] ∧ s.IntsAt b xs ∧ xs.length ≤ 3072 ∧ (Jvm.Cond.and given_1 narrow_1).before args s = true
/-- what a walk over the start with the record d0 says of its end, said of the start itself -/
theorem lw_closed {s t : State} {o : Outcome} {d0 : Drawn} {L : List Loc} {k n : Nat} (hd0 : s.drawn.sameBut d0 lw_cs) (hv : ∃ v, o = .returned v) (hW : (s.setDrawn d0).WarmedH t.vm) (hs : (s.setDrawn d0).sameButNew ({ t with vm := s.vm } : State) L k n) : State.butDraws s t lw_cs (fun t1 => Framed s o t1 L k n) := by
  have h2 : t.drawn = d0 := congrArg State.drawn hs.1
  refine ⟨⟨hv, hW, State.sameButNew.setDrawn hs s.drawn⟩, ?_, by decide⟩
  rw [h2]
  exact hd0
def lw_Q (_ : Array Value) (s : State) (o : Outcome) (t : State) : Prop := o = .returned (some (.int 1)) ∧ State.butDraws s t lw_cs (fun t1 => Framed s o t1 [] 601024 7293034)
def lw_Z (below : List Frame) (a : Array Value) (s : State) : State → Prop := fun t => ∃ o, t.status = .running ∧ Ended t below o ∧ lw_Q a s o t
set_option maxHeartbeats 4000000 in
set_option maxRecDepth 10000 in
/-- from the entry, for every script of at most 3072 ints, the law comes to its end with true -/
theorem whole_start {p : Program} {e : Env} {s : State} {m : MethodId} {below : List Frame} {meth : Method} {c : Code} (l : Launch) (hflags : l.flags = flags0) {b L : Nat} {xs : Nat → Int32} (hL : L ≤ 3072)
    (hx : p.tables.exec = Jvm.exec) (hb : c.code = code) (hr : meth.sig.returnType = ret) (hml : c.maxLocals = 9) (hown : s.vm.findClass R_law = some m.cls) (hts : ∀ w ∈ lw_tbl, w.before #[Value.ref b] s = true) (hcw : (Cond.code x code maxLocals ret).before #[Value.ref b] s = true) (htab : c.exceptionTable.toList = []) (hX : va_X b L xs s s.heap) (hbl : b < s.heap.size) (hlocks : meth.locks = false) (hgv : (Jvm.Cond.and given_1 narrow_1).before #[Value.ref b] s = true) :
    W p l e room_1 s m #[Value.ref b] below meth c s.heap [] 0 0 (lw_Z below #[Value.ref b] s) (entryFrame m ([Value.ref b] : List Value).toArray 9) := by
  have hn := flat_of_before _ hgv
  have hG : ∀ w ∈ p_G, w.before #[Value.ref b] s = true := by
    intro w hw
    rcases List.mem_cons.mp (List.mem_filter.mp hw).1 with h | h
    · rw [h]; exact hcw
    · exact hts w h
  obtain ⟨xc, hxb, hxc, hEn⟩ := l_xc2 (b := b) hts hn
  obtain ⟨D, cA, tys, hK, hAk, hra⟩ := l_K hts hG
  have hXT := l_XT (L := L) (xs := xs) hxb hts hn hxc hEn (l_WX hts hn hxc) hX hbl
  have hst : l.stackTraces = false := by
    unfold Launch.stackTraces
    rw [hflags]
    decide +kernel
  have S : m_stat l (p_P L xs) vwCl p_G p_AOL p_TL p_NL tys cA p_Y p_B p_TT p_INI p_TG p_NM p_HH (m_XT (p_P L xs) xc p_AOL p_TL p_NL) xc := ⟨hst, by decide, p_good, hAk, m_XT_ok _ _ _ _ _, fun _ _ _ h => h, mokA_310 hra hAk⟩
  have HF : m_fok l (p_P L xs) vwCl D cA tys p_G (m_XT (p_P L xs) xc p_AOL p_TL p_NL) xc := w_fok l hAk.2.1
  obtain ⟨n, o, h', he, ho, hc', hs'⟩ := law_all (xs := xs) hL
  have hE : m_env p s m #[Value.ref b] meth c room_1 (p_P L xs) vwCl D cA (fun q => s.heap.size ≤ q) tys p_G (p_Y 309).cls (p_INI 309) (m_nl (p_P L xs) 309) (p_B 309) :=
    ⟨hx, hb, hml, hown, hG, hK, fun _ h => h, hAk, fun h => (by cases (show false = true from h)), Nat.le_of_ble_eq_true rfl, Nat.le_of_ble_eq_true rfl⟩
  have hat := (mokA_310 (L := L) (xs := xs) hra hAk 309 (by decide)).2.2.2.2.2.2.1
  rw [tn_309_0] at hat
  have hgo := m_main (D := D) S HF n 60 309 _ _ _ _ _ _ (by decide) he p e room_1 s m #[Value.ref b] below meth c (fun q => s.heap.size ≤ q) (0, xc) 0 0 0 hE ⟨m_XT_ok _ _ _ _ _, fun _ _ _ h => h, hXT, fun _ _ => rfl⟩ ⟨Nat.le_of_ble_eq_true rfl, Nat.le_of_ble_eq_true rfl⟩ hlocks hr htab (Nat.zero_le _) (Nat.zero_le _) (Nat.le_trans (Nat.sub_le _ _) hc') (Nat.le_trans (Nat.sub_le _ _) hs') hat
  have hin : ∀ v ∈ [Value.ref m_X], m_in (m_n q_h0) v := List.forall_mem_cons.mpr ⟨Or.inr (Nat.le_refl _), fun v hv => absurd hv List.not_mem_nil⟩
  have hent := m_entry (ad := xc) (n := m_n q_h0) (nl := 9) (as := [.ref m_X]) (by decide) hin
  have hW := hgo s.heap [] xc _ ⟨fun k q h => absurd h (by show ([] : va_W)[k]? ≠ some q; simp), ⟨fun i j p q h => absurd h (by show ([] : va_W)[i]? ≠ some p; simp), fun k q h => absurd h (by show ([] : va_W)[k]? ≠ some q; simp)⟩, va_S.rf, ⟨Nat.zero_le _, fun a k j ha => absurd ha (Nat.not_lt_zero _)⟩, Nat.le_refl _, fun _ _ => rfl⟩ hent (fun v hv => absurd hv List.not_mem_nil)
  rw [lg_entry_eq]
  intro T hT X
  have hcv : ([Value.ref m_X] : List Value).map (m_cv xc) = [Value.ref b] := by
    show [Value.ref (xc m_X)] = _
    rw [hxb]
  rw [hcv] at hW
  obtain ⟨t, a1, oc, b1, b2, b3⟩ := hW T hT X
  refine ⟨t, a1, oc, b1, b2, ?_⟩
  rcases b3 with ⟨⟨v, ad', e1, e2, -, -⟩, Lc, ⟨f1, f2, f3⟩, f4⟩ | ⟨q, e1, E, ce, Lc, ⟨x9, ad', e2, -⟩, -⟩
  · rw [ho] at e1
    cases e1
    have e2 : oc = .returned (some (.int 1)) := e2
    subst e2
    have f5 : s.sameButNew ({ t with vm := s.vm } : State) [] 601024 7293034 := (State.sameButNew.drop_fresh (L := []) (J := Lc) f3 f4).mono (Nat.le_trans (Nat.sub_le _ _) hc') (Nat.le_trans (Nat.sub_le _ _) hs')
    exact ⟨rfl, lw_closed (d0 := s.drawn) (fun c => ⟨Nat.le_refl _, fun _ => rfl⟩) ⟨_, rfl⟩ f2 f5⟩
  · rw [ho] at e2
    cases e2
set_option maxHeartbeats 4000000 in
theorem lw_walk (l : Launch) (hflags : l.flags = flags0) (b : Addr) (xs : List Int32) : MetFree l x (headSpec (Jvm.Cond.code x code maxLocals ret :: tables_1) room_1) (lw_P b xs) (fun _ _ _ _ _ => True) lw_Q := by
  refine MetFree.of_bodyS (code := code) (maxLocals := maxLocals) (ret := ret) (by decide) ?_ ?_
  · intro args s m h hn
    obtain ⟨meth, c, h1, h2, h3, h4, h5, h6, -, -⟩ := Cond.code_spec hn (atoms_spec (ws := Jvm.Cond.code x code maxLocals ret :: tables_1) h _ List.mem_cons_self)
    exact ⟨meth, c, h1, h2, h3, h4, h5, h6⟩
  · intro p e s m args below meth c s₁ B hml0 hP _
    obtain ⟨rfl, hx, hbd, hgv⟩ := hP
    obtain ⟨scr, harrAt, hlist, hof, hsmall⟩ := hx
    obtain ⟨hcb, hkn, -, -⟩ := State.arrayAt?_spec harrAt
    have hown : s.vm.findClass R_law = some m.cls := findClass_of_methodNamed B.named
    have hts0 : ∀ c ∈ (Jvm.Cond.code x code maxLocals ret :: tables_1), c.before #[Value.ref b] s = true := atoms_spec (ws := Jvm.Cond.code x code maxLocals ret :: tables_1) B.pre
    have hts : ∀ w ∈ lw_tbl, w.before #[Value.ref b] s = true := k2_hts_sels lw_privs (fun w hw => hts0 w (List.mem_cons_of_mem _ hw)) lw_privs_ok
    have hml : c.maxLocals = 9 := B.maxLocals_eq (hts0 _ List.mem_cons_self)
    have htab : c.exceptionTable.toList = [] := by
      obtain ⟨meth9, c9, h1, h2, -, -, -, -, h7, -⟩ := Cond.code_spec B.named (hts0 _ List.mem_cons_self)
      cases Option.some.inj (h1.symm.trans B.method)
      cases Option.some.inj (h2.symm.trans (Stand.of_body B).code)
      rw [Array.isEmpty_iff.mp h7]
    have X₀ : Stand p l e room_1 s m #[Value.ref b] below meth c s₁ [] 0 0 := Stand.of_body B
    have hh0 : s₁.heap = s.heap := by rw [B.state]; rfl
    have hsz : scr.slots.size = xs.length := by rw [← Array.length_toList, hlist, List.length_map]
    have hval : ∀ j : Nat, j < xs.length → scr.slots[j]? = some (.int (xs.getD j 0)) := fun j hj => by
      rw [← Array.getElem?_toList, hlist]
      simp [hj]
    have hbl : b < s.heap.size := (Array.getElem?_eq_some_iff.mp hcb).1
    have hX : va_X b xs.length (fun j => xs.getD j 0) s s.heap := ⟨scr, hcb, hof, hkn, hsz, hval⟩
    have K : W p l e room_1 s m #[Value.ref b] below meth c s₁.heap [] 0 0 (lw_Z below #[Value.ref b] s) (entryFrame m ([Value.ref b] : List Value).toArray 9) := by
      rw [hh0]
      exact whole_start l hflags hbd B.exec B.bytes B.returns hml hown hts (hts0 _ List.mem_cons_self) htab hX hbl B.notSynchronized hgv
    obtain ⟨t, a1, o, b1, b2, b3⟩ := K s₁ rfl X₀
    exact ⟨t, o, a1, b1, b2, b3⟩
theorem lw_pre_spec {args : Array Value} {s : State} (h : (Jvm.Cond.and given_1 narrow_1).before args s = true) (hr : rest_1_c.before args s = true) : ∃ (b : Addr) (xs : List Int32), lw_P b xs args s := by
  have hs := flat_of_before _ h
  have hq := flat_of_before _ hr
  have hc : (Cond.count 1).before args s = true := hs _ (by decide +kernel)
  have harr : (Cond.arrayOf (.arg 0) .int).before args s = true := hs _ (by decide +kernel)
  have hle : (Cond.le (.length (.arg 0)) (.int 3072)).before args s = true := hs _ (by decide +kernel)
  have hlen : (Cond.isInt (.length (.arg 0))).before args s = true := hq _ (by decide +kernel)
  have hall : (Cond.all (.arg 0) (.isInt (.elem (.arg 0) (.index 0)))).before args s = true := hq _ (by decide +kernel)
  obtain ⟨b, xs, hb, hx⟩ := State.ints_of_pre rfl harr hlen hall
  have hsm : xs.length < 2 ^ 31 := hx.choose_spec.2.2.2
  have hev : (Term.length (.arg 0)).eval args s none [] s = some (.int xs.length.toInt32) := hx.length_eval hb
  have hv := Cond.le_ints hev (show (Term.int 3072).eval args s none [] s = some (.int 3072) from rfl)
  have hd : xs.length.toInt32 ≤ 3072 := by
    simpa [Cond.before, Cond.holds, hv] using hle
  have hN : xs.length ≤ 3072 := (Int32.ofNat_le_ofNat hsm (by decide)).mp (show Int32.ofNat xs.length ≤ Int32.ofNat 3072 from hd)
  exact ⟨b, xs, Cond.one_arg hc (show args[0]? = some (.ref b) from hb), hx, hN, h⟩
theorem lw_comes (l : Launch) (hflags : l.flags = flags0) : Comes l x (Jvm.Cond.code x code maxLocals ret :: tables_1) room_1 (fun tb e args s => Calls_1 tb e args s ∧ rest_1 tb e args s ∧ Pre_1 tb e args s)
    (fun _ _ args s o t => lw_Q args s o t) := by
  intro p e ha hc hk s m args below hf hfit hheap happ hpre
  obtain ⟨b, xs, hP⟩ := lw_pre_spec hpre.2.2 hpre.2.1
  obtain ⟨k, o, h1, h2, h3, hQ⟩ := lw_walk l hflags b xs p e ha hc hk s m args below hf ((Spec.applies_iff_loose hf).mp happ).1 hP trivial
  exact ⟨k, o, h1, h2, h3, hQ⟩
theorem lw_frame {s t : State} {o : Outcome} {args : Array Value} (h : State.butDraws s t lw_cs (fun t1 => Framed s o t1 [] 601024 7293034)) :
    State.butDraws s t [Jvm.Choice.named "NaN.bits"] (fun t1 => Framed s o t1 (fieldLocs frame_1_writes args s ++ arrayLocs frame_1_arrays args s ++ staticLocs frame_1_statics s) 601024 7293034) := h
theorem lw_limb (L : Cond) (hL : ∀ (args : Array Value) (s t : State), L.after args s (.returned (some (.int 1))) t = true) :
    ArmFor flags0 classFile x code maxLocals ret World_1 tables_1 room_1 Calls_1 rest_1 Pre_1
      (fun tb e a s o t => postC L tb e a s o t ∧ State.butDraws s t [Jvm.Choice.named "NaN.bits"] (fun t1 => Framed s o t1 (fieldLocs frame_1_writes a s ++ arrayLocs frame_1_arrays a s ++ staticLocs frame_1_statics s) 601024 7293034)) := by
  intro l hflags _ _ p e ha hc hk s m args below hf hfit hheap happ hpre
  obtain ⟨k, o, h1, h2, h3, rfl, hF⟩ := lw_comes l hflags p e ha hc hk s m args below hf hfit hheap happ hpre
  exact ⟨k, _, h1, h2, h3, hL args s _, lw_frame hF⟩
theorem i_vc : Claimed_1_1 ∧ Claimed_1_2 := ⟨lw_limb limb_1_1 (fun args s t => by simp [limb_1_1, Cond.after, Cond.holds, Cond.value]), lw_limb limb_1_2 (fun args s t => Cond.after_iff.mpr (by
  first | (rw [show limb_1_2 = Cond.eq .result (.int 1) from rfl, Cond.eq_ints (x := 1) (y := 1) rfl rfl]; simp; done) | (simp [limb_1_2, Cond.value, Term.eval]; done)))⟩
