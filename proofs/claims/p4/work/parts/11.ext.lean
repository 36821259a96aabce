/-! things outside: the script, rows of references, throws -/
def m_nms : List String := ["java/lang/RuntimeException", "java/lang/Exception"]
/-- the entry by which an exception's own constructor calls its super, and that constructor's bytes -/
def m_ix (x : Nat) : Nat := if x = 0 then 13 else 7
def m_rx (x : Nat) : ByteArray := if x = 0 then ⟨#[0x2a, 0x2b, 0xb7, 0x00, 0x0d, 0xb1]⟩ else Bundle.six
def m_atS (own : String) (ic x : Nat) : List Cond := t_at own ic (m_en x) (m_ix x) (m_rx x) "java/lang/RuntimeException" ["java/lang/Exception"]
theorem m_rx0 (x : Nat) : decode (m_rx x) 0 = .ok (.aload_n 0, 1) := by unfold m_rx; split <;> decide +kernel
theorem m_rx1 (x : Nat) : decode (m_rx x) 1 = .ok (.aload_n 1, 1) := by unfold m_rx; split <;> decide +kernel
theorem m_rx2 (x : Nat) : decode (m_rx x) 2 = .ok (.invokespecial (m_ix x), 3) := by unfold m_rx m_ix; split <;> decide +kernel
theorem m_rx5 (x : Nat) : decode (m_rx x) 5 = .ok (.return_, 1) := by unfold m_rx; split <;> decide +kernel
/-- the words of a throw that aren't good ones -/
def m_ng (x : Nat) : List Cond := [Cond.castable (m_en x) (m_en x), .declares (Bundle.initS "java/lang/RuntimeException"), .declares (Bundle.initS "java/lang/Exception"), .declares (Bundle.initS Bundle.tN)]
theorem m_ng_all {Q : Cond → Prop} {x : Nat} (h0 : Q (Cond.castable (m_en x) (m_en x))) (h1 : ∀ y, Q (.declares y)) : ∀ w ∈ m_ng x, Q w := List.forall_mem_cons.mpr ⟨h0, List.forall_mem_cons.mpr ⟨h1 _, List.forall_mem_cons.mpr ⟨h1 _, List.forall_mem_cons.mpr ⟨h1 _, fun _ h => absurd h List.not_mem_nil⟩⟩⟩⟩
/-- what is said of the things outside: rows of references, the script, what a throw needs, constants -/
def m_XT (P : m_P) (xc : Nat → Nat) (AOL : List String × List (Nat × String)) (TL : List (String × Nat × Nat × Nat × String)) (NL : List (String × Nat × MethodName × String)) (A : Nat → Prop) (U : State) (H : Heap) : Prop :=
  (∀ C ∈ AOL.1, va_AO C U) ∧ (va_X (xc m_X) (m_xl P) (m_xs P) U H ∧ xc m_X < H.size ∧ ¬ A (xc m_X)) ∧ (vx_Zq Bundle.tN "UNASSIGNED_STACK" Bundle.steD A U H ∧ vx_Zq Bundle.tN "SUPPRESSED_SENTINEL" Bundle.listD A U H) ∧
    (∀ q ∈ TL, ∃ sa, vk_R q.1 q.2.1 q.2.2.2.2 sa U) ∧ (∀ q ∈ NL, va_Nw (.methodLinkNest q.1 q.2.1 q.2.2.1 q.2.2.2) U) ∧ ((∀ x, x ≤ 1 → ∀ w ∈ m_ng x, va_Nw w U) ∧ va_Nc (m_en 1) (m_en 0) U) ∧ (∀ q ∈ AOL.2, va_Z "DriverHost$Word" q.2 "LDriverHost$Word;" (.ref (xc q.1)) A U H) ∧ va_En m_WE m_WD m_WN m_WF (fun i => xc (m_X + 1 + i)) A U H ∧ m_WX xc A U H
def m_XU (XT : (Nat → Prop) → State → Heap → Prop) (P : m_P) (xc : Nat → Nat) (AOL : List String × List (Nat × String)) (TL : List (String × Nat × Nat × Nat × String)) (NL : List (String × Nat × MethodName × String)) : Prop :=
  ∀ (A : Nat → Prop) (U : State) (H : Heap), XT A U H → m_XT P xc AOL TL NL A U H
theorem m_XT_ok (P : m_P) (xc : Nat → Nat) (AOL : List String × List (Nat × String)) (TL : List (String × Nat × Nat × Nat × String)) (NL : List (String × Nat × MethodName × String)) : m_XTok (m_XT P xc AOL TL NL) := by
  refine ⟨fun A u U H hW h => ?_, fun A U H H1 hz hk h => ?_, fun A B U H hAB h => ?_⟩
  · obtain ⟨h1, ⟨h2, h3, h4⟩, ⟨h5, h6⟩, h7, h8, ⟨h9, h10⟩, h11, h12, h13⟩ := h
    exact ⟨fun C hC => (h1 C hC).moved hW.alike, ⟨h2.moved hW.alike, h3, h4⟩, ⟨h5.moved hW.alike, h6.moved hW.alike⟩, fun q hq => by obtain ⟨sa, z⟩ := h7 q hq; exact ⟨sa, vk_R.warm hW z⟩, fun q hq => va_Nw.warmM hW (h8 q hq), ⟨fun x hx w hw => m_ng_all (Q := fun w => va_Nw w u → va_Nw w U) (fun z => va_Nw.warmC hW z) (fun y z => va_Nw.warmD hW z) w hw (h9 x hx w hw), h10.moved hW.alike⟩, fun q hq => (h11 q hq).moved hW.alike, h12.moved hW.alike, h13.moved hW.alike⟩
  · obtain ⟨h1, ⟨h2, h3, h4⟩, ⟨h5, h6⟩, h7, h8, h9, h11, h12, h13⟩ := h
    exact ⟨h1, ⟨h2.kept (hk _ h3 h4), Nat.lt_of_lt_of_le h3 hz, h4⟩, ⟨h5.kept hk, h6.kept hk⟩, h7, h8, h9, fun q hq => (h11 q hq).kept hk, h12.kept hk, h13.kept hk⟩
  · obtain ⟨h1, ⟨h2, h3, h4⟩, ⟨h5, h6⟩, h7, h8, h9, h11, h12, h13⟩ := h
    exact ⟨h1, ⟨h2, h3, fun z => h4 (hAB _ z)⟩, ⟨h5.narrow hAB, h6.narrow hAB⟩, h7, h8, h9, fun q hq => (h11 q hq).narrow hAB, h12.narrow hAB, h13.narrow hAB⟩
def m_ext (s : State) (A : Nat → Prop) (xa : Nat × (Nat → Nat)) (XT : (Nat → Prop) → State → Heap → Prop) (P : m_P) (xc : Nat → Nat) (AOL : List String × List (Nat × String)) (TL : List (String × Nat × Nat × Nat × String)) (NL : List (String × Nat × MethodName × String)) : Prop :=
  m_XTok XT ∧ m_XU XT P xc AOL TL NL ∧ XT A s s.heap ∧ ∀ j, m_X ≤ j → xa.2 j = xc j
/-- Word.find -/
def m_yF : MethodName := ⟨"DriverHost$Word", "find", "([BII)LDriverHost$Word;"⟩
/-- its room -/
def m_rF : Room := { frames := 6, cells := 0, slots := 0, locals := 120 }
/-- what is asked of Word.find: it answers as m_wd says -/
def m_fok (l : Launch) (P : m_P) (cl : List vw_C) (D : va_G) (cA : Nat → ClassId) (tys : List (ClassId × FieldType)) (G : List Cond) (XT : (Nat → Prop) → State → Heap → Prop) (xc : Nat → Nat) : Prop :=
  ∃ (cF : ByteArray) (nF : Nat) (rF : Option FieldType), nF ≤ 21 ∧ (∀ r : vw_C, cl[9]? = some r → r.1 = m_WE) ∧ Cond.code m_yF cF nF rF ∈ G ∧ Cond.initialized m_WE ∈ G ∧ (∀ w ∈ G, goodWord w = true) ∧ ∀ (ad : Nat → Nat) (h : m_H) (sz a : Nat) (f e : Int32), m_wf h → (∀ j, m_X ≤ j → ad j = xc j) → a < m_n h → m_k h a = 101 → ¬ f < 0 → ¬ e < f → (e.toNatClampNeg ≤ m_l h a ∧ m_l h a < 2147483648) →
    vx_Met l m_yF (Cond.code m_yF cF nF rF :: G) m_rF (m_Pc P cl D cA tys XT ad h [.ref a, .int f, .int e] sz) (m_Qc P cl D cA (va_A (m_ws P cA ad h) sz) (m_n h, ad) (.inl (some (m_rv (m_wd P (m_I h a) (m_l h a) f e)))) h) (m_XC P cl D cA (va_A (m_ws P cA ad h) sz) (m_n h, ad) (.inl (some (m_rv (m_wd P (m_I h a) (m_l h a) f e)))) h) 0 0 (va_A (m_ws P cA ad h) sz)
def m_sim2 (P : m_P) (cl : List vw_C) (G : List Cond) (AOL : List String × List (Nat × String)) (TL : List (String × Nat × Nat × Nat × String)) (tys : List (ClassId × FieldType)) (cA : Nat → ClassId) (own : String) (TG : Nat → Prop) (cc : ByteArray) (pc len : Nat) (i : Instr) : Prop := match i with
  | .iaload => len = 1 ∧ decode cc pc = .ok (.iaload, 1)
  | .ldc_w z => len = 1 ∧ (∃ ty, m_aok tys cA z ty) ∧ decode cc pc = .ok (.arraylength, 1)
  | .checkcast ci => len = 1 ∧ (∃ C, m_aok tys cA (200 + ci) (.object C)) ∧ decode cc pc = .ok (.aaload, 1)
  | .instanceof ci => len = 1 ∧ (∃ r : vw_C, cl[ci]? = some r ∧ m_aok tys cA (200 + ci) (.object r.1)) ∧ decode cc pc = .ok (.aastore, 1)
  | .anewarray ci => len = 3 ∧ ∃ (ix : Nat) (C : String), C ∈ AOL.1 ∧ m_aok tys cA (200 + ci) (.object C) ∧ Cond.classLink own ix C ∈ G ∧ decode cc pc = .ok (.anewarray ix, 3)
  | .if_acmp z t => len = 3 ∧ (∃ off : Int, (pc : Int) + off = (t.toNat : Int) ∧ decode cc pc = .ok (.if_acmp z off, 3)) ∧ TG t.toNat
  | .ldc j => len = 3 ∧ ∃ (ix : Nat) (q : String × String × String × List Int32), q ∈ m_WF ∧ (∀ i, i < m_XN → m_xf P (m_X + 1 + i) j = q.2.2.2.getD i 0) ∧ Cond.fieldLink own ix q.1 q.2.1 q.2.2.1 ∈ G ∧ decode cc pc = .ok (.getfield ix, 3)
  | .aastore => len = 1 ∧ (∃ r : vw_C, cl[9]? = some r ∧ m_aok tys cA 209 (.object r.1)) ∧ decode cc pc = .ok (.aastore, 1)
  | .invokestatic z => z = 9004 ∧ len = 3 ∧ ∃ ix : Nat, Cond.methodLink own ix m_yF ∈ G ∧ Cond.static m_yF ∈ G ∧ decode cc pc = .ok (.invokestatic ix, 3)
  | .getstatic k => len = 3 ∧ m_X ≤ k ∧ ∃ (ix : Nat) (nm : String), (k, nm) ∈ AOL.2 ∧ Cond.fieldLink own ix "DriverHost$Word" nm "LDriverHost$Word;" ∈ G ∧ decode cc pc = .ok (.getstatic ix, 3)
  | _ => False
section STEPX
variable {p : Program} {l : Launch} {e : Env} {R : Room} {s : State} {m : MethodId} {args : Array Value} {below : List Frame} {meth : Method} {c : Code} {Q : State → Prop} {P : m_P} {cl : List vw_C} {D : va_G} {cA : Nat → ClassId} {A : Nat → Prop} {xa : Nat × (Nat → Nat)} {nL c0 s0 : Nat} {pc len y : Nat} {is : List Instr} {ls : m_F} {st : List Value} {h : m_H} {cc : ByteArray} {tys : List (ClassId × FieldType)} {G : List Cond} {own : String} {ini : Bool} {TG : Nat → Prop} {AT : Nat → List Instr → Prop} {q : List Instr × m_F × List Value × m_H} {XT : (Nat → Prop) → State → Heap → Prop} {xc : Nat → Nat} {AOL : List String × List (Nat × String)} {TL : List (String × Nat × Nat × Nat × String)} {NL : List (String × Nat × MethodName × String)}
theorem g_sld (hx : p.tables.exec = Jvm.exec) (hb : c.code = cc) (X : m_ext s A xa XT P xc AOL TL NL) {i : Int32} (hi : ¬ (i < 0 ∨ m_xl P ≤ i.toNatClampNeg)) (hd : decode cc pc = .ok (.iaload, 1)) (k : m_go p l e R s m args below meth c Q P cl D cA A xa nL c0 s0 (pc + 1) ls (.int (m_xs P i.toNatClampNeg) :: st) h) : m_go p l e R s m args below meth c Q P cl D cA A xa nL c0 s0 pc ls (.int i :: .ref m_X :: st) h := by
  intro H locs ad la hr hl hs
  obtain ⟨-, X2, X3, X4⟩ := X
  obtain ⟨-, ⟨x1, x2, x3⟩, -⟩ := X2 _ _ _ X3
  have he : ad m_X = xc m_X := (hr.2.2.2.2.2 m_X (Or.inr (Nat.le_refl _))).trans (X4 _ (Nat.le_refl _))
  show W p l e R s m args below meth c H locs (m_c h - c0) (m_s h - s0) Q (F0 m pc la (.int i :: .ref (ad m_X) :: st.map (m_cv ad)))
  rw [he]
  exact va_sld hx hb x1 x2 x3 hr.2.2.1 hi hd (k H locs ad la hr hl (g_cs trivial (g_tl (g_tl hs))))
theorem g_slen (hx : p.tables.exec = Jvm.exec) (hb : c.code = cc) (X : m_ext s A xa XT P xc AOL TL NL) (hd : decode cc pc = .ok (.arraylength, 1)) (k : m_go p l e R s m args below meth c Q P cl D cA A xa nL c0 s0 (pc + 1) ls (.int (Int32.ofNat (m_xl P)) :: st) h) : m_go p l e R s m args below meth c Q P cl D cA A xa nL c0 s0 pc ls (.ref m_X :: st) h := by
  intro H locs ad la hr hl hs
  obtain ⟨-, X2, X3, X4⟩ := X
  obtain ⟨-, ⟨x1, x2, x3⟩, -⟩ := X2 _ _ _ X3
  have he : ad m_X = xc m_X := (hr.2.2.2.2.2 m_X (Or.inr (Nat.le_refl _))).trans (X4 _ (Nat.le_refl _))
  show W p l e R s m args below meth c H locs (m_c h - c0) (m_s h - s0) Q (F0 m pc la (.ref (ad m_X) :: st.map (m_cv ad)))
  rw [he]
  exact va_slen hx hb x1 x2 x3 hr.2.2.1 hd (k H locs ad la hr hl (g_cs trivial (g_tl hs)))
theorem s_iaload  (E : m_env p s m args meth c R P cl D cA A tys G own ini nL cc) (X : m_ext s A xa XT P xc AOL TL NL) (hq : m_st P y (.iaload) is ls st h = some (.inl q)) (hm : m_sim2 P cl G AOL TL tys cA own TG cc pc len (.iaload)) (hn : AT (pc + len) is) (k : ∀ pc', AT pc' q.1 → m_go p l e R s m args below meth c Q P cl D cA A xa nL c0 s0 pc' q.2.1 q.2.2.1 q.2.2.2) : m_go p l e R s m args below meth c Q P cl D cA A xa nL c0 s0 pc ls st h := by
  obtain ⟨hx, hb, hml, hown, hts, hK, hA, ⟨hAI, hAB, hAL, hAD⟩, hini, hfr, hlo⟩ := E
  obtain ⟨rfl, hd⟩ := hm
  simp only [m_st, m_nx] at hq
  split at hq
  · split at hq
    · next ea =>
      split at hq
      · cases hq
      · next z =>
        cases hq
        subst ea
        exact g_sld hx hb X z hd (k _ hn)
    · split at hq
      · next z =>
        cases hq
        exact g_iald hx hb hK hAI z.1 z.2.1 z.2.2 hd (k _ hn)
      · cases hq
  · cases hq
theorem s_alen {z : Nat} (E : m_env p s m args meth c R P cl D cA A tys G own ini nL cc) (X : m_ext s A xa XT P xc AOL TL NL) (hq : m_st P y (.ldc_w z) is ls st h = some (.inl q)) (hm : m_sim2 P cl G AOL TL tys cA own TG cc pc len (.ldc_w z)) (hn : AT (pc + len) is) (k : ∀ pc', AT pc' q.1 → m_go p l e R s m args below meth c Q P cl D cA A xa nL c0 s0 pc' q.2.1 q.2.2.1 q.2.2.2) : m_go p l e R s m args below meth c Q P cl D cA A xa nL c0 s0 pc ls st h := by
  obtain ⟨hx, hb, hml, hown, hts, hK, hA, ⟨hAI, hAB, hAL, hAD⟩, hini, hfr, hlo⟩ := E
  obtain ⟨rfl, ⟨ty, ht⟩, hd⟩ := hm
  simp only [m_st, m_nx] at hq
  split at hq
  · split at hq
    · next ea =>
      cases hq
      subst ea
      exact g_slen hx hb X hd (k _ hn)
    · split at hq
      · next w =>
        cases hq
        exact g_alen hx hb hK ht w.2.2 w.1 w.2.1 hd (k _ hn)
      · cases hq
  · cases hq
theorem s_aaload {ci : Nat} (E : m_env p s m args meth c R P cl D cA A tys G own ini nL cc) (X : m_ext s A xa XT P xc AOL TL NL) (hq : m_st P y (.checkcast ci) is ls st h = some (.inl q)) (hm : m_sim2 P cl G AOL TL tys cA own TG cc pc len (.checkcast ci)) (hn : AT (pc + len) is) (k : ∀ pc', AT pc' q.1 → m_go p l e R s m args below meth c Q P cl D cA A xa nL c0 s0 pc' q.2.1 q.2.2.1 q.2.2.2) : m_go p l e R s m args below meth c Q P cl D cA A xa nL c0 s0 pc ls st h := by
  obtain ⟨hx, hb, hml, hown, hts, hK, hA, ⟨hAI, hAB, hAL, hAD⟩, hini, hfr, hlo⟩ := E
  obtain ⟨rfl, ⟨C, ht⟩, hd⟩ := hm
  simp only [m_st, m_nx] at hq
  split at hq
  · split at hq
    · next w =>
      cases hq
      exact g_aald hx hb hK ht (Nat.le_add_right _ _) w.1 w.2.1 w.2.2 hd (k _ hn)
    · cases hq
  · cases hq
theorem s_aastore {ci : Nat} (E : m_env p s m args meth c R P cl D cA A tys G own ini nL cc) (X : m_ext s A xa XT P xc AOL TL NL) (hq : m_st P y (.instanceof ci) is ls st h = some (.inl q)) (hm : m_sim2 P cl G AOL TL tys cA own TG cc pc len (.instanceof ci)) (hn : AT (pc + len) is) (k : ∀ pc', AT pc' q.1 → m_go p l e R s m args below meth c Q P cl D cA A xa nL c0 s0 pc' q.2.1 q.2.2.1 q.2.2.2) : m_go p l e R s m args below meth c Q P cl D cA A xa nL c0 s0 pc ls st h := by
  obtain ⟨hx, hb, hml, hown, hts, hK, hA, ⟨hAI, hAB, hAL, hAD⟩, hini, hfr, hlo⟩ := E
  obtain ⟨rfl, ⟨r, hc, ht⟩, hd⟩ := hm
  simp only [m_st, m_nx] at hq
  split at hq
  · split at hq
    · next w =>
      cases hq
      exact g_aast hx hb hK hc ht (Nat.le_add_right _ _) w.1 w.2.1 w.2.2.1 w.2.2.2.1 w.2.2.2.2.1 w.2.2.2.2.2 hd (k _ hn)
    · cases hq
  · cases hq
theorem s_anewarray {ci : Nat} (E : m_env p s m args meth c R P cl D cA A tys G own ini nL cc) (X : m_ext s A xa XT P xc AOL TL NL) (h0 : c0 ≤ m_c h) (h1 : s0 ≤ m_s h) (g0 : m_c q.2.2.2 - c0 ≤ R.cells) (g1 : m_s q.2.2.2 - s0 ≤ R.slots) (hq : m_st P y (.anewarray ci) is ls st h = some (.inl q)) (hm : m_sim2 P cl G AOL TL tys cA own TG cc pc len (.anewarray ci)) (hn : AT (pc + len) is) (k : ∀ pc', AT pc' q.1 → m_go p l e R s m args below meth c Q P cl D cA A xa nL c0 s0 pc' q.2.1 q.2.2.1 q.2.2.2) : m_go p l e R s m args below meth c Q P cl D cA A xa nL c0 s0 pc ls st h := by
  obtain ⟨hx, hb, hml, hown, hts, hK, hA, ⟨hAI, hAB, hAL, hAD⟩, hini, hfr, hlo⟩ := E
  obtain ⟨rfl, ix, C, hC, ht, hlink, hd⟩ := hm
  simp only [m_st, m_nx] at hq
  split at hq
  · split at hq
    · cases hq
    · next i st' z =>
      cases hq
      have g0 : m_c h + 1 - c0 ≤ R.cells := g0
      have g1 : m_s h + i.toNatClampNeg - s0 ≤ R.slots := g1
      exact g_new_q hx hb hown hK hA (Nat.le_add_right _ _) ht (hts _ hlink) ((X.2.1 _ _ _ X.2.2.1).1 C hC) (by omega) h0 h1 (fun w => z (Or.inl w)) (by omega) (by omega) (by omega) hd (k _ hn)
  · cases hq
theorem s_getstatic {z : Nat} (E : m_env p s m args meth c R P cl D cA A tys G own ini nL cc) (X : m_ext s A xa XT P xc AOL TL NL) (hq : m_st P y (.getstatic z) is ls st h = some (.inl q)) (hm : m_sim2 P cl G AOL TL tys cA own TG cc pc len (.getstatic z)) (hn : AT (pc + len) is) (k : ∀ pc', AT pc' q.1 → m_go p l e R s m args below meth c Q P cl D cA A xa nL c0 s0 pc' q.2.1 q.2.2.1 q.2.2.2) : m_go p l e R s m args below meth c Q P cl D cA A xa nL c0 s0 pc ls st h := by
  obtain ⟨hx, hb, hml, hown, hts, hK, hA, ⟨hAI, hAB, hAL, hAD⟩, hini, hfr, hlo⟩ := E
  obtain ⟨rfl, hz, ix, nm, hC, hlink, hd⟩ := hm
  have hq2 : m_nx is ls (.ref z :: st) h = some (.inl q) := by
    simp only [m_st] at hq
    rw [if_pos hz] at hq
    exact hq
  cases hq2
  intro H locs ad la hr hl hs
  have hZ := (X.2.1 _ _ _ X.2.2.1).2.2.2.2.2.2.1 _ hC
  have he : ad z = xc z := (hr.2.2.2.2.2 z (Or.inr hz)).trans (X.2.2.2 z hz)
  have kk := k _ hn H locs ad la hr hl (g_cs (Or.inr hz) hs)
  rw [List.map_cons, show m_cv ad (.ref z) = .ref (ad z) from rfl, he] at kk
  exact va_gets hx hb hZ hr.2.2.1 hown (hts _ hlink) (fun _ w => w) hd kk
theorem s_objInit  (E : m_env p s m args meth c R P cl D cA A tys G own ini nL cc) (X : m_ext s A xa XT P xc AOL TL NL) (hq : m_st P y (.invokespecial 9000) is ls st h = some (.inl q)) (hm : m_sim P cl G own ini TG cc pc len (.invokespecial 9000)) (hn : AT (pc + len) is) (k : ∀ pc', AT pc' q.1 → m_go p l e R s m args below meth c Q P cl D cA A xa nL c0 s0 pc' q.2.1 q.2.2.1 q.2.2.2) : m_go p l e R s m args below meth c Q P cl D cA A xa nL c0 s0 pc ls st h := by
  obtain ⟨hx, hb, hml, hown, hts, hK, hA, ⟨hAI, hAB, hAL, hAD⟩, hini, hfr, hlo⟩ := E
  obtain ⟨rfl, -, ix, l1, l2, l3, hd⟩ := hm
  simp only [m_st, m_nx, if_true] at hq
  split at hq
  · split at hq
    · next w =>
      cases hq
      exact g_objInit hx hb hml hown (hts _ l1) (hts _ l2) (hts _ l3) (by omega) (by omega) hd (k _ hn)
    · cases hq
  · cases hq
theorem s_lib {z : Nat} (E : m_env p s m args meth c R P cl D cA A tys G own ini nL cc) (X : m_ext s A xa XT P xc AOL TL NL) (g0 : m_c q.2.2.2 - c0 ≤ R.cells) (g1 : m_s q.2.2.2 - s0 ≤ R.slots) (hq : m_st P y (.invokestatic z) is ls st h = some (.inl q)) (hm : m_sim P cl G own ini TG cc pc len (.invokestatic z)) (hn : AT (pc + len) is) (k : ∀ pc', AT pc' q.1 → m_go p l e R s m args below meth c Q P cl D cA A xa nL c0 s0 pc' q.2.1 q.2.2.1 q.2.2.2) : m_go p l e R s m args below meth c Q P cl D cA A xa nL c0 s0 pc ls st h := by
  obtain ⟨hx, hb, hml, hown, hts, hK, hA, ⟨hAI, hAB, hAL, hAD⟩, hini, hfr, hlo⟩ := E
  obtain ⟨rfl, ix, hlib, hd⟩ := hm
  rcases hlib with ⟨rfl, l1, l2, l3, l4⟩ | ⟨rfl, l1, l2, l3, l4⟩ | ⟨rfl, l1, l2, l3, l4⟩
  · simp only [m_st, m_nx, if_true] at hq
    split at hq
    · split at hq
      · next w =>
        cases hq
        exact g_min hx hb hml hown (hts _ l1) (hts _ l2) (hts _ l3) (hts _ l4) (by omega) (by omega) g0 g1 hd (k _ hn)
      · cases hq
    · cases hq
  · simp only [m_st, m_nx, ↓reduceIte, Nat.reduceEqDiff] at hq
    split at hq
    · split at hq
      · next w =>
        cases hq
        exact g_max hx hb hml hown (hts _ l1) (hts _ l2) (hts _ l3) (hts _ l4) (by omega) (by omega) g0 g1 hd (k _ hn)
      · cases hq
    · cases hq
  · simp only [m_st, m_nx, ↓reduceIte, Nat.reduceEqDiff] at hq
    split at hq
    · split at hq
      · next w =>
        cases hq
        obtain ⟨w1, w2, w3, w4, w5, w6, w7, w8, w9, w10⟩ := w
        have hnw : nativeFrameWords "java/lang/System" "arraycopy" 5 + 11 ≤ 100 := by decide +kernel
        exact g_copy hx hb hml hown (hts _ l1) (hts _ l2) (hts _ l3) (hts _ l4) hK hAI (by omega) (by omega) w1 w2 w3 w4 w5 w6 w7 w8 w9 hd (k _ hn)
      · cases hq
    · cases hq
theorem m_isK_cv {v : Value} (hv : m_isK v = true) (ad : Nat → Nat) : m_cv ad v = va_rf ((m_vo v).map ad) := by
  cases v <;> first | rfl | (cases hv; done)
/-- constants' addresses differ -/
theorem m_isK_inj {a b : Value} (ha : m_isK a = true) (hb : m_isK b = true) {ad xc : Nat → Nat} (he : ∀ j, m_X ≤ j → ad j = xc j) (hE : ∀ i j, i < m_WN.length → j < m_WN.length → xc (m_X + 1 + i) = xc (m_X + 1 + j) → i = j) : ((m_vo a).map ad = (m_vo b).map ad) ↔ m_vo a = m_vo b := by
  have hlen : m_WN.length = m_XN := rfl
  constructor
  · intro h
    cases a <;> first | (cases ha; done) | skip
    all_goals (cases b <;> first | (cases hb; done) | skip)
    · rfl
    · cases h
    · cases h
    · next i j =>
      have hi := m_kon_ok (show m_kon i = true from ha)
      have hj := m_kon_ok (show m_kon j = true from hb)
      have h : ad i = ad j := Option.some.inj h
      rw [he i (by omega), he j (by omega)] at h
      have := hE (i - m_X - 1) (j - m_X - 1) (by omega) (by omega) (by rw [show m_X + 1 + (i - m_X - 1) = i by omega, show m_X + 1 + (j - m_X - 1) = j by omega]; exact h)
      exact congrArg some (by omega)
  · intro h
    rw [h]
theorem s_acmp {z : Jvm.ClassFile.ACond} {t : Int} (E : m_env p s m args meth c R P cl D cA A tys G own ini nL cc) (X : m_ext s A xa XT P xc AOL TL NL) (hq : m_st P y (.if_acmp z t) is ls st h = some (.inl q)) (hm : m_sim2 P cl G AOL TL tys cA own TG cc pc len (.if_acmp z t)) (hT : ∀ t, TG t → AT t (m_tg P y t)) (hn : AT (pc + len) is) (k : ∀ pc', AT pc' q.1 → m_go p l e R s m args below meth c Q P cl D cA A xa nL c0 s0 pc' q.2.1 q.2.2.1 q.2.2.2) : m_go p l e R s m args below meth c Q P cl D cA A xa nL c0 s0 pc ls st h := by
  obtain ⟨hx, hb, hml, hown, hts, hK, hA, ⟨hAI, hAB, hAL, hAD⟩, hini, hfr, hlo⟩ := E
  obtain ⟨rfl, ⟨off, ho, hd⟩, htg⟩ := hm
  have hEn := (X.2.1 _ _ _ X.2.2.1).2.2.2.2.2.2.2.1
  simp only [m_st, m_nx] at hq
  split at hq
  · next b a st' =>
    split at hq
    · next w =>
      obtain ⟨wa, wb⟩ := w
      intro H locs ad la hr hl hs
      have he : ∀ j, m_X ≤ j → ad j = xc j := fun j hj => (hr.2.2.2.2.2 j (Or.inr hj)).trans (X.2.2.2 j hj)
      have inj := m_isK_inj wa wb he hEn.2
      show W p l e R s m args below meth c H locs (m_c h - c0) (m_s h - s0) Q (F0 m pc la (m_cv ad b :: m_cv ad a :: st'.map (m_cv ad)))
      rw [m_isK_cv wa ad, m_isK_cv wb ad]
      cases z
      · refine lv_acmp_eq hx hb hd ho (fun e1 => ?_) (fun e1 => ?_)
        · rw [if_pos (show m_acond .eq (m_vo a) (m_vo b) = true from decide_eq_true (inj.mp e1))] at hq
          cases hq
          exact k _ (hT _ htg) H locs ad la hr hl (g_tl (g_tl hs))
        · rw [if_neg (show ¬ m_acond .eq (m_vo a) (m_vo b) = true from fun w => e1 (inj.mpr (of_decide_eq_true w)))] at hq
          cases hq
          exact k _ hn H locs ad la hr hl (g_tl (g_tl hs))
      · refine lv_acmp_ne hx hb hd ho (fun e1 => ?_) (fun e1 => ?_)
        · rw [if_pos (show m_acond .ne (m_vo a) (m_vo b) = true from decide_eq_true (fun w => e1 (inj.mpr w)))] at hq
          cases hq
          exact k _ (hT _ htg) H locs ad la hr hl (g_tl (g_tl hs))
        · rw [if_neg (show ¬ m_acond .ne (m_vo a) (m_vo b) = true from fun w => (of_decide_eq_true w) (inj.mp e1))] at hq
          cases hq
          exact k _ hn H locs ad la hr hl (g_tl (g_tl hs))
    · cases hq
  · cases hq
theorem s_ldc {j : Nat} (E : m_env p s m args meth c R P cl D cA A tys G own ini nL cc) (X : m_ext s A xa XT P xc AOL TL NL) (hq : m_st P y (.ldc j) is ls st h = some (.inl q)) (hm : m_sim2 P cl G AOL TL tys cA own TG cc pc len (.ldc j)) (hn : AT (pc + len) is) (k : ∀ pc', AT pc' q.1 → m_go p l e R s m args below meth c Q P cl D cA A xa nL c0 s0 pc' q.2.1 q.2.2.1 q.2.2.2) : m_go p l e R s m args below meth c Q P cl D cA A xa nL c0 s0 pc ls st h := by
  obtain ⟨hx, hb, hml, hown, hts, hK, hA, ⟨hAI, hAB, hAL, hAD⟩, hini, hfr, hlo⟩ := E
  obtain ⟨rfl, ix, qf, hqf, hxf, hlink, hd⟩ := hm
  have hEn := (X.2.1 _ _ _ X.2.2.1).2.2.2.2.2.2.2.1
  simp only [m_st, m_nx] at hq
  split at hq
  · next kk st' =>
    split at hq
    · next w =>
      cases hq
      obtain ⟨w1, w2⟩ := m_kon_ok w
      obtain ⟨i, hi, rfl⟩ := m_kon_at w
      intro H locs ad la hr hl hs
      have he : ad (m_X + 1 + i) = xc (m_X + 1 + i) := (hr.2.2.2.2.2 (m_X + 1 + i) (Or.inr (by omega))).trans (X.2.2.2 (m_X + 1 + i) (by omega))
      show W p l e R s m args below meth c H locs (m_c h - c0) (m_s h - s0) Q (F0 m pc la (.ref (ad (m_X + 1 + i)) :: st'.map (m_cv ad)))
      rw [he]
      refine va_getE hx hb hEn (i := i) hi hr.2.2.1 hown hqf (hts _ hlink) (fun _ w => w) hd ?_
      rw [← hxf i hi]
      exact k _ hn H locs ad la hr hl (g_cs trivial (g_tl hs))
    · cases hq
  · cases hq
theorem g_aastK (hx : p.tables.exec = Jvm.exec) (hb : c.code = cc) (X : m_ext s A xa XT P xc AOL TL NL) (hK : va_K D cl tys s) {v : Value} {i : Int32} {a : Nat} (hv : m_isK v = true) (ht : m_aok tys cA 209 (.object m_WE)) (ha : a < m_n h) (hk : m_k h a = 209) (hi : ¬ (i < 0 ∨ m_l h a ≤ i.toNatClampNeg)) (hd : decode cc pc = .ok (.aastore, 1)) (kk : m_go p l e R s m args below meth c Q P cl D cA A xa nL c0 s0 (pc + 1) ls st (m_setR h a i.toNatClampNeg (m_vo v))) : m_go p l e R s m args below meth c Q P cl D cA A xa nL c0 s0 pc ls (v :: .int i :: .ref a :: st) h := by
  intro H locs ad la hr hl hs
  obtain ⟨hP, hD, hS, hw, hX⟩ := id hr
  obtain ⟨t0, ht⟩ := ht
  have he := m_ws_at (P := P) (cA := cA) (ad := ad) ha
  rw [m_cell_R hk (by decide)] at he
  have hset := m_ws_set (P := P) (cA := cA) (ad := ad) (h' := m_setR h a i.toNatClampNeg (m_vo v)) ha rfl (fun b hb => m_cR_ne hb)
  rw [m_cell_R (show m_k (m_setR h a i.toNatClampNeg (m_vo v)) a = 209 from hk) (by decide)] at hset
  have hf : (fun j => (m_R (m_setR h a i.toNatClampNeg (m_vo v)) a j).map ad) = va_up (fun j => (m_R h a j).map ad) i.toNatClampNeg ((m_vo v).map ad) := by
    funext j
    rw [m_R_setR, m_upeq]
    unfold va_up
    split <;> rfl
  rw [hf] at hset
  have hw' : m_wf (m_setR h a i.toNatClampNeg (m_vo v)) := by
    refine m_wf_R hw (fun j hj => ?_)
    cases v with
    | ref k9 =>
      have e9 : k9 = j := Option.some.inj hj
      rw [← e9]
      exact Or.inr (Nat.le_of_lt (m_kon_ok (show m_kon k9 = true from hv)).1)
    | _ => cases hj
  have fin : ∀ (H1 : Heap) (locs1 : List Loc), va_P D cl ((m_ws P cA ad h).set a (ad a, .inl (cA 209, m_l h a, .inr (.inr (.inr (.inr (va_up (fun j => (m_R h a j).map ad) i.toNatClampNeg ((m_vo v).map ad)))))))) H1 → va_D A ((m_ws P cA ad h).set a (ad a, .inl (cA 209, m_l h a, .inr (.inr (.inr (.inr (va_up (fun j => (m_R h a j).map ad) i.toNatClampNeg ((m_vo v).map ad)))))))) → va_S A s.heap H1 locs1 → W p l e R s m args below meth c H1 locs1 (m_c h - c0) (m_s h - s0) Q (F0 m (pc + 1) la (st.map (m_cv ad))) := by
    intro H1 locs1 a1 a2 a3
    have a1 : va_P D cl (m_ws P cA ad (m_setR h a i.toNatClampNeg (m_vo v))) H1 := by rw [← hset]; exact a1
    have a2 : va_D A (m_ws P cA ad (m_setR h a i.toNatClampNeg (m_vo v))) := by rw [← hset]; exact a2
    exact kk H1 locs1 ad la ⟨a1, a2, a3, hw', hX⟩ hl (g_tl (g_tl (g_tl hs)))
  cases v <;> first | (cases hv; done) | skip
  · exact va_astqN hx hb hK hP hD hS a t0 he ht hi hd fin
  · next kc =>
    obtain ⟨w1, w2⟩ := m_kon_ok (show m_kon kc = true from hv)
    obtain ⟨i9, hi9, rfl⟩ := m_kon_at (show m_kon kc = true from hv)
    have hEn := (X.2.1 _ _ _ X.2.2.1).2.2.2.2.2.2.2.1
    have hek : ad (m_X + 1 + i9) = xc (m_X + 1 + i9) := (hr.2.2.2.2.2 (m_X + 1 + i9) (Or.inr (by omega))).trans (X.2.2.2 (m_X + 1 + i9) (by omega))
    have hrv := va_recvE hEn (i := i9) hi9 hS
    obtain ⟨cell, c1, c2, c3⟩ := hrv
    obtain ⟨kC, hkC, -⟩ := Vm.findClass_spec c3
    have hany : va_Any m_WE s H (ad (m_X + 1 + i9)) := ⟨cell, by rw [hek]; exact c1, c2, ⟨kC, hkC⟩, fun comp hcomp => by
      cases Option.some.inj (hcomp.symm.trans c3)
      exact va_asg _ _⟩
    exact va_astqM hx hb hK hP hD hS a t0 he ht hany hi hd fin
theorem s_aastK (HF : m_fok l P cl D cA tys G XT xc) (E : m_env p s m args meth c R P cl D cA A tys G own ini nL cc) (X : m_ext s A xa XT P xc AOL TL NL) (hq : m_st P y .aastore is ls st h = some (.inl q)) (hm : m_sim2 P cl G AOL TL tys cA own TG cc pc len .aastore) (hn : AT (pc + len) is) (k : ∀ pc', AT pc' q.1 → m_go p l e R s m args below meth c Q P cl D cA A xa nL c0 s0 pc' q.2.1 q.2.2.1 q.2.2.2) : m_go p l e R s m args below meth c Q P cl D cA A xa nL c0 s0 pc ls st h := by
  obtain ⟨hx, hb, hml, hown, hts, hK, hA, ⟨hAI, hAB, hAL, hAD⟩, hini, hfr, hlo⟩ := E
  obtain ⟨rfl, ⟨r, hr0, ht⟩, hd⟩ := hm
  obtain ⟨-, -, -, -, hcl9, -⟩ := HF
  rw [hcl9 r hr0] at ht
  simp only [m_st, m_nx] at hq
  split at hq
  · split at hq
    · next w =>
      cases hq
      exact g_aastK hx hb X hK w.1 ht w.2.1 w.2.2.1 w.2.2.2 hd (k _ hn)
    · cases hq
  · cases hq
theorem s_find {z : Nat} (HF : m_fok l P cl D cA tys G XT xc) (E : m_env p s m args meth c R P cl D cA A tys G own ini nL cc) (X : m_ext s A xa XT P xc AOL TL NL) (h0 : c0 ≤ m_c h) (h1 : s0 ≤ m_s h) (g0 : m_c q.2.2.2 - c0 ≤ R.cells) (g1 : m_s q.2.2.2 - s0 ≤ R.slots) (hq : m_st P y (.invokestatic z) is ls st h = some (.inl q)) (hm : m_sim2 P cl G AOL TL tys cA own TG cc pc len (.invokestatic z)) (hn : AT (pc + len) is) (k : ∀ pc', AT pc' q.1 → m_go p l e R s m args below meth c Q P cl D cA A xa nL c0 s0 pc' q.2.1 q.2.2.1 q.2.2.2) : m_go p l e R s m args below meth c Q P cl D cA A xa nL c0 s0 pc ls st h := by
  obtain ⟨hx, hb, hml, hown, hts, hK, hA, ⟨hAI, hAB, hAL, hAD⟩, hini, hfr, hlo⟩ := E
  obtain ⟨rfl, rfl, ix, l1, l2, hd⟩ := hm
  obtain ⟨cF, nF, rF, f0, -, f1, f2, f3, f4⟩ := HF
  simp only [m_st, m_nx, ↓reduceIte, Nat.reduceEqDiff] at hq
  split at hq
  · next e9 f9 a9 st9 =>
    split at hq
    · next w =>
      cases hq
      obtain ⟨w1, w2, w3, w4, w5, w6⟩ := w
      intro H locs ad la hr hl hs
      have had : ∀ j, m_X ≤ j → ad j = xc j := fun j hj => (hr.2.2.2.2.2 j (Or.inr hj)).trans (X.2.2.2 j hj)
      have hC := f4 ad h H.size a9 f9 e9 hr.2.2.2.1 had w1 w2 w3 w4 w5
      have hgd : GoodIn G (va_wsS own ix m_yF (Cond.code m_yF cF nF rF :: G)) := by
        intro w hw
        have hin : w ∈ G := by
          unfold va_wsS at hw
          rcases List.mem_append.mp hw with hw | hw
          · rcases List.mem_cons.mp hw with rfl | hw
            · exact l1
            rcases List.mem_cons.mp hw with rfl | hw
            · exact l2
            rcases List.mem_cons.mp hw with rfl | hw
            · exact f2
            · cases hw
          · rcases List.mem_cons.mp hw with rfl | hw
            · exact f1
            · exact hw
        exact ⟨hin, good_of_word (f3 w hin)⟩
      have hrun := vx_runS (As := [Value.ref a9, .int f9, .int e9].map (m_cv ad)) (rest := st9.map (m_cv ad)) (g := F0 m pc la ((Value.int e9 :: .int f9 :: .ref a9 :: st9).map (m_cv ad))) (cells := m_c h - c0) (slots := m_s h - s0) (index := ix) (e := e) (below := below) (meth := meth) (locs := locs) ⟨hx, hb, hml, hown, hts⟩ hC (va_cwS (R := R) 3 hts hgd rfl rfl rfl ⟨by decide, by decide, by decide +kernel⟩ ⟨by show 6 + 1 ≤ _; omega, by show 8 + (nF + 11) + 120 ≤ _; omega⟩) ⟨m_Pc_blind X.1, fun U hU hW => m_pre hr hA hK X.1 X.2.2.1 U hU hW⟩ rfl rfl hl.1 rfl (lv_room (by rw [m_cat_map]; exact w6)) hd ⟨by rw [Nat.add_zero]; exact g0, by rw [Nat.add_zero]; exact g1⟩
      refine m_call hr hA hl (st := st9) (fun v hv => hs v (List.mem_cons_of_mem _ (List.mem_cons_of_mem _ (List.mem_cons_of_mem _ hv)))) h0 h1 (Nat.le_refl _) (Nat.le_refl _) (o := .inl (some (m_rv (m_wd P (m_I h a9) (m_l h a9) f9 e9)))) (h' := h) (a := (List.map (m_cv ad) [Value.ref a9, Value.int f9, Value.int e9]).toArray) ?_ (fun v hv => ?_) (fun x hx => by cases hx)
      · rw [Nat.sub_self, Nat.sub_self]
        exact hrun
      · cases hv
        exact k _ hn
    · cases hq
  · cases hq
end STEPX
