/-! things outside: the script, rows of references, throws -/
def m_nms : List String := ["java/lang/RuntimeException", "java/lang/Exception"]
/-- the entry by which an exception's own constructor calls its super, and that constructor's bytes -/
def m_ix (x : Nat) : Nat := if x = 0 then 13 else 7
def m_rx (x : Nat) : ByteArray := if x = 0 then ⟨#[0x2a, 0x2b, 0xb7, 0x00, 0x0d, 0xb1]⟩ else Bundle.six
def m_atS (own : String) (ic x : Nat) : List Cond := t_at own ic (m_en x) (m_ix x) (m_rx x) "java/lang/RuntimeException" ["java/lang/Exception"]
theorem m_rx0 (x : Nat) : decode (m_rx x) 0 = .ok (.aload_n 0, 1) := by unfold m_rx; split <;> decide +kernel
theorem m_rx1 (x : Nat) : decode (m_rx x) 1 = .ok (.aload_n 1, 1) := by unfold m_rx; split <;> decide +kernel
theorem m_rx2 (x : Nat) : decode (m_rx x) 2 = .ok (.invokespecial (m_ix x), 3) := by unfold m_rx m_ix; split <;> decide +kernel
theorem m_rx5 (x : Nat) : decode (m_rx x) 5 = .ok (.return_, 1) := by unfold m_rx; split <;> decide +kernel
/-- the words of a throw that aren't good ones -/
def m_ng (x : Nat) : List Cond := [Cond.castable (m_en x) (m_en x), .declares (Bundle.initS "java/lang/RuntimeException"), .declares (Bundle.initS "java/lang/Exception"), .declares (Bundle.initS Bundle.tN)]
theorem m_ng_all {Q : Cond → Prop} {x : Nat} (h0 : Q (Cond.castable (m_en x) (m_en x))) (h1 : ∀ y, Q (.declares y)) : ∀ w ∈ m_ng x, Q w := List.forall_mem_cons.mpr ⟨h0, List.forall_mem_cons.mpr ⟨h1 _, List.forall_mem_cons.mpr ⟨h1 _, List.forall_mem_cons.mpr ⟨h1 _, fun _ h => absurd h List.not_mem_nil⟩⟩⟩⟩
/-- what is said of the things outside: rows of references, the script, what a throw needs, constants -/
def m_XT (P : m_P) (xc : Nat → Nat) (AOL : List String × List (Nat × String)) (TL : List (String × Nat × Nat × Nat × String)) (NL : List (String × Nat × MethodName × String)) (A : Nat → Prop) (U : State) (H : Heap) : Prop :=
  (∀ C ∈ AOL.1, va_AO C U) ∧ (va_X (xc m_X) (m_xl P) (m_xs P) U H ∧ xc m_X < H.size ∧ ¬ A (xc m_X)) ∧ (vx_Zq Bundle.tN "UNASSIGNED_STACK" Bundle.steD A U H ∧ vx_Zq Bundle.tN "SUPPRESSED_SENTINEL" Bundle.listD A U H) ∧
    (∀ q ∈ TL, ∃ sa, vk_R q.1 q.2.1 q.2.2.2.2 sa U) ∧ (∀ q ∈ NL, va_Nw (.methodLinkNest q.1 q.2.1 q.2.2.1 q.2.2.2) U) ∧ ((∀ x, x ≤ 1 → ∀ w ∈ m_ng x, va_Nw w U) ∧ va_Nc (m_en 1) (m_en 0) U) ∧ ∀ q ∈ AOL.2, va_Z "DriverHost$Word" q.2 "LDriverHost$Word;" (.ref (xc q.1)) A U H
def m_XU (XT : (Nat → Prop) → State → Heap → Prop) (P : m_P) (xc : Nat → Nat) (AOL : List String × List (Nat × String)) (TL : List (String × Nat × Nat × Nat × String)) (NL : List (String × Nat × MethodName × String)) : Prop :=
  ∀ (A : Nat → Prop) (U : State) (H : Heap), XT A U H → m_XT P xc AOL TL NL A U H
theorem m_XT_ok (P : m_P) (xc : Nat → Nat) (AOL : List String × List (Nat × String)) (TL : List (String × Nat × Nat × Nat × String)) (NL : List (String × Nat × MethodName × String)) : m_XTok (m_XT P xc AOL TL NL) := by
  refine ⟨fun A u U H hW h => ?_, fun A U H H1 hz hk h => ?_, fun A B U H hAB h => ?_⟩
  · obtain ⟨h1, ⟨h2, h3, h4⟩, ⟨h5, h6⟩, h7, h8, ⟨h9, h10⟩, h11⟩ := h
    exact ⟨fun C hC => (h1 C hC).moved hW.alike, ⟨h2.moved hW.alike, h3, h4⟩, ⟨h5.moved hW.alike, h6.moved hW.alike⟩, fun q hq => by obtain ⟨sa, z⟩ := h7 q hq; exact ⟨sa, vk_R.warm hW z⟩, fun q hq => va_Nw.warmM hW (h8 q hq), ⟨fun x hx w hw => m_ng_all (Q := fun w => va_Nw w u → va_Nw w U) (fun z => va_Nw.warmC hW z) (fun y z => va_Nw.warmD hW z) w hw (h9 x hx w hw), h10.moved hW.alike⟩, fun q hq => (h11 q hq).moved hW.alike⟩
  · obtain ⟨h1, ⟨h2, h3, h4⟩, ⟨h5, h6⟩, h7, h8, h9, h11⟩ := h
    exact ⟨h1, ⟨h2.kept (hk _ h3 h4), Nat.lt_of_lt_of_le h3 hz, h4⟩, ⟨h5.kept hk, h6.kept hk⟩, h7, h8, h9, fun q hq => (h11 q hq).kept hk⟩
  · obtain ⟨h1, ⟨h2, h3, h4⟩, ⟨h5, h6⟩, h7, h8, h9, h11⟩ := h
    exact ⟨h1, ⟨h2, h3, fun z => h4 (hAB _ z)⟩, ⟨h5.narrow hAB, h6.narrow hAB⟩, h7, h8, h9, fun q hq => (h11 q hq).narrow hAB⟩
def m_ext (s : State) (A : Nat → Prop) (xa : Nat × (Nat → Nat)) (XT : (Nat → Prop) → State → Heap → Prop) (P : m_P) (xc : Nat → Nat) (AOL : List String × List (Nat × String)) (TL : List (String × Nat × Nat × Nat × String)) (NL : List (String × Nat × MethodName × String)) : Prop :=
  m_XTok XT ∧ m_XU XT P xc AOL TL NL ∧ XT A s s.heap ∧ ∀ j, m_X ≤ j → xa.2 j = xc j
def m_sim2 (P : m_P) (cl : List vw_C) (G : List Cond) (AOL : List String × List (Nat × String)) (TL : List (String × Nat × Nat × Nat × String)) (tys : List (ClassId × FieldType)) (cA : Nat → ClassId) (own : String) (TG : Nat → Prop) (cc : ByteArray) (pc len : Nat) (i : Instr) : Prop := match i with
  | .iaload => len = 1 ∧ decode cc pc = .ok (.iaload, 1)
  | .ldc_w z => len = 1 ∧ (∃ ty, m_aok tys cA z ty) ∧ decode cc pc = .ok (.arraylength, 1)
  | .checkcast ci => len = 1 ∧ (∃ C, m_aok tys cA (200 + ci) (.object C)) ∧ decode cc pc = .ok (.aaload, 1)
  | .instanceof ci => len = 1 ∧ (∃ r : vw_C, cl[ci]? = some r ∧ m_aok tys cA (200 + ci) (.object r.1)) ∧ decode cc pc = .ok (.aastore, 1)
  | .anewarray ci => len = 3 ∧ ∃ (ix : Nat) (C : String), C ∈ AOL.1 ∧ m_aok tys cA (200 + ci) (.object C) ∧ Cond.classLink own ix C ∈ G ∧ decode cc pc = .ok (.anewarray ix, 3)
  | .getstatic k => len = 3 ∧ m_X ≤ k ∧ ∃ (ix : Nat) (nm : String), (k, nm) ∈ AOL.2 ∧ Cond.fieldLink own ix "DriverHost$Word" nm "LDriverHost$Word;" ∈ G ∧ decode cc pc = .ok (.getstatic ix, 3)
  | _ => False
section STEPX
variable {p : Program} {l : Launch} {e : Env} {R : Room} {s : State} {m : MethodId} {args : Array Value} {below : List Frame} {meth : Method} {c : Code} {Q : State → Prop} {P : m_P} {cl : List vw_C} {D : va_G} {cA : Nat → ClassId} {A : Nat → Prop} {xa : Nat × (Nat → Nat)} {nL c0 s0 : Nat} {pc len y : Nat} {is : List Instr} {ls : m_F} {st : List Value} {h : m_H} {cc : ByteArray} {tys : List (ClassId × FieldType)} {G : List Cond} {own : String} {ini : Bool} {TG : Nat → Prop} {AT : Nat → List Instr → Prop} {q : List Instr × m_F × List Value × m_H} {XT : (Nat → Prop) → State → Heap → Prop} {xc : Nat → Nat} {AOL : List String × List (Nat × String)} {TL : List (String × Nat × Nat × Nat × String)} {NL : List (String × Nat × MethodName × String)}
theorem g_sld (hx : p.tables.exec = Jvm.exec) (hb : c.code = cc) (X : m_ext s A xa XT P xc AOL TL NL) {i : Int32} (hi : ¬ (i < 0 ∨ m_xl P ≤ i.toNatClampNeg)) (hd : decode cc pc = .ok (.iaload, 1)) (k : m_go p l e R s m args below meth c Q P cl D cA A xa nL c0 s0 (pc + 1) ls (.int (m_xs P i.toNatClampNeg) :: st) h) : m_go p l e R s m args below meth c Q P cl D cA A xa nL c0 s0 pc ls (.int i :: .ref m_X :: st) h := by
  intro H locs ad la hr hl hs
  obtain ⟨-, X2, X3, X4⟩ := X
  obtain ⟨-, ⟨x1, x2, x3⟩, -⟩ := X2 _ _ _ X3
  have he : ad m_X = xc m_X := (hr.2.2.2.2.2 m_X (Or.inr (Nat.le_refl _))).trans (X4 _ (Nat.le_refl _))
  show W p l e R s m args below meth c H locs (m_c h - c0) (m_s h - s0) Q (F0 m pc la (.int i :: .ref (ad m_X) :: st.map (m_cv ad)))
  rw [he]
  exact va_sld hx hb x1 x2 x3 hr.2.2.1 hi hd (k H locs ad la hr hl (g_cs trivial (g_tl (g_tl hs))))
theorem g_slen (hx : p.tables.exec = Jvm.exec) (hb : c.code = cc) (X : m_ext s A xa XT P xc AOL TL NL) (hd : decode cc pc = .ok (.arraylength, 1)) (k : m_go p l e R s m args below meth c Q P cl D cA A xa nL c0 s0 (pc + 1) ls (.int (Int32.ofNat (m_xl P)) :: st) h) : m_go p l e R s m args below meth c Q P cl D cA A xa nL c0 s0 pc ls (.ref m_X :: st) h := by
  intro H locs ad la hr hl hs
  obtain ⟨-, X2, X3, X4⟩ := X
  obtain ⟨-, ⟨x1, x2, x3⟩, -⟩ := X2 _ _ _ X3
  have he : ad m_X = xc m_X := (hr.2.2.2.2.2 m_X (Or.inr (Nat.le_refl _))).trans (X4 _ (Nat.le_refl _))
  show W p l e R s m args below meth c H locs (m_c h - c0) (m_s h - s0) Q (F0 m pc la (.ref (ad m_X) :: st.map (m_cv ad)))
  rw [he]
  exact va_slen hx hb x1 x2 x3 hr.2.2.1 hd (k H locs ad la hr hl (g_cs trivial (g_tl hs)))
theorem s_iaload  (E : m_env p s m args meth c R P cl D cA A tys G own ini nL cc) (X : m_ext s A xa XT P xc AOL TL NL) (hq : m_st P y (.iaload) is ls st h = some (.inl q)) (hm : m_sim2 P cl G AOL TL tys cA own TG cc pc len (.iaload)) (hn : AT (pc + len) is) (k : ∀ pc', AT pc' q.1 → m_go p l e R s m args below meth c Q P cl D cA A xa nL c0 s0 pc' q.2.1 q.2.2.1 q.2.2.2) : m_go p l e R s m args below meth c Q P cl D cA A xa nL c0 s0 pc ls st h := by
  obtain ⟨hx, hb, hml, hown, hts, hK, hA, ⟨hAI, hAB, hAL, hAD⟩, hini, hfr, hlo⟩ := E
  obtain ⟨rfl, hd⟩ := hm
  simp only [m_st, m_nx] at hq
  split at hq
  · split at hq
    · next ea =>
      split at hq
      · cases hq
      · next z =>
        cases hq
        subst ea
        exact g_sld hx hb X z hd (k _ hn)
    · split at hq
      · next z =>
        cases hq
        exact g_iald hx hb hK hAI z.1 z.2.1 z.2.2 hd (k _ hn)
      · cases hq
  · cases hq
theorem s_alen {z : Nat} (E : m_env p s m args meth c R P cl D cA A tys G own ini nL cc) (X : m_ext s A xa XT P xc AOL TL NL) (hq : m_st P y (.ldc_w z) is ls st h = some (.inl q)) (hm : m_sim2 P cl G AOL TL tys cA own TG cc pc len (.ldc_w z)) (hn : AT (pc + len) is) (k : ∀ pc', AT pc' q.1 → m_go p l e R s m args below meth c Q P cl D cA A xa nL c0 s0 pc' q.2.1 q.2.2.1 q.2.2.2) : m_go p l e R s m args below meth c Q P cl D cA A xa nL c0 s0 pc ls st h := by
  obtain ⟨hx, hb, hml, hown, hts, hK, hA, ⟨hAI, hAB, hAL, hAD⟩, hini, hfr, hlo⟩ := E
  obtain ⟨rfl, ⟨ty, ht⟩, hd⟩ := hm
  simp only [m_st, m_nx] at hq
  split at hq
  · split at hq
    · next ea =>
      cases hq
      subst ea
      exact g_slen hx hb X hd (k _ hn)
    · split at hq
      · next w =>
        cases hq
        exact g_alen hx hb hK ht w.2.2 w.1 w.2.1 hd (k _ hn)
      · cases hq
  · cases hq
theorem s_aaload {ci : Nat} (E : m_env p s m args meth c R P cl D cA A tys G own ini nL cc) (X : m_ext s A xa XT P xc AOL TL NL) (hq : m_st P y (.checkcast ci) is ls st h = some (.inl q)) (hm : m_sim2 P cl G AOL TL tys cA own TG cc pc len (.checkcast ci)) (hn : AT (pc + len) is) (k : ∀ pc', AT pc' q.1 → m_go p l e R s m args below meth c Q P cl D cA A xa nL c0 s0 pc' q.2.1 q.2.2.1 q.2.2.2) : m_go p l e R s m args below meth c Q P cl D cA A xa nL c0 s0 pc ls st h := by
  obtain ⟨hx, hb, hml, hown, hts, hK, hA, ⟨hAI, hAB, hAL, hAD⟩, hini, hfr, hlo⟩ := E
  obtain ⟨rfl, ⟨C, ht⟩, hd⟩ := hm
  simp only [m_st, m_nx] at hq
  split at hq
  · split at hq
    · next w =>
      cases hq
      exact g_aald hx hb hK ht (Nat.le_add_right _ _) w.1 w.2.1 w.2.2 hd (k _ hn)
    · cases hq
  · cases hq
theorem s_aastore {ci : Nat} (E : m_env p s m args meth c R P cl D cA A tys G own ini nL cc) (X : m_ext s A xa XT P xc AOL TL NL) (hq : m_st P y (.instanceof ci) is ls st h = some (.inl q)) (hm : m_sim2 P cl G AOL TL tys cA own TG cc pc len (.instanceof ci)) (hn : AT (pc + len) is) (k : ∀ pc', AT pc' q.1 → m_go p l e R s m args below meth c Q P cl D cA A xa nL c0 s0 pc' q.2.1 q.2.2.1 q.2.2.2) : m_go p l e R s m args below meth c Q P cl D cA A xa nL c0 s0 pc ls st h := by
  obtain ⟨hx, hb, hml, hown, hts, hK, hA, ⟨hAI, hAB, hAL, hAD⟩, hini, hfr, hlo⟩ := E
  obtain ⟨rfl, ⟨r, hc, ht⟩, hd⟩ := hm
  simp only [m_st, m_nx] at hq
  split at hq
  · split at hq
    · next w =>
      cases hq
      exact g_aast hx hb hK hc ht (Nat.le_add_right _ _) w.1 w.2.1 w.2.2.1 w.2.2.2.1 w.2.2.2.2.1 w.2.2.2.2.2 hd (k _ hn)
    · cases hq
  · cases hq
theorem s_anewarray {ci : Nat} (E : m_env p s m args meth c R P cl D cA A tys G own ini nL cc) (X : m_ext s A xa XT P xc AOL TL NL) (h0 : c0 ≤ m_c h) (h1 : s0 ≤ m_s h) (g0 : m_c q.2.2.2 - c0 ≤ R.cells) (g1 : m_s q.2.2.2 - s0 ≤ R.slots) (hq : m_st P y (.anewarray ci) is ls st h = some (.inl q)) (hm : m_sim2 P cl G AOL TL tys cA own TG cc pc len (.anewarray ci)) (hn : AT (pc + len) is) (k : ∀ pc', AT pc' q.1 → m_go p l e R s m args below meth c Q P cl D cA A xa nL c0 s0 pc' q.2.1 q.2.2.1 q.2.2.2) : m_go p l e R s m args below meth c Q P cl D cA A xa nL c0 s0 pc ls st h := by
  obtain ⟨hx, hb, hml, hown, hts, hK, hA, ⟨hAI, hAB, hAL, hAD⟩, hini, hfr, hlo⟩ := E
  obtain ⟨rfl, ix, C, hC, ht, hlink, hd⟩ := hm
  simp only [m_st, m_nx] at hq
  split at hq
  · split at hq
    · cases hq
    · next i st' z =>
      cases hq
      have g0 : m_c h + 1 - c0 ≤ R.cells := g0
      have g1 : m_s h + i.toNatClampNeg - s0 ≤ R.slots := g1
      exact g_new_q hx hb hown hK hA (Nat.le_add_right _ _) ht (hts _ hlink) ((X.2.1 _ _ _ X.2.2.1).1 C hC) (by omega) h0 h1 (fun w => z (Or.inl w)) (by omega) (by omega) (by omega) hd (k _ hn)
  · cases hq
theorem s_getstatic {z : Nat} (E : m_env p s m args meth c R P cl D cA A tys G own ini nL cc) (X : m_ext s A xa XT P xc AOL TL NL) (hq : m_st P y (.getstatic z) is ls st h = some (.inl q)) (hm : m_sim2 P cl G AOL TL tys cA own TG cc pc len (.getstatic z)) (hn : AT (pc + len) is) (k : ∀ pc', AT pc' q.1 → m_go p l e R s m args below meth c Q P cl D cA A xa nL c0 s0 pc' q.2.1 q.2.2.1 q.2.2.2) : m_go p l e R s m args below meth c Q P cl D cA A xa nL c0 s0 pc ls st h := by
  obtain ⟨hx, hb, hml, hown, hts, hK, hA, ⟨hAI, hAB, hAL, hAD⟩, hini, hfr, hlo⟩ := E
  obtain ⟨rfl, hz, ix, nm, hC, hlink, hd⟩ := hm
  have hq2 : m_nx is ls (.ref z :: st) h = some (.inl q) := by
    simp only [m_st] at hq
    rw [if_pos hz] at hq
    exact hq
  cases hq2
  intro H locs ad la hr hl hs
  have hZ := (X.2.1 _ _ _ X.2.2.1).2.2.2.2.2.2 _ hC
  have he : ad z = xc z := (hr.2.2.2.2.2 z (Or.inr hz)).trans (X.2.2.2 z hz)
  have kk := k _ hn H locs ad la hr hl (g_cs (Or.inr hz) hs)
  rw [List.map_cons, show m_cv ad (.ref z) = .ref (ad z) from rfl, he] at kk
  exact va_gets hx hb hZ hr.2.2.1 hown (hts _ hlink) (fun _ w => w) hd kk
theorem s_objInit  (E : m_env p s m args meth c R P cl D cA A tys G own ini nL cc) (X : m_ext s A xa XT P xc AOL TL NL) (hq : m_st P y (.invokespecial 9000) is ls st h = some (.inl q)) (hm : m_sim P cl G own ini TG cc pc len (.invokespecial 9000)) (hn : AT (pc + len) is) (k : ∀ pc', AT pc' q.1 → m_go p l e R s m args below meth c Q P cl D cA A xa nL c0 s0 pc' q.2.1 q.2.2.1 q.2.2.2) : m_go p l e R s m args below meth c Q P cl D cA A xa nL c0 s0 pc ls st h := by
  obtain ⟨hx, hb, hml, hown, hts, hK, hA, ⟨hAI, hAB, hAL, hAD⟩, hini, hfr, hlo⟩ := E
  obtain ⟨rfl, -, ix, l1, l2, l3, hd⟩ := hm
  simp only [m_st, m_nx, if_true] at hq
  split at hq
  · split at hq
    · next w =>
      cases hq
      exact g_objInit hx hb hml hown (hts _ l1) (hts _ l2) (hts _ l3) (by omega) (by omega) hd (k _ hn)
    · cases hq
  · cases hq
theorem s_lib {z : Nat} (E : m_env p s m args meth c R P cl D cA A tys G own ini nL cc) (X : m_ext s A xa XT P xc AOL TL NL) (g0 : m_c q.2.2.2 - c0 ≤ R.cells) (g1 : m_s q.2.2.2 - s0 ≤ R.slots) (hq : m_st P y (.invokestatic z) is ls st h = some (.inl q)) (hm : m_sim P cl G own ini TG cc pc len (.invokestatic z)) (hn : AT (pc + len) is) (k : ∀ pc', AT pc' q.1 → m_go p l e R s m args below meth c Q P cl D cA A xa nL c0 s0 pc' q.2.1 q.2.2.1 q.2.2.2) : m_go p l e R s m args below meth c Q P cl D cA A xa nL c0 s0 pc ls st h := by
  obtain ⟨hx, hb, hml, hown, hts, hK, hA, ⟨hAI, hAB, hAL, hAD⟩, hini, hfr, hlo⟩ := E
  obtain ⟨rfl, ix, hlib, hd⟩ := hm
  rcases hlib with ⟨rfl, l1, l2, l3, l4⟩ | ⟨rfl, l1, l2, l3, l4⟩ | ⟨rfl, l1, l2, l3, l4⟩
  · simp only [m_st, m_nx, if_true] at hq
    split at hq
    · split at hq
      · next w =>
        cases hq
        exact g_min hx hb hml hown (hts _ l1) (hts _ l2) (hts _ l3) (hts _ l4) (by omega) (by omega) g0 g1 hd (k _ hn)
      · cases hq
    · cases hq
  · simp only [m_st, m_nx, ↓reduceIte, Nat.reduceEqDiff] at hq
    split at hq
    · split at hq
      · next w =>
        cases hq
        exact g_max hx hb hml hown (hts _ l1) (hts _ l2) (hts _ l3) (hts _ l4) (by omega) (by omega) g0 g1 hd (k _ hn)
      · cases hq
    · cases hq
  · simp only [m_st, m_nx, ↓reduceIte, Nat.reduceEqDiff] at hq
    split at hq
    · split at hq
      · next w =>
        cases hq
        obtain ⟨w1, w2, w3, w4, w5, w6, w7, w8, w9, w10⟩ := w
        have hnw : nativeFrameWords "java/lang/System" "arraycopy" 5 + 11 ≤ 100 := by decide +kernel
        exact g_copy hx hb hml hown (hts _ l1) (hts _ l2) (hts _ l3) (hts _ l4) hK hAI (by omega) (by omega) w1 w2 w3 w4 w5 w6 w7 w8 w9 hd (k _ hn)
      · cases hq
    · cases hq
end STEPX
