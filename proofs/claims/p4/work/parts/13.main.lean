/-! THE SMALL MACHINE'S RUNS ARE THE MACHINE'S -/
def m_ret (ty : Option FieldType) (i : Instr) : Prop := match i with
  | .ireturn => ty = some .int
  | .ret _ => ty = some .boolean
  | .areturn => ∃ t, ty = some t ∧ ((∃ n, t = .object n) ∨ ∃ u, t = .array u)
  | .freturn => ty = some .float
  | .dreturn => ty = some .double
  | .return_ => ty = none
  | _ => False
/-- calls and throws -/
def m_simC (P : m_P) (cl : List vw_C) (G : List Cond) (TL : List (String × Nat × Nat × Nat × String)) (NL : List (String × Nat × MethodName × String)) (Y : Nat → MethodName) (TT : Nat → Option FieldType) (INI : Nat → Bool) (NM : Nat) (y : Nat) (own : String) (cc : ByteArray) (pc len : Nat) (i : Instr) : Prop := match i with
  | .invokevirtual z => len = 3 ∧ z < NM ∧ m_hh P z = false ∧ ∃ ix : Nat, Cond.methodLink own ix (Y z) ∈ G ∧ Cond.instanceMethod (Y z) ∈ G ∧ Cond.selects (Y z).cls (Y z) (Y z) ∈ G ∧ (parseMethodDescriptor (Y z).desc).map (fun d => d.parameters.length + 1) = some (m_na P z) ∧ (∃ r : vw_C, cl[m_rc P z]? = some r ∧ r.1 = (Y z).cls ∧ m_rc P z < 100) ∧ decode cc pc = .ok (.invokevirtual ix, 3)
  | .invokestatic z => len = 3 ∧ z < NM ∧ ∃ ix : Nat, Cond.methodLink own ix (Y z) ∈ G ∧ Cond.static (Y z) ∈ G ∧ (parseMethodDescriptor (Y z).desc).map (fun d => d.parameters.length) = some (m_na P z) ∧ decode cc pc = .ok (.invokestatic ix, 3)
  | .invokespecial z => len = 3 ∧ z < NM ∧ m_hh P z = false ∧ INI z = true ∧ TT z = none ∧ ∃ ix : Nat, (Cond.methodLink own ix (Y z) ∈ G ∨ ∃ host, (own, ix, Y z, host) ∈ NL) ∧ Cond.instanceMethod (Y z) ∈ G ∧ (parseMethodDescriptor (Y z).desc).map (fun d => d.parameters.length + 1) = some (m_na P z) ∧ decode cc pc = .ok (.invokespecial ix, 3)
  | .invokedynamic x => len = 10 ∧ x ≤ 1 ∧ m_hh P y = false ∧ ∃ (ik is ic : Nat) (text : String), (own, is, 0, 0, text) ∈ TL ∧ Cond.classLink own ik (m_en x) ∈ G ∧ Cond.initialized (m_en x) ∈ G ∧ Bundle.fit (m_en x) = true ∧ (∀ n ∈ m_nms, Bundle.fit n = true) ∧ (∀ w ∈ Cond.classLink own ik (m_en x) :: Cond.initialized (m_en x) :: m_atS own ic x, vx_ot w = true) ∧ (∀ w ∈ (m_atS own ic x).filter goodWord, w ∈ G) ∧ (∀ w ∈ (m_atS own ic x).filter (fun w => !goodWord w), w ∈ m_ng x) ∧ decode cc pc = .ok (.new ik, 3) ∧ decode cc (pc + 3) = .ok (.dup, 1) ∧ decode cc (pc + 4) = .ok (.ldc is, 2) ∧ decode cc (pc + 6) = .ok (.invokespecial ic, 3) ∧ decode cc (pc + 9) = .ok (.athrow, 1)
  | _ => False
/-- where a method has handlers, a call stands under the right one; its first instruction puts the exception away -/
def m_cov (P : m_P) (G : List Cond) (Y : Nat → MethodName) (B : Nat → ByteArray) (HH : Nat → List (Nat × Nat × Nat × Nat)) (z pc : Nat) (i : Instr) : Prop :=
  m_hh P z = true → ∀ x r, m_hd P z x = some r → x ≤ 1 ∧ r.1 < m_nl P z ∧ ∃ (pre : List ExceptionTableEntry) (x0 : ExceptionTableEntry) (suf : List ExceptionTableEntry), tableOf (HH z) = pre ++ x0 :: suf ∧ (∀ y ∈ pre, covers y pc = false ∨ (x = 1 ∧ y.catchType ≠ 0 ∧ Cond.classLink (Y z).cls y.catchType (m_en 0) ∈ G)) ∧ covers x0 pc = true ∧ x0.catchType ≠ 0 ∧ Cond.classLink (Y z).cls x0.catchType (m_en x) ∈ G ∧ ((∃ j : Fin 4, (j : Nat) = r.1 ∧ decode (B z) x0.handlerPc = .ok (.astore_n j, 1) ∧ r.2 = x0.handlerPc + 1) ∨ (decode (B z) x0.handlerPc = .ok (.astore r.1, 2) ∧ r.2 = x0.handlerPc + 2))
/-- the word of a method's code -/
def m_cw (P : m_P) (Y : Nat → MethodName) (B : Nat → ByteArray) (TT : Nat → Option FieldType) (HH : Nat → List (Nat × Nat × Nat × Nat)) (z : Nat) : Cond := if m_hh P z = true then Cond.codeWith (Y z) (B z) (m_nl P z) (TT z) (HH z) else Cond.code (Y z) (B z) (m_nl P z) (TT z)
def m_simA (P : m_P) (cl : List vw_C) (G : List Cond) (AOL : List String × List (Nat × String)) (TL : List (String × Nat × Nat × Nat × String)) (NL : List (String × Nat × MethodName × String)) (tys : List (ClassId × FieldType)) (cA : Nat → ClassId) (Y : Nat → MethodName) (B : Nat → ByteArray) (TT : Nat → Option FieldType) (INI : Nat → Bool) (TGz : Nat → Nat → Prop) (NM : Nat) (HH : Nat → List (Nat × Nat × Nat × Nat)) (z pc len : Nat) (i : Instr) : Prop :=
  (m_sim P cl G (Y z).cls (INI z) (TGz z) (B z) pc len i ∨ m_sim2 P cl G AOL TL tys cA (Y z).cls (TGz z) (B z) pc len i) ∨ m_simC P cl G TL NL Y TT INI NM z (Y z).cls (B z) pc len i ∧ m_cov P G Y B HH z pc i
def m_at (P : m_P) (cl : List vw_C) (G : List Cond) (AOL : List String × List (Nat × String)) (TL : List (String × Nat × Nat × Nat × String)) (NL : List (String × Nat × MethodName × String)) (tys : List (ClassId × FieldType)) (cA : Nat → ClassId) (Y : Nat → MethodName) (B : Nat → ByteArray) (TT : Nat → Option FieldType) (INI : Nat → Bool) (TGz : Nat → Nat → Prop) (NM : Nat) (HH : Nat → List (Nat × Nat × Nat × Nat)) (z : Nat) : List Instr → Nat → Prop
  | [], _ => True
  | i :: is, pc => ∃ len, m_simA P cl G AOL TL NL tys cA Y B TT INI TGz NM HH z pc len i ∧ (m_ret (TT z) i ∨ ¬ (∃ t, m_ret t i)) ∧ m_at P cl G AOL TL NL tys cA Y B TT INI TGz NM HH z is (pc + len)
/-- a method as the tables have it, and its code as the small machine's -/
def m_mok (P : m_P) (cl : List vw_C) (G : List Cond) (AOL : List String × List (Nat × String)) (TL : List (String × Nat × Nat × Nat × String)) (NL : List (String × Nat × MethodName × String)) (tys : List (ClassId × FieldType)) (cA : Nat → ClassId) (Y : Nat → MethodName) (B : Nat → ByteArray) (TT : Nat → Option FieldType) (INI : Nat → Bool) (TGz : Nat → Nat → Prop) (NM : Nat) (HH : Nat → List (Nat × Nat × Nat × Nat)) (z : Nat) : Prop :=
  plainName (Y z).cls = true ∧ m_cw P Y B TT HH z ∈ G ∧ Cond.initialized (Y z).cls ∈ G ∧ ((Y z).cls ≠ "java/lang/invoke/MethodHandle" ∧ (Y z).cls ≠ "java/lang/invoke/VarHandle") ∧ m_nl P z ≤ 21 ∧ (∀ t, TGz z t → m_at P cl G AOL TL NL tys cA Y B TT INI TGz NM HH z (m_tg P z t) t) ∧ m_at P cl G AOL TL NL tys cA Y B TT INI TGz NM HH z (m_tg P z 0) 0 ∧ (INI z = true → (Y z).name = "<init>") ∧ (m_hh P z = false → HH z = [] ∧ ∀ x, m_hd P z x = none) ∧ ∀ x r, m_hd P z x = some r → m_at P cl G AOL TL NL tys cA Y B TT INI TGz NM HH z (m_tg P z r.2) r.2
def m_stat (l : Launch) (P : m_P) (cl : List vw_C) (G : List Cond) (AOL : List String × List (Nat × String)) (TL : List (String × Nat × Nat × Nat × String)) (NL : List (String × Nat × MethodName × String)) (tys : List (ClassId × FieldType)) (cA : Nat → ClassId) (Y : Nat → MethodName) (B : Nat → ByteArray) (TT : Nat → Option FieldType) (INI : Nat → Bool) (TGz : Nat → Nat → Prop) (NM : Nat) (HH : Nat → List (Nat × Nat × Nat × Nat)) (XT : (Nat → Prop) → State → Heap → Prop) (xc : Nat → Nat) : Prop :=
  l.stackTraces = false ∧ NM ≤ 9000 ∧ (∀ w ∈ G, goodWord w = true) ∧ (m_aok tys cA 100 .int ∧ m_aok tys cA 101 .byte ∧ m_aok tys cA 102 .long ∧ m_aok tys cA 103 .double) ∧ m_XTok XT ∧ m_XU XT P xc AOL TL NL ∧ ∀ z, z < NM → m_mok P cl G AOL TL NL tys cA Y B TT INI TGz NM HH z
theorem m_met {l : Launch} {y : MethodName} {ws : List Cond} {rm : Room} {Pc : Array Value → State → Prop} {Qc : Array Value → State → Outcome → State → Prop} {XC : String → State → State → Prop} {mc ms : Nat} {free : Addr → Prop} (hM : vx_Met l y ws rm Pc Qc XC mc ms free) (hX : ∀ E st t, ¬ XC E st t) : Met l y ws rm Pc Qc mc ms free := by
  intro p e h1 h2 h3 s m args below h4 h5 h6 h7
  obtain ⟨n, o, a1, a2, a3, a4⟩ := hM p e h1 h2 h3 s m args below h4 h5 h6 h7
  refine ⟨n, o, a1, a2, a3, ?_⟩
  rcases a4 with h | ⟨q, ho, E, ce, L, hx, -⟩
  · exact h
  · exact absurd hx (hX _ _ _)
theorem m_pop_eq {k : Nat} {st as st' : List Value} (h : m_pop k st = some (as, st')) : st = as.reverse ++ st' ∧ as.length = k := by
  unfold m_pop at h
  split at h
  · next hk =>
    cases h
    rw [List.reverse_reverse, List.take_append_drop]
    exact ⟨rfl, by simp; omega⟩
  · cases h
theorem m_good {G : List Cond} {c0 : Cond} {ws : List Cond} (hG : ∀ w ∈ G, goodWord w = true) (hc : c0 ∈ G) (hw : ∀ w ∈ ws, w ∈ G) : GoodIn G (ws ++ c0 :: G) := by
  intro w h
  rcases List.mem_append.mp h with h | h
  · exact ⟨hw w h, good_of_word (hG w (hw w h))⟩
  · rcases List.mem_cons.mp h with rfl | h
    · exact ⟨hc, good_of_word (hG _ hc)⟩
    · exact ⟨h, good_of_word (hG w h)⟩
section MAIN
variable {l : Launch} {P : m_P} {cl : List vw_C} {D : va_G} {cA : Nat → ClassId} {tys : List (ClassId × FieldType)} {G : List Cond} {XT : (Nat → Prop) → State → Heap → Prop} {xc : Nat → Nat} {AOL : List String × List (Nat × String)} {TL : List (String × Nat × Nat × Nat × String)} {NL : List (String × Nat × MethodName × String)} {Y : Nat → MethodName} {B : Nat → ByteArray} {TT : Nat → Option FieldType} {INI : Nat → Bool} {TGz : Nat → Nat → Prop} {NM : Nat} {HH : Nat → List (Nat × Nat × Nat × Nat)}
/-- what a method of the small machine owes, out of its runs as the machine's -/
theorem m_contract (S : m_stat l P cl G AOL TL NL tys cA Y B TT INI TGz NM HH XT xc) {n d z : Nat} (hz : z < NM)
    (ih : ∀ (is : List Instr) (ls : m_F) (st : List Value) (h : m_H) (o : Option Value ⊕ Nat) (h' : m_H), m_ex P n d z is ls st h = some (o, h') → ∀ (p : Program) (e : Env) (R : Room) (s : State) (m : MethodId) (args : Array Value) (below : List Frame) (meth : Method) (c : Code) (A : Nat → Prop) (xa : Nat × (Nat → Nat)) (c0 s0 pc : Nat), m_env p s m args meth c R P cl D cA A tys G (Y z).cls (INI z) (m_nl P z) (B z) → m_ext s A xa XT P xc AOL TL NL → d + 8 ≤ R.frames ∧ 40 * d + 200 ≤ R.locals → meth.locks = false → meth.sig.returnType = TT z → c.exceptionTable.toList = tableOf (HH z) → c0 ≤ m_c h → s0 ≤ m_s h → m_c h' - c0 ≤ R.cells → m_s h' - s0 ≤ R.slots → m_at P cl G AOL TL NL tys cA Y B TT INI TGz NM HH z is pc → m_go p l e R s m args below meth c (vx_MQ below (m_Qc P cl D cA A xa o h') (m_XC P cl D cA A xa o h') args s (m_c h' - c0) (m_s h' - s0) A) P cl D cA A xa (m_nl P z) c0 s0 pc ls st h)
    {as : List Value} {h h' : m_H} {o : Option Value ⊕ Nat} (he : m_ex P n d z (m_tg P z 0) (m_ent (m_nl P z) as) [] h = some (o, h')) (hlen : (m_sl as).length ≤ m_nl P z) (ad : Nat → Nat) (sz : Nat) (hw : m_wf h) (hin : ∀ v ∈ as, m_in (m_n h) v) (had : ∀ j, m_X ≤ j → ad j = xc j) :
    vx_Met l (Y z) (m_cw P Y B TT HH z :: G) (m_rm d (m_c h' - m_c h) (m_s h' - m_s h)) (m_Pc P cl D cA tys XT ad h as sz) (m_Qc P cl D cA (va_A (m_ws P cA ad h) sz) (m_n h, ad) o h') (m_XC P cl D cA (va_A (m_ws P cA ad h) sz) (m_n h, ad) o h') (m_c h' - m_c h) (m_s h' - m_s h) (va_A (m_ws P cA ad h) sz) := by
  obtain ⟨hl, hNM, hG, hAk, hXT, hXU, hM⟩ := id S
  obtain ⟨k1, k2, k3, k4, k5, k6, k7, k8, k9, k10⟩ := hM z hz
  have body : ∀ p e s m args below meth c s₁, BodyLoose p l (Y z) (headSpec (m_cw P Y B TT HH z :: G) (m_rm d (m_c h' - m_c h) (m_s h' - m_s h))) (B z) (m_nl P z) (TT z) e s m args below meth c s₁ → c.maxLocals = m_nl P z → c.exceptionTable.toList = tableOf (HH z) → m_Pc P cl D cA tys XT ad h as sz args s →
      W p l e (headSpec (m_cw P Y B TT HH z :: G) (m_rm d (m_c h' - m_c h) (m_s h' - m_s h))).room s m args below meth c s.heap [] 0 0 (vx_MQ below (m_Qc P cl D cA (va_A (m_ws P cA ad h) sz) (m_n h, ad) o h') (m_XC P cl D cA (va_A (m_ws P cA ad h) sz) (m_n h, ad) o h') args s (m_c h' - m_c h) (m_s h' - m_s h) (va_A (m_ws P cA ad h) sz)) (entryFrame m args (m_nl P z)) := by
    intro p e s m args below meth c s₁ BB hml htab hv
    obtain ⟨ha, hsz, hP, hK, hD, hX⟩ := hv
    subst hsz
    have hts := atoms_spec (ws := m_cw P Y B TT HH z :: G) BB.pre
    have hE : m_env p s m args meth c (headSpec (m_cw P Y B TT HH z :: G) (m_rm d (m_c h' - m_c h) (m_s h' - m_s h))).room P cl D cA (va_A (m_ws P cA ad h) s.heap.size) tys G (Y z).cls (INI z) (m_nl P z) (B z) :=
      ⟨BB.exec, BB.bytes, hml, findClass_of_methodNamed BB.named, fun w hw => hts w (List.mem_cons_of_mem _ hw), hK, fun q hq => Or.inr hq, hAk, fun hi => (name_of_methodNamed BB.named BB.method).1.trans (k8 hi), Nat.le_add_left 8 d, Nat.le_add_left 200 (40 * d)⟩
    have hgo := ih _ _ _ _ _ _ he p e _ s m args below meth c (va_A (m_ws P cA ad h) s.heap.size) (m_n h, ad) (m_c h) (m_s h) 0 hE ⟨hXT, hXU, hX, had⟩ ⟨Nat.le_refl _, Nat.le_refl _⟩ BB.notSynchronized BB.returns htab (Nat.le_refl _) (Nat.le_refl _) (Nat.le_refl _) (Nat.le_refl _) k7
    have hW := hgo s.heap [] ad _ ⟨hP, hD.self, va_S.rf, hw, Nat.le_refl _, fun _ _ => rfl⟩ (m_entry hlen hin) (fun v hv => nomatch hv)
    rw [Nat.sub_self, Nat.sub_self] at hW
    rw [ha, lg_entry_eq]
    subst ha
    exact hW
  by_cases hh : m_hh P z = true
  · have hcw : m_cw P Y B TT HH z = Cond.codeWith (Y z) (B z) (m_nl P z) (TT z) (HH z) := by unfold m_cw; rw [if_pos hh]
    refine vx_ofWH (cc := B z) (maxL := m_nl P z) (ret := TT z) (hh := HH z) (ws' := G) k1 (by rw [hcw]) ?_
    intro p e s m args below meth c s₁ BB hml hv
    exact body p e s m args below meth c s₁ BB hml (vx_table (x := Y z) BB (by rw [← hcw]; exact atoms_spec (ws := m_cw P Y B TT HH z :: G) BB.pre _ List.mem_cons_self)) hv
  · have hcw : m_cw P Y B TT HH z = Cond.code (Y z) (B z) (m_nl P z) (TT z) := by unfold m_cw; rw [if_neg hh]
    refine vx_ofW (cc := B z) (maxL := m_nl P z) (ret := TT z) (ws' := G) k1 (by rw [hcw]) ?_
    intro p e s m args below meth c s₁ BB hml htab hv
    refine body p e s m args below meth c s₁ BB hml ?_ hv
    rw [(k9 (Bool.eq_false_iff.mpr hh)).1]
    cases ht : c.exceptionTable.toList with
    | nil => rfl
    | cons x t => exact (htab x (by rw [ht]; exact List.mem_cons_self)).elim
end MAIN
