/-! WHICH INSTRUCTION STANDS FOR WHICH, and each step of the small machine as one of the machine -/
/-- what holds all through a method's body -/
def m_env (p : Program) (s : State) (m : MethodId) (args : Array Value) (meth : Method) (c : Code) (R : Room) (P : m_P) (cl : List vw_C) (D : va_G) (cA : Nat → ClassId) (A : Nat → Prop) (tys : List (ClassId × FieldType)) (G : List Cond) (own : String) (ini : Bool) (nL : Nat) (cc : ByteArray) : Prop :=
  p.tables.exec = Jvm.exec ∧ c.code = cc ∧ c.maxLocals = nL ∧ s.vm.findClass own = some m.cls ∧ (∀ w ∈ G, w.before args s = true) ∧ va_K D cl tys s ∧ (∀ q, s.heap.size ≤ q → A q) ∧ (m_aok tys cA 100 .int ∧ m_aok tys cA 101 .byte ∧ m_aok tys cA 102 .long ∧ m_aok tys cA 103 .double) ∧ (ini = true → meth.name = "<init>") ∧ 8 ≤ R.frames ∧ 200 ≤ R.locals
/-- what must be so for a word of the library to be called -/
def m_lib (G : List Cond) (own : String) (ix z : Nat) : Prop :=
  (z = 9001 ∧ Cond.methodLink own ix Lib.Math.min.name ∈ G ∧ Cond.static Lib.Math.min.name ∈ G ∧ Cond.initialized "java/lang/Math" ∈ G ∧ Cond.code Lib.Math.min.name Lib.Math.min.code 2 (some .int) ∈ G) ∨
  (z = 9002 ∧ Cond.methodLink own ix Lib.Math.max.name ∈ G ∧ Cond.static Lib.Math.max.name ∈ G ∧ Cond.initialized "java/lang/Math" ∈ G ∧ Cond.code Lib.Math.max.name Lib.Math.max.code 2 (some .int) ∈ G) ∨
  (z = 9003 ∧ Cond.methodLink own ix arraycopyName ∈ G ∧ Cond.native arraycopyName ∈ G ∧ Cond.static arraycopyName ∈ G ∧ Cond.initialized "java/lang/System" ∈ G)
def m_sim (P : m_P) (cl : List vw_C) (G : List Cond) (own : String) (ini : Bool) (TG : Nat → Prop) (cc : ByteArray) (pc len : Nat) (i : Instr) : Prop := match i with
  | .aconst_null => len = 1 ∧ decode cc pc = .ok (.aconst_null, 1)
  | .iadd => len = 1 ∧ decode cc pc = .ok (.iadd, 1)
  | .isub => len = 1 ∧ decode cc pc = .ok (.isub, 1)
  | .imul => len = 1 ∧ decode cc pc = .ok (.imul, 1)
  | .iand => len = 1 ∧ decode cc pc = .ok (.iand, 1)
  | .ior => len = 1 ∧ decode cc pc = .ok (.ior, 1)
  | .ishr => len = 1 ∧ decode cc pc = .ok (.ishr, 1)
  | .idiv => len = 1 ∧ decode cc pc = .ok (.idiv, 1)
  | .irem => len = 1 ∧ decode cc pc = .ok (.irem, 1)
  | .i2b => len = 1 ∧ decode cc pc = .ok (.i2b, 1)
  | .i2l => len = 1 ∧ decode cc pc = .ok (.i2l, 1)
  | .i2d => len = 1 ∧ decode cc pc = .ok (.i2d, 1)
  | .i2f => len = 1 ∧ decode cc pc = .ok (.i2f, 1)
  | .ladd => len = 1 ∧ decode cc pc = .ok (.ladd, 1)
  | .lsub => len = 1 ∧ decode cc pc = .ok (.lsub, 1)
  | .lmul => len = 1 ∧ decode cc pc = .ok (.lmul, 1)
  | .lcmp => len = 1 ∧ decode cc pc = .ok (.lcmp, 1)
  | .ddiv => len = 1 ∧ decode cc pc = .ok (.ddiv, 1)
  | .fdiv => len = 1 ∧ decode cc pc = .ok (.fdiv, 1)
  | .f2d => len = 1 ∧ decode cc pc = .ok (.f2d, 1)
  | .d2f => len = 1 ∧ decode cc pc = .ok (.d2f, 1)
  | .dup => len = 1 ∧ decode cc pc = .ok (.dup, 1)
  | .pop => len = 1 ∧ decode cc pc = .ok (.pop, 1)
  | .dup2 => len = 1 ∧ decode cc pc = .ok (.dup2, 1)
  | .iaload => len = 1 ∧ decode cc pc = .ok (.iaload, 1)
  | .baload => len = 1 ∧ decode cc pc = .ok (.baload, 1)
  | .laload => len = 1 ∧ decode cc pc = .ok (.laload, 1)
  | .daload => len = 1 ∧ decode cc pc = .ok (.daload, 1)
  | .iastore => len = 1 ∧ decode cc pc = .ok (.iastore, 1)
  | .bastore => len = 1 ∧ decode cc pc = .ok (.bastore, 1)
  | .lastore => len = 1 ∧ decode cc pc = .ok (.lastore, 1)
  | .dastore => len = 1 ∧ decode cc pc = .ok (.dastore, 1)
  | .ireturn => len = 1 ∧ decode cc pc = .ok (.ireturn, 1)
  | .areturn => len = 1 ∧ decode cc pc = .ok (.areturn, 1)
  | .freturn => len = 1 ∧ decode cc pc = .ok (.freturn, 1)
  | .dreturn => len = 1 ∧ decode cc pc = .ok (.dreturn, 1)
  | .return_ => len = 1 ∧ decode cc pc = .ok (.return_, 1)
  | .ret _ => len = 1 ∧ decode cc pc = .ok (.ireturn, 1)
  | .dcmp op => len = 1 ∧ decode cc pc = .ok (.dcmp op, 1)
  | .fcmp op => len = 1 ∧ decode cc pc = .ok (.fcmp op, 1)
  | .fconst k => len = 1 ∧ k = 0 ∧ decode cc pc = .ok (.fconst 0, 1)
  | .dconst k => len = 1 ∧ (k = 0 ∧ decode cc pc = .ok (.dconst 0, 1) ∨ k = 1 ∧ decode cc pc = .ok (.dconst 1, 1))
  | .iconst v => (len = 1 ∧ ∃ n : Int, Int32.ofInt n = Int32.ofInt v ∧ decode cc pc = .ok (.iconst n, 1)) ∨ (len = 2 ∧ ∃ n : Int, (Int8.ofInt n).toInt32 = Int32.ofInt v ∧ decode cc pc = .ok (.bipush n, 2)) ∨ (len = 3 ∧ ∃ n : Int, (Int16.ofInt n).toInt32 = Int32.ofInt v ∧ decode cc pc = .ok (.sipush n, 3)) ∨ (len = 2 ∧ ∃ ix : Nat, Jvm.Cond.constant own ix (Int32.ofInt v) ∈ G ∧ decode cc pc = .ok (.ldc ix, 2)) ∨ (len = 3 ∧ ∃ ix : Nat, Jvm.Cond.constant own ix (Int32.ofInt v) ∈ G ∧ decode cc pc = .ok (.ldc_w ix, 3))
  | .ldc2_w v => (len = 1 ∧ ∃ n : Fin 2, Int64.ofNat (n : Nat) = Int64.ofNat v ∧ decode cc pc = .ok (.lconst n, 1)) ∨ (len = 3 ∧ ∃ ix : Nat, Jvm.Cond.constantLong own ix (Int64.ofNat v) ∈ G ∧ decode cc pc = .ok (.ldc2_w ix, 3))
  | .iload k => (len = 2 ∧ decode cc pc = .ok (.iload k, 2)) ∨ (len = 1 ∧ ∃ j : Fin 4, (j : Nat) = k ∧ decode cc pc = .ok (.iload_n j, 1))
  | .lload k => (len = 2 ∧ decode cc pc = .ok (.lload k, 2)) ∨ (len = 1 ∧ ∃ j : Fin 4, (j : Nat) = k ∧ decode cc pc = .ok (.lload_n j, 1))
  | .aload k => (len = 2 ∧ decode cc pc = .ok (.aload k, 2)) ∨ (len = 1 ∧ ∃ j : Fin 4, (j : Nat) = k ∧ decode cc pc = .ok (.aload_n j, 1))
  | .istore k => (len = 2 ∧ decode cc pc = .ok (.istore k, 2)) ∨ (len = 1 ∧ ∃ j : Fin 4, (j : Nat) = k ∧ decode cc pc = .ok (.istore_n j, 1))
  | .astore k => (len = 2 ∧ decode cc pc = .ok (.astore k, 2)) ∨ (len = 1 ∧ ∃ j : Fin 4, (j : Nat) = k ∧ decode cc pc = .ok (.astore_n j, 1))
  | .fload k => len = 2 ∧ decode cc pc = .ok (.fload k, 2)
  | .dload k => len = 2 ∧ decode cc pc = .ok (.dload k, 2)
  | .fstore k => len = 2 ∧ decode cc pc = .ok (.fstore k, 2)
  | .dstore k => len = 2 ∧ decode cc pc = .ok (.dstore k, 2)
  | .iinc k v => len = 3 ∧ decode cc pc = .ok (.iinc k v, 3)
  | .goto t => len = 3 ∧ (∃ off : Int, (pc : Int) + off = (t.toNat : Int) ∧ decode cc pc = .ok (.goto off, 3)) ∧ TG t.toNat
  | .ifnull t => len = 3 ∧ (∃ off : Int, (pc : Int) + off = (t.toNat : Int) ∧ decode cc pc = .ok (.ifnull off, 3)) ∧ TG t.toNat
  | .ifnonnull t => len = 3 ∧ (∃ off : Int, (pc : Int) + off = (t.toNat : Int) ∧ decode cc pc = .ok (.ifnonnull off, 3)) ∧ TG t.toNat
  | .ifCond z t => len = 3 ∧ (∃ off : Int, (pc : Int) + off = (t.toNat : Int) ∧ decode cc pc = .ok (.ifCond z off, 3)) ∧ TG t.toNat
  | .if_icmp z t => len = 3 ∧ (∃ off : Int, (pc : Int) + off = (t.toNat : Int) ∧ decode cc pc = .ok (.if_icmp z off, 3)) ∧ TG t.toNat
  | .tableswitch d lo hi ts => (∃ (dflt : Int) (offs : Array Int), (pc : Int) + dflt = (d.toNat : Int) ∧ TG d.toNat ∧ (∀ (k : Nat) (t : Int), ts[k]? = some t → TG t.toNat ∧ ∃ off : Int, offs[k]? = some off ∧ (pc : Int) + off = (t.toNat : Int)) ∧ decode cc pc = .ok (.tableswitch dflt lo hi offs, len))
  | .getfield x => len = 3 ∧ ∃ (ix : Nat) (C : String) (T : u_T), m_cok P cl G (x / 64) C T ∧ Cond.fieldLink own ix (T (x % 64)).1 (T (x % 64)).2.1 (T (x % 64)).2.2.1 ∈ G ∧ decode cc pc = .ok (.getfield ix, 3)
  | .putfield x => len = 3 ∧ ∃ (ix : Nat) (C : String) (T : u_T), m_cok P cl G (x / 64) C T ∧ Cond.fieldLink own ix (T (x % 64)).1 (T (x % 64)).2.1 (T (x % 64)).2.2.1 ∈ G ∧ ((T (x % 64)).2.2.2 = false ∨ ((T (x % 64)).2.2.2 = true ∧ ini = true ∧ (T (x % 64)).1 = own)) ∧ decode cc pc = .ok (.putfield ix, 3)
  | .nop => True
  | .newarray .int => len = 2 ∧ Cond.arrayClass .int ∈ G ∧ decode cc pc = .ok (.newarray .int, 2)
  | .newarray .byte => len = 2 ∧ Cond.arrayClass .byte ∈ G ∧ decode cc pc = .ok (.newarray .byte, 2)
  | .newarray .long => len = 2 ∧ Cond.arrayClass .long ∈ G ∧ decode cc pc = .ok (.newarray .long, 2)
  | .newarray .double => len = 2 ∧ Cond.arrayClass .double ∈ G ∧ decode cc pc = .ok (.newarray .double, 2)
  | .new ci => len = 3 ∧ ∃ (ix : Nat) (C : String) (T : u_T), m_cok P cl G ci C T ∧ Cond.classLink own ix C ∈ G ∧ Cond.instantiable C (m_nf P ci) ∈ G ∧ Cond.initialized C ∈ G ∧ decode cc pc = .ok (.new ix, 3)
  | .invokestatic z => len = 3 ∧ ∃ ix : Nat, m_lib G own ix z ∧ decode cc pc = .ok (.invokestatic ix, 3)
  | .invokespecial z => len = 3 ∧ z = 9000 ∧ ∃ ix : Nat, Cond.methodLink own ix Lib.objectInit ∈ G ∧ Cond.instanceMethod Lib.objectInit ∈ G ∧ Cond.code Lib.objectInit ⟨#[0xb1]⟩ 1 none ∈ G ∧ decode cc pc = .ok (.invokespecial ix, 3)
  | _ => False
section STEP
variable {p : Program} {l : Launch} {e : Env} {R : Room} {s : State} {m : MethodId} {args : Array Value} {below : List Frame} {meth : Method} {c : Code} {Q : State → Prop} {P : m_P} {cl : List vw_C} {D : va_G} {cA : Nat → ClassId} {A : Nat → Prop} {xa : Nat × (Nat → Nat)} {nL c0 s0 : Nat} {pc len y : Nat} {is : List Instr} {ls : m_F} {st : List Value} {h : m_H} {cc : ByteArray} {tys : List (ClassId × FieldType)} {G : List Cond} {own : String} {ini : Bool} {TG : Nat → Prop} {AT : Nat → List Instr → Prop} {q : List Instr × m_F × List Value × m_H}
theorem s_iadd (E : m_env p s m args meth c R P cl D cA A tys G own ini nL cc) (hq : m_st P y (.iadd) is ls st h = some (.inl q)) (hm : m_sim P cl G own ini TG cc pc len (.iadd)) (hn : AT (pc + len) is) (k : ∀ pc', AT pc' q.1 → m_go p l e R s m args below meth c Q P cl D cA A xa nL c0 s0 pc' q.2.1 q.2.2.1 q.2.2.2) : m_go p l e R s m args below meth c Q P cl D cA A xa nL c0 s0 pc ls st h := by
  obtain ⟨hx, hb, hml, hown, hts, hK, hA, ⟨hAI, hAB, hAL, hAD⟩, hini, hfr, hlo⟩ := E
  obtain ⟨rfl, hd⟩ := hm
  simp only [m_st, m_nx] at hq
  split at hq
  · cases hq
    exact g_iadd hx hb hd (k _ hn)
  · cases hq
theorem s_isub (E : m_env p s m args meth c R P cl D cA A tys G own ini nL cc) (hq : m_st P y (.isub) is ls st h = some (.inl q)) (hm : m_sim P cl G own ini TG cc pc len (.isub)) (hn : AT (pc + len) is) (k : ∀ pc', AT pc' q.1 → m_go p l e R s m args below meth c Q P cl D cA A xa nL c0 s0 pc' q.2.1 q.2.2.1 q.2.2.2) : m_go p l e R s m args below meth c Q P cl D cA A xa nL c0 s0 pc ls st h := by
  obtain ⟨hx, hb, hml, hown, hts, hK, hA, ⟨hAI, hAB, hAL, hAD⟩, hini, hfr, hlo⟩ := E
  obtain ⟨rfl, hd⟩ := hm
  simp only [m_st, m_nx] at hq
  split at hq
  · cases hq
    exact g_isub hx hb hd (k _ hn)
  · cases hq
theorem s_imul (E : m_env p s m args meth c R P cl D cA A tys G own ini nL cc) (hq : m_st P y (.imul) is ls st h = some (.inl q)) (hm : m_sim P cl G own ini TG cc pc len (.imul)) (hn : AT (pc + len) is) (k : ∀ pc', AT pc' q.1 → m_go p l e R s m args below meth c Q P cl D cA A xa nL c0 s0 pc' q.2.1 q.2.2.1 q.2.2.2) : m_go p l e R s m args below meth c Q P cl D cA A xa nL c0 s0 pc ls st h := by
  obtain ⟨hx, hb, hml, hown, hts, hK, hA, ⟨hAI, hAB, hAL, hAD⟩, hini, hfr, hlo⟩ := E
  obtain ⟨rfl, hd⟩ := hm
  simp only [m_st, m_nx] at hq
  split at hq
  · cases hq
    exact g_imul hx hb hd (k _ hn)
  · cases hq
theorem s_iand (E : m_env p s m args meth c R P cl D cA A tys G own ini nL cc) (hq : m_st P y (.iand) is ls st h = some (.inl q)) (hm : m_sim P cl G own ini TG cc pc len (.iand)) (hn : AT (pc + len) is) (k : ∀ pc', AT pc' q.1 → m_go p l e R s m args below meth c Q P cl D cA A xa nL c0 s0 pc' q.2.1 q.2.2.1 q.2.2.2) : m_go p l e R s m args below meth c Q P cl D cA A xa nL c0 s0 pc ls st h := by
  obtain ⟨hx, hb, hml, hown, hts, hK, hA, ⟨hAI, hAB, hAL, hAD⟩, hini, hfr, hlo⟩ := E
  obtain ⟨rfl, hd⟩ := hm
  simp only [m_st, m_nx] at hq
  split at hq
  · cases hq
    exact g_iand hx hb hd (k _ hn)
  · cases hq
theorem s_ior (E : m_env p s m args meth c R P cl D cA A tys G own ini nL cc) (hq : m_st P y (.ior) is ls st h = some (.inl q)) (hm : m_sim P cl G own ini TG cc pc len (.ior)) (hn : AT (pc + len) is) (k : ∀ pc', AT pc' q.1 → m_go p l e R s m args below meth c Q P cl D cA A xa nL c0 s0 pc' q.2.1 q.2.2.1 q.2.2.2) : m_go p l e R s m args below meth c Q P cl D cA A xa nL c0 s0 pc ls st h := by
  obtain ⟨hx, hb, hml, hown, hts, hK, hA, ⟨hAI, hAB, hAL, hAD⟩, hini, hfr, hlo⟩ := E
  obtain ⟨rfl, hd⟩ := hm
  simp only [m_st, m_nx] at hq
  split at hq
  · cases hq
    exact g_ior hx hb hd (k _ hn)
  · cases hq
theorem s_ishr (E : m_env p s m args meth c R P cl D cA A tys G own ini nL cc) (hq : m_st P y (.ishr) is ls st h = some (.inl q)) (hm : m_sim P cl G own ini TG cc pc len (.ishr)) (hn : AT (pc + len) is) (k : ∀ pc', AT pc' q.1 → m_go p l e R s m args below meth c Q P cl D cA A xa nL c0 s0 pc' q.2.1 q.2.2.1 q.2.2.2) : m_go p l e R s m args below meth c Q P cl D cA A xa nL c0 s0 pc ls st h := by
  obtain ⟨hx, hb, hml, hown, hts, hK, hA, ⟨hAI, hAB, hAL, hAD⟩, hini, hfr, hlo⟩ := E
  obtain ⟨rfl, hd⟩ := hm
  simp only [m_st, m_nx] at hq
  split at hq
  · cases hq
    exact g_ishr hx hb hd (k _ hn)
  · cases hq
theorem s_ladd (E : m_env p s m args meth c R P cl D cA A tys G own ini nL cc) (hq : m_st P y (.ladd) is ls st h = some (.inl q)) (hm : m_sim P cl G own ini TG cc pc len (.ladd)) (hn : AT (pc + len) is) (k : ∀ pc', AT pc' q.1 → m_go p l e R s m args below meth c Q P cl D cA A xa nL c0 s0 pc' q.2.1 q.2.2.1 q.2.2.2) : m_go p l e R s m args below meth c Q P cl D cA A xa nL c0 s0 pc ls st h := by
  obtain ⟨hx, hb, hml, hown, hts, hK, hA, ⟨hAI, hAB, hAL, hAD⟩, hini, hfr, hlo⟩ := E
  obtain ⟨rfl, hd⟩ := hm
  simp only [m_st, m_nx] at hq
  split at hq
  · cases hq
    exact g_ladd hx hb hd (k _ hn)
  · cases hq
theorem s_lsub (E : m_env p s m args meth c R P cl D cA A tys G own ini nL cc) (hq : m_st P y (.lsub) is ls st h = some (.inl q)) (hm : m_sim P cl G own ini TG cc pc len (.lsub)) (hn : AT (pc + len) is) (k : ∀ pc', AT pc' q.1 → m_go p l e R s m args below meth c Q P cl D cA A xa nL c0 s0 pc' q.2.1 q.2.2.1 q.2.2.2) : m_go p l e R s m args below meth c Q P cl D cA A xa nL c0 s0 pc ls st h := by
  obtain ⟨hx, hb, hml, hown, hts, hK, hA, ⟨hAI, hAB, hAL, hAD⟩, hini, hfr, hlo⟩ := E
  obtain ⟨rfl, hd⟩ := hm
  simp only [m_st, m_nx] at hq
  split at hq
  · cases hq
    exact g_lsub hx hb hd (k _ hn)
  · cases hq
theorem s_lmul (E : m_env p s m args meth c R P cl D cA A tys G own ini nL cc) (hq : m_st P y (.lmul) is ls st h = some (.inl q)) (hm : m_sim P cl G own ini TG cc pc len (.lmul)) (hn : AT (pc + len) is) (k : ∀ pc', AT pc' q.1 → m_go p l e R s m args below meth c Q P cl D cA A xa nL c0 s0 pc' q.2.1 q.2.2.1 q.2.2.2) : m_go p l e R s m args below meth c Q P cl D cA A xa nL c0 s0 pc ls st h := by
  obtain ⟨hx, hb, hml, hown, hts, hK, hA, ⟨hAI, hAB, hAL, hAD⟩, hini, hfr, hlo⟩ := E
  obtain ⟨rfl, hd⟩ := hm
  simp only [m_st, m_nx] at hq
  split at hq
  · cases hq
    exact g_lmul hx hb hd (k _ hn)
  · cases hq
theorem s_lcmp (E : m_env p s m args meth c R P cl D cA A tys G own ini nL cc) (hq : m_st P y (.lcmp) is ls st h = some (.inl q)) (hm : m_sim P cl G own ini TG cc pc len (.lcmp)) (hn : AT (pc + len) is) (k : ∀ pc', AT pc' q.1 → m_go p l e R s m args below meth c Q P cl D cA A xa nL c0 s0 pc' q.2.1 q.2.2.1 q.2.2.2) : m_go p l e R s m args below meth c Q P cl D cA A xa nL c0 s0 pc ls st h := by
  obtain ⟨hx, hb, hml, hown, hts, hK, hA, ⟨hAI, hAB, hAL, hAD⟩, hini, hfr, hlo⟩ := E
  obtain ⟨rfl, hd⟩ := hm
  simp only [m_st, m_nx] at hq
  split at hq
  · cases hq
    exact g_lcmp hx hb hd (k _ hn)
  · cases hq
theorem s_i2b (E : m_env p s m args meth c R P cl D cA A tys G own ini nL cc) (hq : m_st P y (.i2b) is ls st h = some (.inl q)) (hm : m_sim P cl G own ini TG cc pc len (.i2b)) (hn : AT (pc + len) is) (k : ∀ pc', AT pc' q.1 → m_go p l e R s m args below meth c Q P cl D cA A xa nL c0 s0 pc' q.2.1 q.2.2.1 q.2.2.2) : m_go p l e R s m args below meth c Q P cl D cA A xa nL c0 s0 pc ls st h := by
  obtain ⟨hx, hb, hml, hown, hts, hK, hA, ⟨hAI, hAB, hAL, hAD⟩, hini, hfr, hlo⟩ := E
  obtain ⟨rfl, hd⟩ := hm
  simp only [m_st, m_nx] at hq
  split at hq
  · cases hq
    exact g_i2b hx hb hd (k _ hn)
  · cases hq
theorem s_i2l (E : m_env p s m args meth c R P cl D cA A tys G own ini nL cc) (hq : m_st P y (.i2l) is ls st h = some (.inl q)) (hm : m_sim P cl G own ini TG cc pc len (.i2l)) (hn : AT (pc + len) is) (k : ∀ pc', AT pc' q.1 → m_go p l e R s m args below meth c Q P cl D cA A xa nL c0 s0 pc' q.2.1 q.2.2.1 q.2.2.2) : m_go p l e R s m args below meth c Q P cl D cA A xa nL c0 s0 pc ls st h := by
  obtain ⟨hx, hb, hml, hown, hts, hK, hA, ⟨hAI, hAB, hAL, hAD⟩, hini, hfr, hlo⟩ := E
  obtain ⟨rfl, hd⟩ := hm
  simp only [m_st, m_nx] at hq
  split at hq
  · cases hq
    exact g_i2l hx hb hd (k _ hn)
  · cases hq
theorem s_i2d (E : m_env p s m args meth c R P cl D cA A tys G own ini nL cc) (hq : m_st P y (.i2d) is ls st h = some (.inl q)) (hm : m_sim P cl G own ini TG cc pc len (.i2d)) (hn : AT (pc + len) is) (k : ∀ pc', AT pc' q.1 → m_go p l e R s m args below meth c Q P cl D cA A xa nL c0 s0 pc' q.2.1 q.2.2.1 q.2.2.2) : m_go p l e R s m args below meth c Q P cl D cA A xa nL c0 s0 pc ls st h := by
  obtain ⟨hx, hb, hml, hown, hts, hK, hA, ⟨hAI, hAB, hAL, hAD⟩, hini, hfr, hlo⟩ := E
  obtain ⟨rfl, hd⟩ := hm
  simp only [m_st, m_nx] at hq
  split at hq
  · cases hq
    exact g_i2d hx hb hd (k _ hn)
  · cases hq
theorem s_i2f (E : m_env p s m args meth c R P cl D cA A tys G own ini nL cc) (hq : m_st P y (.i2f) is ls st h = some (.inl q)) (hm : m_sim P cl G own ini TG cc pc len (.i2f)) (hn : AT (pc + len) is) (k : ∀ pc', AT pc' q.1 → m_go p l e R s m args below meth c Q P cl D cA A xa nL c0 s0 pc' q.2.1 q.2.2.1 q.2.2.2) : m_go p l e R s m args below meth c Q P cl D cA A xa nL c0 s0 pc ls st h := by
  obtain ⟨hx, hb, hml, hown, hts, hK, hA, ⟨hAI, hAB, hAL, hAD⟩, hini, hfr, hlo⟩ := E
  obtain ⟨rfl, hd⟩ := hm
  simp only [m_st, m_nx] at hq
  split at hq
  · cases hq
    exact g_i2f hx hb hd (k _ hn)
  · cases hq
theorem s_aconst_null (E : m_env p s m args meth c R P cl D cA A tys G own ini nL cc) (hq : m_st P y (.aconst_null) is ls st h = some (.inl q)) (hm : m_sim P cl G own ini TG cc pc len (.aconst_null)) (hn : AT (pc + len) is) (k : ∀ pc', AT pc' q.1 → m_go p l e R s m args below meth c Q P cl D cA A xa nL c0 s0 pc' q.2.1 q.2.2.1 q.2.2.2) : m_go p l e R s m args below meth c Q P cl D cA A xa nL c0 s0 pc ls st h := by
  obtain ⟨hx, hb, hml, hown, hts, hK, hA, ⟨hAI, hAB, hAL, hAD⟩, hini, hfr, hlo⟩ := E
  obtain ⟨rfl, hd⟩ := hm
  cases hq
  exact g_null hx hb hd (k _ hn)
theorem s_idiv (E : m_env p s m args meth c R P cl D cA A tys G own ini nL cc) (hq : m_st P y (.idiv) is ls st h = some (.inl q)) (hm : m_sim P cl G own ini TG cc pc len (.idiv)) (hn : AT (pc + len) is) (k : ∀ pc', AT pc' q.1 → m_go p l e R s m args below meth c Q P cl D cA A xa nL c0 s0 pc' q.2.1 q.2.2.1 q.2.2.2) : m_go p l e R s m args below meth c Q P cl D cA A xa nL c0 s0 pc ls st h := by
  obtain ⟨hx, hb, hml, hown, hts, hK, hA, ⟨hAI, hAB, hAL, hAD⟩, hini, hfr, hlo⟩ := E
  obtain ⟨rfl, hd⟩ := hm
  simp only [m_st, m_nx] at hq
  split at hq
  · split at hq
    · first | (cases hq; done) | (next z => cases hq; exact g_idiv hx hb z hd (k _ hn))
    · first | (cases hq; done) | (next z => cases hq; exact g_idiv hx hb z hd (k _ hn))
  · cases hq
theorem s_irem (E : m_env p s m args meth c R P cl D cA A tys G own ini nL cc) (hq : m_st P y (.irem) is ls st h = some (.inl q)) (hm : m_sim P cl G own ini TG cc pc len (.irem)) (hn : AT (pc + len) is) (k : ∀ pc', AT pc' q.1 → m_go p l e R s m args below meth c Q P cl D cA A xa nL c0 s0 pc' q.2.1 q.2.2.1 q.2.2.2) : m_go p l e R s m args below meth c Q P cl D cA A xa nL c0 s0 pc ls st h := by
  obtain ⟨hx, hb, hml, hown, hts, hK, hA, ⟨hAI, hAB, hAL, hAD⟩, hini, hfr, hlo⟩ := E
  obtain ⟨rfl, hd⟩ := hm
  simp only [m_st, m_nx] at hq
  split at hq
  · split at hq
    · first | (cases hq; done) | (next z => cases hq; exact g_irem hx hb z hd (k _ hn))
    · first | (cases hq; done) | (next z => cases hq; exact g_irem hx hb z hd (k _ hn))
  · cases hq
theorem s_ddiv (E : m_env p s m args meth c R P cl D cA A tys G own ini nL cc) (hq : m_st P y (.ddiv) is ls st h = some (.inl q)) (hm : m_sim P cl G own ini TG cc pc len (.ddiv)) (hn : AT (pc + len) is) (k : ∀ pc', AT pc' q.1 → m_go p l e R s m args below meth c Q P cl D cA A xa nL c0 s0 pc' q.2.1 q.2.2.1 q.2.2.2) : m_go p l e R s m args below meth c Q P cl D cA A xa nL c0 s0 pc ls st h := by
  obtain ⟨hx, hb, hml, hown, hts, hK, hA, ⟨hAI, hAB, hAL, hAD⟩, hini, hfr, hlo⟩ := E
  obtain ⟨rfl, hd⟩ := hm
  simp only [m_st, m_nx] at hq
  split at hq
  · split at hq
    · first | (cases hq; done) | (next z => cases hq; exact g_ddiv hx hb z hd (k _ hn))
    · first | (cases hq; done) | (next z => cases hq; exact g_ddiv hx hb z hd (k _ hn))
  · cases hq
theorem s_fdiv (E : m_env p s m args meth c R P cl D cA A tys G own ini nL cc) (hq : m_st P y (.fdiv) is ls st h = some (.inl q)) (hm : m_sim P cl G own ini TG cc pc len (.fdiv)) (hn : AT (pc + len) is) (k : ∀ pc', AT pc' q.1 → m_go p l e R s m args below meth c Q P cl D cA A xa nL c0 s0 pc' q.2.1 q.2.2.1 q.2.2.2) : m_go p l e R s m args below meth c Q P cl D cA A xa nL c0 s0 pc ls st h := by
  obtain ⟨hx, hb, hml, hown, hts, hK, hA, ⟨hAI, hAB, hAL, hAD⟩, hini, hfr, hlo⟩ := E
  obtain ⟨rfl, hd⟩ := hm
  simp only [m_st, m_nx] at hq
  split at hq
  · split at hq
    · first | (cases hq; done) | (next z => cases hq; exact g_fdiv hx hb z hd (k _ hn))
    · first | (cases hq; done) | (next z => cases hq; exact g_fdiv hx hb z hd (k _ hn))
  · cases hq
theorem s_f2d (E : m_env p s m args meth c R P cl D cA A tys G own ini nL cc) (hq : m_st P y (.f2d) is ls st h = some (.inl q)) (hm : m_sim P cl G own ini TG cc pc len (.f2d)) (hn : AT (pc + len) is) (k : ∀ pc', AT pc' q.1 → m_go p l e R s m args below meth c Q P cl D cA A xa nL c0 s0 pc' q.2.1 q.2.2.1 q.2.2.2) : m_go p l e R s m args below meth c Q P cl D cA A xa nL c0 s0 pc ls st h := by
  obtain ⟨hx, hb, hml, hown, hts, hK, hA, ⟨hAI, hAB, hAL, hAD⟩, hini, hfr, hlo⟩ := E
  obtain ⟨rfl, hd⟩ := hm
  simp only [m_st, m_nx] at hq
  split at hq
  · split at hq
    · first | (cases hq; done) | (next z => cases hq; exact g_f2d hx hb z hd (k _ hn))
    · first | (cases hq; done) | (next z => cases hq; exact g_f2d hx hb z hd (k _ hn))
  · cases hq
theorem s_d2f (E : m_env p s m args meth c R P cl D cA A tys G own ini nL cc) (hq : m_st P y (.d2f) is ls st h = some (.inl q)) (hm : m_sim P cl G own ini TG cc pc len (.d2f)) (hn : AT (pc + len) is) (k : ∀ pc', AT pc' q.1 → m_go p l e R s m args below meth c Q P cl D cA A xa nL c0 s0 pc' q.2.1 q.2.2.1 q.2.2.2) : m_go p l e R s m args below meth c Q P cl D cA A xa nL c0 s0 pc ls st h := by
  obtain ⟨hx, hb, hml, hown, hts, hK, hA, ⟨hAI, hAB, hAL, hAD⟩, hini, hfr, hlo⟩ := E
  obtain ⟨rfl, hd⟩ := hm
  simp only [m_st, m_nx] at hq
  split at hq
  · split at hq
    · first | (cases hq; done) | (next z => cases hq; exact g_d2f hx hb z hd (k _ hn))
    · first | (cases hq; done) | (next z => cases hq; exact g_d2f hx hb z hd (k _ hn))
  · cases hq
theorem s_dup (E : m_env p s m args meth c R P cl D cA A tys G own ini nL cc) (hq : m_st P y (.dup) is ls st h = some (.inl q)) (hm : m_sim P cl G own ini TG cc pc len (.dup)) (hn : AT (pc + len) is) (k : ∀ pc', AT pc' q.1 → m_go p l e R s m args below meth c Q P cl D cA A xa nL c0 s0 pc' q.2.1 q.2.2.1 q.2.2.2) : m_go p l e R s m args below meth c Q P cl D cA A xa nL c0 s0 pc ls st h := by
  obtain ⟨hx, hb, hml, hown, hts, hK, hA, ⟨hAI, hAB, hAL, hAD⟩, hini, hfr, hlo⟩ := E
  obtain ⟨rfl, hd⟩ := hm
  simp only [m_st, m_nx] at hq
  split at hq
  · split at hq
    · first | (cases hq; done) | (next z => cases hq; exact g_dup hx hb z hd (k _ hn))
    · first | (cases hq; done) | (next z => cases hq; exact g_dup hx hb z hd (k _ hn))
  · cases hq
theorem s_pop (E : m_env p s m args meth c R P cl D cA A tys G own ini nL cc) (hq : m_st P y (.pop) is ls st h = some (.inl q)) (hm : m_sim P cl G own ini TG cc pc len (.pop)) (hn : AT (pc + len) is) (k : ∀ pc', AT pc' q.1 → m_go p l e R s m args below meth c Q P cl D cA A xa nL c0 s0 pc' q.2.1 q.2.2.1 q.2.2.2) : m_go p l e R s m args below meth c Q P cl D cA A xa nL c0 s0 pc ls st h := by
  obtain ⟨hx, hb, hml, hown, hts, hK, hA, ⟨hAI, hAB, hAL, hAD⟩, hini, hfr, hlo⟩ := E
  obtain ⟨rfl, hd⟩ := hm
  simp only [m_st, m_nx] at hq
  split at hq
  · split at hq
    · first | (cases hq; done) | (next z => cases hq; exact g_pop hx hb z hd (k _ hn))
    · first | (cases hq; done) | (next z => cases hq; exact g_pop hx hb z hd (k _ hn))
  · cases hq
theorem s_dup2 (E : m_env p s m args meth c R P cl D cA A tys G own ini nL cc) (hq : m_st P y (.dup2) is ls st h = some (.inl q)) (hm : m_sim P cl G own ini TG cc pc len (.dup2)) (hn : AT (pc + len) is) (k : ∀ pc', AT pc' q.1 → m_go p l e R s m args below meth c Q P cl D cA A xa nL c0 s0 pc' q.2.1 q.2.2.1 q.2.2.2) : m_go p l e R s m args below meth c Q P cl D cA A xa nL c0 s0 pc ls st h := by
  obtain ⟨hx, hb, hml, hown, hts, hK, hA, ⟨hAI, hAB, hAL, hAD⟩, hini, hfr, hlo⟩ := E
  obtain ⟨rfl, hd⟩ := hm
  simp only [m_st, m_nx] at hq
  split at hq
  · split at hq
    · next z => cases hq; exact g_dup2 hx hb z.1 z.2 hd (k _ hn)
    · cases hq
  · cases hq
theorem s_dcmp {op : CmpOp} (E : m_env p s m args meth c R P cl D cA A tys G own ini nL cc) (hq : m_st P y (.dcmp op) is ls st h = some (.inl q)) (hm : m_sim P cl G own ini TG cc pc len (.dcmp op)) (hn : AT (pc + len) is) (k : ∀ pc', AT pc' q.1 → m_go p l e R s m args below meth c Q P cl D cA A xa nL c0 s0 pc' q.2.1 q.2.2.1 q.2.2.2) : m_go p l e R s m args below meth c Q P cl D cA A xa nL c0 s0 pc ls st h := by
  obtain ⟨hx, hb, -⟩ := E
  obtain ⟨rfl, hd⟩ := hm
  simp only [m_st, m_nx] at hq
  split at hq
  · cases hq
    exact g_dcmp hx hb hd (k _ hn)
  · cases hq
theorem s_fcmp {op : CmpOp} (E : m_env p s m args meth c R P cl D cA A tys G own ini nL cc) (hq : m_st P y (.fcmp op) is ls st h = some (.inl q)) (hm : m_sim P cl G own ini TG cc pc len (.fcmp op)) (hn : AT (pc + len) is) (k : ∀ pc', AT pc' q.1 → m_go p l e R s m args below meth c Q P cl D cA A xa nL c0 s0 pc' q.2.1 q.2.2.1 q.2.2.2) : m_go p l e R s m args below meth c Q P cl D cA A xa nL c0 s0 pc ls st h := by
  obtain ⟨hx, hb, -⟩ := E
  obtain ⟨rfl, hd⟩ := hm
  simp only [m_st, m_nx] at hq
  split at hq
  · cases hq
    exact g_fcmp hx hb hd (k _ hn)
  · cases hq
theorem s_fconst {z : Fin 3} (E : m_env p s m args meth c R P cl D cA A tys G own ini nL cc) (hq : m_st P y (.fconst z) is ls st h = some (.inl q)) (hm : m_sim P cl G own ini TG cc pc len (.fconst z)) (hT : ∀ t, TG t → AT t (m_tg P y t)) (hn : AT (pc + len) is) (k : ∀ pc', AT pc' q.1 → m_go p l e R s m args below meth c Q P cl D cA A xa nL c0 s0 pc' q.2.1 q.2.2.1 q.2.2.2) : m_go p l e R s m args below meth c Q P cl D cA A xa nL c0 s0 pc ls st h := by
  obtain ⟨hx, hb, hml, hown, hts, hK, hA, ⟨hAI, hAB, hAL, hAD⟩, hini, hfr, hlo⟩ := E
  obtain ⟨rfl, rfl, hd⟩ := hm
  cases hq
  exact g_fconst hx hb hd (k _ hn)
theorem s_dconst {z : Fin 2} (E : m_env p s m args meth c R P cl D cA A tys G own ini nL cc) (hq : m_st P y (.dconst z) is ls st h = some (.inl q)) (hm : m_sim P cl G own ini TG cc pc len (.dconst z)) (hT : ∀ t, TG t → AT t (m_tg P y t)) (hn : AT (pc + len) is) (k : ∀ pc', AT pc' q.1 → m_go p l e R s m args below meth c Q P cl D cA A xa nL c0 s0 pc' q.2.1 q.2.2.1 q.2.2.2) : m_go p l e R s m args below meth c Q P cl D cA A xa nL c0 s0 pc ls st h := by
  obtain ⟨hx, hb, hml, hown, hts, hK, hA, ⟨hAI, hAB, hAL, hAD⟩, hini, hfr, hlo⟩ := E
  obtain ⟨rfl, ⟨rfl, hd⟩ | ⟨rfl, hd⟩⟩ := hm
  · cases hq
    exact g_dconst0 hx hb hd (k _ hn)
  · cases hq
    exact g_dconst1 hx hb hd (k _ hn)
theorem s_iconst {v : Int} (E : m_env p s m args meth c R P cl D cA A tys G own ini nL cc) (hq : m_st P y (.iconst v) is ls st h = some (.inl q)) (hm : m_sim P cl G own ini TG cc pc len (.iconst v)) (hT : ∀ t, TG t → AT t (m_tg P y t)) (hn : AT (pc + len) is) (k : ∀ pc', AT pc' q.1 → m_go p l e R s m args below meth c Q P cl D cA A xa nL c0 s0 pc' q.2.1 q.2.2.1 q.2.2.2) : m_go p l e R s m args below meth c Q P cl D cA A xa nL c0 s0 pc ls st h := by
  obtain ⟨hx, hb, hml, hown, hts, hK, hA, ⟨hAI, hAB, hAL, hAD⟩, hini, hfr, hlo⟩ := E
  cases hq
  rcases hm with ⟨rfl, n, hv, hd⟩ | ⟨rfl, n, hv, hd⟩ | ⟨rfl, n, hv, hd⟩ | ⟨rfl, n, hv, hd⟩ | ⟨rfl, n, hv, hd⟩
  · exact g_iconst hx hb hv hd (k _ hn)
  · exact g_bipush hx hb hv hd (k _ hn)
  · exact g_sipush hx hb hv hd (k _ hn)
  · exact g_ldc hx hb hown (hts _ hv) hd (k _ hn)
  · exact g_ldcw hx hb hown (hts _ hv) hd (k _ hn)
theorem s_ldc2_w {v : Nat} (E : m_env p s m args meth c R P cl D cA A tys G own ini nL cc) (hq : m_st P y (.ldc2_w v) is ls st h = some (.inl q)) (hm : m_sim P cl G own ini TG cc pc len (.ldc2_w v)) (hT : ∀ t, TG t → AT t (m_tg P y t)) (hn : AT (pc + len) is) (k : ∀ pc', AT pc' q.1 → m_go p l e R s m args below meth c Q P cl D cA A xa nL c0 s0 pc' q.2.1 q.2.2.1 q.2.2.2) : m_go p l e R s m args below meth c Q P cl D cA A xa nL c0 s0 pc ls st h := by
  obtain ⟨hx, hb, hml, hown, hts, hK, hA, ⟨hAI, hAB, hAL, hAD⟩, hini, hfr, hlo⟩ := E
  cases hq
  rcases hm with ⟨rfl, n, hv, hd⟩ | ⟨rfl, n, hv, hd⟩
  · exact g_lconst hx hb hv hd (k _ hn)
  · exact g_ldc2 hx hb hown (hts _ hv) hd (k _ hn)
theorem s_iload {v : Nat} (E : m_env p s m args meth c R P cl D cA A tys G own ini nL cc) (hq : m_st P y (.iload v) is ls st h = some (.inl q)) (hm : m_sim P cl G own ini TG cc pc len (.iload v)) (hT : ∀ t, TG t → AT t (m_tg P y t)) (hn : AT (pc + len) is) (k : ∀ pc', AT pc' q.1 → m_go p l e R s m args below meth c Q P cl D cA A xa nL c0 s0 pc' q.2.1 q.2.2.1 q.2.2.2) : m_go p l e R s m args below meth c Q P cl D cA A xa nL c0 s0 pc ls st h := by
  obtain ⟨hx, hb, hml, hown, hts, hK, hA, ⟨hAI, hAB, hAL, hAD⟩, hini, hfr, hlo⟩ := E
  simp only [m_st, m_nx] at hq
  split at hq
  · next x hv =>
    cases hq
    rcases hm with ⟨rfl, hd⟩ | ⟨rfl, j, rfl, hd⟩
    · exact g_iload hx hb hv hd (k _ hn)
    · exact g_iload_n hx hb hv hd (k _ hn)
  · cases hq
theorem s_lload {v : Nat} (E : m_env p s m args meth c R P cl D cA A tys G own ini nL cc) (hq : m_st P y (.lload v) is ls st h = some (.inl q)) (hm : m_sim P cl G own ini TG cc pc len (.lload v)) (hT : ∀ t, TG t → AT t (m_tg P y t)) (hn : AT (pc + len) is) (k : ∀ pc', AT pc' q.1 → m_go p l e R s m args below meth c Q P cl D cA A xa nL c0 s0 pc' q.2.1 q.2.2.1 q.2.2.2) : m_go p l e R s m args below meth c Q P cl D cA A xa nL c0 s0 pc ls st h := by
  obtain ⟨hx, hb, hml, hown, hts, hK, hA, ⟨hAI, hAB, hAL, hAD⟩, hini, hfr, hlo⟩ := E
  simp only [m_st, m_nx] at hq
  split at hq
  · next x hv =>
    cases hq
    rcases hm with ⟨rfl, hd⟩ | ⟨rfl, j, rfl, hd⟩
    · exact g_lload hx hb hv hd (k _ hn)
    · exact g_lload_n hx hb hv hd (k _ hn)
  · cases hq
theorem s_fload {v : Nat} (E : m_env p s m args meth c R P cl D cA A tys G own ini nL cc) (hq : m_st P y (.fload v) is ls st h = some (.inl q)) (hm : m_sim P cl G own ini TG cc pc len (.fload v)) (hT : ∀ t, TG t → AT t (m_tg P y t)) (hn : AT (pc + len) is) (k : ∀ pc', AT pc' q.1 → m_go p l e R s m args below meth c Q P cl D cA A xa nL c0 s0 pc' q.2.1 q.2.2.1 q.2.2.2) : m_go p l e R s m args below meth c Q P cl D cA A xa nL c0 s0 pc ls st h := by
  obtain ⟨hx, hb, hml, hown, hts, hK, hA, ⟨hAI, hAB, hAL, hAD⟩, hini, hfr, hlo⟩ := E
  obtain ⟨rfl, hd⟩ := hm
  simp only [m_st, m_nx] at hq
  split at hq
  · next x hv =>
    cases hq
    exact g_fload hx hb hv hd (k _ hn)
  · cases hq
theorem s_dload {v : Nat} (E : m_env p s m args meth c R P cl D cA A tys G own ini nL cc) (hq : m_st P y (.dload v) is ls st h = some (.inl q)) (hm : m_sim P cl G own ini TG cc pc len (.dload v)) (hT : ∀ t, TG t → AT t (m_tg P y t)) (hn : AT (pc + len) is) (k : ∀ pc', AT pc' q.1 → m_go p l e R s m args below meth c Q P cl D cA A xa nL c0 s0 pc' q.2.1 q.2.2.1 q.2.2.2) : m_go p l e R s m args below meth c Q P cl D cA A xa nL c0 s0 pc ls st h := by
  obtain ⟨hx, hb, hml, hown, hts, hK, hA, ⟨hAI, hAB, hAL, hAD⟩, hini, hfr, hlo⟩ := E
  obtain ⟨rfl, hd⟩ := hm
  simp only [m_st, m_nx] at hq
  split at hq
  · next x hv =>
    cases hq
    exact g_dload hx hb hv hd (k _ hn)
  · cases hq
theorem s_aload {v : Nat} (E : m_env p s m args meth c R P cl D cA A tys G own ini nL cc) (hq : m_st P y (.aload v) is ls st h = some (.inl q)) (hm : m_sim P cl G own ini TG cc pc len (.aload v)) (hT : ∀ t, TG t → AT t (m_tg P y t)) (hn : AT (pc + len) is) (k : ∀ pc', AT pc' q.1 → m_go p l e R s m args below meth c Q P cl D cA A xa nL c0 s0 pc' q.2.1 q.2.2.1 q.2.2.2) : m_go p l e R s m args below meth c Q P cl D cA A xa nL c0 s0 pc ls st h := by
  obtain ⟨hx, hb, hml, hown, hts, hK, hA, ⟨hAI, hAB, hAL, hAD⟩, hini, hfr, hlo⟩ := E
  simp only [m_st, m_nx] at hq
  split at hq
  · next x hv =>
    cases hq
    rcases hm with ⟨rfl, hd⟩ | ⟨rfl, j, rfl, hd⟩
    · exact g_aload hx hb hv hd (k _ hn)
    · exact g_aload_n hx hb hv hd (k _ hn)
  · next hv =>
    cases hq
    rcases hm with ⟨rfl, hd⟩ | ⟨rfl, j, rfl, hd⟩
    · exact g_aloadN hx hb hv hd (k _ hn)
    · exact g_aload_nN hx hb hv hd (k _ hn)
  · cases hq
theorem s_istore {v : Nat} (E : m_env p s m args meth c R P cl D cA A tys G own ini nL cc) (hq : m_st P y (.istore v) is ls st h = some (.inl q)) (hm : m_sim P cl G own ini TG cc pc len (.istore v)) (hT : ∀ t, TG t → AT t (m_tg P y t)) (hn : AT (pc + len) is) (k : ∀ pc', AT pc' q.1 → m_go p l e R s m args below meth c Q P cl D cA A xa nL c0 s0 pc' q.2.1 q.2.2.1 q.2.2.2) : m_go p l e R s m args below meth c Q P cl D cA A xa nL c0 s0 pc ls st h := by
  obtain ⟨hx, hb, hml, hown, hts, hK, hA, ⟨hAI, hAB, hAL, hAD⟩, hini, hfr, hlo⟩ := E
  simp only [m_st, m_nx] at hq
  split at hq
  · split at hq
    · next z =>
      cases hq
      rcases hm with ⟨rfl, hd⟩ | ⟨rfl, j, rfl, hd⟩
      · exact g_istore hx hb z.1 z.2 hd (k _ hn)
      · exact g_istore_n hx hb z.1 z.2 hd (k _ hn)
    · cases hq
  · cases hq
theorem s_fstore {v : Nat} (E : m_env p s m args meth c R P cl D cA A tys G own ini nL cc) (hq : m_st P y (.fstore v) is ls st h = some (.inl q)) (hm : m_sim P cl G own ini TG cc pc len (.fstore v)) (hT : ∀ t, TG t → AT t (m_tg P y t)) (hn : AT (pc + len) is) (k : ∀ pc', AT pc' q.1 → m_go p l e R s m args below meth c Q P cl D cA A xa nL c0 s0 pc' q.2.1 q.2.2.1 q.2.2.2) : m_go p l e R s m args below meth c Q P cl D cA A xa nL c0 s0 pc ls st h := by
  obtain ⟨hx, hb, hml, hown, hts, hK, hA, ⟨hAI, hAB, hAL, hAD⟩, hini, hfr, hlo⟩ := E
  obtain ⟨rfl, hd⟩ := hm
  simp only [m_st, m_nx] at hq
  split at hq
  · split at hq
    · next z =>
      cases hq
      exact g_fstore hx hb z.1 z.2 hd (k _ hn)
    · cases hq
  · cases hq
theorem s_dstore {v : Nat} (E : m_env p s m args meth c R P cl D cA A tys G own ini nL cc) (hq : m_st P y (.dstore v) is ls st h = some (.inl q)) (hm : m_sim P cl G own ini TG cc pc len (.dstore v)) (hT : ∀ t, TG t → AT t (m_tg P y t)) (hn : AT (pc + len) is) (k : ∀ pc', AT pc' q.1 → m_go p l e R s m args below meth c Q P cl D cA A xa nL c0 s0 pc' q.2.1 q.2.2.1 q.2.2.2) : m_go p l e R s m args below meth c Q P cl D cA A xa nL c0 s0 pc ls st h := by
  obtain ⟨hx, hb, hml, hown, hts, hK, hA, ⟨hAI, hAB, hAL, hAD⟩, hini, hfr, hlo⟩ := E
  obtain ⟨rfl, hd⟩ := hm
  simp only [m_st, m_nx] at hq
  split at hq
  · split at hq
    · next z =>
      cases hq
      exact g_dstore hx hb z.1 z.2 hd (k _ hn)
    · cases hq
  · cases hq
theorem s_astore {v : Nat} (E : m_env p s m args meth c R P cl D cA A tys G own ini nL cc) (hq : m_st P y (.astore v) is ls st h = some (.inl q)) (hm : m_sim P cl G own ini TG cc pc len (.astore v)) (hT : ∀ t, TG t → AT t (m_tg P y t)) (hn : AT (pc + len) is) (k : ∀ pc', AT pc' q.1 → m_go p l e R s m args below meth c Q P cl D cA A xa nL c0 s0 pc' q.2.1 q.2.2.1 q.2.2.2) : m_go p l e R s m args below meth c Q P cl D cA A xa nL c0 s0 pc ls st h := by
  obtain ⟨hx, hb, hml, hown, hts, hK, hA, ⟨hAI, hAB, hAL, hAD⟩, hini, hfr, hlo⟩ := E
  simp only [m_st, m_nx] at hq
  split at hq
  · split at hq
    · next z =>
      cases hq
      rcases hm with ⟨rfl, hd⟩ | ⟨rfl, j, rfl, hd⟩
      · exact g_astore hx hb z.1 z.2 hd (k _ hn)
      · exact g_astore_n hx hb z.1 z.2 hd (k _ hn)
    · cases hq
  · split at hq
    · next z =>
      cases hq
      rcases hm with ⟨rfl, hd⟩ | ⟨rfl, j, rfl, hd⟩
      · exact g_astoreN hx hb z.1 z.2 hd (k _ hn)
      · exact g_astore_nN hx hb z.1 z.2 hd (k _ hn)
    · cases hq
  · cases hq
theorem s_iinc {v : Nat} {w : Int} (E : m_env p s m args meth c R P cl D cA A tys G own ini nL cc) (hq : m_st P y (.iinc v w) is ls st h = some (.inl q)) (hm : m_sim P cl G own ini TG cc pc len (.iinc v w)) (hT : ∀ t, TG t → AT t (m_tg P y t)) (hn : AT (pc + len) is) (k : ∀ pc', AT pc' q.1 → m_go p l e R s m args below meth c Q P cl D cA A xa nL c0 s0 pc' q.2.1 q.2.2.1 q.2.2.2) : m_go p l e R s m args below meth c Q P cl D cA A xa nL c0 s0 pc ls st h := by
  obtain ⟨hx, hb, hml, hown, hts, hK, hA, ⟨hAI, hAB, hAL, hAD⟩, hini, hfr, hlo⟩ := E
  obtain ⟨rfl, hd⟩ := hm
  simp only [m_st, m_nx] at hq
  split at hq
  · next x hv =>
    split at hq
    · next z =>
      cases hq
      exact g_iinc hx hb z hv hd (k _ hn)
    · cases hq
  · cases hq
theorem s_goto {t : Int} (E : m_env p s m args meth c R P cl D cA A tys G own ini nL cc) (hq : m_st P y (.goto t) is ls st h = some (.inl q)) (hm : m_sim P cl G own ini TG cc pc len (.goto t)) (hT : ∀ t, TG t → AT t (m_tg P y t)) (hn : AT (pc + len) is) (k : ∀ pc', AT pc' q.1 → m_go p l e R s m args below meth c Q P cl D cA A xa nL c0 s0 pc' q.2.1 q.2.2.1 q.2.2.2) : m_go p l e R s m args below meth c Q P cl D cA A xa nL c0 s0 pc ls st h := by
  obtain ⟨hx, hb, hml, hown, hts, hK, hA, ⟨hAI, hAB, hAL, hAD⟩, hini, hfr, hlo⟩ := E
  obtain ⟨rfl, ⟨off, ht, hd⟩, htg⟩ := hm
  cases hq
  exact g_goto hx hb hd ht (k _ (hT _ htg))
theorem s_ifCond {z : Jvm.ClassFile.Cond} {t : Int} (E : m_env p s m args meth c R P cl D cA A tys G own ini nL cc) (hq : m_st P y (.ifCond z t) is ls st h = some (.inl q)) (hm : m_sim P cl G own ini TG cc pc len (.ifCond z t)) (hT : ∀ t, TG t → AT t (m_tg P y t)) (hn : AT (pc + len) is) (k : ∀ pc', AT pc' q.1 → m_go p l e R s m args below meth c Q P cl D cA A xa nL c0 s0 pc' q.2.1 q.2.2.1 q.2.2.2) : m_go p l e R s m args below meth c Q P cl D cA A xa nL c0 s0 pc ls st h := by
  obtain ⟨hx, hb, hml, hown, hts, hK, hA, ⟨hAI, hAB, hAL, hAD⟩, hini, hfr, hlo⟩ := E
  obtain ⟨rfl, ⟨off, ht, hd⟩, htg⟩ := hm
  simp only [m_st, m_nx] at hq
  split at hq
  · cases z
    · refine g_if_eq hx hb hd ht (fun u => ?_) (fun u => ?_)
      · rw [if_pos (by simpa [m_icond] using u)] at hq
        cases hq
        exact k _ (hT _ htg)
      · rw [if_neg (by simpa [m_icond] using u)] at hq
        cases hq
        exact k _ hn
    · refine g_if_ne hx hb hd ht (fun u => ?_) (fun u => ?_)
      · rw [if_pos (by simpa [m_icond] using u)] at hq
        cases hq
        exact k _ (hT _ htg)
      · rw [if_neg (by simpa [m_icond] using u)] at hq
        cases hq
        exact k _ hn
    · refine g_if_lt hx hb hd ht (fun u => ?_) (fun u => ?_)
      · rw [if_pos (by simpa [m_icond] using u)] at hq
        cases hq
        exact k _ (hT _ htg)
      · rw [if_neg (by simpa [m_icond] using u)] at hq
        cases hq
        exact k _ hn
    · refine g_if_ge hx hb hd ht (fun u => ?_) (fun u => ?_)
      · rw [if_pos (by simpa [m_icond] using u)] at hq
        cases hq
        exact k _ (hT _ htg)
      · rw [if_neg (by simpa [m_icond] using u)] at hq
        cases hq
        exact k _ hn
    · refine g_if_gt hx hb hd ht (fun u => ?_) (fun u => ?_)
      · rw [if_pos (by simpa [m_icond] using u)] at hq
        cases hq
        exact k _ (hT _ htg)
      · rw [if_neg (by simpa [m_icond] using u)] at hq
        cases hq
        exact k _ hn
    · refine g_if_le hx hb hd ht (fun u => ?_) (fun u => ?_)
      · rw [if_pos (by simpa [m_icond] using u)] at hq
        cases hq
        exact k _ (hT _ htg)
      · rw [if_neg (by simpa [m_icond] using u)] at hq
        cases hq
        exact k _ hn
  · cases hq
theorem s_if_icmp {z : Jvm.ClassFile.Cond} {t : Int} (E : m_env p s m args meth c R P cl D cA A tys G own ini nL cc) (hq : m_st P y (.if_icmp z t) is ls st h = some (.inl q)) (hm : m_sim P cl G own ini TG cc pc len (.if_icmp z t)) (hT : ∀ t, TG t → AT t (m_tg P y t)) (hn : AT (pc + len) is) (k : ∀ pc', AT pc' q.1 → m_go p l e R s m args below meth c Q P cl D cA A xa nL c0 s0 pc' q.2.1 q.2.2.1 q.2.2.2) : m_go p l e R s m args below meth c Q P cl D cA A xa nL c0 s0 pc ls st h := by
  obtain ⟨hx, hb, hml, hown, hts, hK, hA, ⟨hAI, hAB, hAL, hAD⟩, hini, hfr, hlo⟩ := E
  obtain ⟨rfl, ⟨off, ht, hd⟩, htg⟩ := hm
  simp only [m_st, m_nx] at hq
  split at hq
  · cases z
    · refine g_icmp_eq hx hb hd ht (fun u => ?_) (fun u => ?_)
      · rw [if_pos (by simpa [m_icond] using u)] at hq
        cases hq
        exact k _ (hT _ htg)
      · rw [if_neg (by simpa [m_icond] using u)] at hq
        cases hq
        exact k _ hn
    · refine g_icmp_ne hx hb hd ht (fun u => ?_) (fun u => ?_)
      · rw [if_pos (by simpa [m_icond] using u)] at hq
        cases hq
        exact k _ (hT _ htg)
      · rw [if_neg (by simpa [m_icond] using u)] at hq
        cases hq
        exact k _ hn
    · refine g_icmp_lt hx hb hd ht (fun u => ?_) (fun u => ?_)
      · rw [if_pos (by simpa [m_icond] using u)] at hq
        cases hq
        exact k _ (hT _ htg)
      · rw [if_neg (by simpa [m_icond] using u)] at hq
        cases hq
        exact k _ hn
    · refine g_icmp_ge hx hb hd ht (fun u => ?_) (fun u => ?_)
      · rw [if_pos (by simpa [m_icond] using u)] at hq
        cases hq
        exact k _ (hT _ htg)
      · rw [if_neg (by simpa [m_icond] using u)] at hq
        cases hq
        exact k _ hn
    · refine g_icmp_gt hx hb hd ht (fun u => ?_) (fun u => ?_)
      · rw [if_pos (by simpa [m_icond] using u)] at hq
        cases hq
        exact k _ (hT _ htg)
      · rw [if_neg (by simpa [m_icond] using u)] at hq
        cases hq
        exact k _ hn
    · refine g_icmp_le hx hb hd ht (fun u => ?_) (fun u => ?_)
      · rw [if_pos (by simpa [m_icond] using u)] at hq
        cases hq
        exact k _ (hT _ htg)
      · rw [if_neg (by simpa [m_icond] using u)] at hq
        cases hq
        exact k _ hn
  · cases hq
theorem s_ifnull {t : Int} (E : m_env p s m args meth c R P cl D cA A tys G own ini nL cc) (hq : m_st P y (.ifnull t) is ls st h = some (.inl q)) (hm : m_sim P cl G own ini TG cc pc len (.ifnull t)) (hT : ∀ t, TG t → AT t (m_tg P y t)) (hn : AT (pc + len) is) (k : ∀ pc', AT pc' q.1 → m_go p l e R s m args below meth c Q P cl D cA A xa nL c0 s0 pc' q.2.1 q.2.2.1 q.2.2.2) : m_go p l e R s m args below meth c Q P cl D cA A xa nL c0 s0 pc ls st h := by
  obtain ⟨hx, hb, hml, hown, hts, hK, hA, ⟨hAI, hAB, hAL, hAD⟩, hini, hfr, hlo⟩ := E
  obtain ⟨rfl, ⟨off, ht, hd⟩, htg⟩ := hm
  simp only [m_st, m_nx] at hq
  split at hq
  · cases hq
    exact g_ifnullN hx hb hd ht (k _ (hT _ htg))
  · cases hq
    exact g_ifnull hx hb hd (k _ hn)
  · cases hq
theorem s_ifnonnull {t : Int} (E : m_env p s m args meth c R P cl D cA A tys G own ini nL cc) (hq : m_st P y (.ifnonnull t) is ls st h = some (.inl q)) (hm : m_sim P cl G own ini TG cc pc len (.ifnonnull t)) (hT : ∀ t, TG t → AT t (m_tg P y t)) (hn : AT (pc + len) is) (k : ∀ pc', AT pc' q.1 → m_go p l e R s m args below meth c Q P cl D cA A xa nL c0 s0 pc' q.2.1 q.2.2.1 q.2.2.2) : m_go p l e R s m args below meth c Q P cl D cA A xa nL c0 s0 pc ls st h := by
  obtain ⟨hx, hb, hml, hown, hts, hK, hA, ⟨hAI, hAB, hAL, hAD⟩, hini, hfr, hlo⟩ := E
  obtain ⟨rfl, ⟨off, ht, hd⟩, htg⟩ := hm
  simp only [m_st, m_nx] at hq
  split at hq
  · cases hq
    exact g_ifnonnull hx hb hd ht (k _ (hT _ htg))
  · cases hq
    exact g_ifnonnullN hx hb hd (k _ hn)
  · cases hq
theorem s_tableswitch {d lo hi : Int} {ts : Array Int} (E : m_env p s m args meth c R P cl D cA A tys G own ini nL cc) (hq : m_st P y (.tableswitch d lo hi ts) is ls st h = some (.inl q)) (hm : m_sim P cl G own ini TG cc pc len (.tableswitch d lo hi ts)) (hT : ∀ t, TG t → AT t (m_tg P y t)) (hn : AT (pc + len) is) (k : ∀ pc', AT pc' q.1 → m_go p l e R s m args below meth c Q P cl D cA A xa nL c0 s0 pc' q.2.1 q.2.2.1 q.2.2.2) : m_go p l e R s m args below meth c Q P cl D cA A xa nL c0 s0 pc ls st h := by
  obtain ⟨hx, hb, hml, hown, hts, hK, hA, ⟨hAI, hAB, hAL, hAD⟩, hini, hfr, hlo⟩ := E
  obtain ⟨dflt, offs, h1, h2, h3, hd⟩ := hm
  simp only [m_st, m_nx] at hq
  split at hq
  · split at hq
    · next z =>
      cases hq
      exact g_tableOut hx hb hd z h1 (k _ (hT _ h2))
    · next z =>
      split at hq
      · next t ht =>
        cases hq
        obtain ⟨g1, off, g2, g3⟩ := h3 _ _ ht
        exact g_tableIn hx hb hd (fun w => z (Or.inl w)) (fun w => z (Or.inr w)) g2 g3 (k _ (hT _ g1))
      · cases hq
  · cases hq
theorem s_getfield {x : Nat} (E : m_env p s m args meth c R P cl D cA A tys G own ini nL cc) (hq : m_st P y (.getfield x) is ls st h = some (.inl q)) (hm : m_sim P cl G own ini TG cc pc len (.getfield x)) (hT : ∀ t, TG t → AT t (m_tg P y t)) (hn : AT (pc + len) is) (k : ∀ pc', AT pc' q.1 → m_go p l e R s m args below meth c Q P cl D cA A xa nL c0 s0 pc' q.2.1 q.2.2.1 q.2.2.2) : m_go p l e R s m args below meth c Q P cl D cA A xa nL c0 s0 pc ls st h := by
  obtain ⟨hx, hb, hml, hown, hts, hK, hA, ⟨hAI, hAB, hAL, hAD⟩, hini, hfr, hlo⟩ := E
  obtain ⟨rfl, ix, C, T, hc, hlink, hd⟩ := hm
  simp only [m_st, m_nx] at hq
  split at hq
  · next a st' =>
    split at hq
    · next z =>
      refine g_get hx hb hts hown hK hc hlink z.1 z.2.1 z.2.2.1 hd ?_
      unfold m_gv
      split at hq
      · next z2 =>
        cases hq
        rw [if_pos z2]
        exact k _ hn
      · next z2 =>
        rw [if_neg z2]
        split at hq
        · next z3 =>
          cases hq
          rw [if_pos z3]
          exact k _ hn
        · next z3 =>
          cases hq
          rw [if_neg z3]
          exact k _ hn
    · cases hq
  · cases hq
theorem s_putfield {x : Nat} (E : m_env p s m args meth c R P cl D cA A tys G own ini nL cc) (hq : m_st P y (.putfield x) is ls st h = some (.inl q)) (hm : m_sim P cl G own ini TG cc pc len (.putfield x)) (hT : ∀ t, TG t → AT t (m_tg P y t)) (hn : AT (pc + len) is) (k : ∀ pc', AT pc' q.1 → m_go p l e R s m args below meth c Q P cl D cA A xa nL c0 s0 pc' q.2.1 q.2.2.1 q.2.2.2) : m_go p l e R s m args below meth c Q P cl D cA A xa nL c0 s0 pc ls st h := by
  obtain ⟨hx, hb, hml, hown, hts, hK, hA, ⟨hAI, hAB, hAL, hAD⟩, hini, hfr, hlo⟩ := E
  obtain ⟨rfl, ix, C, T, hc, hlink, hf, hd⟩ := hm
  simp only [m_st, m_nx] at hq
  split at hq
  · next v a st' =>
    split at hq
    · next z =>
      cases hq
      have hne1 : ¬ m_fk P (x / 64) (x % 64) = 1 := by rcases z.2.2.2.2 with w | w <;> omega
      have hne2 : ¬ m_fk P (x / 64) (x % 64) = 2 := by rcases z.2.2.2.2 with w | w <;> omega
      refine g_put (v := .int v) (h' := m_setI h a (x % 64) v) hx hb hts hown hK hc hlink (hf.imp id (fun w => ⟨w.1, hini w.2.1, w.2.2⟩)) z.1 z.2.1 z.2.2.1 hd rfl rfl rfl z.2.1 (fun w => w) ?_ ?_ ?_ (fun ad b hb => m_cI_ne hb) (k _ hn)
      · intro ad ty ht
        rcases ht with ⟨t1, rfl⟩ | ⟨t1, _⟩ | ⟨t1, _⟩ | ⟨t1, rfl⟩
        · exact ⟨rfl, rfl⟩
        · exact absurd t1 hne1
        · exact absurd t1 hne2
        · rcases z.2.2.2.2 with w | ⟨_, rfl | rfl⟩
          · omega
          · exact ⟨rfl, rfl⟩
          · exact ⟨rfl, rfl⟩
      · intro ad
        unfold m_fv
        rw [if_neg hne1, if_neg hne2, m_I_setI, m_upeq, if_pos rfl]
        rfl
      · intro ad j hj
        unfold m_fv
        rw [m_I_setI, m_upeq, if_neg hj]
        rfl
    · cases hq
  · next v a st' =>
    split at hq
    · next z =>
      cases hq
      refine g_put (v := .long v) (h' := m_setL h a (x % 64) v) hx hb hts hown hK hc hlink (hf.imp id (fun w => ⟨w.1, hini w.2.1, w.2.2⟩)) z.1 z.2.1 z.2.2.1 hd rfl rfl rfl z.2.1 (fun w => w) ?_ ?_ ?_ (fun ad b hb => m_cL_ne hb) (k _ hn)
      · intro ad ty ht
        rcases ht with ⟨t1, rfl⟩ | ⟨t1, _⟩ | ⟨t1, rfl⟩ | ⟨t1, rfl⟩
        · omega
        · omega
        · exact ⟨rfl, rfl⟩
        · omega
      · intro ad
        unfold m_fv
        rw [if_neg (by omega), if_pos z.2.2.2.2, m_L_setL, m_upeq, if_pos rfl]
        rfl
      · intro ad j hj
        unfold m_fv
        rw [m_L_setL, m_upeq, if_neg hj]
        rfl
    · cases hq
  · next v a st' =>
    split at hq
    · next z =>
      cases hq
      intro H locs ad la hr hl hs
      refine g_put (v := .ref v) (h' := m_setR h a (x % 64) (some v)) hx hb hts hown hK hc hlink (hf.imp id (fun w => ⟨w.1, hini w.2.1, w.2.2⟩)) z.1 z.2.1 z.2.2.1 hd rfl rfl rfl z.2.1 (fun w => m_wf_R w (fun j hj => by cases hj; exact g_hd hs)) ?_ ?_ ?_ (fun ad b hb => m_cR_ne hb) (k _ hn) H locs ad la hr hl hs
      · intro ad ty ht
        rcases ht with ⟨t1, rfl⟩ | ⟨t1, ⟨n, rfl⟩ | ⟨n, rfl⟩⟩ | ⟨t1, rfl⟩ | ⟨t1, rfl⟩
        · omega
        · exact ⟨rfl, rfl⟩
        · exact ⟨rfl, rfl⟩
        · omega
        · omega
      · intro ad
        unfold m_fv
        rw [if_pos z.2.2.2.2, m_R_setR, m_upeq, if_pos rfl]
        rfl
      · intro ad j hj
        unfold m_fv
        rw [m_R_setR, m_upeq, if_neg hj]
        rfl
    · cases hq
  · next a st' =>
    split at hq
    · next z =>
      cases hq
      refine g_put (v := .null) (h' := m_setR h a (x % 64) none) hx hb hts hown hK hc hlink (hf.imp id (fun w => ⟨w.1, hini w.2.1, w.2.2⟩)) z.1 z.2.1 z.2.2.1 hd rfl rfl rfl z.2.1 (fun w => m_wf_R w (fun j hj => by cases hj)) ?_ ?_ ?_ (fun ad b hb => m_cR_ne hb) (k _ hn)
      · intro ad ty ht
        rcases ht with ⟨t1, rfl⟩ | ⟨t1, ⟨n, rfl⟩ | ⟨n, rfl⟩⟩ | ⟨t1, rfl⟩ | ⟨t1, rfl⟩
        · omega
        · exact ⟨rfl, rfl⟩
        · exact ⟨rfl, rfl⟩
        · omega
        · omega
      · intro ad
        unfold m_fv
        rw [if_pos z.2.2.2.2, m_R_setR, m_upeq, if_pos rfl]
        rfl
      · intro ad j hj
        unfold m_fv
        rw [m_R_setR, m_upeq, if_neg hj]
        rfl
    · cases hq
  · cases hq
theorem s_baload (E : m_env p s m args meth c R P cl D cA A tys G own ini nL cc) (hq : m_st P y (.baload) is ls st h = some (.inl q)) (hm : m_sim P cl G own ini TG cc pc len (.baload)) (hn : AT (pc + len) is) (k : ∀ pc', AT pc' q.1 → m_go p l e R s m args below meth c Q P cl D cA A xa nL c0 s0 pc' q.2.1 q.2.2.1 q.2.2.2) : m_go p l e R s m args below meth c Q P cl D cA A xa nL c0 s0 pc ls st h := by
  obtain ⟨hx, hb, hml, hown, hts, hK, hA, ⟨hAI, hAB, hAL, hAD⟩, hini, hfr, hlo⟩ := E
  obtain ⟨rfl, hd⟩ := hm
  simp only [m_st, m_nx] at hq
  split at hq
  · split at hq
    · next z =>
      cases hq
      exact g_bald hx hb hK hAB z.1 z.2.1 z.2.2 hd (k _ hn)
    · cases hq
  · cases hq
theorem s_laload (E : m_env p s m args meth c R P cl D cA A tys G own ini nL cc) (hq : m_st P y (.laload) is ls st h = some (.inl q)) (hm : m_sim P cl G own ini TG cc pc len (.laload)) (hn : AT (pc + len) is) (k : ∀ pc', AT pc' q.1 → m_go p l e R s m args below meth c Q P cl D cA A xa nL c0 s0 pc' q.2.1 q.2.2.1 q.2.2.2) : m_go p l e R s m args below meth c Q P cl D cA A xa nL c0 s0 pc ls st h := by
  obtain ⟨hx, hb, hml, hown, hts, hK, hA, ⟨hAI, hAB, hAL, hAD⟩, hini, hfr, hlo⟩ := E
  obtain ⟨rfl, hd⟩ := hm
  simp only [m_st, m_nx] at hq
  split at hq
  · split at hq
    · next z =>
      cases hq
      exact g_lald hx hb hK hAL z.1 z.2.1 z.2.2 hd (k _ hn)
    · cases hq
  · cases hq
theorem s_daload (E : m_env p s m args meth c R P cl D cA A tys G own ini nL cc) (hq : m_st P y (.daload) is ls st h = some (.inl q)) (hm : m_sim P cl G own ini TG cc pc len (.daload)) (hn : AT (pc + len) is) (k : ∀ pc', AT pc' q.1 → m_go p l e R s m args below meth c Q P cl D cA A xa nL c0 s0 pc' q.2.1 q.2.2.1 q.2.2.2) : m_go p l e R s m args below meth c Q P cl D cA A xa nL c0 s0 pc ls st h := by
  obtain ⟨hx, hb, hml, hown, hts, hK, hA, ⟨hAI, hAB, hAL, hAD⟩, hini, hfr, hlo⟩ := E
  obtain ⟨rfl, hd⟩ := hm
  simp only [m_st, m_nx] at hq
  split at hq
  · split at hq
    · next z =>
      cases hq
      exact g_dald hx hb hK hAD z.1 z.2.1 z.2.2 hd (k _ hn)
    · cases hq
  · cases hq
theorem s_iastore (E : m_env p s m args meth c R P cl D cA A tys G own ini nL cc) (hq : m_st P y (.iastore) is ls st h = some (.inl q)) (hm : m_sim P cl G own ini TG cc pc len (.iastore)) (hn : AT (pc + len) is) (k : ∀ pc', AT pc' q.1 → m_go p l e R s m args below meth c Q P cl D cA A xa nL c0 s0 pc' q.2.1 q.2.2.1 q.2.2.2) : m_go p l e R s m args below meth c Q P cl D cA A xa nL c0 s0 pc ls st h := by
  obtain ⟨hx, hb, hml, hown, hts, hK, hA, ⟨hAI, hAB, hAL, hAD⟩, hini, hfr, hlo⟩ := E
  obtain ⟨rfl, hd⟩ := hm
  simp only [m_st, m_nx] at hq
  split at hq
  · split at hq
    · next z =>
      cases hq
      exact g_iast hx hb hK hAI z.1 z.2.1 z.2.2 hd (k _ hn)
    · cases hq
  · cases hq
theorem s_bastore (E : m_env p s m args meth c R P cl D cA A tys G own ini nL cc) (hq : m_st P y (.bastore) is ls st h = some (.inl q)) (hm : m_sim P cl G own ini TG cc pc len (.bastore)) (hn : AT (pc + len) is) (k : ∀ pc', AT pc' q.1 → m_go p l e R s m args below meth c Q P cl D cA A xa nL c0 s0 pc' q.2.1 q.2.2.1 q.2.2.2) : m_go p l e R s m args below meth c Q P cl D cA A xa nL c0 s0 pc ls st h := by
  obtain ⟨hx, hb, hml, hown, hts, hK, hA, ⟨hAI, hAB, hAL, hAD⟩, hini, hfr, hlo⟩ := E
  obtain ⟨rfl, hd⟩ := hm
  simp only [m_st, m_nx] at hq
  split at hq
  · split at hq
    · next z =>
      cases hq
      exact g_bast hx hb hK hAB z.1 z.2.1 z.2.2 hd (k _ hn)
    · cases hq
  · cases hq
theorem s_lastore (E : m_env p s m args meth c R P cl D cA A tys G own ini nL cc) (hq : m_st P y (.lastore) is ls st h = some (.inl q)) (hm : m_sim P cl G own ini TG cc pc len (.lastore)) (hn : AT (pc + len) is) (k : ∀ pc', AT pc' q.1 → m_go p l e R s m args below meth c Q P cl D cA A xa nL c0 s0 pc' q.2.1 q.2.2.1 q.2.2.2) : m_go p l e R s m args below meth c Q P cl D cA A xa nL c0 s0 pc ls st h := by
  obtain ⟨hx, hb, hml, hown, hts, hK, hA, ⟨hAI, hAB, hAL, hAD⟩, hini, hfr, hlo⟩ := E
  obtain ⟨rfl, hd⟩ := hm
  simp only [m_st, m_nx] at hq
  split at hq
  · split at hq
    · next z =>
      cases hq
      exact g_last hx hb hK hAL z.1 z.2.1 z.2.2 hd (k _ hn)
    · cases hq
  · cases hq
theorem s_dastore (E : m_env p s m args meth c R P cl D cA A tys G own ini nL cc) (hq : m_st P y (.dastore) is ls st h = some (.inl q)) (hm : m_sim P cl G own ini TG cc pc len (.dastore)) (hn : AT (pc + len) is) (k : ∀ pc', AT pc' q.1 → m_go p l e R s m args below meth c Q P cl D cA A xa nL c0 s0 pc' q.2.1 q.2.2.1 q.2.2.2) : m_go p l e R s m args below meth c Q P cl D cA A xa nL c0 s0 pc ls st h := by
  obtain ⟨hx, hb, hml, hown, hts, hK, hA, ⟨hAI, hAB, hAL, hAD⟩, hini, hfr, hlo⟩ := E
  obtain ⟨rfl, hd⟩ := hm
  simp only [m_st, m_nx] at hq
  split at hq
  · split at hq
    · next z =>
      cases hq
      exact g_dast hx hb hK hAD z.1 z.2.1 z.2.2 hd (k _ hn)
    · cases hq
  · cases hq
theorem s_new_i  (E : m_env p s m args meth c R P cl D cA A tys G own ini nL cc) (h0 : c0 ≤ m_c h) (h1 : s0 ≤ m_s h) (g0 : m_c q.2.2.2 - c0 ≤ R.cells) (g1 : m_s q.2.2.2 - s0 ≤ R.slots) (hq : m_st P y (.newarray .int) is ls st h = some (.inl q)) (hm : m_sim P cl G own ini TG cc pc len (.newarray .int)) (hT : ∀ t, TG t → AT t (m_tg P y t)) (hn : AT (pc + len) is) (k : ∀ pc', AT pc' q.1 → m_go p l e R s m args below meth c Q P cl D cA A xa nL c0 s0 pc' q.2.1 q.2.2.1 q.2.2.2) : m_go p l e R s m args below meth c Q P cl D cA A xa nL c0 s0 pc ls st h := by
  obtain ⟨hx, hb, hml, hown, hts, hK, hA, ⟨hAI, hAB, hAL, hAD⟩, hini, hfr, hlo⟩ := E
  obtain ⟨rfl, harr, hd⟩ := hm
  simp only [m_st, m_nx] at hq
  split at hq
  · split at hq
    · cases hq
    · next i st' z =>
      cases hq
      have g0 : m_c h + 1 - c0 ≤ R.cells := g0
      have g1 : m_s h + i.toNatClampNeg - s0 ≤ R.slots := g1
      exact g_new_i hx hb hK hA hAI (hts _ harr) (by omega) h0 h1 (fun w => z (Or.inl w)) (by omega) (by omega) (by omega) hd (k _ hn)
  · cases hq
theorem s_new_b  (E : m_env p s m args meth c R P cl D cA A tys G own ini nL cc) (h0 : c0 ≤ m_c h) (h1 : s0 ≤ m_s h) (g0 : m_c q.2.2.2 - c0 ≤ R.cells) (g1 : m_s q.2.2.2 - s0 ≤ R.slots) (hq : m_st P y (.newarray .byte) is ls st h = some (.inl q)) (hm : m_sim P cl G own ini TG cc pc len (.newarray .byte)) (hT : ∀ t, TG t → AT t (m_tg P y t)) (hn : AT (pc + len) is) (k : ∀ pc', AT pc' q.1 → m_go p l e R s m args below meth c Q P cl D cA A xa nL c0 s0 pc' q.2.1 q.2.2.1 q.2.2.2) : m_go p l e R s m args below meth c Q P cl D cA A xa nL c0 s0 pc ls st h := by
  obtain ⟨hx, hb, hml, hown, hts, hK, hA, ⟨hAI, hAB, hAL, hAD⟩, hini, hfr, hlo⟩ := E
  obtain ⟨rfl, harr, hd⟩ := hm
  simp only [m_st, m_nx] at hq
  split at hq
  · split at hq
    · cases hq
    · next i st' z =>
      cases hq
      have g0 : m_c h + 1 - c0 ≤ R.cells := g0
      have g1 : m_s h + i.toNatClampNeg - s0 ≤ R.slots := g1
      exact g_new_b hx hb hK hA hAB (hts _ harr) (by omega) h0 h1 (fun w => z (Or.inl w)) (by omega) (by omega) (by omega) hd (k _ hn)
  · cases hq
theorem s_new_l  (E : m_env p s m args meth c R P cl D cA A tys G own ini nL cc) (h0 : c0 ≤ m_c h) (h1 : s0 ≤ m_s h) (g0 : m_c q.2.2.2 - c0 ≤ R.cells) (g1 : m_s q.2.2.2 - s0 ≤ R.slots) (hq : m_st P y (.newarray .long) is ls st h = some (.inl q)) (hm : m_sim P cl G own ini TG cc pc len (.newarray .long)) (hT : ∀ t, TG t → AT t (m_tg P y t)) (hn : AT (pc + len) is) (k : ∀ pc', AT pc' q.1 → m_go p l e R s m args below meth c Q P cl D cA A xa nL c0 s0 pc' q.2.1 q.2.2.1 q.2.2.2) : m_go p l e R s m args below meth c Q P cl D cA A xa nL c0 s0 pc ls st h := by
  obtain ⟨hx, hb, hml, hown, hts, hK, hA, ⟨hAI, hAB, hAL, hAD⟩, hini, hfr, hlo⟩ := E
  obtain ⟨rfl, harr, hd⟩ := hm
  simp only [m_st, m_nx] at hq
  split at hq
  · split at hq
    · cases hq
    · next i st' z =>
      cases hq
      have g0 : m_c h + 1 - c0 ≤ R.cells := g0
      have g1 : m_s h + i.toNatClampNeg - s0 ≤ R.slots := g1
      exact g_new_l hx hb hK hA hAL (hts _ harr) (by omega) h0 h1 (fun w => z (Or.inl w)) (by omega) (by omega) (by omega) hd (k _ hn)
  · cases hq
theorem s_new_d  (E : m_env p s m args meth c R P cl D cA A tys G own ini nL cc) (h0 : c0 ≤ m_c h) (h1 : s0 ≤ m_s h) (g0 : m_c q.2.2.2 - c0 ≤ R.cells) (g1 : m_s q.2.2.2 - s0 ≤ R.slots) (hq : m_st P y (.newarray .double) is ls st h = some (.inl q)) (hm : m_sim P cl G own ini TG cc pc len (.newarray .double)) (hT : ∀ t, TG t → AT t (m_tg P y t)) (hn : AT (pc + len) is) (k : ∀ pc', AT pc' q.1 → m_go p l e R s m args below meth c Q P cl D cA A xa nL c0 s0 pc' q.2.1 q.2.2.1 q.2.2.2) : m_go p l e R s m args below meth c Q P cl D cA A xa nL c0 s0 pc ls st h := by
  obtain ⟨hx, hb, hml, hown, hts, hK, hA, ⟨hAI, hAB, hAL, hAD⟩, hini, hfr, hlo⟩ := E
  obtain ⟨rfl, harr, hd⟩ := hm
  simp only [m_st, m_nx] at hq
  split at hq
  · split at hq
    · cases hq
    · next i st' z =>
      cases hq
      have g0 : m_c h + 1 - c0 ≤ R.cells := g0
      have g1 : m_s h + i.toNatClampNeg - s0 ≤ R.slots := g1
      exact g_new_d hx hb hK hA hAD (hts _ harr) (by omega) h0 h1 (fun w => z (Or.inl w)) (by omega) (by omega) (by omega) hd (k _ hn)
  · cases hq
theorem s_new {ci : Nat} (E : m_env p s m args meth c R P cl D cA A tys G own ini nL cc) (h0 : c0 ≤ m_c h) (h1 : s0 ≤ m_s h) (g0 : m_c q.2.2.2 - c0 ≤ R.cells) (g1 : m_s q.2.2.2 - s0 ≤ R.slots) (hq : m_st P y (.new ci) is ls st h = some (.inl q)) (hm : m_sim P cl G own ini TG cc pc len (.new ci)) (hT : ∀ t, TG t → AT t (m_tg P y t)) (hn : AT (pc + len) is) (k : ∀ pc', AT pc' q.1 → m_go p l e R s m args below meth c Q P cl D cA A xa nL c0 s0 pc' q.2.1 q.2.2.1 q.2.2.2) : m_go p l e R s m args below meth c Q P cl D cA A xa nL c0 s0 pc ls st h := by
  obtain ⟨hx, hb, hml, hown, hts, hK, hA, ⟨hAI, hAB, hAL, hAD⟩, hini, hfr, hlo⟩ := E
  obtain ⟨rfl, ix, C, T, hc, hlink, hinst, hi, hd⟩ := hm
  simp only [m_st, m_nx] at hq
  split at hq
  · next z =>
    cases hq
    have g0 : m_c h + 1 - c0 ≤ R.cells := g0
    have g1 : m_s h + m_nf P ci - s0 ≤ R.slots := g1
    exact g_new hx hb hts hown hK hA hc (hts _ hlink) (hts _ hinst) (hts _ hi) z.2 h0 h1 (by omega) (by omega) hd (k _ hn)
  · cases hq
end STEP
