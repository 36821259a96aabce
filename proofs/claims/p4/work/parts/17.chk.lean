/-! A PROGRAM THAT LOOKS WHETHER THE SMALL CODE IS THE MACHINE'S: by instructions, and by a table of what the pool's entries are -/
def m_one (i : Instr) : Bool := match i with
  | .aconst_null => true
  | .iadd => true
  | .isub => true
  | .imul => true
  | .iand => true
  | .ior => true
  | .ishr => true
  | .idiv => true
  | .irem => true
  | .i2b => true
  | .i2l => true
  | .i2d => true
  | .i2f => true
  | .ladd => true
  | .lsub => true
  | .lmul => true
  | .lcmp => true
  | .ddiv => true
  | .fdiv => true
  | .f2d => true
  | .d2f => true
  | .dup => true
  | .pop => true
  | .dup2 => true
  | .iaload => true
  | .baload => true
  | .laload => true
  | .daload => true
  | .iastore => true
  | .bastore => true
  | .lastore => true
  | .dastore => true
  | .ireturn => true
  | .areturn => true
  | .freturn => true
  | .dreturn => true
  | .return_ => true
  | _ => false
/-- what an entry of the pool is: field (class*64+field, final); method; new class; row; constants; a constant object; a throw's two -/
def m_lkok (P : m_P) (cl : List vw_C) (G : List Cond) (AOL : List String × List (Nat × String)) (TL : List (String × Nat × Nat × Nat × String)) (NL : List (String × Nat × MethodName × String)) (tys : List (ClassId × FieldType)) (cA : Nat → ClassId) (Y : Nat → MethodName) (TT : Nat → Option FieldType) (INI : Nat → Bool) (NM : Nat) (own : String) (ix : Nat) (q : Nat × Nat × Nat) : Prop := match q.1 with
  | 0 => ∃ (C : String) (T : u_T), m_cok P cl G (q.2.1 / 64) C T ∧ Cond.fieldLink own ix (T (q.2.1 % 64)).1 (T (q.2.1 % 64)).2.1 (T (q.2.1 % 64)).2.2.1 ∈ G ∧ ((q.2.2 = 0 ∧ (T (q.2.1 % 64)).2.2.2 = false) ∨ (q.2.2 = 1 ∧ (T (q.2.1 % 64)).2.2.2 = true ∧ (T (q.2.1 % 64)).1 = own) ∨ q.2.2 = 2)
  | 1 => q.2.1 < NM ∧ m_hh P q.2.1 = false ∧ Cond.methodLink own ix (Y q.2.1) ∈ G ∧ Cond.instanceMethod (Y q.2.1) ∈ G ∧ Cond.selects (Y q.2.1).cls (Y q.2.1) (Y q.2.1) ∈ G ∧ (parseMethodDescriptor (Y q.2.1).desc).map (fun d => d.parameters.length + 1) = some (m_na P q.2.1) ∧ (∃ r : vw_C, cl[m_rc P q.2.1]? = some r ∧ r.1 = (Y q.2.1).cls ∧ m_rc P q.2.1 < 100)
  | 2 => q.2.1 < NM ∧ Cond.methodLink own ix (Y q.2.1) ∈ G ∧ Cond.static (Y q.2.1) ∈ G ∧ (parseMethodDescriptor (Y q.2.1).desc).map (fun d => d.parameters.length) = some (m_na P q.2.1)
  | 3 => q.2.1 < NM ∧ m_hh P q.2.1 = false ∧ INI q.2.1 = true ∧ TT q.2.1 = none ∧ (Cond.methodLink own ix (Y q.2.1) ∈ G ∨ ∃ host, (own, ix, Y q.2.1, host) ∈ NL) ∧ Cond.instanceMethod (Y q.2.1) ∈ G ∧ (parseMethodDescriptor (Y q.2.1).desc).map (fun d => d.parameters.length + 1) = some (m_na P q.2.1)
  | 4 => m_lib G own ix q.2.1
  | 5 => Cond.methodLink own ix Lib.objectInit ∈ G ∧ Cond.instanceMethod Lib.objectInit ∈ G ∧ Cond.code Lib.objectInit ⟨#[0xb1]⟩ 1 none ∈ G
  | 6 => (∃ (C : String) (T : u_T), m_cok P cl G q.2.1 C T ∧ Cond.classLink own ix C ∈ G ∧ Cond.instantiable C (m_nf P q.2.1) ∈ G ∧ Cond.initialized C ∈ G) ∧ (q.2.2 = 7 → ∃ (C : String), C ∈ AOL.1 ∧ m_aok tys cA (200 + q.2.1) (.object C) ∧ Cond.classLink own ix C ∈ G)
  | 7 => ∃ (C : String), C ∈ AOL.1 ∧ m_aok tys cA (200 + q.2.1) (.object C) ∧ Cond.classLink own ix C ∈ G
  | 8 => Jvm.Cond.constant own ix (Int32.ofNat q.2.1) ∈ G
  | 9 => Jvm.Cond.constantLong own ix (Int64.ofNat q.2.1) ∈ G
  | 10 => m_X ≤ q.2.1 ∧ ∃ nm : String, (q.2.1, nm) ∈ AOL.2 ∧ Cond.fieldLink own ix "DriverHost$Word" nm "LDriverHost$Word;" ∈ G
  | 11 => q.2.1 ≤ 1 ∧ Cond.classLink own ix (m_en q.2.1) ∈ G ∧ Cond.initialized (m_en q.2.1) ∈ G ∧ Bundle.fit (m_en q.2.1) = true ∧ (∀ n ∈ m_nms, Bundle.fit n = true) ∧ vx_ot (Cond.classLink own ix (m_en q.2.1)) = true ∧ vx_ot (Cond.initialized (m_en q.2.1)) = true
  | 13 => ∃ text, (own, ix, 0, 0, text) ∈ TL
  | 14 => ∃ qf : String × String × String × List Int32, qf ∈ m_WF ∧ (∀ i, i < m_XN → m_xf P (m_X + 1 + i) q.2.1 = qf.2.2.2.getD i 0) ∧ Cond.fieldLink own ix qf.1 qf.2.1 qf.2.2.1 ∈ G
  | 15 => Cond.methodLink own ix m_yF ∈ G ∧ Cond.static m_yF ∈ G
  | 12 => (∀ w ∈ m_atS own ix q.2.1, vx_ot w = true) ∧ (∀ w ∈ (m_atS own ix q.2.1).filter goodWord, w ∈ G) ∧ (∀ w ∈ (m_atS own ix q.2.1).filter (fun w => !goodWord w), w ∈ m_ng q.2.1)
  | _ => False
def m_ckI (lk : Nat → Option (Nat × Nat × Nat)) (ini : Bool) (tg ra : Nat → Bool) (pc : Nat) (r : Instr) (n : Nat) (i : Instr) : Bool :=
  if m_one i = true then decide (r = i) && decide (n = 1) else match i with
  | .nop => true
  | .ret _ => decide (r = .ireturn) && decide (n = 1)
  | .dcmp op => decide (r = .dcmp op) && decide (n = 1)
  | .fcmp op => decide (r = .fcmp op) && decide (n = 1)
  | .fconst k => decide (k = 0) && (decide (r = .fconst 0) && decide (n = 1))
  | .dconst k => ((decide (k = 0) && decide (r = .dconst 0)) || (decide (k = 1) && decide (r = .dconst 1))) && decide (n = 1)
  | .iconst v => match r with
    | .iconst k => decide (Int32.ofInt k = Int32.ofInt v) && decide (n = 1)
    | .bipush k => decide ((Int8.ofInt k).toInt32 = Int32.ofInt v) && decide (n = 2)
    | .sipush k => decide ((Int16.ofInt k).toInt32 = Int32.ofInt v) && decide (n = 3)
    | .ldc ix => (match lk ix with | some (8, a, _) => decide (Int32.ofNat a = Int32.ofInt v) | _ => false) && decide (n = 2)
    | .ldc_w ix => (match lk ix with | some (8, a, _) => decide (Int32.ofNat a = Int32.ofInt v) | _ => false) && decide (n = 3)
    | _ => false
  | .ldc2_w v => match r with
    | .lconst k => decide (Int64.ofNat (k : Nat) = Int64.ofNat v) && decide (n = 1)
    | .ldc2_w ix => (match lk ix with | some (9, a, _) => decide (Int64.ofNat a = Int64.ofNat v) | _ => false) && decide (n = 3)
    | _ => false
  | .iload k => match r with
    | .iload j => decide (j = k) && decide (n = 2)
    | .iload_n j => decide ((j : Nat) = k) && decide (n = 1)
    | _ => false
  | .lload k => match r with
    | .lload j => decide (j = k) && decide (n = 2)
    | .lload_n j => decide ((j : Nat) = k) && decide (n = 1)
    | _ => false
  | .aload k => match r with
    | .aload j => decide (j = k) && decide (n = 2)
    | .aload_n j => decide ((j : Nat) = k) && decide (n = 1)
    | _ => false
  | .istore k => match r with
    | .istore j => decide (j = k) && decide (n = 2)
    | .istore_n j => decide ((j : Nat) = k) && decide (n = 1)
    | _ => false
  | .astore k => match r with
    | .astore j => decide (j = k) && decide (n = 2)
    | .astore_n j => decide ((j : Nat) = k) && decide (n = 1)
    | _ => false
  | .fload k => decide (r = .fload k) && decide (n = 2)
  | .dload k => decide (r = .dload k) && decide (n = 2)
  | .fstore k => decide (r = .fstore k) && decide (n = 2)
  | .dstore k => decide (r = .dstore k) && decide (n = 2)
  | .iinc k v => decide (r = .iinc k v) && decide (n = 3)
  | .goto t => match r with
    | .goto off => decide ((pc : Int) + off = (t.toNat : Int)) && tg t.toNat && decide (n = 3)
    | _ => false
  | .ifnull t => match r with
    | .ifnull off => decide ((pc : Int) + off = (t.toNat : Int)) && tg t.toNat && decide (n = 3)
    | _ => false
  | .ifnonnull t => match r with
    | .ifnonnull off => decide ((pc : Int) + off = (t.toNat : Int)) && tg t.toNat && decide (n = 3)
    | _ => false
  | .ifCond z t => match r with
    | .ifCond y off => decide (y = z) && decide ((pc : Int) + off = (t.toNat : Int)) && tg t.toNat && decide (n = 3)
    | _ => false
  | .if_icmp z t => match r with
    | .if_icmp y off => decide (y = z) && decide ((pc : Int) + off = (t.toNat : Int)) && tg t.toNat && decide (n = 3)
    | _ => false
  | .tableswitch d lo hi ts => match r with
    | .tableswitch dflt lo' hi' offs => decide (lo' = lo) && decide (hi' = hi) && decide ((pc : Int) + dflt = (d.toNat : Int)) && tg d.toNat && decide (offs.size = ts.size) && (List.range ts.size).all (fun k => match ts[k]?, offs[k]? with | some t, some off => decide ((pc : Int) + off = (t.toNat : Int)) && tg t.toNat | _, _ => false)
    | _ => false
  | .getfield x => match r with
    | .getfield ix => (match lk ix with | some (0, a, _) => decide (a = x) | _ => false) && decide (n = 3)
    | _ => false
  | .putfield x => match r with
    | .putfield ix => (match lk ix with | some (0, a, f) => decide (a = x) && (decide (f = 0) || (ini && decide (f = 1))) | _ => false) && decide (n = 3)
    | _ => false
  | .newarray t => decide (r = .newarray t) && decide (n = 2) && (decide (t = .int) || decide (t = .byte) || decide (t = .long) || decide (t = .double))
  | .new ci => match r with
    | .new ix => (match lk ix with | some (6, a, _) => decide (a = ci) | _ => false) && decide (n = 3)
    | _ => false
  | .anewarray ci => match r with
    | .anewarray ix => (match lk ix with | some (6, a, 7) => decide (a = ci) | some (7, a, _) => decide (a = ci) | _ => false) && decide (n = 3)
    | _ => false
  | .getstatic k => match r with
    | .getstatic ix => (match lk ix with | some (10, a, _) => decide (a = k) | _ => false) && decide (n = 3)
    | _ => false
  | .invokevirtual z => match r with
    | .invokevirtual ix => (match lk ix with | some (1, a, _) => decide (a = z) | _ => false) && decide (n = 3)
    | _ => false
  | .invokestatic z => match r with
    | .invokestatic ix => (match lk ix with | some (2, a, _) => decide (a = z) | some (4, a, _) => decide (a = z) | some (15, _, _) => decide (z = 9004) | _ => false) && decide (n = 3)
    | _ => false
  | .if_acmp z t => match r with
    | .if_acmp y off => decide (y = z) && decide ((pc : Int) + off = (t.toNat : Int)) && tg t.toNat && decide (n = 3)
    | _ => false
  | .ldc j => match r with
    | .getfield ix => (match lk ix with | some (14, a, _) => decide (a = j) | _ => false) && decide (n = 3)
    | _ => false
  | .aastore => decide (r = .aastore) && decide (n = 1) && ra 9
  | .invokespecial z => match r with
    | .invokespecial ix => (match lk ix with | some (3, a, _) => decide (a = z) | some (5, _, _) => decide (z = 9000) | _ => false) && decide (n = 3)
    | _ => false
  | .ldc_w z => decide (r = .arraylength) && decide (n = 1) && (decide (z = 100) || decide (z = 101) || decide (z = 102) || decide (z = 103) || (decide (200 ≤ z) && ra (z - 200)))
  | .checkcast ci => decide (r = .aaload) && decide (n = 1) && ra ci
  | .instanceof ci => decide (r = .aastore) && decide (n = 1) && ra ci
  | _ => false
/-- the length of the instruction at pc, if it is the one of the small machine; 0: it isn't -/
def m_ck (lk : Nat → Option (Nat × Nat × Nat)) (ini hh : Bool) (tg : Nat → Bool) (ra : Nat → Bool) (cc : ByteArray) (pc : Nat) (i : Instr) : Nat :=
  match i with
  | .invokedynamic x => match decode cc pc, decode cc (pc + 3), decode cc (pc + 4), decode cc (pc + 6), decode cc (pc + 9) with
    | .ok (.new ik, 3), .ok (.dup, 1), .ok (.ldc is, 2), .ok (.invokespecial ic, 3), .ok (.athrow, 1) => match lk ik, lk is, lk ic with
      | some (11, a, _), some (13, _, _), some (12, b, _) => if a = x ∧ b = x ∧ hh = false then 10 else 0
      | _, _, _ => 0
    | _, _, _, _, _ => 0
  | i => match decode cc pc with
    | .ok (r, n) => if m_ckI lk ini tg ra pc r n i = true then n else 0
    | .error _ => 0
def m_rck (tt : Option FieldType) (i : Instr) : Bool := match i with
  | .ireturn => decide (tt = some .int)
  | .ret _ => decide (tt = some .boolean)
  | .areturn => match tt with
    | some (.object _) => true
    | some (.array _) => true
    | _ => false
  | .freturn => decide (tt = some .float)
  | .dreturn => decide (tt = some .double)
  | .return_ => decide (tt = none)
  | _ => true
def m_isc (i : Instr) : Bool := match i with
  | .invokevirtual _ => true
  | .invokestatic _ => true
  | .invokespecial _ => true
  | .invokedynamic _ => true
  | _ => false
/-- a stretch of code, up to the place where the next begins -/
def m_seg (lk : Nat → Option (Nat × Nat × Nat)) (tt : Option FieldType) (ini hh : Bool) (tg : Nat → Bool) (ra : Nat → Bool) (cv : Nat → Bool) (cc : ByteArray) : List Instr → Nat → Option Nat
  | [], pc => some pc
  | i :: is, pc => match m_rck tt i && (!hh || !m_isc i || cv pc), m_ck lk ini hh tg ra cc pc i with
    | true, k + 1 => m_seg lk tt ini hh tg ra cv cc is (pc + (k + 1))
    | _, _ => none
section CHK
variable {l : Launch} {P : m_P} {cl : List vw_C} {D : va_G} {cA : Nat → ClassId} {tys : List (ClassId × FieldType)} {G : List Cond} {XT : (Nat → Prop) → State → Heap → Prop} {xc : Nat → Nat} {AOL : List String × List (Nat × String)} {TL : List (String × Nat × Nat × Nat × String)} {NL : List (String × Nat × MethodName × String)} {Y : Nat → MethodName} {B : Nat → ByteArray} {TT : Nat → Option FieldType} {INI : Nat → Bool} {TGz : Nat → Nat → Prop} {NM : Nat} {HH : Nat → List (Nat × Nat × Nat × Nat)} {lk : Nat → Option (Nat × Nat × Nat)} {ini hh : Bool} {tg ra : Nat → Bool} {TG : Nat → Prop} {cc : ByteArray} {pc : Nat} {own : String} {y : Nat}
theorem m_and {a b : Bool} (h : (a && b) = true) : a = true ∧ b = true := by simpa using h
set_option maxHeartbeats 4000000 in
theorem m_ckI_ok (hlk : ∀ ix q, lk ix = some q → m_lkok P cl G AOL TL NL tys cA Y TT INI NM own ix q) (htg : ∀ t, tg t = true → TG t) (hra : ∀ ci, ra ci = true → ∃ r : vw_C, cl[ci]? = some r ∧ m_aok tys cA (200 + ci) (.object r.1)) (hAk : m_aok tys cA 100 .int ∧ m_aok tys cA 101 .byte ∧ m_aok tys cA 102 .long ∧ m_aok tys cA 103 .double) (harr : Cond.arrayClass .int ∈ G ∧ Cond.arrayClass .byte ∈ G ∧ Cond.arrayClass .long ∈ G ∧ Cond.arrayClass .double ∈ G) {r i : Instr} {n : Nat} (hd : decode cc pc = .ok (r, n)) (h : m_ckI lk ini tg ra pc r n i = true) : (m_sim P cl G own ini TG cc pc n i ∨ m_sim2 P cl G AOL TL tys cA own TG cc pc n i) ∨ m_simC P cl G TL NL Y TT INI NM y own cc pc n i := by
  unfold m_ckI at h
  split at h
  · next h1 =>
    obtain ⟨e1, e2⟩ := m_and h
    have e1 := of_decide_eq_true e1
    have e2 := of_decide_eq_true e2
    subst e1 e2
    cases r <;> first | (cases h1; done) | exact Or.inl (Or.inl ⟨rfl, hd⟩)
  · rename_i hne
    clear hne
    cases i
    case nop => exact Or.inl (Or.inl trivial)
    case ret k =>
      obtain ⟨e1, e2⟩ := m_and h
      have e1 := of_decide_eq_true e1
      have e2 := of_decide_eq_true e2
      subst e1 e2
      exact Or.inl (Or.inl ⟨rfl, hd⟩)
    case dcmp op =>
      obtain ⟨e1, e2⟩ := m_and h
      have e1 := of_decide_eq_true e1
      have e2 := of_decide_eq_true e2
      subst e1 e2
      exact Or.inl (Or.inl ⟨rfl, hd⟩)
    case fcmp op =>
      obtain ⟨e1, e2⟩ := m_and h
      have e1 := of_decide_eq_true e1
      have e2 := of_decide_eq_true e2
      subst e1 e2
      exact Or.inl (Or.inl ⟨rfl, hd⟩)
    case fload k =>
      obtain ⟨e1, e2⟩ := m_and h
      have e1 := of_decide_eq_true e1
      have e2 := of_decide_eq_true e2
      subst e1 e2
      exact Or.inl (Or.inl ⟨rfl, hd⟩)
    case dload k =>
      obtain ⟨e1, e2⟩ := m_and h
      have e1 := of_decide_eq_true e1
      have e2 := of_decide_eq_true e2
      subst e1 e2
      exact Or.inl (Or.inl ⟨rfl, hd⟩)
    case fstore k =>
      obtain ⟨e1, e2⟩ := m_and h
      have e1 := of_decide_eq_true e1
      have e2 := of_decide_eq_true e2
      subst e1 e2
      exact Or.inl (Or.inl ⟨rfl, hd⟩)
    case dstore k =>
      obtain ⟨e1, e2⟩ := m_and h
      have e1 := of_decide_eq_true e1
      have e2 := of_decide_eq_true e2
      subst e1 e2
      exact Or.inl (Or.inl ⟨rfl, hd⟩)
    case iinc k v =>
      obtain ⟨e1, e2⟩ := m_and h
      have e1 := of_decide_eq_true e1
      have e2 := of_decide_eq_true e2
      subst e1 e2
      exact Or.inl (Or.inl ⟨rfl, hd⟩)
    case fconst k =>
      obtain ⟨e0, e⟩ := m_and h
      obtain ⟨e1, e2⟩ := m_and e
      have e0 := of_decide_eq_true e0
      have e1 := of_decide_eq_true e1
      have e2 := of_decide_eq_true e2
      subst e0 e1 e2
      exact Or.inl (Or.inl ⟨rfl, rfl, hd⟩)
    case dconst k =>
      obtain ⟨e0, e2⟩ := m_and h
      have e2 := of_decide_eq_true e2
      subst e2
      rcases (Bool.or_eq_true _ _).mp e0 with e | e
      · obtain ⟨e0, e1⟩ := m_and e
        have e0 := of_decide_eq_true e0
        have e1 := of_decide_eq_true e1
        subst e0 e1
        exact Or.inl (Or.inl ⟨rfl, Or.inl ⟨rfl, hd⟩⟩)
      · obtain ⟨e0, e1⟩ := m_and e
        have e0 := of_decide_eq_true e0
        have e1 := of_decide_eq_true e1
        subst e0 e1
        exact Or.inl (Or.inl ⟨rfl, Or.inr ⟨rfl, hd⟩⟩)
    case iconst v =>
      dsimp only at h
      split at h
      · obtain ⟨e0, e2⟩ := m_and h
        have e2 := of_decide_eq_true e2
        subst e2
        exact Or.inl (Or.inl (Or.inl ⟨rfl, _, of_decide_eq_true e0, hd⟩))
      · obtain ⟨e0, e2⟩ := m_and h
        have e2 := of_decide_eq_true e2
        subst e2
        exact Or.inl (Or.inl (Or.inr (Or.inl ⟨rfl, _, of_decide_eq_true e0, hd⟩)))
      · obtain ⟨e0, e2⟩ := m_and h
        have e2 := of_decide_eq_true e2
        subst e2
        exact Or.inl (Or.inl (Or.inr (Or.inr (Or.inl ⟨rfl, _, of_decide_eq_true e0, hd⟩))))
      · next ix =>
        obtain ⟨e0, e2⟩ := m_and h
        have e2 := of_decide_eq_true e2
        subst e2
        split at e0
        · next a b hl =>
          have e0 := of_decide_eq_true e0
          have hk := hlk _ _ hl
          have hk : Jvm.Cond.constant own ix (Int32.ofNat a) ∈ G := hk
          rw [e0] at hk
          exact Or.inl (Or.inl (Or.inr (Or.inr (Or.inr (Or.inl ⟨rfl, _, hk, hd⟩)))))
        · cases e0
      · next ix =>
        obtain ⟨e0, e2⟩ := m_and h
        have e2 := of_decide_eq_true e2
        subst e2
        split at e0
        · next a b hl =>
          have e0 := of_decide_eq_true e0
          have hk := hlk _ _ hl
          have hk : Jvm.Cond.constant own ix (Int32.ofNat a) ∈ G := hk
          rw [e0] at hk
          exact Or.inl (Or.inl (Or.inr (Or.inr (Or.inr (Or.inr ⟨rfl, _, hk, hd⟩)))))
        · cases e0
      · cases h
    case ldc2_w v =>
      dsimp only at h
      split at h
      · obtain ⟨e0, e2⟩ := m_and h
        have e2 := of_decide_eq_true e2
        subst e2
        exact Or.inl (Or.inl (Or.inl ⟨rfl, _, of_decide_eq_true e0, hd⟩))
      · next ix =>
        obtain ⟨e0, e2⟩ := m_and h
        have e2 := of_decide_eq_true e2
        subst e2
        split at e0
        · next a b hl =>
          have e0 := of_decide_eq_true e0
          have hk := hlk _ _ hl
          have hk : Jvm.Cond.constantLong own ix (Int64.ofNat a) ∈ G := hk
          rw [e0] at hk
          exact Or.inl (Or.inl (Or.inr ⟨rfl, _, hk, hd⟩))
        · cases e0
      · cases h
    case iload k =>
      dsimp only at h
      split at h
      · obtain ⟨e0, e2⟩ := m_and h
        have e0 := of_decide_eq_true e0
        have e2 := of_decide_eq_true e2
        subst e0 e2
        exact Or.inl (Or.inl (Or.inl ⟨rfl, hd⟩))
      · obtain ⟨e0, e2⟩ := m_and h
        have e2 := of_decide_eq_true e2
        subst e2
        exact Or.inl (Or.inl (Or.inr ⟨rfl, _, of_decide_eq_true e0, hd⟩))
      · cases h
    case lload k =>
      dsimp only at h
      split at h
      · obtain ⟨e0, e2⟩ := m_and h
        have e0 := of_decide_eq_true e0
        have e2 := of_decide_eq_true e2
        subst e0 e2
        exact Or.inl (Or.inl (Or.inl ⟨rfl, hd⟩))
      · obtain ⟨e0, e2⟩ := m_and h
        have e2 := of_decide_eq_true e2
        subst e2
        exact Or.inl (Or.inl (Or.inr ⟨rfl, _, of_decide_eq_true e0, hd⟩))
      · cases h
    case aload k =>
      dsimp only at h
      split at h
      · obtain ⟨e0, e2⟩ := m_and h
        have e0 := of_decide_eq_true e0
        have e2 := of_decide_eq_true e2
        subst e0 e2
        exact Or.inl (Or.inl (Or.inl ⟨rfl, hd⟩))
      · obtain ⟨e0, e2⟩ := m_and h
        have e2 := of_decide_eq_true e2
        subst e2
        exact Or.inl (Or.inl (Or.inr ⟨rfl, _, of_decide_eq_true e0, hd⟩))
      · cases h
    case istore k =>
      dsimp only at h
      split at h
      · obtain ⟨e0, e2⟩ := m_and h
        have e0 := of_decide_eq_true e0
        have e2 := of_decide_eq_true e2
        subst e0 e2
        exact Or.inl (Or.inl (Or.inl ⟨rfl, hd⟩))
      · obtain ⟨e0, e2⟩ := m_and h
        have e2 := of_decide_eq_true e2
        subst e2
        exact Or.inl (Or.inl (Or.inr ⟨rfl, _, of_decide_eq_true e0, hd⟩))
      · cases h
    case astore k =>
      dsimp only at h
      split at h
      · obtain ⟨e0, e2⟩ := m_and h
        have e0 := of_decide_eq_true e0
        have e2 := of_decide_eq_true e2
        subst e0 e2
        exact Or.inl (Or.inl (Or.inl ⟨rfl, hd⟩))
      · obtain ⟨e0, e2⟩ := m_and h
        have e2 := of_decide_eq_true e2
        subst e2
        exact Or.inl (Or.inl (Or.inr ⟨rfl, _, of_decide_eq_true e0, hd⟩))
      · cases h
    case goto t =>
      dsimp only at h
      split at h
      · obtain ⟨e, e2⟩ := m_and h
        obtain ⟨e0, e1⟩ := m_and e
        have e2 := of_decide_eq_true e2
        subst e2
        exact Or.inl (Or.inl ⟨rfl, ⟨_, of_decide_eq_true e0, hd⟩, htg _ e1⟩)
      · cases h
    case ifnull t =>
      dsimp only at h
      split at h
      · obtain ⟨e, e2⟩ := m_and h
        obtain ⟨e0, e1⟩ := m_and e
        have e2 := of_decide_eq_true e2
        subst e2
        exact Or.inl (Or.inl ⟨rfl, ⟨_, of_decide_eq_true e0, hd⟩, htg _ e1⟩)
      · cases h
    case ifnonnull t =>
      dsimp only at h
      split at h
      · obtain ⟨e, e2⟩ := m_and h
        obtain ⟨e0, e1⟩ := m_and e
        have e2 := of_decide_eq_true e2
        subst e2
        exact Or.inl (Or.inl ⟨rfl, ⟨_, of_decide_eq_true e0, hd⟩, htg _ e1⟩)
      · cases h
    case ifCond z t =>
      dsimp only at h
      split at h
      · obtain ⟨e, e2⟩ := m_and h
        obtain ⟨e, e1⟩ := m_and e
        obtain ⟨e3, e0⟩ := m_and e
        have e2 := of_decide_eq_true e2
        have e3 := of_decide_eq_true e3
        subst e2 e3
        exact Or.inl (Or.inl ⟨rfl, ⟨_, of_decide_eq_true e0, hd⟩, htg _ e1⟩)
      · cases h
    case if_icmp z t =>
      dsimp only at h
      split at h
      · obtain ⟨e, e2⟩ := m_and h
        obtain ⟨e, e1⟩ := m_and e
        obtain ⟨e3, e0⟩ := m_and e
        have e2 := of_decide_eq_true e2
        have e3 := of_decide_eq_true e3
        subst e2 e3
        exact Or.inl (Or.inl ⟨rfl, ⟨_, of_decide_eq_true e0, hd⟩, htg _ e1⟩)
      · cases h
    case tableswitch d lo hi ts =>
      dsimp only at h
      split at h
      · next dflt lo' hi' offs =>
        obtain ⟨h, e6⟩ := m_and h
        obtain ⟨h, e5⟩ := m_and h
        obtain ⟨h, e4⟩ := m_and h
        obtain ⟨h, e3⟩ := m_and h
        obtain ⟨e1, e2⟩ := m_and h
        have e1 := of_decide_eq_true e1
        have e2 := of_decide_eq_true e2
        subst e1 e2
        refine Or.inl (Or.inl ⟨dflt, offs, of_decide_eq_true e3, htg _ e4, fun k t hk => ?_, hd⟩)
        have hlt : k < ts.size := (Array.getElem?_eq_some_iff.mp hk).1
        have e7 := List.all_eq_true.mp e6 k (List.mem_range.mpr hlt)
        rw [hk] at e7
        split at e7
        · next t' off ht ho =>
          cases ht
          obtain ⟨f1, f2⟩ := m_and e7
          exact ⟨htg _ f2, off, ho, of_decide_eq_true f1⟩
        · cases e7
      · cases h
    case getfield x =>
      dsimp only at h
      split at h
      · next ix =>
        obtain ⟨e0, e2⟩ := m_and h
        have e2 := of_decide_eq_true e2
        subst e2
        split at e0
        · next a b hl =>
          have e0 := of_decide_eq_true e0
          have hk := hlk _ _ hl
          subst e0
          obtain ⟨C, T, k1, k2, -⟩ := hk
          exact Or.inl (Or.inl ⟨rfl, ix, C, T, k1, k2, hd⟩)
        · cases e0
      · cases h
    case putfield x =>
      dsimp only at h
      split at h
      · next ix =>
        obtain ⟨e0, e2⟩ := m_and h
        have e2 := of_decide_eq_true e2
        subst e2
        split at e0
        · next a b hl =>
          obtain ⟨e0, e1⟩ := m_and e0
          have e0 := of_decide_eq_true e0
          have hk := hlk _ _ hl
          subst e0
          obtain ⟨C, T, k1, k2, k3⟩ := hk
          refine Or.inl (Or.inl ⟨rfl, ix, C, T, k1, k2, ?_, hd⟩)
          rcases k3 with ⟨-, k3⟩ | ⟨k4, k3, k5⟩ | k4
          · exact Or.inl k3
          · refine Or.inr ⟨k3, ?_, k5⟩
            rcases (Bool.or_eq_true _ _).mp e1 with w | w
            · have w := of_decide_eq_true w
              have k4 : b = 1 := k4
              omega
            · exact (m_and w).1
          · exfalso
            have k4 : b = 2 := k4
            rcases (Bool.or_eq_true _ _).mp e1 with w | w
            · have w := of_decide_eq_true w
              omega
            · have w := of_decide_eq_true (m_and w).2
              omega
        · cases e0
      · cases h
    case newarray t =>
      obtain ⟨e, e0⟩ := m_and h
      obtain ⟨e1, e2⟩ := m_and e
      have e1 := of_decide_eq_true e1
      have e2 := of_decide_eq_true e2
      subst e1 e2
      cases t
      case int => exact Or.inl (Or.inl ⟨rfl, harr.1, hd⟩)
      case byte => exact Or.inl (Or.inl ⟨rfl, harr.2.1, hd⟩)
      case long => exact Or.inl (Or.inl ⟨rfl, harr.2.2.1, hd⟩)
      case double => exact Or.inl (Or.inl ⟨rfl, harr.2.2.2, hd⟩)
      all_goals cases e0
    case new ci =>
      dsimp only at h
      split at h
      · next ix =>
        obtain ⟨e0, e2⟩ := m_and h
        have e2 := of_decide_eq_true e2
        subst e2
        split at e0
        · next a b hl =>
          have e0 := of_decide_eq_true e0
          have hk := hlk _ _ hl
          subst e0
          obtain ⟨⟨C, T, k1, k2, k3, k4⟩, -⟩ := hk
          exact Or.inl (Or.inl ⟨rfl, ix, C, T, k1, k2, k3, k4, hd⟩)
        · cases e0
      · cases h
    case anewarray ci =>
      dsimp only at h
      split at h
      · next ix =>
        obtain ⟨e0, e2⟩ := m_and h
        have e2 := of_decide_eq_true e2
        subst e2
        split at e0
        · next a hl =>
          have e0 := of_decide_eq_true e0
          have hk := hlk _ _ hl
          subst e0
          obtain ⟨-, hk⟩ := hk
          obtain ⟨C, k1, k2, k3⟩ := hk rfl
          exact Or.inl (Or.inr ⟨rfl, ix, C, k1, k2, k3, hd⟩)
        · next a b hl =>
          have e0 := of_decide_eq_true e0
          have hk := hlk _ _ hl
          subst e0
          obtain ⟨C, k1, k2, k3⟩ := hk
          exact Or.inl (Or.inr ⟨rfl, ix, C, k1, k2, k3, hd⟩)
        · cases e0
      · cases h
    case getstatic k =>
      dsimp only at h
      split at h
      · next ix =>
        obtain ⟨e0, e2⟩ := m_and h
        have e2 := of_decide_eq_true e2
        subst e2
        split at e0
        · next a b hl =>
          have e0 := of_decide_eq_true e0
          have hk := hlk _ _ hl
          subst e0
          obtain ⟨k1, nm, k2, k3⟩ := hk
          exact Or.inl (Or.inr ⟨rfl, k1, ix, nm, k2, k3, hd⟩)
        · cases e0
      · cases h
    case invokevirtual z =>
      dsimp only at h
      split at h
      · next ix =>
        obtain ⟨e0, e2⟩ := m_and h
        have e2 := of_decide_eq_true e2
        subst e2
        split at e0
        · next a b hl =>
          have e0 := of_decide_eq_true e0
          have hk := hlk _ _ hl
          subst e0
          obtain ⟨k1, k2, k3, k4, k5, k6, k7⟩ := hk
          exact Or.inr ⟨rfl, k1, k2, ix, k3, k4, k5, k6, k7, hd⟩
        · cases e0
      · cases h
    case invokestatic z =>
      dsimp only at h
      split at h
      · next ix =>
        obtain ⟨e0, e2⟩ := m_and h
        have e2 := of_decide_eq_true e2
        subst e2
        split at e0
        · next a b hl =>
          have e0 := of_decide_eq_true e0
          have hk := hlk _ _ hl
          subst e0
          obtain ⟨k1, k3, k4, k5⟩ := hk
          exact Or.inr ⟨rfl, k1, ix, k3, k4, k5, hd⟩
        · next a b hl =>
          have e0 := of_decide_eq_true e0
          have hk := hlk _ _ hl
          subst e0
          exact Or.inl (Or.inl ⟨rfl, ix, hk, hd⟩)
        · next a b hl =>
          have e0 := of_decide_eq_true e0
          have hk := hlk _ _ hl
          subst e0
          obtain ⟨k1, k2⟩ := hk
          exact Or.inl (Or.inr ⟨rfl, rfl, ix, k1, k2, hd⟩)
        · cases e0
      · cases h
    case if_acmp z t =>
      dsimp only at h
      split at h
      · obtain ⟨e, e2⟩ := m_and h
        obtain ⟨e, e1⟩ := m_and e
        obtain ⟨e3, e0⟩ := m_and e
        have e2 := of_decide_eq_true e2
        have e3 := of_decide_eq_true e3
        subst e2 e3
        exact Or.inl (Or.inr ⟨rfl, ⟨_, of_decide_eq_true e0, hd⟩, htg _ e1⟩)
      · cases h
    case ldc j =>
      dsimp only at h
      split at h
      · next ix =>
        obtain ⟨e0, e2⟩ := m_and h
        have e2 := of_decide_eq_true e2
        subst e2
        split at e0
        · next a b hl =>
          have e0 := of_decide_eq_true e0
          have hk := hlk _ _ hl
          subst e0
          obtain ⟨qf, k1, k2, k3⟩ := hk
          exact Or.inl (Or.inr ⟨rfl, ix, qf, k1, k2, k3, hd⟩)
        · cases e0
      · cases h
    case aastore =>
      obtain ⟨e, e0⟩ := m_and h
      obtain ⟨e1, e2⟩ := m_and e
      have e1 := of_decide_eq_true e1
      have e2 := of_decide_eq_true e2
      subst e1 e2
      obtain ⟨r, k1, k2⟩ := hra _ e0
      exact Or.inl (Or.inr ⟨rfl, ⟨r, k1, k2⟩, hd⟩)
    case invokespecial z =>
      dsimp only at h
      split at h
      · next ix =>
        obtain ⟨e0, e2⟩ := m_and h
        have e2 := of_decide_eq_true e2
        subst e2
        split at e0
        · next a b hl =>
          have e0 := of_decide_eq_true e0
          have hk := hlk _ _ hl
          subst e0
          obtain ⟨k1, k2, k3, k4, k5, k6, k7⟩ := hk
          exact Or.inr ⟨rfl, k1, k2, k3, k4, ix, k5, k6, k7, hd⟩
        · next a b hl =>
          have e0 := of_decide_eq_true e0
          have hk := hlk _ _ hl
          subst e0
          obtain ⟨k1, k2, k3⟩ := hk
          exact Or.inl (Or.inl ⟨rfl, rfl, ix, k1, k2, k3, hd⟩)
        · cases e0
      · cases h
    case ldc_w z =>
      obtain ⟨e, e0⟩ := m_and h
      obtain ⟨e1, e2⟩ := m_and e
      have e1 := of_decide_eq_true e1
      have e2 := of_decide_eq_true e2
      subst e1 e2
      refine Or.inl (Or.inr ⟨rfl, ?_, hd⟩)
      simp only [Bool.or_eq_true, Bool.and_eq_true, decide_eq_true_eq] at e0
      rcases e0 with (((rfl | rfl) | rfl) | rfl) | ⟨w, w2⟩
      · exact ⟨_, hAk.1⟩
      · exact ⟨_, hAk.2.1⟩
      · exact ⟨_, hAk.2.2.1⟩
      · exact ⟨_, hAk.2.2.2⟩
      · obtain ⟨r, -, k2⟩ := hra _ w2
        rw [show 200 + (z - 200) = z by omega] at k2
        exact ⟨_, k2⟩
    case checkcast ci =>
      obtain ⟨e, e0⟩ := m_and h
      obtain ⟨e1, e2⟩ := m_and e
      have e1 := of_decide_eq_true e1
      have e2 := of_decide_eq_true e2
      subst e1 e2
      obtain ⟨r, -, k2⟩ := hra _ e0
      exact Or.inl (Or.inr ⟨rfl, ⟨_, k2⟩, hd⟩)
    case instanceof ci =>
      obtain ⟨e, e0⟩ := m_and h
      obtain ⟨e1, e2⟩ := m_and e
      have e1 := of_decide_eq_true e1
      have e2 := of_decide_eq_true e2
      subst e1 e2
      obtain ⟨r, k1, k2⟩ := hra _ e0
      exact Or.inl (Or.inr ⟨rfl, ⟨r, k1, k2⟩, hd⟩)
    all_goals (exfalso; cases h; done)
theorem m_rck_ok {tt : Option FieldType} {i : Instr} (h : m_rck tt i = true) : m_ret tt i ∨ ¬ (∃ t, m_ret t i) := by
  cases i
  case ireturn => exact Or.inl (show tt = some .int from of_decide_eq_true h)
  case ret k => exact Or.inl (show tt = some .boolean from of_decide_eq_true h)
  case areturn =>
    simp only [m_rck] at h
    split at h
    · exact Or.inl ⟨_, rfl, Or.inl ⟨_, rfl⟩⟩
    · exact Or.inl ⟨_, rfl, Or.inr ⟨_, rfl⟩⟩
    · cases h
  case freturn => exact Or.inl (show tt = some .float from of_decide_eq_true h)
  case dreturn => exact Or.inl (show tt = some .double from of_decide_eq_true h)
  case return_ => exact Or.inl (show tt = none from of_decide_eq_true h)
  all_goals exact Or.inr (fun ⟨_, z⟩ => z)
theorem m_ck_ok (hlk : ∀ ix q, lk ix = some q → m_lkok P cl G AOL TL NL tys cA Y TT INI NM own ix q) (htg : ∀ t, tg t = true → TG t) (hra : ∀ ci, ra ci = true → ∃ r : vw_C, cl[ci]? = some r ∧ m_aok tys cA (200 + ci) (.object r.1)) (hAk : m_aok tys cA 100 .int ∧ m_aok tys cA 101 .byte ∧ m_aok tys cA 102 .long ∧ m_aok tys cA 103 .double) (harr : Cond.arrayClass .int ∈ G ∧ Cond.arrayClass .byte ∈ G ∧ Cond.arrayClass .long ∈ G ∧ Cond.arrayClass .double ∈ G) (hhy : m_hh P y = hh) {i : Instr} {k : Nat} (h : m_ck lk ini hh tg ra cc pc i = k + 1) : (m_sim P cl G own ini TG cc pc (k + 1) i ∨ m_sim2 P cl G AOL TL tys cA own TG cc pc (k + 1) i) ∨ m_simC P cl G TL NL Y TT INI NM y own cc pc (k + 1) i := by
  unfold m_ck at h
  split at h
  · next x =>
    split at h
    · next ik is ic d0 d3 d4 d6 d9 =>
      split at h
      · next a b1 b2 b3 b b4 h1 h3 h2 =>
        split at h
        · next w =>
          obtain ⟨rfl, rfl, w4⟩ := w
          obtain ⟨q1, q2, q3, q4, q5, q6, q7⟩ := hlk _ _ h1
          obtain ⟨text, p1⟩ := hlk _ _ h3
          obtain ⟨p2, p3, p4⟩ := hlk _ _ h2
          have hk : k + 1 = 10 := h.symm
          rw [hk]
          exact Or.inr ⟨rfl, q1, hhy.trans w4, ik, _, ic, text, p1, q2, q3, q4, q5, List.forall_mem_cons.mpr ⟨q6, List.forall_mem_cons.mpr ⟨q7, p2⟩⟩, p3, p4, d0, d3, d4, d6, d9⟩
        · cases h
      · cases h
    · cases h
  · split at h
    · next r n hd =>
      split at h
      · next w =>
        subst h
        exact m_ckI_ok hlk htg hra hAk harr hd w
      · cases h
    · cases h
theorem m_seg_at {B : Nat → ByteArray} {INI : Nat → Bool} {TGz : Nat → Nat → Prop} {HH : Nat → List (Nat × Nat × Nat × Nat)} {z : Nat} (hlk : ∀ ix q, lk ix = some q → m_lkok P cl G AOL TL NL tys cA Y TT INI NM (Y z).cls ix q) (htg : ∀ t, tg t = true → TGz z t) (hra : ∀ ci, ra ci = true → ∃ r : vw_C, cl[ci]? = some r ∧ m_aok tys cA (200 + ci) (.object r.1)) (hAk : m_aok tys cA 100 .int ∧ m_aok tys cA 101 .byte ∧ m_aok tys cA 102 .long ∧ m_aok tys cA 103 .double) (harr : Cond.arrayClass .int ∈ G ∧ Cond.arrayClass .byte ∈ G ∧ Cond.arrayClass .long ∈ G ∧ Cond.arrayClass .double ∈ G) (hhy : m_hh P z = hh) {cv : Nat → Bool} (hcov : hh = true → ∀ pc i, cv pc = true → m_cov P G Y B HH z pc i) : ∀ (seg tail : List Instr) (pc pc' : Nat), m_seg lk (TT z) (INI z) hh tg ra cv (B z) seg pc = some pc' → m_at P cl G AOL TL NL tys cA Y B TT INI TGz NM HH z tail pc' → m_at P cl G AOL TL NL tys cA Y B TT INI TGz NM HH z (seg ++ tail) pc
  | [], tail, pc, pc', h, ht => by
    cases h
    exact ht
  | i :: is, tail, pc, pc', h, ht => by
    unfold m_seg at h
    split at h
    · next k h1 h2 =>
      obtain ⟨h1, h3⟩ := m_and h1
      refine ⟨k + 1, ?_, m_rck_ok h1, m_seg_at hlk htg hra hAk harr hhy hcov is tail _ pc' h ht⟩
      rcases m_ck_ok (y := z) hlk htg hra hAk harr hhy h2 with w | w
      · exact Or.inl w
      · refine Or.inr ⟨w, ?_⟩
        have hi : m_isc i = true := by cases i <;> first | rfl | exact w.elim
        rw [hi] at h3
        cases hb : hh with
        | false => exact fun z1 => by rw [hhy, hb] at z1; cases z1
        | true =>
          rw [hb] at h3
          exact hcov hb pc i (by simpa using h3)
    · cases h
end CHK
