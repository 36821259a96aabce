/-- the locals at a method's start -/
def m_sl : List Value → m_F
  | [] => []
  | v :: vs => if v.category = 2 then some v :: none :: m_sl vs else some v :: m_sl vs
/-- one instruction of the small machine: the next place, a call, a return, a throw; none: it doesn't go on -/
def m_st (P : m_P) (y : Nat) (i : Instr) (is : List Instr) (ls : m_F) (st : List Value) (h : m_H) : Option m_R1 :=
  match i with
  | .aconst_null => m_nx is ls (.null :: st) h
  | .iconst v => m_nx is ls (.int (Int32.ofInt v) :: st) h
  | .ldc2_w v => m_nx is ls (.long (Int64.ofNat v) :: st) h
  | .fconst k => if k = 0 then m_nx is ls (.float FP.fconst0 :: st) h else none
  | .dconst k => if k = 0 then m_nx is ls (.double FP.dconst0 :: st) h else m_nx is ls (.double FP.dconst1 :: st) h
  | .iload k => match ls[k]? with
    | some (some (.int x)) => m_nx is ls (.int x :: st) h
    | _ => none
  | .lload k => match ls[k]? with
    | some (some (.long x)) => m_nx is ls (.long x :: st) h
    | _ => none
  | .fload k => match ls[k]? with
    | some (some (.float x)) => m_nx is ls (.float x :: st) h
    | _ => none
  | .dload k => match ls[k]? with
    | some (some (.double x)) => m_nx is ls (.double x :: st) h
    | _ => none
  | .aload k => match ls[k]? with
    | some (some (.ref x)) => m_nx is ls (.ref x :: st) h
    | some (some .null) => m_nx is ls (.null :: st) h
    | _ => none
  | .istore k => match st with
    | .int x :: st => if m_ok1 ls k = true ∧ k < ls.length then m_nx is (ls.set k (some (.int x))) st h else none
    | _ => none
  | .fstore k => match st with
    | .float x :: st => if m_ok1 ls k = true ∧ k < ls.length then m_nx is (ls.set k (some (.float x))) st h else none
    | _ => none
  | .dstore k => match st with
    | .double x :: st => if m_ok1 ls k = true ∧ k + 1 < ls.length then m_nx is ((ls.set k (some (.double x))).set (k + 1) none) st h else none
    | _ => none
  | .astore k => match st with
    | .ref x :: st => if m_ok1 ls k = true ∧ k < ls.length then m_nx is (ls.set k (some (.ref x))) st h else none
    | .null :: st => if m_ok1 ls k = true ∧ k < ls.length then m_nx is (ls.set k (some .null)) st h else none
    | _ => none
  | .iinc k v => match ls[k]? with
    | some (some (.int x)) => if m_ok1 ls k = true then m_nx is (ls.set k (some (.int (x + Int32.ofInt v)))) st h else none
    | _ => none
  | .dup => match st with
    | v :: st => if v.category = 1 then m_nx is ls (v :: v :: st) h else none
    | _ => none
  | .pop => match st with
    | v :: st => if v.category = 1 then m_nx is ls st h else none
    | _ => none
  | .dup2 => match st with
    | v :: w :: st => if v.category = 1 ∧ w.category = 1 then m_nx is ls (v :: w :: v :: w :: st) h else none
    | _ => none
  | .iadd => match st with
    | .int b :: .int a :: st => m_nx is ls (.int (a + b) :: st) h
    | _ => none
  | .isub => match st with
    | .int b :: .int a :: st => m_nx is ls (.int (a - b) :: st) h
    | _ => none
  | .imul => match st with
    | .int b :: .int a :: st => m_nx is ls (.int (a * b) :: st) h
    | _ => none
  | .iand => match st with
    | .int b :: .int a :: st => m_nx is ls (.int (a &&& b) :: st) h
    | _ => none
  | .ior => match st with
    | .int b :: .int a :: st => m_nx is ls (.int (a ||| b) :: st) h
    | _ => none
  | .ishr => match st with
    | .int b :: .int a :: st => m_nx is ls (.int (a >>> (b &&& 31)) :: st) h
    | _ => none
  | .idiv => match st with
    | .int b :: .int a :: st => if b = 0 then none else m_nx is ls (.int (a / b) :: st) h
    | _ => none
  | .irem => match st with
    | .int b :: .int a :: st => if b = 0 then none else m_nx is ls (.int (a - a / b * b) :: st) h
    | _ => none
  | .i2b => match st with
    | .int a :: st => m_nx is ls (.int a.toInt8.toInt32 :: st) h
    | _ => none
  | .i2l => match st with
    | .int a :: st => m_nx is ls (.long a.toInt64 :: st) h
    | _ => none
  | .i2d => match st with
    | .int a :: st => m_nx is ls (.double (FP.i2d a) :: st) h
    | _ => none
  | .i2f => match st with
    | .int a :: st => m_nx is ls (.float (FP.i2f a) :: st) h
    | _ => none
  | .ladd => match st with
    | .long b :: .long a :: st => m_nx is ls (.long (a + b) :: st) h
    | _ => none
  | .lsub => match st with
    | .long b :: .long a :: st => m_nx is ls (.long (a - b) :: st) h
    | _ => none
  | .lmul => match st with
    | .long b :: .long a :: st => m_nx is ls (.long (a * b) :: st) h
    | _ => none
  | .lcmp => match st with
    | .long b :: .long a :: st => m_nx is ls (.int (lg_cmp a b) :: st) h
    | _ => none
  | .ddiv => match st with
    | .double b :: .double a :: st => if isNaN64 (FP.ddiv a b) = false then m_nx is ls (.double (FP.ddiv a b) :: st) h else none
    | _ => none
  | .fdiv => match st with
    | .float b :: .float a :: st => if isNaN32 (FP.fdiv a b) = false then m_nx is ls (.float (FP.fdiv a b) :: st) h else none
    | _ => none
  | .f2d => match st with
    | .float a :: st => if isNaN64 (FP.f2d a) = false then m_nx is ls (.double (FP.f2d a) :: st) h else none
    | _ => none
  | .d2f => match st with
    | .double a :: st => if isNaN32 (FP.d2f a) = false then m_nx is ls (.float (FP.d2f a) :: st) h else none
    | _ => none
  | .dcmp op => match st with
    | .double b :: .double a :: st => m_nx is ls (.int (Op.cmpValue (FP.dcmp a b) op) :: st) h
    | _ => none
  | .fcmp op => match st with
    | .float b :: .float a :: st => m_nx is ls (.int (Op.cmpValue (FP.fcmp a b) op) :: st) h
    | _ => none
  | .goto t => m_nx (m_tg P y t.toNat) ls st h
  | .ifCond c t => match st with
    | .int a :: st => if m_icond c a 0 = true then m_nx (m_tg P y t.toNat) ls st h else m_nx is ls st h
    | _ => none
  | .if_icmp c t => match st with
    | .int b :: .int a :: st => if m_icond c a b = true then m_nx (m_tg P y t.toNat) ls st h else m_nx is ls st h
    | _ => none
  | .ifnull t => match st with
    | .null :: st => m_nx (m_tg P y t.toNat) ls st h
    | .ref _ :: st => m_nx is ls st h
    | _ => none
  | .ifnonnull t => match st with
    | .ref _ :: st => m_nx (m_tg P y t.toNat) ls st h
    | .null :: st => m_nx is ls st h
    | _ => none
  | .tableswitch d lo hi offs => match st with
    | .int x :: st => if x.toInt < lo ∨ hi < x.toInt then m_nx (m_tg P y d.toNat) ls st h
      else match offs[(x.toInt - lo).toNat]? with
        | some t => m_nx (m_tg P y t.toNat) ls st h
        | none => none
    | _ => none
  | .getfield x => match st with
    | .ref a :: st => if a < m_n h ∧ m_k h a = x / 64 ∧ x % 64 < m_nf P (x / 64) ∧ x / 64 < 100 then
        (if m_fk P (x / 64) (x % 64) = 1 then m_nx is ls (m_rv (m_R h a (x % 64)) :: st) h
        else if m_fk P (x / 64) (x % 64) = 2 then m_nx is ls (.long (m_L h a (x % 64)) :: st) h
        else m_nx is ls (.int (m_I h a (x % 64)) :: st) h) else none
    | _ => none
  | .putfield x => match st with
    | .int v :: .ref a :: st => if a < m_n h ∧ m_k h a = x / 64 ∧ x % 64 < m_nf P (x / 64) ∧ x / 64 < 100 ∧ (m_fk P (x / 64) (x % 64) = 0 ∨ m_fk P (x / 64) (x % 64) = 3 ∧ (v = 0 ∨ v = 1)) then m_nx is ls st (m_setI h a (x % 64) v) else none
    | .long v :: .ref a :: st => if a < m_n h ∧ m_k h a = x / 64 ∧ x % 64 < m_nf P (x / 64) ∧ x / 64 < 100 ∧ m_fk P (x / 64) (x % 64) = 2 then m_nx is ls st (m_setL h a (x % 64) v) else none
    | .ref v :: .ref a :: st => if a < m_n h ∧ m_k h a = x / 64 ∧ x % 64 < m_nf P (x / 64) ∧ x / 64 < 100 ∧ m_fk P (x / 64) (x % 64) = 1 then m_nx is ls st (m_setR h a (x % 64) (some v)) else none
    | .null :: .ref a :: st => if a < m_n h ∧ m_k h a = x / 64 ∧ x % 64 < m_nf P (x / 64) ∧ x / 64 < 100 ∧ m_fk P (x / 64) (x % 64) = 1 then m_nx is ls st (m_setR h a (x % 64) none) else none
    | _ => none
  | .iaload => match st with
    | .int i :: .ref a :: st => if a = m_X then (if i < 0 ∨ m_xl P ≤ i.toNatClampNeg then none else m_nx is ls (.int (m_xs P i.toNatClampNeg) :: st) h) else if a < m_n h ∧ m_k h a = 100 ∧ ¬ (i < 0 ∨ m_l h a ≤ i.toNatClampNeg) then m_nx is ls (.int (m_I h a i.toNatClampNeg) :: st) h else none
    | _ => none
  | .baload => match st with
    | .int i :: .ref a :: st => if a < m_n h ∧ m_k h a = 101 ∧ ¬ (i < 0 ∨ m_l h a ≤ i.toNatClampNeg) then m_nx is ls (.int (m_I h a i.toNatClampNeg) :: st) h else none
    | _ => none
  | .laload => match st with
    | .int i :: .ref a :: st => if a < m_n h ∧ m_k h a = 102 ∧ ¬ (i < 0 ∨ m_l h a ≤ i.toNatClampNeg) then m_nx is ls (.long (m_L h a i.toNatClampNeg) :: st) h else none
    | _ => none
  | .daload => match st with
    | .int i :: .ref a :: st => if a < m_n h ∧ m_k h a = 103 ∧ ¬ (i < 0 ∨ m_l h a ≤ i.toNatClampNeg) then m_nx is ls (.double (m_D h a i.toNatClampNeg) :: st) h else none
    | _ => none
  | .checkcast ci => match st with
    | .int i :: .ref a :: st => if a < m_n h ∧ m_k h a = 200 + ci ∧ ¬ (i < 0 ∨ m_l h a ≤ i.toNatClampNeg) then m_nx is ls (m_rv (m_R h a i.toNatClampNeg) :: st) h else none
    | _ => none
  | .iastore => match st with
    | .int v :: .int i :: .ref a :: st => if a < m_n h ∧ m_k h a = 100 ∧ ¬ (i < 0 ∨ m_l h a ≤ i.toNatClampNeg) then m_nx is ls st (m_setI h a i.toNatClampNeg v) else none
    | _ => none
  | .bastore => match st with
    | .int v :: .int i :: .ref a :: st => if a < m_n h ∧ m_k h a = 101 ∧ ¬ (i < 0 ∨ m_l h a ≤ i.toNatClampNeg) then m_nx is ls st (m_setI h a i.toNatClampNeg v.toInt8.toInt32) else none
    | _ => none
  | .lastore => match st with
    | .long v :: .int i :: .ref a :: st => if a < m_n h ∧ m_k h a = 102 ∧ ¬ (i < 0 ∨ m_l h a ≤ i.toNatClampNeg) then m_nx is ls st (m_setL h a i.toNatClampNeg v) else none
    | _ => none
  | .dastore => match st with
    | .double v :: .int i :: .ref a :: st => if a < m_n h ∧ m_k h a = 103 ∧ ¬ (i < 0 ∨ m_l h a ≤ i.toNatClampNeg) then m_nx is ls st (m_setD h a i.toNatClampNeg v) else none
    | _ => none
  | .instanceof ci => match st with
    | .ref v :: .int i :: .ref a :: st => if a < m_n h ∧ m_k h a = 200 + ci ∧ v < m_n h ∧ m_k h v = ci ∧ ci < 100 ∧ ¬ (i < 0 ∨ m_l h a ≤ i.toNatClampNeg) then m_nx is ls st (m_setR h a i.toNatClampNeg (some v)) else none
    | _ => none
  | .ldc_w z => match st with
    | .ref a :: st => if a = m_X then m_nx is ls (.int (Int32.ofNat (m_xl P)) :: st) h else if a < m_n h ∧ m_k h a = z ∧ 100 ≤ z then m_nx is ls (.int (Int32.ofNat (m_l h a)) :: st) h else none
    | _ => none
  | .newarray .int => match st with
    | .int n :: st => if n < 0 ∨ 60000000 < n.toNatClampNeg ∨ m_X ≤ m_n h then none else m_nx is ls (.ref (m_n h) :: st) (m_mk h 100 n.toNatClampNeg n.toNatClampNeg)
    | _ => none
  | .newarray .byte => match st with
    | .int n :: st => if n < 0 ∨ 60000000 < n.toNatClampNeg ∨ m_X ≤ m_n h then none else m_nx is ls (.ref (m_n h) :: st) (m_mk h 101 n.toNatClampNeg n.toNatClampNeg)
    | _ => none
  | .newarray .long => match st with
    | .int n :: st => if n < 0 ∨ 60000000 < n.toNatClampNeg ∨ m_X ≤ m_n h then none else m_nx is ls (.ref (m_n h) :: st) (m_mk h 102 n.toNatClampNeg n.toNatClampNeg)
    | _ => none
  | .newarray .double => match st with
    | .int n :: st => if n < 0 ∨ 60000000 < n.toNatClampNeg ∨ m_X ≤ m_n h then none else m_nx is ls (.ref (m_n h) :: st) (m_mk h 103 n.toNatClampNeg n.toNatClampNeg)
    | _ => none
  | .anewarray ci => match st with
    | .int n :: st => if n < 0 ∨ 60000000 < n.toNatClampNeg ∨ 100 ≤ ci ∨ m_X ≤ m_n h then none else m_nx is ls (.ref (m_n h) :: st) (m_mk h (200 + ci) n.toNatClampNeg n.toNatClampNeg)
    | _ => none
  | .if_acmp c t => match st with
    | b :: a :: st => if m_isK a = true ∧ m_isK b = true then (if m_acond c (m_vo a) (m_vo b) = true then m_nx (m_tg P y t.toNat) ls st h else m_nx is ls st h) else none
    | _ => none
  | .ldc j => match st with
    | .ref k :: st => if m_kon k = true then m_nx is ls (.int (m_xf P k j) :: st) h else none
    | _ => none
  | .aastore => match st with
    | v :: .int i :: .ref a :: st => if m_isK v = true ∧ a < m_n h ∧ m_k h a = 209 ∧ ¬ (i < 0 ∨ m_l h a ≤ i.toNatClampNeg) then m_nx is ls st (m_setR h a i.toNatClampNeg (m_vo v)) else none
    | _ => none
  | .getstatic k => if m_X ≤ k then m_nx is ls (.ref k :: st) h else none
  | .new ci => if ci < 100 ∧ m_n h < m_X then m_nx is ls (.ref (m_n h) :: st) (m_mk h ci 0 (m_nf P ci)) else none
  | .invokevirtual z => match m_pop (m_na P z) st with
    | some (.ref a :: as, st') => if a < m_n h ∧ m_k h a = m_rc P z ∧ m_cat st' ≤ 8 ∧ (m_sl (.ref a :: as)).length ≤ m_nl P z then some (.inr (.inl (z, .ref a :: as, st'))) else none
    | _ => none
  | .invokespecial z => if z = 9000 then (match st with
      | .ref a :: st => if a < m_n h ∧ m_cat st ≤ 8 then m_nx is ls st h else none
      | _ => none)
    else match m_pop (m_na P z) st with
    | some (.ref a :: as, st') => if a < m_n h ∧ m_k h a = m_rc P z ∧ m_cat st' ≤ 8 ∧ (m_sl (.ref a :: as)).length ≤ m_nl P z then some (.inr (.inl (z, .ref a :: as, st'))) else none
    | _ => none
  | .invokestatic z => if z = 9001 then (match st with
      | .int b :: .int a :: st => if m_cat st ≤ 8 then m_nx is ls (.int (if b < a then b else a) :: st) h else none
      | _ => none)
    else if z = 9002 then (match st with
      | .int b :: .int a :: st => if m_cat st ≤ 8 then m_nx is ls (.int (if a < b then b else a) :: st) h else none
      | _ => none)
    else if z = 9003 then (match st with
      | .int n :: .int j :: .ref b :: .int i :: .ref a :: st => if a < m_n h ∧ m_k h a = 100 ∧ b < m_n h ∧ m_k h b = 100 ∧ ¬ i < 0 ∧ ¬ j < 0 ∧ ¬ n < 0 ∧ i.toNatClampNeg + n.toNatClampNeg ≤ m_l h a ∧ j.toNatClampNeg + n.toNatClampNeg ≤ m_l h b ∧ m_cat st ≤ 8 then m_nx is ls st (m_cpy h a i.toNatClampNeg b j.toNatClampNeg n.toNatClampNeg) else none
      | _ => none)
    else if z = 9004 then (match st with
      | .int e :: .int f :: .ref a :: st => if a < m_n h ∧ m_k h a = 101 ∧ ¬ f < 0 ∧ ¬ e < f ∧ (e.toNatClampNeg ≤ m_l h a ∧ m_l h a < 2147483648) ∧ m_cat st ≤ 8 then m_nx is ls (m_rv (m_wd P (m_I h a) (m_l h a) f e) :: st) h else none
      | _ => none)
    else match m_pop (m_na P z) st with
    | some (as, st') => if m_cat st' ≤ 8 ∧ (m_sl as).length ≤ m_nl P z then some (.inr (.inl (z, as, st'))) else none
    | _ => none
  | .invokedynamic k => match m_hd P y k with
    | none => if m_cat st ≤ 8 then some (.inr (.inr (.inr k))) else none
    | _ => none
  | .ireturn => match st with
    | [.int v] => some (.inr (.inr (.inl (some (.int v)))))
    | _ => none
  | .ret _ => match st with
    | [.int v] => if v = 0 ∨ v = 1 then some (.inr (.inr (.inl (some (.int v))))) else none
    | _ => none
  | .areturn => match st with
    | [.ref v] => some (.inr (.inr (.inl (some (.ref v)))))
    | [.null] => some (.inr (.inr (.inl (some .null))))
    | _ => none
  | .freturn => match st with
    | [.float v] => some (.inr (.inr (.inl (some (.float v)))))
    | _ => none
  | .dreturn => match st with
    | [.double v] => some (.inr (.inr (.inl (some (.double v)))))
    | _ => none
  | .return_ => match st with
    | [] => some (.inr (.inr (.inl none)))
    | _ => none
  | _ => none
/-- the locals at a method's start, filled up -/
def m_ent (nl : Nat) (as : List Value) : m_F := m_sl as ++ List.replicate (nl - (m_sl as).length) none
/-- a method with handlers -/
def m_hh (P : m_P) (y : Nat) : Bool := (m_hd P y 0).isSome || (m_hd P y 1).isSome
def m_isp (i : Instr) : Bool := match i with | .invokespecial _ => true | _ => false
/-- the small machine, n steps at the most, calls d deep at the most -/
def m_ex (P : m_P) : Nat → Nat → Nat → List Instr → m_F → List Value → m_H → Option ((Option Value ⊕ Nat) × m_H)
  | 0, _, _, _, _, _, _ => none
  | _ + 1, _, _, [], _, _, _ => none
  | n + 1, d, y, i :: is, ls, st, h =>
    match m_st P y i is ls st h with
    | none => none
    | some (.inl q) => m_ex P n d y q.1 q.2.1 q.2.2.1 q.2.2.2
    | some (.inr (.inl q)) => match d with
      | 0 => none
      | d' + 1 => match m_ex P n d' q.1 (m_tg P q.1 0) (m_ent (m_nl P q.1) q.2.1) [] h with
        | none => none
        | some (.inl v, h') => m_ex P n (d' + 1) y is ls (v.toList ++ q.2.2) h'
        | some (.inr e, h') => if m_isp i = true then none else match m_hd P y e with
          | none => if m_hh P y = true then none else some (.inr e, h')
          | some r => if m_ok1 ls r.1 = true then m_ex P n (d' + 1) y (m_tg P y r.2) (ls.set r.1 none) [] h' else none
    | some (.inr (.inr (.inl v))) => some (.inl v, h)
    | some (.inr (.inr (.inr e))) => some (.inr e, m_bump h)
