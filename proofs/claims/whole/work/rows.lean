section
/-! THE SMALL MACHINE. Its heap: cells by number; ints, longs, doubles and references by cell and place. No types of its own. -/
abbrev m_H : Type := (Nat × Nat × Nat) × (Nat → Nat) × (Nat → Nat) × (Nat → Nat → Int32) × (Nat → Nat → Int64) × (Nat → Nat → UInt64) × (Nat → Nat → Option Nat)
/-- how many cells -/
def m_n (h : m_H) : Nat := h.1.1
/-- cells and slots that were made, as the room counts them -/
def m_c (h : m_H) : Nat := h.1.2.1
def m_s (h : m_H) : Nat := h.1.2.2
/-- a cell's kind: below 100 an object of that class; 100 int[], 101 byte[], 102 long[], 103 double[]; from 200 on rows of references -/
def m_k (h : m_H) : Nat → Nat := h.2.1
def m_l (h : m_H) : Nat → Nat := h.2.2.1
def m_I (h : m_H) : Nat → Nat → Int32 := h.2.2.2.1
def m_L (h : m_H) : Nat → Nat → Int64 := h.2.2.2.2.1
def m_D (h : m_H) : Nat → Nat → UInt64 := h.2.2.2.2.2.1
def m_R (h : m_H) : Nat → Nat → Option Nat := h.2.2.2.2.2.2
def m_up {α : Type} (f : Nat → Nat → α) (a k : Nat) (v : α) : Nat → Nat → α := fun x y => if x = a ∧ y = k then v else f x y
def m_zr {α : Type} (f : Nat → Nat → α) (a : Nat) (v : α) : Nat → Nat → α := fun x y => if x = a then v else f x y
def m_u1 {α : Type} (f : Nat → α) (a : Nat) (v : α) : Nat → α := fun x => if x = a then v else f x
def m_setI (h : m_H) (a k : Nat) (v : Int32) : m_H := (h.1, m_k h, m_l h, m_up (m_I h) a k v, m_L h, m_D h, m_R h)
def m_setL (h : m_H) (a k : Nat) (v : Int64) : m_H := (h.1, m_k h, m_l h, m_I h, m_up (m_L h) a k v, m_D h, m_R h)
def m_setD (h : m_H) (a k : Nat) (v : UInt64) : m_H := (h.1, m_k h, m_l h, m_I h, m_L h, m_up (m_D h) a k v, m_R h)
def m_setR (h : m_H) (a k : Nat) (v : Option Nat) : m_H := (h.1, m_k h, m_l h, m_I h, m_L h, m_D h, m_up (m_R h) a k v)
/-- a new cell of kind kd, of length len, of z slots -/
def m_mk (h : m_H) (kd len z : Nat) : m_H := ((m_n h + 1, m_c h + 1, m_s h + z), m_u1 (m_k h) (m_n h) kd, m_u1 (m_l h) (m_n h) len, m_zr (m_I h) (m_n h) 0, m_zr (m_L h) (m_n h) 0, m_zr (m_D h) (m_n h) 0, m_zr (m_R h) (m_n h) none)
/-- what a throw makes -/
def m_bump (h : m_H) : m_H := ((m_n h, m_c h + 1, m_s h + 6), m_k h, m_l h, m_I h, m_L h, m_D h, m_R h)
/-- n ints copied from a row to a row -/
def m_cpy (h : m_H) (a i b j n : Nat) : m_H := (h.1, m_k h, m_l h, (fun x y => if x = b ∧ j ≤ y ∧ y < j + n then m_I h a (i + (y - j)) else m_I h x y), m_L h, m_D h, m_R h)
abbrev m_F : Type := List (Option Value)
/-- a program: code from a place on, arguments, locals, kinds of fields, fields, handlers, ints of constants, receivers' classes, the search for a word -/
abbrev m_P : Type := (Nat → Nat → List Instr) × (Nat → Nat) × (Nat → Nat) × (Nat → Nat → Nat) × (Nat → Nat) × (Nat → Nat → Option (Nat × Nat)) × (Nat → Nat → Int32) × (Nat → Nat) × ((Nat → Int32) → Nat → Int32 → Int32 → Option Nat)
def m_tg (P : m_P) : Nat → Nat → List Instr := P.1
def m_na (P : m_P) : Nat → Nat := P.2.1
def m_nl (P : m_P) : Nat → Nat := P.2.2.1
def m_fk (P : m_P) : Nat → Nat → Nat := P.2.2.2.1
def m_nf (P : m_P) : Nat → Nat := P.2.2.2.2.1
def m_hd (P : m_P) : Nat → Nat → Option (Nat × Nat) := P.2.2.2.2.2.1
def m_xf (P : m_P) : Nat → Nat → Int32 := P.2.2.2.2.2.2.1
def m_rc (P : m_P) : Nat → Nat := P.2.2.2.2.2.2.2.1
def m_wd (P : m_P) : (Nat → Int32) → Nat → Int32 → Int32 → Option Nat := P.2.2.2.2.2.2.2.2
/-- constants have numbers from here on -/
abbrev m_X : Nat := 1000000000
abbrev m_R1 : Type := (List Instr × m_F × List Value × m_H) ⊕ (Nat × List Value × List Value) ⊕ (Option Value) ⊕ Nat
def m_nx (is : List Instr) (ls : m_F) (st : List Value) (h : m_H) : Option m_R1 := some (.inl (is, ls, st, h))
def m_rv (r : Option Nat) : Value := match r with | none => .null | some a => .ref a
/-- no long or double stands just ahead of place k -/
def m_ok1 (ls : m_F) (k : Nat) : Bool := match k with | 0 => true | j + 1 => match ls[j]? with | some (some v) => v.category == 1 | _ => true
def m_cat (st : List Value) : Nat := (st.map fun v => v.category).sum
def m_pop (k : Nat) (st : List Value) : Option (List Value × List Value) := if k ≤ st.length then some ((st.take k).reverse, st.drop k) else none
def m_icond (c : Jvm.ClassFile.Cond) (a b : Int32) : Bool := match c with
  | .eq => decide (a = b) | .ne => decide (¬ a = b) | .lt => decide (a < b) | .ge => decide (b ≤ a) | .gt => decide (b < a) | .le => decide (a ≤ b)
end
section
/-- one instruction of the small machine: the next place, a call, a return, a throw; none: it doesn't go on -/
def m_st (P : m_P) (y : Nat) (i : Instr) (is : List Instr) (ls : m_F) (st : List Value) (h : m_H) : Option m_R1 :=
  match i with
  | .aconst_null => m_nx is ls (.null :: st) h
  | .iconst v => m_nx is ls (.int (Int32.ofInt v) :: st) h
  | .ldc2_w v => m_nx is ls (.long (Int64.ofNat v) :: st) h
  | .fconst k => if k = 0 then m_nx is ls (.float FP.fconst0 :: st) h else none
  | .dconst k => if k = 0 then m_nx is ls (.double FP.dconst0 :: st) h else m_nx is ls (.double FP.dconst1 :: st) h
  | .iload k => match ls[k]? with
    | some (some (.int x)) => m_nx is ls (.int x :: st) h
    | _ => none
  | .lload k => match ls[k]? with
    | some (some (.long x)) => m_nx is ls (.long x :: st) h
    | _ => none
  | .fload k => match ls[k]? with
    | some (some (.float x)) => m_nx is ls (.float x :: st) h
    | _ => none
  | .dload k => match ls[k]? with
    | some (some (.double x)) => m_nx is ls (.double x :: st) h
    | _ => none
  | .aload k => match ls[k]? with
    | some (some (.ref x)) => m_nx is ls (.ref x :: st) h
    | some (some .null) => m_nx is ls (.null :: st) h
    | _ => none
  | .istore k => match st with
    | .int x :: st => if m_ok1 ls k = true ∧ k < ls.length then m_nx is (ls.set k (some (.int x))) st h else none
    | _ => none
  | .fstore k => match st with
    | .float x :: st => if m_ok1 ls k = true ∧ k < ls.length then m_nx is (ls.set k (some (.float x))) st h else none
    | _ => none
  | .dstore k => match st with
    | .double x :: st => if m_ok1 ls k = true ∧ k + 1 < ls.length then m_nx is ((ls.set k (some (.double x))).set (k + 1) none) st h else none
    | _ => none
  | .astore k => match st with
    | .ref x :: st => if m_ok1 ls k = true ∧ k < ls.length then m_nx is (ls.set k (some (.ref x))) st h else none
    | .null :: st => if m_ok1 ls k = true ∧ k < ls.length then m_nx is (ls.set k (some .null)) st h else none
    | _ => none
  | .iinc k v => match ls[k]? with
    | some (some (.int x)) => if m_ok1 ls k = true then m_nx is (ls.set k (some (.int (x + Int32.ofInt v)))) st h else none
    | _ => none
  | .dup => match st with
    | v :: st => if v.category = 1 then m_nx is ls (v :: v :: st) h else none
    | _ => none
  | .pop => match st with
    | v :: st => if v.category = 1 then m_nx is ls st h else none
    | _ => none
  | .dup2 => match st with
    | v :: w :: st => if v.category = 1 ∧ w.category = 1 then m_nx is ls (v :: w :: v :: w :: st) h else none
    | _ => none
  | .iadd => match st with
    | .int b :: .int a :: st => m_nx is ls (.int (a + b) :: st) h
    | _ => none
  | .isub => match st with
    | .int b :: .int a :: st => m_nx is ls (.int (a - b) :: st) h
    | _ => none
  | .imul => match st with
    | .int b :: .int a :: st => m_nx is ls (.int (a * b) :: st) h
    | _ => none
  | .iand => match st with
    | .int b :: .int a :: st => m_nx is ls (.int (a &&& b) :: st) h
    | _ => none
  | .ior => match st with
    | .int b :: .int a :: st => m_nx is ls (.int (a ||| b) :: st) h
    | _ => none
  | .ishr => match st with
    | .int b :: .int a :: st => m_nx is ls (.int (a >>> (b &&& 31)) :: st) h
    | _ => none
  | .idiv => match st with
    | .int b :: .int a :: st => if b = 0 then none else m_nx is ls (.int (a / b) :: st) h
    | _ => none
  | .irem => match st with
    | .int b :: .int a :: st => if b = 0 then none else m_nx is ls (.int (a - a / b * b) :: st) h
    | _ => none
  | .i2b => match st with
    | .int a :: st => m_nx is ls (.int a.toInt8.toInt32 :: st) h
    | _ => none
  | .i2l => match st with
    | .int a :: st => m_nx is ls (.long a.toInt64 :: st) h
    | _ => none
  | .i2d => match st with
    | .int a :: st => m_nx is ls (.double (FP.i2d a) :: st) h
    | _ => none
  | .i2f => match st with
    | .int a :: st => m_nx is ls (.float (FP.i2f a) :: st) h
    | _ => none
  | .ladd => match st with
    | .long b :: .long a :: st => m_nx is ls (.long (a + b) :: st) h
    | _ => none
  | .lsub => match st with
    | .long b :: .long a :: st => m_nx is ls (.long (a - b) :: st) h
    | _ => none
  | .lmul => match st with
    | .long b :: .long a :: st => m_nx is ls (.long (a * b) :: st) h
    | _ => none
  | .lcmp => match st with
    | .long b :: .long a :: st => m_nx is ls (.int (if a < b then -1 else if a = b then 0 else 1) :: st) h
    | _ => none
  | .goto t => m_nx (m_tg P y t.toNat) ls st h
  | .ifCond c t => match st with
    | .int a :: st => if m_icond c a 0 = true then m_nx (m_tg P y t.toNat) ls st h else m_nx is ls st h
    | _ => none
  | .if_icmp c t => match st with
    | .int b :: .int a :: st => if m_icond c a b = true then m_nx (m_tg P y t.toNat) ls st h else m_nx is ls st h
    | _ => none
  | .ifnull t => match st with
    | .null :: st => m_nx (m_tg P y t.toNat) ls st h
    | .ref _ :: st => m_nx is ls st h
    | _ => none
  | .ifnonnull t => match st with
    | .ref _ :: st => m_nx (m_tg P y t.toNat) ls st h
    | .null :: st => m_nx is ls st h
    | _ => none
  | .tableswitch d lo hi offs => match st with
    | .int x :: st => if x.toInt < lo ∨ hi < x.toInt then m_nx (m_tg P y d.toNat) ls st h
      else match offs[(x.toInt - lo).toNat]? with
        | some t => m_nx (m_tg P y t.toNat) ls st h
        | none => none
    | _ => none
  | .getfield x => match st with
    | .ref a :: st => if a < m_n h ∧ m_k h a = x / 64 ∧ x % 64 < m_nf P (x / 64) ∧ x / 64 < 100 then
        (if m_fk P (x / 64) (x % 64) = 1 then m_nx is ls (m_rv (m_R h a (x % 64)) :: st) h
        else if m_fk P (x / 64) (x % 64) = 2 then m_nx is ls (.long (m_L h a (x % 64)) :: st) h
        else m_nx is ls (.int (m_I h a (x % 64)) :: st) h) else none
    | _ => none
  | .putfield x => match st with
    | .int v :: .ref a :: st => if a < m_n h ∧ m_k h a = x / 64 ∧ x % 64 < m_nf P (x / 64) ∧ x / 64 < 100 ∧ (m_fk P (x / 64) (x % 64) = 0 ∨ m_fk P (x / 64) (x % 64) = 3 ∧ (v = 0 ∨ v = 1)) then m_nx is ls st (m_setI h a (x % 64) v) else none
    | .long v :: .ref a :: st => if a < m_n h ∧ m_k h a = x / 64 ∧ x % 64 < m_nf P (x / 64) ∧ x / 64 < 100 ∧ m_fk P (x / 64) (x % 64) = 2 then m_nx is ls st (m_setL h a (x % 64) v) else none
    | .ref v :: .ref a :: st => if a < m_n h ∧ m_k h a = x / 64 ∧ x % 64 < m_nf P (x / 64) ∧ x / 64 < 100 ∧ m_fk P (x / 64) (x % 64) = 1 then m_nx is ls st (m_setR h a (x % 64) (some v)) else none
    | .null :: .ref a :: st => if a < m_n h ∧ m_k h a = x / 64 ∧ x % 64 < m_nf P (x / 64) ∧ x / 64 < 100 ∧ m_fk P (x / 64) (x % 64) = 1 then m_nx is ls st (m_setR h a (x % 64) none) else none
    | _ => none
  | .iaload => match st with
    | .int i :: .ref a :: st => if a < m_n h ∧ m_k h a = 100 ∧ ¬ (i < 0 ∨ m_l h a ≤ i.toNatClampNeg) then m_nx is ls (.int (m_I h a i.toNatClampNeg) :: st) h else none
    | _ => none
  | .baload => match st with
    | .int i :: .ref a :: st => if a < m_n h ∧ m_k h a = 101 ∧ ¬ (i < 0 ∨ m_l h a ≤ i.toNatClampNeg) then m_nx is ls (.int (m_I h a i.toNatClampNeg) :: st) h else none
    | _ => none
  | .laload => match st with
    | .int i :: .ref a :: st => if a < m_n h ∧ m_k h a = 102 ∧ ¬ (i < 0 ∨ m_l h a ≤ i.toNatClampNeg) then m_nx is ls (.long (m_L h a i.toNatClampNeg) :: st) h else none
    | _ => none
  | .daload => match st with
    | .int i :: .ref a :: st => if a < m_n h ∧ m_k h a = 103 ∧ ¬ (i < 0 ∨ m_l h a ≤ i.toNatClampNeg) then m_nx is ls (.double (m_D h a i.toNatClampNeg) :: st) h else none
    | _ => none
  | .aaload => match st with
    | .int i :: .ref a :: st => if a < m_n h ∧ 200 ≤ m_k h a ∧ ¬ (i < 0 ∨ m_l h a ≤ i.toNatClampNeg) then m_nx is ls (m_rv (m_R h a i.toNatClampNeg) :: st) h else none
    | _ => none
  | .iastore => match st with
    | .int v :: .int i :: .ref a :: st => if a < m_n h ∧ m_k h a = 100 ∧ ¬ (i < 0 ∨ m_l h a ≤ i.toNatClampNeg) then m_nx is ls st (m_setI h a i.toNatClampNeg v) else none
    | _ => none
  | .bastore => match st with
    | .int v :: .int i :: .ref a :: st => if a < m_n h ∧ m_k h a = 101 ∧ ¬ (i < 0 ∨ m_l h a ≤ i.toNatClampNeg) then m_nx is ls st (m_setI h a i.toNatClampNeg v.toInt8.toInt32) else none
    | _ => none
  | .lastore => match st with
    | .long v :: .int i :: .ref a :: st => if a < m_n h ∧ m_k h a = 102 ∧ ¬ (i < 0 ∨ m_l h a ≤ i.toNatClampNeg) then m_nx is ls st (m_setL h a i.toNatClampNeg v) else none
    | _ => none
  | .dastore => match st with
    | .double v :: .int i :: .ref a :: st => if a < m_n h ∧ m_k h a = 103 ∧ ¬ (i < 0 ∨ m_l h a ≤ i.toNatClampNeg) then m_nx is ls st (m_setD h a i.toNatClampNeg v) else none
    | _ => none
  | .aastore => match st with
    | .ref v :: .int i :: .ref a :: st => if a < m_n h ∧ 200 ≤ m_k h a ∧ v < m_n h ∧ m_k h v + 200 = m_k h a ∧ ¬ (i < 0 ∨ m_l h a ≤ i.toNatClampNeg) then m_nx is ls st (m_setR h a i.toNatClampNeg (some v)) else none
    | _ => none
  | .arraylength => match st with
    | .ref a :: st => if a < m_n h ∧ 100 ≤ m_k h a then m_nx is ls (.int (Int32.ofNat (m_l h a)) :: st) h else none
    | _ => none
  | .newarray .int => match st with
    | .int n :: st => if n < 0 ∨ 60000000 < n.toNatClampNeg then none else m_nx is ls (.ref (m_n h) :: st) (m_mk h 100 n.toNatClampNeg n.toNatClampNeg)
    | _ => none
  | .newarray .byte => match st with
    | .int n :: st => if n < 0 ∨ 60000000 < n.toNatClampNeg then none else m_nx is ls (.ref (m_n h) :: st) (m_mk h 101 n.toNatClampNeg n.toNatClampNeg)
    | _ => none
  | .newarray .long => match st with
    | .int n :: st => if n < 0 ∨ 60000000 < n.toNatClampNeg then none else m_nx is ls (.ref (m_n h) :: st) (m_mk h 102 n.toNatClampNeg n.toNatClampNeg)
    | _ => none
  | .newarray .double => match st with
    | .int n :: st => if n < 0 ∨ 60000000 < n.toNatClampNeg then none else m_nx is ls (.ref (m_n h) :: st) (m_mk h 103 n.toNatClampNeg n.toNatClampNeg)
    | _ => none
  | .anewarray ci => match st with
    | .int n :: st => if n < 0 ∨ 60000000 < n.toNatClampNeg ∨ 100 ≤ ci then none else m_nx is ls (.ref (m_n h) :: st) (m_mk h (200 + ci) n.toNatClampNeg n.toNatClampNeg)
    | _ => none
  | .new ci => if ci < 100 then m_nx is ls (.ref (m_n h) :: st) (m_mk h ci 0 (m_nf P ci)) else none
  | .invokevirtual z => match m_pop (m_na P z) st with
    | some (.ref a :: as, st') => if a < m_n h ∧ m_k h a = m_rc P z ∧ m_cat st' ≤ 8 then some (.inr (.inl (z, .ref a :: as, st'))) else none
    | _ => none
  | .invokespecial z => if z = 9000 then (match st with
      | .ref a :: st => if a < m_n h ∧ m_cat st ≤ 8 then m_nx is ls st h else none
      | _ => none)
    else match m_pop (m_na P z) st with
    | some (.ref a :: as, st') => if a < m_n h ∧ m_k h a = m_rc P z ∧ m_cat st' ≤ 8 then some (.inr (.inl (z, .ref a :: as, st'))) else none
    | _ => none
  | .invokestatic z => if z = 9001 then (match st with
      | .int b :: .int a :: st => if m_cat st ≤ 8 then m_nx is ls (.int (if a ≤ b then a else b) :: st) h else none
      | _ => none)
    else if z = 9002 then (match st with
      | .int b :: .int a :: st => if m_cat st ≤ 8 then m_nx is ls (.int (if b ≤ a then a else b) :: st) h else none
      | _ => none)
    else match m_pop (m_na P z) st with
    | some (as, st') => if m_cat st' ≤ 8 then some (.inr (.inl (z, as, st'))) else none
    | _ => none
  | .invokedynamic k => match m_hd P y k with
    | none => if m_cat st ≤ 8 then some (.inr (.inr (.inr k))) else none
    | _ => none
  | .ireturn => match st with
    | [.int v] => some (.inr (.inr (.inl (some (.int v)))))
    | _ => none
  | .ret _ => match st with
    | [.int v] => if v = 0 ∨ v = 1 then some (.inr (.inr (.inl (some (.int v))))) else none
    | _ => none
  | .areturn => match st with
    | [.ref v] => some (.inr (.inr (.inl (some (.ref v)))))
    | [.null] => some (.inr (.inr (.inl (some .null))))
    | _ => none
  | .freturn => match st with
    | [.float v] => some (.inr (.inr (.inl (some (.float v)))))
    | _ => none
  | .dreturn => match st with
    | [.double v] => some (.inr (.inr (.inl (some (.double v)))))
    | _ => none
  | .return_ => match st with
    | [] => some (.inr (.inr (.inl none)))
    | _ => none
  | _ => none
/-- the locals at a method's start -/
def m_sl : List Value → m_F
  | [] => []
  | v :: vs => if v.category = 2 then some v :: none :: m_sl vs else some v :: m_sl vs
def m_ent (nl : Nat) (as : List Value) : m_F := m_sl as ++ List.replicate (nl - (m_sl as).length) none
/-- the small machine, n steps at the most, calls d deep at the most -/
def m_ex (P : m_P) : Nat → Nat → Nat → List Instr → m_F → List Value → m_H → Option ((Option Value ⊕ Nat) × m_H)
  | 0, _, _, _, _, _, _ => none
  | _ + 1, _, _, [], _, _, _ => none
  | n + 1, d, y, i :: is, ls, st, h =>
    match m_st P y i is ls st h with
    | none => none
    | some (.inl q) => m_ex P n d y q.1 q.2.1 q.2.2.1 q.2.2.2
    | some (.inr (.inl q)) => match d with
      | 0 => none
      | d' + 1 => match m_ex P n d' q.1 (m_tg P q.1 0) (m_ent (m_nl P q.1) q.2.1) [] h with
        | none => none
        | some (.inl v, h') => m_ex P n (d' + 1) y is ls (v.toList ++ q.2.2) h'
        | some (.inr e, h') => match m_hd P y e with
          | none => some (.inr e, h')
          | some r => m_ex P n (d' + 1) y (m_tg P y r.2) (ls.set r.1 none) [] h'
    | some (.inr (.inr (.inl v))) => some (.inl v, h)
    | some (.inr (.inr (.inr e))) => some (.inr e, m_bump h)
end
section
/-! WHAT A HEAP OF THE SMALL MACHINE IS IN THE MACHINE'S: ad gives the address of each cell and constant -/
def m_cv (ad : Nat → Nat) (v : Value) : Value := match v with | .ref a => .ref (ad a) | v => v
def m_in (n : Nat) (v : Value) : Prop := match v with | .ref a => a < n ∨ m_X ≤ a | .retAddr _ => False | _ => True
def m_fv (P : m_P) (ad : Nat → Nat) (h : m_H) (a ci k : Nat) : Value := if m_fk P ci k = 1 then va_rf ((m_R h a k).map ad) else if m_fk P ci k = 2 then .long (m_L h a k) else .int (m_I h a k)
def m_cell (P : m_P) (cA : Nat → ClassId) (ad : Nat → Nat) (h : m_H) (a : Nat) : va_E :=
  if m_k h a < 100 then .inr (m_k h a, (List.range (m_nf P (m_k h a))).map (fun k => m_fv P ad h a (m_k h a) k))
  else if m_k h a = 102 then .inl (cA 102, m_l h a, .inr (.inl (m_L h a)))
  else if m_k h a = 103 then .inl (cA 103, m_l h a, .inr (.inr (.inr (.inl (m_D h a)))))
  else if m_k h a < 200 then .inl (cA (m_k h a), m_l h a, .inl (m_I h a))
  else .inl (cA (m_k h a), m_l h a, .inr (.inr (.inr (.inr (fun i => (m_R h a i).map ad)))))
def m_ws (P : m_P) (cA : Nat → ClassId) (ad : Nat → Nat) (h : m_H) : va_W := (List.range (m_n h)).map (fun a => (ad a, m_cell P cA ad h a))
/-- references lead to cells or constants -/
def m_wf (h : m_H) : Prop := m_n h ≤ m_X ∧ ∀ a k j, a < m_n h → m_R h a k = some j → j < m_n h ∨ m_X ≤ j
theorem m_ws_at {P : m_P} {cA : Nat → ClassId} {ad : Nat → Nat} {h : m_H} {a : Nat} (ha : a < m_n h) : (m_ws P cA ad h)[a]? = some (ad a, m_cell P cA ad h a) := by
  unfold m_ws
  rw [List.getElem?_map, List.getElem?_range ha]
  rfl
theorem m_map_set {α : Type} {f g : Nat → α} {N k : Nat} (hk : k < N) (h : ∀ j, j ≠ k → g j = f j) : ((List.range N).map f).set k (g k) = (List.range N).map g := by
  apply List.ext_getElem?
  intro i
  by_cases hi : i = k
  · subst hi
    rw [List.getElem?_set_self (by simpa using hk), List.getElem?_map, List.getElem?_range hk]
    rfl
  · rw [List.getElem?_set_ne (Ne.symm hi), List.getElem?_map, List.getElem?_map]
    by_cases hN : i < N
    · rw [List.getElem?_range hN]
      simp [h i hi]
    · rw [List.getElem?_eq_none (by simpa using Nat.le_of_not_lt hN)]
      rfl
theorem m_ws_set {P : m_P} {cA : Nat → ClassId} {ad : Nat → Nat} {h h' : m_H} {a : Nat} (ha : a < m_n h) (hn : m_n h' = m_n h) (ho : ∀ b, b ≠ a → m_cell P cA ad h' b = m_cell P cA ad h b) : (m_ws P cA ad h).set a (ad a, m_cell P cA ad h' a) = m_ws P cA ad h' := by
  unfold m_ws
  rw [hn]
  exact m_map_set (f := fun a => (ad a, m_cell P cA ad h a)) (g := fun a => (ad a, m_cell P cA ad h' a)) ha (fun j hj => by simp [ho j hj])
theorem m_range_succ (n : Nat) : List.range (n + 1) = List.range n ++ [n] := List.range_succ
theorem m_map_ref {h : m_H} (hw : m_wf h) {a : Nat} (ha : a < m_n h) {ad ad' : Nat → Nat} (hd : ∀ j, j < m_n h ∨ m_X ≤ j → ad' j = ad j) (k : Nat) : (m_R h a k).map ad' = (m_R h a k).map ad := by
  cases hr : m_R h a k with
  | none => rfl
  | some j => simp [hd j (hw.2 a k j ha hr)]
theorem m_cell_ad {P : m_P} {cA : Nat → ClassId} {ad ad' : Nat → Nat} {h : m_H} {a : Nat} (hw : m_wf h) (ha : a < m_n h) (hd : ∀ j, j < m_n h ∨ m_X ≤ j → ad' j = ad j) : m_cell P cA ad' h a = m_cell P cA ad h a := by
  unfold m_cell m_fv
  simp only [m_map_ref hw ha hd]
/-- a value is the same under an address table that is longer -/
theorem m_cv_ad {ad ad' : Nat → Nat} {n : Nat} {v : Value} (hv : m_in n v) (hd : ∀ j, j < n ∨ m_X ≤ j → ad' j = ad j) : m_cv ad' v = m_cv ad v := by
  cases v <;> simp only [m_cv]
  case ref a => rw [hd a hv]
theorem m_cv_map {ad ad' : Nat → Nat} {n : Nat} {st : List Value} (hv : ∀ v ∈ st, m_in n v) (hd : ∀ j, j < n ∨ m_X ≤ j → ad' j = ad j) : st.map (m_cv ad') = st.map (m_cv ad) :=
  List.map_congr_left (fun v h => m_cv_ad (hv v h) hd)
theorem m_in_mono {n n' : Nat} {v : Value} (h : m_in n v) (hn : n ≤ n') : m_in n' v := by
  cases v <;> simp only [m_in] at h ⊢
  case ref a => exact h.imp (fun z => Nat.lt_of_lt_of_le z hn) id
theorem m_rv_cv (ad : Nat → Nat) (r : Option Nat) : m_cv ad (m_rv r) = va_rf (r.map ad) := by cases r <;> rfl
theorem m_cat_cv (ad : Nat → Nat) (v : Value) : (m_cv ad v).category = v.category := by cases v <;> rfl
theorem m_cat_map (ad : Nat → Nat) (st : List Value) : ((st.map (m_cv ad)).map fun v => v.category).sum = m_cat st := by
  unfold m_cat
  rw [List.map_map]
  congr 1
  exact List.map_congr_left (fun v _ => m_cat_cv ad v)
/-- the locals -/
def m_lR (ad : Nat → Nat) (n : Nat) (ls : m_F) (la : Array Slot) (nL : Nat) : Prop :=
  la.size = nL ∧ ls.length = nL ∧ lv_wf la ∧ ∀ (i : Nat) (v : Value), ls[i]? = some (some v) → la[i]? = some (.val (m_cv ad v)) ∧ m_in n v
theorem m_lR_ad {ad ad' : Nat → Nat} {n n' : Nat} {ls : m_F} {la : Array Slot} {nL : Nat} (h : m_lR ad n ls la nL) (hn : n ≤ n') (hd : ∀ j, j < n ∨ m_X ≤ j → ad' j = ad j) : m_lR ad' n' ls la nL := by
  obtain ⟨h1, h2, h3, h4⟩ := h
  refine ⟨h1, h2, h3, fun i v hi => ?_⟩
  obtain ⟨a1, a2⟩ := h4 i v hi
  exact ⟨by rw [m_cv_ad a2 hd]; exact a1, m_in_mono a2 hn⟩
/-- the locals as the kit lists them -/
def m_ll (ad : Nat → Nat) (ls : m_F) : List (Nat × Value) := (List.range ls.length).filterMap (fun i => match ls[i]? with | some (some v) => some (i, m_cv ad v) | _ => none)
theorem m_ll_mem {ad : Nat → Nat} {ls : m_F} {q : Nat × Value} : q ∈ m_ll ad ls ↔ ∃ v, ls[q.1]? = some (some v) ∧ q.2 = m_cv ad v := by
  unfold m_ll
  rw [List.mem_filterMap]
  constructor
  · rintro ⟨i, -, h⟩
    split at h
    · next v hv => cases h; exact ⟨v, hv, rfl⟩
    · cases h
  · rintro ⟨v, hv, h2⟩
    refine ⟨q.1, List.mem_range.mpr (List.getElem?_eq_some_iff.mp hv).1, ?_⟩
    rw [hv]
    simp only
    rw [← h2]
theorem m_lR_has {ad : Nat → Nat} {n : Nat} {ls : m_F} {la : Array Slot} {nL : Nat} (h : m_lR ad n ls la nL) : lv_has la nL (m_ll ad ls) := by
  obtain ⟨h1, h2, h3, h4⟩ := h
  refine ⟨h1, h3, fun q hq => ?_⟩
  obtain ⟨v, hv, h5⟩ := m_ll_mem.mp hq
  rw [h5]
  exact (h4 _ _ hv).1
theorem m_lR_st1 {ad : Nat → Nat} {n : Nat} {ls : m_F} {la la' : Array Slot} {nL k : Nat} {v : Value} (h : m_lR ad n ls la nL) (hk : m_ok1 ls k = true) (hl : k < ls.length) (hv : m_in n v)
    (h' : lv_has la' nL ((k, m_cv ad v) :: (m_ll ad ls).filter (fun q => !(q.1 == k) && !(q.1 + 1 == k && q.2.category == 2)))) : m_lR ad n (ls.set k (some v)) la' nL := by
  obtain ⟨h1, h2, h3, h4⟩ := h
  obtain ⟨g1, g2, g3⟩ := h'
  refine ⟨g1, by rw [List.length_set]; exact h2, g2, fun i w hi => ?_⟩
  by_cases hik : i = k
  · subst hik
    rw [List.getElem?_set_self hl] at hi
    cases hi
    exact ⟨g3 (i, m_cv ad v) List.mem_cons_self, hv⟩
  · rw [List.getElem?_set_ne (Ne.symm hik)] at hi
    refine ⟨g3 (i, m_cv ad w) (List.mem_cons_of_mem _ (List.mem_filter.mpr ⟨m_ll_mem.mpr ⟨w, hi, rfl⟩, ?_⟩)), (h4 i w hi).2⟩
    simp only [Bool.and_eq_true, Bool.not_eq_true', beq_eq_false_iff_ne, ne_eq, Bool.and_eq_false_iff]
    refine ⟨hik, ?_⟩
    by_cases hj : i + 1 = k
    · right
      subst hj
      simp only [m_ok1, hi, beq_iff_eq] at hk
      rw [m_cat_cv, hk]
      decide
    · exact Or.inl hj
theorem m_lR_st2 {ad : Nat → Nat} {n : Nat} {ls : m_F} {la la' : Array Slot} {nL k : Nat} {v : Value} (h : m_lR ad n ls la nL) (hk : m_ok1 ls k = true) (hl : k + 1 < ls.length) (hv : m_in n v)
    (h' : lv_has la' nL ((k, m_cv ad v) :: (m_ll ad ls).filter (fun q => !(q.1 == k) && (!(q.1 == k + 1) && !(q.1 + 1 == k && q.2.category == 2))))) : m_lR ad n ((ls.set k (some v)).set (k + 1) none) la' nL := by
  obtain ⟨h1, h2, h3, h4⟩ := h
  obtain ⟨g1, g2, g3⟩ := h'
  refine ⟨g1, by rw [List.length_set, List.length_set]; exact h2, g2, fun i w hi => ?_⟩
  by_cases hi1 : i = k + 1
  · subst hi1
    rw [List.getElem?_set_self (by rw [List.length_set]; exact hl)] at hi
    cases hi
  rw [List.getElem?_set_ne (Ne.symm hi1)] at hi
  by_cases hik : i = k
  · subst hik
    rw [List.getElem?_set_self (by omega)] at hi
    cases hi
    exact ⟨g3 (i, m_cv ad v) List.mem_cons_self, hv⟩
  · rw [List.getElem?_set_ne (Ne.symm hik)] at hi
    refine ⟨g3 (i, m_cv ad w) (List.mem_cons_of_mem _ (List.mem_filter.mpr ⟨m_ll_mem.mpr ⟨w, hi, rfl⟩, ?_⟩)), (h4 i w hi).2⟩
    simp only [Bool.and_eq_true, Bool.not_eq_true', beq_eq_false_iff_ne, ne_eq, Bool.and_eq_false_iff]
    refine ⟨hik, hi1, ?_⟩
    by_cases hj : i + 1 = k
    · right
      subst hj
      simp only [m_ok1, hi, beq_iff_eq] at hk
      rw [m_cat_cv, hk]
      decide
    · exact Or.inl hj
end
