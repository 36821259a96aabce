section
/-! THE SMALL MACHINE. Its heap: cells by number; ints, longs, doubles and references by cell and place. No types of its own. -/
abbrev m_H : Type := (Nat × Nat × Nat) × (Nat → Nat) × (Nat → Nat) × (Nat → Nat → Int32) × (Nat → Nat → Int64) × (Nat → Nat → UInt64) × (Nat → Nat → Option Nat)
/-- how many cells -/
def m_n (h : m_H) : Nat := h.1.1
/-- cells and slots that were made, as the room counts them -/
def m_c (h : m_H) : Nat := h.1.2.1
def m_s (h : m_H) : Nat := h.1.2.2
/-- a cell's kind: below 100 an object of that class; 100 int[], 101 byte[], 102 long[], 103 double[]; from 200 on rows of references -/
def m_k (h : m_H) : Nat → Nat := h.2.1
def m_l (h : m_H) : Nat → Nat := h.2.2.1
def m_I (h : m_H) : Nat → Nat → Int32 := h.2.2.2.1
def m_L (h : m_H) : Nat → Nat → Int64 := h.2.2.2.2.1
def m_D (h : m_H) : Nat → Nat → UInt64 := h.2.2.2.2.2.1
def m_R (h : m_H) : Nat → Nat → Option Nat := h.2.2.2.2.2.2
def m_up {α : Type} (f : Nat → Nat → α) (a k : Nat) (v : α) : Nat → Nat → α := fun x y => if x = a ∧ y = k then v else f x y
def m_zr {α : Type} (f : Nat → Nat → α) (a : Nat) (v : α) : Nat → Nat → α := fun x y => if x = a then v else f x y
def m_u1 {α : Type} (f : Nat → α) (a : Nat) (v : α) : Nat → α := fun x => if x = a then v else f x
def m_setI (h : m_H) (a k : Nat) (v : Int32) : m_H := (h.1, m_k h, m_l h, m_up (m_I h) a k v, m_L h, m_D h, m_R h)
def m_setL (h : m_H) (a k : Nat) (v : Int64) : m_H := (h.1, m_k h, m_l h, m_I h, m_up (m_L h) a k v, m_D h, m_R h)
def m_setD (h : m_H) (a k : Nat) (v : UInt64) : m_H := (h.1, m_k h, m_l h, m_I h, m_L h, m_up (m_D h) a k v, m_R h)
def m_setR (h : m_H) (a k : Nat) (v : Option Nat) : m_H := (h.1, m_k h, m_l h, m_I h, m_L h, m_D h, m_up (m_R h) a k v)
/-- a new cell of kind kd, of length len, of z slots -/
def m_mk (h : m_H) (kd len z : Nat) : m_H := ((m_n h + 1, m_c h + 1, m_s h + z), m_u1 (m_k h) (m_n h) kd, m_u1 (m_l h) (m_n h) len, m_zr (m_I h) (m_n h) 0, m_zr (m_L h) (m_n h) 0, m_zr (m_D h) (m_n h) 0, m_zr (m_R h) (m_n h) none)
/-- what a throw makes -/
def m_bump (h : m_H) : m_H := ((m_n h, m_c h + 1, m_s h + 6), m_k h, m_l h, m_I h, m_L h, m_D h, m_R h)
/-- n ints copied from a row to a row -/
def m_cpy (h : m_H) (a i b j n : Nat) : m_H := (h.1, m_k h, m_l h, (fun x y => if x = b ∧ j ≤ y ∧ y < j + n then m_I h a (i + (y - j)) else m_I h x y), m_L h, m_D h, m_R h)
abbrev m_F : Type := List (Option Value)
/-- a program: code from a place on, arguments, locals, kinds of fields, fields, handlers, ints of constants, receivers' classes, the search for a word -/
abbrev m_P : Type := (Nat → Nat → List Instr) × (Nat → Nat) × (Nat → Nat) × (Nat → Nat → Nat) × (Nat → Nat) × (Nat → Nat → Option (Nat × Nat)) × (Nat → Nat → Int32) × (Nat → Nat) × ((Nat → Int32) → Nat → Int32 → Int32 → Option Nat)
def m_tg (P : m_P) : Nat → Nat → List Instr := P.1
def m_na (P : m_P) : Nat → Nat := P.2.1
def m_nl (P : m_P) : Nat → Nat := P.2.2.1
def m_fk (P : m_P) : Nat → Nat → Nat := P.2.2.2.1
def m_nf (P : m_P) : Nat → Nat := P.2.2.2.2.1
def m_hd (P : m_P) : Nat → Nat → Option (Nat × Nat) := P.2.2.2.2.2.1
def m_xf (P : m_P) : Nat → Nat → Int32 := P.2.2.2.2.2.2.1
def m_rc (P : m_P) : Nat → Nat := P.2.2.2.2.2.2.2.1
def m_wd (P : m_P) : (Nat → Int32) → Nat → Int32 → Int32 → Option Nat := P.2.2.2.2.2.2.2.2
/-- constants have numbers from here on -/
abbrev m_X : Nat := 1000000000
abbrev m_R1 : Type := (List Instr × m_F × List Value × m_H) ⊕ (Nat × List Value × List Value) ⊕ (Option Value) ⊕ Nat
def m_nx (is : List Instr) (ls : m_F) (st : List Value) (h : m_H) : Option m_R1 := some (.inl (is, ls, st, h))
def m_rv (r : Option Nat) : Value := match r with | none => .null | some a => .ref a
/-- no long or double stands just ahead of place k -/
def m_ok1 (ls : m_F) (k : Nat) : Bool := match k with | 0 => true | j + 1 => match ls[j]? with | some (some v) => v.category == 1 | _ => true
def m_cat (st : List Value) : Nat := (st.map fun v => v.category).sum
def m_pop (k : Nat) (st : List Value) : Option (List Value × List Value) := if k ≤ st.length then some ((st.take k).reverse, st.drop k) else none
def m_icond (c : Jvm.ClassFile.Cond) (a b : Int32) : Bool := match c with
  | .eq => decide (a = b) | .ne => decide (¬ a = b) | .lt => decide (a < b) | .ge => decide (b ≤ a) | .gt => decide (b < a) | .le => decide (a ≤ b)
end
section
/-- one instruction of the small machine: the next place, a call, a return, a throw; none: it doesn't go on -/
def m_st (P : m_P) (y : Nat) (i : Instr) (is : List Instr) (ls : m_F) (st : List Value) (h : m_H) : Option m_R1 :=
  match i with
  | .aconst_null => m_nx is ls (.null :: st) h
  | .iconst v => m_nx is ls (.int (Int32.ofInt v) :: st) h
  | .ldc2_w v => m_nx is ls (.long (Int64.ofNat v) :: st) h
  | .fconst k => if k = 0 then m_nx is ls (.float FP.fconst0 :: st) h else none
  | .dconst k => if k = 0 then m_nx is ls (.double FP.dconst0 :: st) h else m_nx is ls (.double FP.dconst1 :: st) h
  | .iload k => match ls[k]? with
    | some (some (.int x)) => m_nx is ls (.int x :: st) h
    | _ => none
  | .lload k => match ls[k]? with
    | some (some (.long x)) => m_nx is ls (.long x :: st) h
    | _ => none
  | .fload k => match ls[k]? with
    | some (some (.float x)) => m_nx is ls (.float x :: st) h
    | _ => none
  | .dload k => match ls[k]? with
    | some (some (.double x)) => m_nx is ls (.double x :: st) h
    | _ => none
  | .aload k => match ls[k]? with
    | some (some (.ref x)) => m_nx is ls (.ref x :: st) h
    | some (some .null) => m_nx is ls (.null :: st) h
    | _ => none
  | .istore k => match st with
    | .int x :: st => if m_ok1 ls k = true ∧ k < ls.length then m_nx is (ls.set k (some (.int x))) st h else none
    | _ => none
  | .fstore k => match st with
    | .float x :: st => if m_ok1 ls k = true ∧ k < ls.length then m_nx is (ls.set k (some (.float x))) st h else none
    | _ => none
  | .dstore k => match st with
    | .double x :: st => if m_ok1 ls k = true ∧ k + 1 < ls.length then m_nx is ((ls.set k (some (.double x))).set (k + 1) none) st h else none
    | _ => none
  | .astore k => match st with
    | .ref x :: st => if m_ok1 ls k = true ∧ k < ls.length then m_nx is (ls.set k (some (.ref x))) st h else none
    | .null :: st => if m_ok1 ls k = true ∧ k < ls.length then m_nx is (ls.set k (some .null)) st h else none
    | _ => none
  | .iinc k v => match ls[k]? with
    | some (some (.int x)) => if m_ok1 ls k = true then m_nx is (ls.set k (some (.int (x + Int32.ofInt v)))) st h else none
    | _ => none
  | .dup => match st with
    | v :: st => if v.category = 1 then m_nx is ls (v :: v :: st) h else none
    | _ => none
  | .pop => match st with
    | v :: st => if v.category = 1 then m_nx is ls st h else none
    | _ => none
  | .dup2 => match st with
    | v :: w :: st => if v.category = 1 ∧ w.category = 1 then m_nx is ls (v :: w :: v :: w :: st) h else none
    | _ => none
  | .iadd => match st with
    | .int b :: .int a :: st => m_nx is ls (.int (a + b) :: st) h
    | _ => none
  | .isub => match st with
    | .int b :: .int a :: st => m_nx is ls (.int (a - b) :: st) h
    | _ => none
  | .imul => match st with
    | .int b :: .int a :: st => m_nx is ls (.int (a * b) :: st) h
    | _ => none
  | .iand => match st with
    | .int b :: .int a :: st => m_nx is ls (.int (a &&& b) :: st) h
    | _ => none
  | .ior => match st with
    | .int b :: .int a :: st => m_nx is ls (.int (a ||| b) :: st) h
    | _ => none
  | .ishr => match st with
    | .int b :: .int a :: st => m_nx is ls (.int (a >>> (b &&& 31)) :: st) h
    | _ => none
  | .idiv => match st with
    | .int b :: .int a :: st => if b = 0 then none else m_nx is ls (.int (a / b) :: st) h
    | _ => none
  | .irem => match st with
    | .int b :: .int a :: st => if b = 0 then none else m_nx is ls (.int (a - a / b * b) :: st) h
    | _ => none
  | .i2b => match st with
    | .int a :: st => m_nx is ls (.int a.toInt8.toInt32 :: st) h
    | _ => none
  | .i2l => match st with
    | .int a :: st => m_nx is ls (.long a.toInt64 :: st) h
    | _ => none
  | .i2d => match st with
    | .int a :: st => m_nx is ls (.double (FP.i2d a) :: st) h
    | _ => none
  | .i2f => match st with
    | .int a :: st => m_nx is ls (.float (FP.i2f a) :: st) h
    | _ => none
  | .ladd => match st with
    | .long b :: .long a :: st => m_nx is ls (.long (a + b) :: st) h
    | _ => none
  | .lsub => match st with
    | .long b :: .long a :: st => m_nx is ls (.long (a - b) :: st) h
    | _ => none
  | .lmul => match st with
    | .long b :: .long a :: st => m_nx is ls (.long (a * b) :: st) h
    | _ => none
  | .lcmp => match st with
    | .long b :: .long a :: st => m_nx is ls (.int (lg_cmp a b) :: st) h
    | _ => none
  | .goto t => m_nx (m_tg P y t.toNat) ls st h
  | .ifCond c t => match st with
    | .int a :: st => if m_icond c a 0 = true then m_nx (m_tg P y t.toNat) ls st h else m_nx is ls st h
    | _ => none
  | .if_icmp c t => match st with
    | .int b :: .int a :: st => if m_icond c a b = true then m_nx (m_tg P y t.toNat) ls st h else m_nx is ls st h
    | _ => none
  | .ifnull t => match st with
    | .null :: st => m_nx (m_tg P y t.toNat) ls st h
    | .ref _ :: st => m_nx is ls st h
    | _ => none
  | .ifnonnull t => match st with
    | .ref _ :: st => m_nx (m_tg P y t.toNat) ls st h
    | .null :: st => m_nx is ls st h
    | _ => none
  | .tableswitch d lo hi offs => match st with
    | .int x :: st => if x.toInt < lo ∨ hi < x.toInt then m_nx (m_tg P y d.toNat) ls st h
      else match offs[(x.toInt - lo).toNat]? with
        | some t => m_nx (m_tg P y t.toNat) ls st h
        | none => none
    | _ => none
  | .getfield x => match st with
    | .ref a :: st => if a < m_n h ∧ m_k h a = x / 64 ∧ x % 64 < m_nf P (x / 64) ∧ x / 64 < 100 then
        (if m_fk P (x / 64) (x % 64) = 1 then m_nx is ls (m_rv (m_R h a (x % 64)) :: st) h
        else if m_fk P (x / 64) (x % 64) = 2 then m_nx is ls (.long (m_L h a (x % 64)) :: st) h
        else m_nx is ls (.int (m_I h a (x % 64)) :: st) h) else none
    | _ => none
  | .putfield x => match st with
    | .int v :: .ref a :: st => if a < m_n h ∧ m_k h a = x / 64 ∧ x % 64 < m_nf P (x / 64) ∧ x / 64 < 100 ∧ (m_fk P (x / 64) (x % 64) = 0 ∨ m_fk P (x / 64) (x % 64) = 3 ∧ (v = 0 ∨ v = 1)) then m_nx is ls st (m_setI h a (x % 64) v) else none
    | .long v :: .ref a :: st => if a < m_n h ∧ m_k h a = x / 64 ∧ x % 64 < m_nf P (x / 64) ∧ x / 64 < 100 ∧ m_fk P (x / 64) (x % 64) = 2 then m_nx is ls st (m_setL h a (x % 64) v) else none
    | .ref v :: .ref a :: st => if a < m_n h ∧ m_k h a = x / 64 ∧ x % 64 < m_nf P (x / 64) ∧ x / 64 < 100 ∧ m_fk P (x / 64) (x % 64) = 1 then m_nx is ls st (m_setR h a (x % 64) (some v)) else none
    | .null :: .ref a :: st => if a < m_n h ∧ m_k h a = x / 64 ∧ x % 64 < m_nf P (x / 64) ∧ x / 64 < 100 ∧ m_fk P (x / 64) (x % 64) = 1 then m_nx is ls st (m_setR h a (x % 64) none) else none
    | _ => none
  | .iaload => match st with
    | .int i :: .ref a :: st => if a < m_n h ∧ m_k h a = 100 ∧ ¬ (i < 0 ∨ m_l h a ≤ i.toNatClampNeg) then m_nx is ls (.int (m_I h a i.toNatClampNeg) :: st) h else none
    | _ => none
  | .baload => match st with
    | .int i :: .ref a :: st => if a < m_n h ∧ m_k h a = 101 ∧ ¬ (i < 0 ∨ m_l h a ≤ i.toNatClampNeg) then m_nx is ls (.int (m_I h a i.toNatClampNeg) :: st) h else none
    | _ => none
  | .laload => match st with
    | .int i :: .ref a :: st => if a < m_n h ∧ m_k h a = 102 ∧ ¬ (i < 0 ∨ m_l h a ≤ i.toNatClampNeg) then m_nx is ls (.long (m_L h a i.toNatClampNeg) :: st) h else none
    | _ => none
  | .daload => match st with
    | .int i :: .ref a :: st => if a < m_n h ∧ m_k h a = 103 ∧ ¬ (i < 0 ∨ m_l h a ≤ i.toNatClampNeg) then m_nx is ls (.double (m_D h a i.toNatClampNeg) :: st) h else none
    | _ => none
  | .aaload => match st with
    | .int i :: .ref a :: st => if a < m_n h ∧ 200 ≤ m_k h a ∧ ¬ (i < 0 ∨ m_l h a ≤ i.toNatClampNeg) then m_nx is ls (m_rv (m_R h a i.toNatClampNeg) :: st) h else none
    | _ => none
  | .iastore => match st with
    | .int v :: .int i :: .ref a :: st => if a < m_n h ∧ m_k h a = 100 ∧ ¬ (i < 0 ∨ m_l h a ≤ i.toNatClampNeg) then m_nx is ls st (m_setI h a i.toNatClampNeg v) else none
    | _ => none
  | .bastore => match st with
    | .int v :: .int i :: .ref a :: st => if a < m_n h ∧ m_k h a = 101 ∧ ¬ (i < 0 ∨ m_l h a ≤ i.toNatClampNeg) then m_nx is ls st (m_setI h a i.toNatClampNeg v.toInt8.toInt32) else none
    | _ => none
  | .lastore => match st with
    | .long v :: .int i :: .ref a :: st => if a < m_n h ∧ m_k h a = 102 ∧ ¬ (i < 0 ∨ m_l h a ≤ i.toNatClampNeg) then m_nx is ls st (m_setL h a i.toNatClampNeg v) else none
    | _ => none
  | .dastore => match st with
    | .double v :: .int i :: .ref a :: st => if a < m_n h ∧ m_k h a = 103 ∧ ¬ (i < 0 ∨ m_l h a ≤ i.toNatClampNeg) then m_nx is ls st (m_setD h a i.toNatClampNeg v) else none
    | _ => none
  | .aastore => match st with
    | .ref v :: .int i :: .ref a :: st => if a < m_n h ∧ 200 ≤ m_k h a ∧ v < m_n h ∧ m_k h v + 200 = m_k h a ∧ ¬ (i < 0 ∨ m_l h a ≤ i.toNatClampNeg) then m_nx is ls st (m_setR h a i.toNatClampNeg (some v)) else none
    | _ => none
  | .arraylength => match st with
    | .ref a :: st => if a < m_n h ∧ 100 ≤ m_k h a then m_nx is ls (.int (Int32.ofNat (m_l h a)) :: st) h else none
    | _ => none
  | .newarray .int => match st with
    | .int n :: st => if n < 0 ∨ 60000000 < n.toNatClampNeg then none else m_nx is ls (.ref (m_n h) :: st) (m_mk h 100 n.toNatClampNeg n.toNatClampNeg)
    | _ => none
  | .newarray .byte => match st with
    | .int n :: st => if n < 0 ∨ 60000000 < n.toNatClampNeg then none else m_nx is ls (.ref (m_n h) :: st) (m_mk h 101 n.toNatClampNeg n.toNatClampNeg)
    | _ => none
  | .newarray .long => match st with
    | .int n :: st => if n < 0 ∨ 60000000 < n.toNatClampNeg then none else m_nx is ls (.ref (m_n h) :: st) (m_mk h 102 n.toNatClampNeg n.toNatClampNeg)
    | _ => none
  | .newarray .double => match st with
    | .int n :: st => if n < 0 ∨ 60000000 < n.toNatClampNeg then none else m_nx is ls (.ref (m_n h) :: st) (m_mk h 103 n.toNatClampNeg n.toNatClampNeg)
    | _ => none
  | .anewarray ci => match st with
    | .int n :: st => if n < 0 ∨ 60000000 < n.toNatClampNeg ∨ 100 ≤ ci then none else m_nx is ls (.ref (m_n h) :: st) (m_mk h (200 + ci) n.toNatClampNeg n.toNatClampNeg)
    | _ => none
  | .new ci => if ci < 100 then m_nx is ls (.ref (m_n h) :: st) (m_mk h ci 0 (m_nf P ci)) else none
  | .invokevirtual z => match m_pop (m_na P z) st with
    | some (.ref a :: as, st') => if a < m_n h ∧ m_k h a = m_rc P z ∧ m_cat st' ≤ 8 then some (.inr (.inl (z, .ref a :: as, st'))) else none
    | _ => none
  | .invokespecial z => if z = 9000 then (match st with
      | .ref a :: st => if a < m_n h ∧ m_cat st ≤ 8 then m_nx is ls st h else none
      | _ => none)
    else match m_pop (m_na P z) st with
    | some (.ref a :: as, st') => if a < m_n h ∧ m_k h a = m_rc P z ∧ m_cat st' ≤ 8 then some (.inr (.inl (z, .ref a :: as, st'))) else none
    | _ => none
  | .invokestatic z => if z = 9001 then (match st with
      | .int b :: .int a :: st => if m_cat st ≤ 8 then m_nx is ls (.int (if a ≤ b then a else b) :: st) h else none
      | _ => none)
    else if z = 9002 then (match st with
      | .int b :: .int a :: st => if m_cat st ≤ 8 then m_nx is ls (.int (if b ≤ a then a else b) :: st) h else none
      | _ => none)
    else match m_pop (m_na P z) st with
    | some (as, st') => if m_cat st' ≤ 8 then some (.inr (.inl (z, as, st'))) else none
    | _ => none
  | .invokedynamic k => match m_hd P y k with
    | none => if m_cat st ≤ 8 then some (.inr (.inr (.inr k))) else none
    | _ => none
  | .ireturn => match st with
    | [.int v] => some (.inr (.inr (.inl (some (.int v)))))
    | _ => none
  | .ret _ => match st with
    | [.int v] => if v = 0 ∨ v = 1 then some (.inr (.inr (.inl (some (.int v))))) else none
    | _ => none
  | .areturn => match st with
    | [.ref v] => some (.inr (.inr (.inl (some (.ref v)))))
    | [.null] => some (.inr (.inr (.inl (some .null))))
    | _ => none
  | .freturn => match st with
    | [.float v] => some (.inr (.inr (.inl (some (.float v)))))
    | _ => none
  | .dreturn => match st with
    | [.double v] => some (.inr (.inr (.inl (some (.double v)))))
    | _ => none
  | .return_ => match st with
    | [] => some (.inr (.inr (.inl none)))
    | _ => none
  | _ => none
/-- the locals at a method's start -/
def m_sl : List Value → m_F
  | [] => []
  | v :: vs => if v.category = 2 then some v :: none :: m_sl vs else some v :: m_sl vs
def m_ent (nl : Nat) (as : List Value) : m_F := m_sl as ++ List.replicate (nl - (m_sl as).length) none
/-- the small machine, n steps at the most, calls d deep at the most -/
def m_ex (P : m_P) : Nat → Nat → Nat → List Instr → m_F → List Value → m_H → Option ((Option Value ⊕ Nat) × m_H)
  | 0, _, _, _, _, _, _ => none
  | _ + 1, _, _, [], _, _, _ => none
  | n + 1, d, y, i :: is, ls, st, h =>
    match m_st P y i is ls st h with
    | none => none
    | some (.inl q) => m_ex P n d y q.1 q.2.1 q.2.2.1 q.2.2.2
    | some (.inr (.inl q)) => match d with
      | 0 => none
      | d' + 1 => match m_ex P n d' q.1 (m_tg P q.1 0) (m_ent (m_nl P q.1) q.2.1) [] h with
        | none => none
        | some (.inl v, h') => m_ex P n (d' + 1) y is ls (v.toList ++ q.2.2) h'
        | some (.inr e, h') => match m_hd P y e with
          | none => some (.inr e, h')
          | some r => m_ex P n (d' + 1) y (m_tg P y r.2) (ls.set r.1 none) [] h'
    | some (.inr (.inr (.inl v))) => some (.inl v, h)
    | some (.inr (.inr (.inr e))) => some (.inr e, m_bump h)
end
section
/-! WHAT A HEAP OF THE SMALL MACHINE IS IN THE MACHINE'S: ad gives the address of each cell and constant -/
def m_cv (ad : Nat → Nat) (v : Value) : Value := match v with | .ref a => .ref (ad a) | v => v
def m_in (n : Nat) (v : Value) : Prop := match v with | .ref a => a < n ∨ m_X ≤ a | .retAddr _ => False | _ => True
def m_fv (P : m_P) (ad : Nat → Nat) (h : m_H) (a ci k : Nat) : Value := if m_fk P ci k = 1 then va_rf ((m_R h a k).map ad) else if m_fk P ci k = 2 then .long (m_L h a k) else .int (m_I h a k)
def m_cell (P : m_P) (cA : Nat → ClassId) (ad : Nat → Nat) (h : m_H) (a : Nat) : va_E :=
  if m_k h a < 100 then .inr (m_k h a, (List.range (m_nf P (m_k h a))).map (fun k => m_fv P ad h a (m_k h a) k))
  else if m_k h a = 102 then .inl (cA 102, m_l h a, .inr (.inl (m_L h a)))
  else if m_k h a = 103 then .inl (cA 103, m_l h a, .inr (.inr (.inr (.inl (m_D h a)))))
  else if m_k h a < 200 then .inl (cA (m_k h a), m_l h a, .inl (m_I h a))
  else .inl (cA (m_k h a), m_l h a, .inr (.inr (.inr (.inr (fun i => (m_R h a i).map ad)))))
def m_ws (P : m_P) (cA : Nat → ClassId) (ad : Nat → Nat) (h : m_H) : va_W := (List.range (m_n h)).map (fun a => (ad a, m_cell P cA ad h a))
/-- references lead to cells or constants -/
def m_wf (h : m_H) : Prop := m_n h ≤ m_X ∧ ∀ a k j, a < m_n h → m_R h a k = some j → j < m_n h ∨ m_X ≤ j
theorem m_ws_at {P : m_P} {cA : Nat → ClassId} {ad : Nat → Nat} {h : m_H} {a : Nat} (ha : a < m_n h) : (m_ws P cA ad h)[a]? = some (ad a, m_cell P cA ad h a) := by
  unfold m_ws
  rw [List.getElem?_map, List.getElem?_range ha]
  rfl
theorem m_map_set {α : Type} {f g : Nat → α} {N k : Nat} (hk : k < N) (h : ∀ j, j ≠ k → g j = f j) : ((List.range N).map f).set k (g k) = (List.range N).map g := by
  apply List.ext_getElem?
  intro i
  by_cases hi : i = k
  · subst hi
    rw [List.getElem?_set_self (by simpa using hk), List.getElem?_map, List.getElem?_range hk]
    rfl
  · rw [List.getElem?_set_ne (Ne.symm hi), List.getElem?_map, List.getElem?_map]
    by_cases hN : i < N
    · rw [List.getElem?_range hN]
      simp [h i hi]
    · rw [List.getElem?_eq_none (by simpa using Nat.le_of_not_lt hN)]
      rfl
theorem m_ws_set {P : m_P} {cA : Nat → ClassId} {ad : Nat → Nat} {h h' : m_H} {a : Nat} (ha : a < m_n h) (hn : m_n h' = m_n h) (ho : ∀ b, b ≠ a → m_cell P cA ad h' b = m_cell P cA ad h b) : (m_ws P cA ad h).set a (ad a, m_cell P cA ad h' a) = m_ws P cA ad h' := by
  unfold m_ws
  rw [hn]
  exact m_map_set (f := fun a => (ad a, m_cell P cA ad h a)) (g := fun a => (ad a, m_cell P cA ad h' a)) ha (fun j hj => by simp [ho j hj])
theorem m_range_succ (n : Nat) : List.range (n + 1) = List.range n ++ [n] := List.range_succ
theorem m_map_ref {h : m_H} (hw : m_wf h) {a : Nat} (ha : a < m_n h) {ad ad' : Nat → Nat} (hd : ∀ j, j < m_n h ∨ m_X ≤ j → ad' j = ad j) (k : Nat) : (m_R h a k).map ad' = (m_R h a k).map ad := by
  cases hr : m_R h a k with
  | none => rfl
  | some j => simp [hd j (hw.2 a k j ha hr)]
theorem m_cell_ad {P : m_P} {cA : Nat → ClassId} {ad ad' : Nat → Nat} {h : m_H} {a : Nat} (hw : m_wf h) (ha : a < m_n h) (hd : ∀ j, j < m_n h ∨ m_X ≤ j → ad' j = ad j) : m_cell P cA ad' h a = m_cell P cA ad h a := by
  unfold m_cell m_fv
  simp only [m_map_ref hw ha hd]
/-- a value is the same under an address table that is longer -/
theorem m_cv_ad {ad ad' : Nat → Nat} {n : Nat} {v : Value} (hv : m_in n v) (hd : ∀ j, j < n ∨ m_X ≤ j → ad' j = ad j) : m_cv ad' v = m_cv ad v := by
  cases v <;> simp only [m_cv]
  case ref a => rw [hd a hv]
theorem m_cv_map {ad ad' : Nat → Nat} {n : Nat} {st : List Value} (hv : ∀ v ∈ st, m_in n v) (hd : ∀ j, j < n ∨ m_X ≤ j → ad' j = ad j) : st.map (m_cv ad') = st.map (m_cv ad) :=
  List.map_congr_left (fun v h => m_cv_ad (hv v h) hd)
theorem m_in_mono {n n' : Nat} {v : Value} (h : m_in n v) (hn : n ≤ n') : m_in n' v := by
  cases v <;> simp only [m_in] at h ⊢
  case ref a => exact h.imp (fun z => Nat.lt_of_lt_of_le z hn) id
theorem m_rv_cv (ad : Nat → Nat) (r : Option Nat) : m_cv ad (m_rv r) = va_rf (r.map ad) := by cases r <;> rfl
theorem m_cat_cv (ad : Nat → Nat) (v : Value) : (m_cv ad v).category = v.category := by cases v <;> rfl
theorem m_cat_map (ad : Nat → Nat) (st : List Value) : ((st.map (m_cv ad)).map fun v => v.category).sum = m_cat st := by
  unfold m_cat
  rw [List.map_map]
  congr 1
  exact List.map_congr_left (fun v _ => m_cat_cv ad v)
/-- the locals -/
def m_lR (ad : Nat → Nat) (n : Nat) (ls : m_F) (la : Array Slot) (nL : Nat) : Prop :=
  la.size = nL ∧ ls.length = nL ∧ lv_wf la ∧ ∀ (i : Nat) (v : Value), ls[i]? = some (some v) → la[i]? = some (.val (m_cv ad v)) ∧ m_in n v
theorem m_lR_ad {ad ad' : Nat → Nat} {n n' : Nat} {ls : m_F} {la : Array Slot} {nL : Nat} (h : m_lR ad n ls la nL) (hn : n ≤ n') (hd : ∀ j, j < n ∨ m_X ≤ j → ad' j = ad j) : m_lR ad' n' ls la nL := by
  obtain ⟨h1, h2, h3, h4⟩ := h
  refine ⟨h1, h2, h3, fun i v hi => ?_⟩
  obtain ⟨a1, a2⟩ := h4 i v hi
  exact ⟨by rw [m_cv_ad a2 hd]; exact a1, m_in_mono a2 hn⟩
/-- the locals as the kit lists them -/
def m_ll (ad : Nat → Nat) (ls : m_F) : List (Nat × Value) := (List.range ls.length).filterMap (fun i => match ls[i]? with | some (some v) => some (i, m_cv ad v) | _ => none)
theorem m_ll_mem {ad : Nat → Nat} {ls : m_F} {q : Nat × Value} : q ∈ m_ll ad ls ↔ ∃ v, ls[q.1]? = some (some v) ∧ q.2 = m_cv ad v := by
  unfold m_ll
  rw [List.mem_filterMap]
  constructor
  · rintro ⟨i, -, h⟩
    split at h
    · next v hv => cases h; exact ⟨v, hv, rfl⟩
    · cases h
  · rintro ⟨v, hv, h2⟩
    refine ⟨q.1, List.mem_range.mpr (List.getElem?_eq_some_iff.mp hv).1, ?_⟩
    rw [hv]
    simp only
    rw [← h2]
theorem m_lR_has {ad : Nat → Nat} {n : Nat} {ls : m_F} {la : Array Slot} {nL : Nat} (h : m_lR ad n ls la nL) : lv_has la nL (m_ll ad ls) := by
  obtain ⟨h1, h2, h3, h4⟩ := h
  refine ⟨h1, h3, fun q hq => ?_⟩
  obtain ⟨v, hv, h5⟩ := m_ll_mem.mp hq
  rw [h5]
  exact (h4 _ _ hv).1
theorem m_lR_st1 {ad : Nat → Nat} {n : Nat} {ls : m_F} {la la' : Array Slot} {nL k : Nat} {v : Value} (h : m_lR ad n ls la nL) (hk : m_ok1 ls k = true) (hl : k < ls.length) (hv : m_in n v)
    (h' : lv_has la' nL ((k, m_cv ad v) :: (m_ll ad ls).filter (fun q => !(q.1 == k) && !(q.1 + 1 == k && q.2.category == 2)))) : m_lR ad n (ls.set k (some v)) la' nL := by
  obtain ⟨h1, h2, h3, h4⟩ := h
  obtain ⟨g1, g2, g3⟩ := h'
  refine ⟨g1, by rw [List.length_set]; exact h2, g2, fun i w hi => ?_⟩
  by_cases hik : i = k
  · subst hik
    rw [List.getElem?_set_self hl] at hi
    cases hi
    exact ⟨g3 (i, m_cv ad v) List.mem_cons_self, hv⟩
  · rw [List.getElem?_set_ne (Ne.symm hik)] at hi
    refine ⟨g3 (i, m_cv ad w) (List.mem_cons_of_mem _ (List.mem_filter.mpr ⟨m_ll_mem.mpr ⟨w, hi, rfl⟩, ?_⟩)), (h4 i w hi).2⟩
    simp only [Bool.and_eq_true, Bool.not_eq_true', beq_eq_false_iff_ne, ne_eq, Bool.and_eq_false_iff]
    refine ⟨hik, ?_⟩
    by_cases hj : i + 1 = k
    · right
      subst hj
      simp only [m_ok1, hi, beq_iff_eq] at hk
      rw [m_cat_cv, hk]
      decide
    · exact Or.inl hj
theorem m_lR_st2 {ad : Nat → Nat} {n : Nat} {ls : m_F} {la la' : Array Slot} {nL k : Nat} {v : Value} (h : m_lR ad n ls la nL) (hk : m_ok1 ls k = true) (hl : k + 1 < ls.length) (hv : m_in n v)
    (h' : lv_has la' nL ((k, m_cv ad v) :: (m_ll ad ls).filter (fun q => !(q.1 == k) && (!(q.1 == k + 1) && !(q.1 + 1 == k && q.2.category == 2))))) : m_lR ad n ((ls.set k (some v)).set (k + 1) none) la' nL := by
  obtain ⟨h1, h2, h3, h4⟩ := h
  obtain ⟨g1, g2, g3⟩ := h'
  refine ⟨g1, by rw [List.length_set, List.length_set]; exact h2, g2, fun i w hi => ?_⟩
  by_cases hi1 : i = k + 1
  · subst hi1
    rw [List.getElem?_set_self (by rw [List.length_set]; exact hl)] at hi
    cases hi
  rw [List.getElem?_set_ne (Ne.symm hi1)] at hi
  by_cases hik : i = k
  · subst hik
    rw [List.getElem?_set_self (by omega)] at hi
    cases hi
    exact ⟨g3 (i, m_cv ad v) List.mem_cons_self, hv⟩
  · rw [List.getElem?_set_ne (Ne.symm hik)] at hi
    refine ⟨g3 (i, m_cv ad w) (List.mem_cons_of_mem _ (List.mem_filter.mpr ⟨m_ll_mem.mpr ⟨w, hi, rfl⟩, ?_⟩)), (h4 i w hi).2⟩
    simp only [Bool.and_eq_true, Bool.not_eq_true', beq_eq_false_iff_ne, ne_eq, Bool.and_eq_false_iff]
    refine ⟨hik, hi1, ?_⟩
    by_cases hj : i + 1 = k
    · right
      subst hj
      simp only [m_ok1, hi, beq_iff_eq] at hk
      rw [m_cat_cv, hk]
      decide
    · exact Or.inl hj
end
section
/-! THE SMALL MACHINE'S INSTRUCTIONS IN THE MACHINE: stack, locals, arithmetic, branches -/
def m_rel (s : State) (P : m_P) (cl : List vw_C) (D : va_G) (cA : Nat → ClassId) (A : Nat → Prop) (xa : Nat → Nat) (ad : Nat → Nat) (H : Heap) (locs : List Loc) (h : m_H) : Prop :=
  va_P D cl (m_ws P cA ad h) H ∧ va_D A (m_ws P cA ad h) ∧ va_S A s.heap H locs ∧ m_wf h ∧ ∀ j, m_X ≤ j → ad j = xa j
def m_go (p : Program) (l : Launch) (e : Env) (R : Room) (s : State) (m : MethodId) (args : Array Value) (below : List Frame) (meth : Method) (c : Code) (Q : State → Prop) (P : m_P) (cl : List vw_C) (D : va_G) (cA : Nat → ClassId) (A : Nat → Prop) (xa : Nat → Nat) (nL c0 s0 : Nat) (pc : Nat) (ls : m_F) (st : List Value) (h : m_H) : Prop :=
  ∀ (H : Heap) (locs : List Loc) (ad : Nat → Nat) (la : Array Slot), m_rel s P cl D cA A xa ad H locs h → m_lR ad (m_n h) ls la nL → (∀ v ∈ st, m_in (m_n h) v) → W p l e R s m args below meth c H locs (m_c h - c0) (m_s h - s0) Q (F0 m pc la (st.map (m_cv ad)))
section GO
variable {p : Program} {l : Launch} {e : Env} {R : Room} {s : State} {m : MethodId} {args : Array Value} {below : List Frame} {meth : Method} {c : Code} {Q : State → Prop} {P : m_P} {cl : List vw_C} {D : va_G} {cA : Nat → ClassId} {A : Nat → Prop} {xa : Nat → Nat} {nL c0 s0 : Nat} {pc : Nat} {ls : m_F} {st : List Value} {h : m_H} {cc : ByteArray}
theorem g_tl {n : Nat} {v : Value} {st : List Value} (h : ∀ w ∈ v :: st, m_in n w) : ∀ w ∈ st, m_in n w := fun w hw => h w (List.mem_cons_of_mem _ hw)
theorem g_hd {n : Nat} {v : Value} {st : List Value} (h : ∀ w ∈ v :: st, m_in n w) : m_in n v := h v List.mem_cons_self
theorem g_cs {n : Nat} {v : Value} {st : List Value} (hv : m_in n v) (h : ∀ w ∈ st, m_in n w) : ∀ w ∈ v :: st, m_in n w := List.forall_mem_cons.mpr ⟨hv, h⟩
theorem g_null (hx : p.tables.exec = Jvm.exec) (hb : c.code = cc) (hd : decode cc pc = .ok (.aconst_null, 1)) (k : m_go p l e R s m args below meth c Q P cl D cA A xa nL c0 s0 (pc + 1) ls (.null :: st) h) : m_go p l e R s m args below meth c Q P cl D cA A xa nL c0 s0 pc ls st h :=
  fun H locs ad la hr hl hs => lv_null hx hb hd (k H locs ad la hr hl (g_cs trivial hs))
theorem g_iconst (hx : p.tables.exec = Jvm.exec) (hb : c.code = cc) {n : Int} {v : Int32} (hv : Int32.ofInt n = v) (hd : decode cc pc = .ok (.iconst n, 1)) (k : m_go p l e R s m args below meth c Q P cl D cA A xa nL c0 s0 (pc + 1) ls (.int v :: st) h) : m_go p l e R s m args below meth c Q P cl D cA A xa nL c0 s0 pc ls st h :=
  fun H locs ad la hr hl hs => lv_iconst hx hb hd hv (k H locs ad la hr hl (g_cs trivial hs))
theorem g_bipush (hx : p.tables.exec = Jvm.exec) (hb : c.code = cc) {n : Int} {v : Int32} (hv : (Int8.ofInt n).toInt32 = v) (hd : decode cc pc = .ok (.bipush n, 2)) (k : m_go p l e R s m args below meth c Q P cl D cA A xa nL c0 s0 (pc + 2) ls (.int v :: st) h) : m_go p l e R s m args below meth c Q P cl D cA A xa nL c0 s0 pc ls st h :=
  fun H locs ad la hr hl hs => lv_bipush hx hb hd hv (k H locs ad la hr hl (g_cs trivial hs))
theorem g_sipush (hx : p.tables.exec = Jvm.exec) (hb : c.code = cc) {n : Int} {v : Int32} (hv : (Int16.ofInt n).toInt32 = v) (hd : decode cc pc = .ok (.sipush n, 3)) (k : m_go p l e R s m args below meth c Q P cl D cA A xa nL c0 s0 (pc + 3) ls (.int v :: st) h) : m_go p l e R s m args below meth c Q P cl D cA A xa nL c0 s0 pc ls st h :=
  fun H locs ad la hr hl hs => lv_sipush hx hb hd hv (k H locs ad la hr hl (g_cs trivial hs))
theorem g_ldc (hx : p.tables.exec = Jvm.exec) (hb : c.code = cc) {own : String} {index : Nat} {v : Int32} (hown : s.vm.findClass own = some m.cls) (hc : (Jvm.Cond.constant own index v).before args s = true) (hd : decode cc pc = .ok (.ldc index, 2)) (k : m_go p l e R s m args below meth c Q P cl D cA A xa nL c0 s0 (pc + 2) ls (.int v :: st) h) : m_go p l e R s m args below meth c Q P cl D cA A xa nL c0 s0 pc ls st h :=
  fun H locs ad la hr hl hs => lv_ldc hx hb hown hc hd (k H locs ad la hr hl (g_cs trivial hs))
theorem g_ldcw (hx : p.tables.exec = Jvm.exec) (hb : c.code = cc) {own : String} {index : Nat} {v : Int32} (hown : s.vm.findClass own = some m.cls) (hc : (Jvm.Cond.constant own index v).before args s = true) (hd : decode cc pc = .ok (.ldc_w index, 3)) (k : m_go p l e R s m args below meth c Q P cl D cA A xa nL c0 s0 (pc + 3) ls (.int v :: st) h) : m_go p l e R s m args below meth c Q P cl D cA A xa nL c0 s0 pc ls st h :=
  fun H locs ad la hr hl hs => lv_ldcw hx hb hown hc hd (k H locs ad la hr hl (g_cs trivial hs))
theorem g_ldc2 (hx : p.tables.exec = Jvm.exec) (hb : c.code = cc) {own : String} {index : Nat} {v : Int64} (hown : s.vm.findClass own = some m.cls) (hc : (Jvm.Cond.constantLong own index v).before args s = true) (hd : decode cc pc = .ok (.ldc2_w index, 3)) (k : m_go p l e R s m args below meth c Q P cl D cA A xa nL c0 s0 (pc + 3) ls (.long v :: st) h) : m_go p l e R s m args below meth c Q P cl D cA A xa nL c0 s0 pc ls st h :=
  fun H locs ad la hr hl hs => lv_ldc2 hx hb hown hc hd (k H locs ad la hr hl (g_cs trivial hs))
theorem g_lconst (hx : p.tables.exec = Jvm.exec) (hb : c.code = cc) {n : Fin 2} {v : Int64} (hv : Int64.ofNat (n : Nat) = v) (hd : decode cc pc = .ok (.lconst n, 1)) (k : m_go p l e R s m args below meth c Q P cl D cA A xa nL c0 s0 (pc + 1) ls (.long v :: st) h) : m_go p l e R s m args below meth c Q P cl D cA A xa nL c0 s0 pc ls st h :=
  fun H locs ad la hr hl hs => lv_lconst hx hb hd hv (k H locs ad la hr hl (g_cs trivial hs))
theorem g_fconst (hx : p.tables.exec = Jvm.exec) (hb : c.code = cc) (hd : decode cc pc = .ok (.fconst 0, 1)) (k : m_go p l e R s m args below meth c Q P cl D cA A xa nL c0 s0 (pc + 1) ls (.float FP.fconst0 :: st) h) : m_go p l e R s m args below meth c Q P cl D cA A xa nL c0 s0 pc ls st h :=
  fun H locs ad la hr hl hs => lv_fconst0 hx hb hd (k H locs ad la hr hl (g_cs trivial hs))
theorem g_dconst0 (hx : p.tables.exec = Jvm.exec) (hb : c.code = cc) (hd : decode cc pc = .ok (.dconst 0, 1)) (k : m_go p l e R s m args below meth c Q P cl D cA A xa nL c0 s0 (pc + 1) ls (.double FP.dconst0 :: st) h) : m_go p l e R s m args below meth c Q P cl D cA A xa nL c0 s0 pc ls st h :=
  fun H locs ad la hr hl hs => lv_dconst0 hx hb hd (k H locs ad la hr hl (g_cs trivial hs))
theorem g_dconst1 (hx : p.tables.exec = Jvm.exec) (hb : c.code = cc) (hd : decode cc pc = .ok (.dconst 1, 1)) (k : m_go p l e R s m args below meth c Q P cl D cA A xa nL c0 s0 (pc + 1) ls (.double FP.dconst1 :: st) h) : m_go p l e R s m args below meth c Q P cl D cA A xa nL c0 s0 pc ls st h :=
  fun H locs ad la hr hl hs => lv_dconst1 hx hb hd (k H locs ad la hr hl (g_cs trivial hs))
theorem g_iload (hx : p.tables.exec = Jvm.exec) (hb : c.code = cc) {i : Nat} {x : Int32} (hi : ls[i]? = some (some (.int x))) (hd : decode cc pc = .ok (.iload i, 2)) (k : m_go p l e R s m args below meth c Q P cl D cA A xa nL c0 s0 (pc + 2) ls (.int x :: st) h) : m_go p l e R s m args below meth c Q P cl D cA A xa nL c0 s0 pc ls st h :=
  fun H locs ad la hr hl hs => lv_iload hx hb hd (hl.2.2.2 i _ hi).1 (k H locs ad la hr hl (g_cs trivial hs))
theorem g_iload_n (hx : p.tables.exec = Jvm.exec) (hb : c.code = cc) {i : Fin 4} {x : Int32} (hi : ls[(i : Nat)]? = some (some (.int x))) (hd : decode cc pc = .ok (.iload_n i, 1)) (k : m_go p l e R s m args below meth c Q P cl D cA A xa nL c0 s0 (pc + 1) ls (.int x :: st) h) : m_go p l e R s m args below meth c Q P cl D cA A xa nL c0 s0 pc ls st h :=
  fun H locs ad la hr hl hs => lv_iload_n hx hb hd rfl (hl.2.2.2 _ _ hi).1 (k H locs ad la hr hl (g_cs trivial hs))
theorem g_lload (hx : p.tables.exec = Jvm.exec) (hb : c.code = cc) {i : Nat} {x : Int64} (hi : ls[i]? = some (some (.long x))) (hd : decode cc pc = .ok (.lload i, 2)) (k : m_go p l e R s m args below meth c Q P cl D cA A xa nL c0 s0 (pc + 2) ls (.long x :: st) h) : m_go p l e R s m args below meth c Q P cl D cA A xa nL c0 s0 pc ls st h :=
  fun H locs ad la hr hl hs => lv_lload hx hb hd (hl.2.2.2 i _ hi).1 (k H locs ad la hr hl (g_cs trivial hs))
theorem g_lload_n (hx : p.tables.exec = Jvm.exec) (hb : c.code = cc) {i : Fin 4} {x : Int64} (hi : ls[(i : Nat)]? = some (some (.long x))) (hd : decode cc pc = .ok (.lload_n i, 1)) (k : m_go p l e R s m args below meth c Q P cl D cA A xa nL c0 s0 (pc + 1) ls (.long x :: st) h) : m_go p l e R s m args below meth c Q P cl D cA A xa nL c0 s0 pc ls st h :=
  fun H locs ad la hr hl hs => lv_lload_n hx hb hd rfl (hl.2.2.2 _ _ hi).1 (k H locs ad la hr hl (g_cs trivial hs))
theorem g_fload (hx : p.tables.exec = Jvm.exec) (hb : c.code = cc) {i : Nat} {x : UInt32} (hi : ls[i]? = some (some (.float x))) (hd : decode cc pc = .ok (.fload i, 2)) (k : m_go p l e R s m args below meth c Q P cl D cA A xa nL c0 s0 (pc + 2) ls (.float x :: st) h) : m_go p l e R s m args below meth c Q P cl D cA A xa nL c0 s0 pc ls st h :=
  fun H locs ad la hr hl hs => lv_fload hx hb hd (hl.2.2.2 i _ hi).1 (k H locs ad la hr hl (g_cs trivial hs))
theorem g_dload (hx : p.tables.exec = Jvm.exec) (hb : c.code = cc) {i : Nat} {x : UInt64} (hi : ls[i]? = some (some (.double x))) (hd : decode cc pc = .ok (.dload i, 2)) (k : m_go p l e R s m args below meth c Q P cl D cA A xa nL c0 s0 (pc + 2) ls (.double x :: st) h) : m_go p l e R s m args below meth c Q P cl D cA A xa nL c0 s0 pc ls st h :=
  fun H locs ad la hr hl hs => lv_dload hx hb hd (hl.2.2.2 i _ hi).1 (k H locs ad la hr hl (g_cs trivial hs))
theorem g_aload (hx : p.tables.exec = Jvm.exec) (hb : c.code = cc) {i : Nat} {x : Nat} (hi : ls[i]? = some (some (.ref x))) (hd : decode cc pc = .ok (.aload i, 2)) (k : m_go p l e R s m args below meth c Q P cl D cA A xa nL c0 s0 (pc + 2) ls (.ref x :: st) h) : m_go p l e R s m args below meth c Q P cl D cA A xa nL c0 s0 pc ls st h :=
  fun H locs ad la hr hl hs => lv_aload hx hb hd (hl.2.2.2 i _ hi).1 (k H locs ad la hr hl (g_cs (hl.2.2.2 i _ hi).2 hs))
theorem g_aload_n (hx : p.tables.exec = Jvm.exec) (hb : c.code = cc) {i : Fin 4} {x : Nat} (hi : ls[(i : Nat)]? = some (some (.ref x))) (hd : decode cc pc = .ok (.aload_n i, 1)) (k : m_go p l e R s m args below meth c Q P cl D cA A xa nL c0 s0 (pc + 1) ls (.ref x :: st) h) : m_go p l e R s m args below meth c Q P cl D cA A xa nL c0 s0 pc ls st h :=
  fun H locs ad la hr hl hs => lv_aload_n hx hb hd rfl (hl.2.2.2 _ _ hi).1 (k H locs ad la hr hl (g_cs (hl.2.2.2 _ _ hi).2 hs))
theorem g_aloadN (hx : p.tables.exec = Jvm.exec) (hb : c.code = cc) {i : Nat} (hi : ls[i]? = some (some .null)) (hd : decode cc pc = .ok (.aload i, 2)) (k : m_go p l e R s m args below meth c Q P cl D cA A xa nL c0 s0 (pc + 2) ls (.null :: st) h) : m_go p l e R s m args below meth c Q P cl D cA A xa nL c0 s0 pc ls st h :=
  fun H locs ad la hr hl hs => lv_aloadN hx hb hd (hl.2.2.2 i _ hi).1 (k H locs ad la hr hl (g_cs trivial hs))
theorem g_aload_nN (hx : p.tables.exec = Jvm.exec) (hb : c.code = cc) {i : Fin 4} (hi : ls[(i : Nat)]? = some (some .null)) (hd : decode cc pc = .ok (.aload_n i, 1)) (k : m_go p l e R s m args below meth c Q P cl D cA A xa nL c0 s0 (pc + 1) ls (.null :: st) h) : m_go p l e R s m args below meth c Q P cl D cA A xa nL c0 s0 pc ls st h :=
  fun H locs ad la hr hl hs => lv_aload_nN hx hb hd rfl (hl.2.2.2 _ _ hi).1 (k H locs ad la hr hl (g_cs trivial hs))
theorem g_istore (hx : p.tables.exec = Jvm.exec) (hb : c.code = cc) {i : Nat} {x : Int32} (h1 : m_ok1 ls i = true) (h2 : i < ls.length) (hd : decode cc pc = .ok (.istore i, 2)) (k : m_go p l e R s m args below meth c Q P cl D cA A xa nL c0 s0 (pc + 2) (ls.set i (some (.int x))) st h) : m_go p l e R s m args below meth c Q P cl D cA A xa nL c0 s0 pc ls (.int x :: st) h :=
  fun H locs ad la hr hl hs => lv_istore hx hb hd (m_lR_has hl) (hl.2.1 ▸ h2) rfl (fun la' hl' => k H locs ad la' hr (m_lR_st1 hl h1 h2 trivial hl') (g_tl hs))
theorem g_istore_n (hx : p.tables.exec = Jvm.exec) (hb : c.code = cc) {i : Fin 4} {x : Int32} (h1 : m_ok1 ls i = true) (h2 : (i : Nat) < ls.length) (hd : decode cc pc = .ok (.istore_n i, 1)) (k : m_go p l e R s m args below meth c Q P cl D cA A xa nL c0 s0 (pc + 1) (ls.set i (some (.int x))) st h) : m_go p l e R s m args below meth c Q P cl D cA A xa nL c0 s0 pc ls (.int x :: st) h :=
  fun H locs ad la hr hl hs => lv_istore_n hx hb hd rfl (m_lR_has hl) (hl.2.1 ▸ h2) rfl (fun la' hl' => k H locs ad la' hr (m_lR_st1 hl h1 h2 trivial hl') (g_tl hs))
theorem g_fstore (hx : p.tables.exec = Jvm.exec) (hb : c.code = cc) {i : Nat} {x : UInt32} (h1 : m_ok1 ls i = true) (h2 : i < ls.length) (hd : decode cc pc = .ok (.fstore i, 2)) (k : m_go p l e R s m args below meth c Q P cl D cA A xa nL c0 s0 (pc + 2) (ls.set i (some (.float x))) st h) : m_go p l e R s m args below meth c Q P cl D cA A xa nL c0 s0 pc ls (.float x :: st) h :=
  fun H locs ad la hr hl hs => lv_fstore hx hb hd (m_lR_has hl) (hl.2.1 ▸ h2) rfl (fun la' hl' => k H locs ad la' hr (m_lR_st1 hl h1 h2 trivial hl') (g_tl hs))
theorem g_dstore (hx : p.tables.exec = Jvm.exec) (hb : c.code = cc) {i : Nat} {x : UInt64} (h1 : m_ok1 ls i = true) (h2 : i + 1 < ls.length) (hd : decode cc pc = .ok (.dstore i, 2)) (k : m_go p l e R s m args below meth c Q P cl D cA A xa nL c0 s0 (pc + 2) ((ls.set i (some (.double x))).set (i + 1) none) st h) : m_go p l e R s m args below meth c Q P cl D cA A xa nL c0 s0 pc ls (.double x :: st) h :=
  fun H locs ad la hr hl hs => lv_dstore hx hb hd (m_lR_has hl) (hl.2.1 ▸ h2) rfl (fun la' hl' => k H locs ad la' hr (m_lR_st2 hl h1 h2 trivial hl') (g_tl hs))
theorem g_astore (hx : p.tables.exec = Jvm.exec) (hb : c.code = cc) {i : Nat} {x : Nat} (h1 : m_ok1 ls i = true) (h2 : i < ls.length) (hd : decode cc pc = .ok (.astore i, 2)) (k : m_go p l e R s m args below meth c Q P cl D cA A xa nL c0 s0 (pc + 2) (ls.set i (some (.ref x))) st h) : m_go p l e R s m args below meth c Q P cl D cA A xa nL c0 s0 pc ls (.ref x :: st) h :=
  fun H locs ad la hr hl hs => lv_astore hx hb hd (m_lR_has hl) (hl.2.1 ▸ h2) rfl (fun la' hl' => k H locs ad la' hr (m_lR_st1 hl h1 h2 (g_hd hs) hl') (g_tl hs))
theorem g_astore_n (hx : p.tables.exec = Jvm.exec) (hb : c.code = cc) {i : Fin 4} {x : Nat} (h1 : m_ok1 ls i = true) (h2 : (i : Nat) < ls.length) (hd : decode cc pc = .ok (.astore_n i, 1)) (k : m_go p l e R s m args below meth c Q P cl D cA A xa nL c0 s0 (pc + 1) (ls.set i (some (.ref x))) st h) : m_go p l e R s m args below meth c Q P cl D cA A xa nL c0 s0 pc ls (.ref x :: st) h :=
  fun H locs ad la hr hl hs => lv_astore_n hx hb hd rfl (m_lR_has hl) (hl.2.1 ▸ h2) rfl (fun la' hl' => k H locs ad la' hr (m_lR_st1 hl h1 h2 (g_hd hs) hl') (g_tl hs))
theorem g_astoreN (hx : p.tables.exec = Jvm.exec) (hb : c.code = cc) {i : Nat} (h1 : m_ok1 ls i = true) (h2 : i < ls.length) (hd : decode cc pc = .ok (.astore i, 2)) (k : m_go p l e R s m args below meth c Q P cl D cA A xa nL c0 s0 (pc + 2) (ls.set i (some .null)) st h) : m_go p l e R s m args below meth c Q P cl D cA A xa nL c0 s0 pc ls (.null :: st) h :=
  fun H locs ad la hr hl hs => lv_astoreN hx hb hd (m_lR_has hl) (hl.2.1 ▸ h2) rfl (fun la' hl' => k H locs ad la' hr (m_lR_st1 hl h1 h2 trivial hl') (g_tl hs))
theorem g_astore_nN (hx : p.tables.exec = Jvm.exec) (hb : c.code = cc) {i : Fin 4} (h1 : m_ok1 ls i = true) (h2 : (i : Nat) < ls.length) (hd : decode cc pc = .ok (.astore_n i, 1)) (k : m_go p l e R s m args below meth c Q P cl D cA A xa nL c0 s0 (pc + 1) (ls.set i (some .null)) st h) : m_go p l e R s m args below meth c Q P cl D cA A xa nL c0 s0 pc ls (.null :: st) h :=
  fun H locs ad la hr hl hs => lv_astore_nN hx hb hd rfl (m_lR_has hl) (hl.2.1 ▸ h2) rfl (fun la' hl' => k H locs ad la' hr (m_lR_st1 hl h1 h2 trivial hl') (g_tl hs))
theorem g_iinc (hx : p.tables.exec = Jvm.exec) (hb : c.code = cc) {i : Nat} {n : Int} {x : Int32} (h1 : m_ok1 ls i = true) (hi : ls[i]? = some (some (.int x))) (hd : decode cc pc = .ok (.iinc i n, 3)) (k : m_go p l e R s m args below meth c Q P cl D cA A xa nL c0 s0 (pc + 3) (ls.set i (some (.int (x + Int32.ofInt n)))) st h) : m_go p l e R s m args below meth c Q P cl D cA A xa nL c0 s0 pc ls st h := by
  intro H locs ad la hr hl hs
  have h2 : i < ls.length := (List.getElem?_eq_some_iff.mp hi).1
  obtain ⟨j, hj⟩ := List.getElem?_of_mem (m_ll_mem (ad := ad) (ls := ls) (q := (i, .int x)) |>.mpr ⟨_, hi, rfl⟩)
  exact lv_iinc hx hb hd (m_lR_has hl) hj rfl (hl.2.1 ▸ h2) rfl (fun la' hl' => k H locs ad la' hr (m_lR_st1 hl h1 h2 trivial hl') hs)
end GO
end
section
/-! arithmetic, stack and branches -/
section GOA
variable {p : Program} {l : Launch} {e : Env} {R : Room} {s : State} {m : MethodId} {args : Array Value} {below : List Frame} {meth : Method} {c : Code} {Q : State → Prop} {P : m_P} {cl : List vw_C} {D : va_G} {cA : Nat → ClassId} {A : Nat → Prop} {xa : Nat → Nat} {nL c0 s0 : Nat} {pc : Nat} {ls : m_F} {st : List Value} {h : m_H} {cc : ByteArray}
theorem g_iadd (hx : p.tables.exec = Jvm.exec) (hb : c.code = cc) {a b : Int32} (hd : decode cc pc = .ok (.iadd, 1)) (k : m_go p l e R s m args below meth c Q P cl D cA A xa nL c0 s0 (pc + 1) ls (.int (a + b) :: st) h) : m_go p l e R s m args below meth c Q P cl D cA A xa nL c0 s0 pc ls (.int b :: .int a :: st) h :=
  fun H locs ad la hr hl hs => lv_iadd hx hb hd (k H locs ad la hr hl (g_cs trivial (g_tl (g_tl hs))))
theorem g_isub (hx : p.tables.exec = Jvm.exec) (hb : c.code = cc) {a b : Int32} (hd : decode cc pc = .ok (.isub, 1)) (k : m_go p l e R s m args below meth c Q P cl D cA A xa nL c0 s0 (pc + 1) ls (.int (a - b) :: st) h) : m_go p l e R s m args below meth c Q P cl D cA A xa nL c0 s0 pc ls (.int b :: .int a :: st) h :=
  fun H locs ad la hr hl hs => lv_isub hx hb hd (k H locs ad la hr hl (g_cs trivial (g_tl (g_tl hs))))
theorem g_imul (hx : p.tables.exec = Jvm.exec) (hb : c.code = cc) {a b : Int32} (hd : decode cc pc = .ok (.imul, 1)) (k : m_go p l e R s m args below meth c Q P cl D cA A xa nL c0 s0 (pc + 1) ls (.int (a * b) :: st) h) : m_go p l e R s m args below meth c Q P cl D cA A xa nL c0 s0 pc ls (.int b :: .int a :: st) h :=
  fun H locs ad la hr hl hs => lv_imul hx hb hd (k H locs ad la hr hl (g_cs trivial (g_tl (g_tl hs))))
theorem g_iand (hx : p.tables.exec = Jvm.exec) (hb : c.code = cc) {a b : Int32} (hd : decode cc pc = .ok (.iand, 1)) (k : m_go p l e R s m args below meth c Q P cl D cA A xa nL c0 s0 (pc + 1) ls (.int (a &&& b) :: st) h) : m_go p l e R s m args below meth c Q P cl D cA A xa nL c0 s0 pc ls (.int b :: .int a :: st) h :=
  fun H locs ad la hr hl hs => lv_iand hx hb hd (k H locs ad la hr hl (g_cs trivial (g_tl (g_tl hs))))
theorem g_ior (hx : p.tables.exec = Jvm.exec) (hb : c.code = cc) {a b : Int32} (hd : decode cc pc = .ok (.ior, 1)) (k : m_go p l e R s m args below meth c Q P cl D cA A xa nL c0 s0 (pc + 1) ls (.int (a ||| b) :: st) h) : m_go p l e R s m args below meth c Q P cl D cA A xa nL c0 s0 pc ls (.int b :: .int a :: st) h :=
  fun H locs ad la hr hl hs => lv_ior hx hb hd (k H locs ad la hr hl (g_cs trivial (g_tl (g_tl hs))))
theorem g_ishr (hx : p.tables.exec = Jvm.exec) (hb : c.code = cc) {a b : Int32} (hd : decode cc pc = .ok (.ishr, 1)) (k : m_go p l e R s m args below meth c Q P cl D cA A xa nL c0 s0 (pc + 1) ls (.int (a >>> (b &&& 31)) :: st) h) : m_go p l e R s m args below meth c Q P cl D cA A xa nL c0 s0 pc ls (.int b :: .int a :: st) h :=
  fun H locs ad la hr hl hs => lv_ishr hx hb hd (k H locs ad la hr hl (g_cs trivial (g_tl (g_tl hs))))
theorem g_idiv (hx : p.tables.exec = Jvm.exec) (hb : c.code = cc) {a b : Int32} (h0 : ¬ b = 0) (hd : decode cc pc = .ok (.idiv, 1)) (k : m_go p l e R s m args below meth c Q P cl D cA A xa nL c0 s0 (pc + 1) ls (.int (a / b) :: st) h) : m_go p l e R s m args below meth c Q P cl D cA A xa nL c0 s0 pc ls (.int b :: .int a :: st) h :=
  fun H locs ad la hr hl hs => lv_idiv hx hb hd h0 (k H locs ad la hr hl (g_cs trivial (g_tl (g_tl hs))))
theorem g_irem (hx : p.tables.exec = Jvm.exec) (hb : c.code = cc) {a b : Int32} (h0 : ¬ b = 0) (hd : decode cc pc = .ok (.irem, 1)) (k : m_go p l e R s m args below meth c Q P cl D cA A xa nL c0 s0 (pc + 1) ls (.int (a - a / b * b) :: st) h) : m_go p l e R s m args below meth c Q P cl D cA A xa nL c0 s0 pc ls (.int b :: .int a :: st) h :=
  fun H locs ad la hr hl hs => lv_irem hx hb hd h0 (k H locs ad la hr hl (g_cs trivial (g_tl (g_tl hs))))
theorem g_ladd (hx : p.tables.exec = Jvm.exec) (hb : c.code = cc) {a b : Int64} (hd : decode cc pc = .ok (.ladd, 1)) (k : m_go p l e R s m args below meth c Q P cl D cA A xa nL c0 s0 (pc + 1) ls (.long (a + b) :: st) h) : m_go p l e R s m args below meth c Q P cl D cA A xa nL c0 s0 pc ls (.long b :: .long a :: st) h :=
  fun H locs ad la hr hl hs => lv_ladd hx hb hd (k H locs ad la hr hl (g_cs trivial (g_tl (g_tl hs))))
theorem g_lsub (hx : p.tables.exec = Jvm.exec) (hb : c.code = cc) {a b : Int64} (hd : decode cc pc = .ok (.lsub, 1)) (k : m_go p l e R s m args below meth c Q P cl D cA A xa nL c0 s0 (pc + 1) ls (.long (a - b) :: st) h) : m_go p l e R s m args below meth c Q P cl D cA A xa nL c0 s0 pc ls (.long b :: .long a :: st) h :=
  fun H locs ad la hr hl hs => lv_lsub hx hb hd (k H locs ad la hr hl (g_cs trivial (g_tl (g_tl hs))))
theorem g_lmul (hx : p.tables.exec = Jvm.exec) (hb : c.code = cc) {a b : Int64} (hd : decode cc pc = .ok (.lmul, 1)) (k : m_go p l e R s m args below meth c Q P cl D cA A xa nL c0 s0 (pc + 1) ls (.long (a * b) :: st) h) : m_go p l e R s m args below meth c Q P cl D cA A xa nL c0 s0 pc ls (.long b :: .long a :: st) h :=
  fun H locs ad la hr hl hs => lv_lmul hx hb hd (k H locs ad la hr hl (g_cs trivial (g_tl (g_tl hs))))
theorem g_i2b (hx : p.tables.exec = Jvm.exec) (hb : c.code = cc) {a : Int32} (hd : decode cc pc = .ok (.i2b, 1)) (k : m_go p l e R s m args below meth c Q P cl D cA A xa nL c0 s0 (pc + 1) ls (.int a.toInt8.toInt32 :: st) h) : m_go p l e R s m args below meth c Q P cl D cA A xa nL c0 s0 pc ls (.int a :: st) h :=
  fun H locs ad la hr hl hs => lv_i2b hx hb hd rfl (k H locs ad la hr hl (g_cs trivial (g_tl hs)))
theorem g_i2l (hx : p.tables.exec = Jvm.exec) (hb : c.code = cc) {a : Int32} (hd : decode cc pc = .ok (.i2l, 1)) (k : m_go p l e R s m args below meth c Q P cl D cA A xa nL c0 s0 (pc + 1) ls (.long a.toInt64 :: st) h) : m_go p l e R s m args below meth c Q P cl D cA A xa nL c0 s0 pc ls (.int a :: st) h :=
  fun H locs ad la hr hl hs => lv_i2l hx hb hd rfl (k H locs ad la hr hl (g_cs trivial (g_tl hs)))
theorem g_i2d (hx : p.tables.exec = Jvm.exec) (hb : c.code = cc) {a : Int32} (hd : decode cc pc = .ok (.i2d, 1)) (k : m_go p l e R s m args below meth c Q P cl D cA A xa nL c0 s0 (pc + 1) ls (.double (FP.i2d a) :: st) h) : m_go p l e R s m args below meth c Q P cl D cA A xa nL c0 s0 pc ls (.int a :: st) h :=
  fun H locs ad la hr hl hs => lv_i2d hx hb hd (k H locs ad la hr hl (g_cs trivial (g_tl hs)))
theorem g_i2f (hx : p.tables.exec = Jvm.exec) (hb : c.code = cc) {a : Int32} (hd : decode cc pc = .ok (.i2f, 1)) (k : m_go p l e R s m args below meth c Q P cl D cA A xa nL c0 s0 (pc + 1) ls (.float (FP.i2f a) :: st) h) : m_go p l e R s m args below meth c Q P cl D cA A xa nL c0 s0 pc ls (.int a :: st) h :=
  fun H locs ad la hr hl hs => lv_i2f hx hb hd (k H locs ad la hr hl (g_cs trivial (g_tl hs)))
theorem g_dup (hx : p.tables.exec = Jvm.exec) (hb : c.code = cc) {v : Value} (hv : v.category = 1) (hd : decode cc pc = .ok (.dup, 1)) (k : m_go p l e R s m args below meth c Q P cl D cA A xa nL c0 s0 (pc + 1) ls (v :: v :: st) h) : m_go p l e R s m args below meth c Q P cl D cA A xa nL c0 s0 pc ls (v :: st) h :=
  fun H locs ad la hr hl hs => lv_dup hx hb hd (by rw [m_cat_cv]; exact hv) (k H locs ad la hr hl (g_cs (g_hd hs) hs))
theorem g_pop (hx : p.tables.exec = Jvm.exec) (hb : c.code = cc) {v : Value} (hv : v.category = 1) (hd : decode cc pc = .ok (.pop, 1)) (k : m_go p l e R s m args below meth c Q P cl D cA A xa nL c0 s0 (pc + 1) ls st h) : m_go p l e R s m args below meth c Q P cl D cA A xa nL c0 s0 pc ls (v :: st) h :=
  fun H locs ad la hr hl hs => lv_pop hx hb hd (by rw [m_cat_cv]; exact hv) (k H locs ad la hr hl (g_tl hs))
theorem g_dup2 (hx : p.tables.exec = Jvm.exec) (hb : c.code = cc) {v w : Value} (hv : v.category = 1) (hw : w.category = 1) (hd : decode cc pc = .ok (.dup2, 1)) (k : m_go p l e R s m args below meth c Q P cl D cA A xa nL c0 s0 (pc + 1) ls (v :: w :: v :: w :: st) h) : m_go p l e R s m args below meth c Q P cl D cA A xa nL c0 s0 pc ls (v :: w :: st) h :=
  fun H locs ad la hr hl hs => lv_dup2_11 hx hb hd (by rw [m_cat_cv]; exact hv) (by rw [m_cat_cv]; exact hw) (k H locs ad la hr hl (g_cs (g_hd hs) (g_cs (g_hd (g_tl hs)) hs)))
theorem g_goto (hx : p.tables.exec = Jvm.exec) (hb : c.code = cc) {off : Int} {tgt : Nat} (hd : decode cc pc = .ok (.goto off, 3)) (ht : (pc : Int) + off = (tgt : Int)) (k : m_go p l e R s m args below meth c Q P cl D cA A xa nL c0 s0 tgt ls st h) : m_go p l e R s m args below meth c Q P cl D cA A xa nL c0 s0 pc ls st h :=
  fun H locs ad la hr hl hs => lv_goto hx hb hd ht (k H locs ad la hr hl hs)
theorem g_if_eq (hx : p.tables.exec = Jvm.exec) (hb : c.code = cc) {a : Int32} {off : Int} {tgt : Nat} (hd : decode cc pc = .ok (.ifCond .eq off, 3)) (ht : (pc : Int) + off = (tgt : Int)) (kt : a = 0 → m_go p l e R s m args below meth c Q P cl D cA A xa nL c0 s0 tgt ls st h) (kf : ¬ (a = 0) → m_go p l e R s m args below meth c Q P cl D cA A xa nL c0 s0 (pc + 3) ls st h) : m_go p l e R s m args below meth c Q P cl D cA A xa nL c0 s0 pc ls (.int a :: st) h :=
  fun H locs ad la hr hl hs => lv_if_eq hx hb hd ht (fun z => kt (by exact z) H locs ad la hr hl (g_tl hs)) (fun z => kf (by first | exact z | exact fun y => y z) H locs ad la hr hl (g_tl hs))
theorem g_if_ne (hx : p.tables.exec = Jvm.exec) (hb : c.code = cc) {a : Int32} {off : Int} {tgt : Nat} (hd : decode cc pc = .ok (.ifCond .ne off, 3)) (ht : (pc : Int) + off = (tgt : Int)) (kt : ¬ a = 0 → m_go p l e R s m args below meth c Q P cl D cA A xa nL c0 s0 tgt ls st h) (kf : ¬ (¬ a = 0) → m_go p l e R s m args below meth c Q P cl D cA A xa nL c0 s0 (pc + 3) ls st h) : m_go p l e R s m args below meth c Q P cl D cA A xa nL c0 s0 pc ls (.int a :: st) h :=
  fun H locs ad la hr hl hs => lv_if_ne hx hb hd ht (fun z => kt (by exact z) H locs ad la hr hl (g_tl hs)) (fun z => kf (by first | exact z | exact fun y => y z) H locs ad la hr hl (g_tl hs))
theorem g_if_lt (hx : p.tables.exec = Jvm.exec) (hb : c.code = cc) {a : Int32} {off : Int} {tgt : Nat} (hd : decode cc pc = .ok (.ifCond .lt off, 3)) (ht : (pc : Int) + off = (tgt : Int)) (kt : a < 0 → m_go p l e R s m args below meth c Q P cl D cA A xa nL c0 s0 tgt ls st h) (kf : ¬ (a < 0) → m_go p l e R s m args below meth c Q P cl D cA A xa nL c0 s0 (pc + 3) ls st h) : m_go p l e R s m args below meth c Q P cl D cA A xa nL c0 s0 pc ls (.int a :: st) h :=
  fun H locs ad la hr hl hs => lv_if_lt hx hb hd ht (fun z => kt (by exact z) H locs ad la hr hl (g_tl hs)) (fun z => kf (by first | exact z | exact fun y => y z) H locs ad la hr hl (g_tl hs))
theorem g_if_ge (hx : p.tables.exec = Jvm.exec) (hb : c.code = cc) {a : Int32} {off : Int} {tgt : Nat} (hd : decode cc pc = .ok (.ifCond .ge off, 3)) (ht : (pc : Int) + off = (tgt : Int)) (kt : 0 ≤ a → m_go p l e R s m args below meth c Q P cl D cA A xa nL c0 s0 tgt ls st h) (kf : ¬ (0 ≤ a) → m_go p l e R s m args below meth c Q P cl D cA A xa nL c0 s0 (pc + 3) ls st h) : m_go p l e R s m args below meth c Q P cl D cA A xa nL c0 s0 pc ls (.int a :: st) h :=
  fun H locs ad la hr hl hs => lv_if_ge hx hb hd ht (fun z => kt (by exact z) H locs ad la hr hl (g_tl hs)) (fun z => kf (by first | exact z | exact fun y => y z) H locs ad la hr hl (g_tl hs))
theorem g_if_gt (hx : p.tables.exec = Jvm.exec) (hb : c.code = cc) {a : Int32} {off : Int} {tgt : Nat} (hd : decode cc pc = .ok (.ifCond .gt off, 3)) (ht : (pc : Int) + off = (tgt : Int)) (kt : 0 < a → m_go p l e R s m args below meth c Q P cl D cA A xa nL c0 s0 tgt ls st h) (kf : ¬ (0 < a) → m_go p l e R s m args below meth c Q P cl D cA A xa nL c0 s0 (pc + 3) ls st h) : m_go p l e R s m args below meth c Q P cl D cA A xa nL c0 s0 pc ls (.int a :: st) h :=
  fun H locs ad la hr hl hs => lv_if_gt hx hb hd ht (fun z => kt (by exact z) H locs ad la hr hl (g_tl hs)) (fun z => kf (by first | exact z | exact fun y => y z) H locs ad la hr hl (g_tl hs))
theorem g_if_le (hx : p.tables.exec = Jvm.exec) (hb : c.code = cc) {a : Int32} {off : Int} {tgt : Nat} (hd : decode cc pc = .ok (.ifCond .le off, 3)) (ht : (pc : Int) + off = (tgt : Int)) (kt : a ≤ 0 → m_go p l e R s m args below meth c Q P cl D cA A xa nL c0 s0 tgt ls st h) (kf : ¬ (a ≤ 0) → m_go p l e R s m args below meth c Q P cl D cA A xa nL c0 s0 (pc + 3) ls st h) : m_go p l e R s m args below meth c Q P cl D cA A xa nL c0 s0 pc ls (.int a :: st) h :=
  fun H locs ad la hr hl hs => lv_if_le hx hb hd ht (fun z => kt (by exact z) H locs ad la hr hl (g_tl hs)) (fun z => kf (by first | exact z | exact fun y => y z) H locs ad la hr hl (g_tl hs))
theorem g_icmp_eq (hx : p.tables.exec = Jvm.exec) (hb : c.code = cc) {a b : Int32} {off : Int} {tgt : Nat} (hd : decode cc pc = .ok (.if_icmp .eq off, 3)) (ht : (pc : Int) + off = (tgt : Int)) (kt : a = b → m_go p l e R s m args below meth c Q P cl D cA A xa nL c0 s0 tgt ls st h) (kf : ¬ (a = b) → m_go p l e R s m args below meth c Q P cl D cA A xa nL c0 s0 (pc + 3) ls st h) : m_go p l e R s m args below meth c Q P cl D cA A xa nL c0 s0 pc ls (.int b :: .int a :: st) h :=
  fun H locs ad la hr hl hs => lv_icmp_eq hx hb hd ht (fun z => kt (by exact z) H locs ad la hr hl (g_tl (g_tl hs))) (fun z => kf (by first | exact z | exact fun y => y z) H locs ad la hr hl (g_tl (g_tl hs)))
theorem g_icmp_ne (hx : p.tables.exec = Jvm.exec) (hb : c.code = cc) {a b : Int32} {off : Int} {tgt : Nat} (hd : decode cc pc = .ok (.if_icmp .ne off, 3)) (ht : (pc : Int) + off = (tgt : Int)) (kt : ¬ a = b → m_go p l e R s m args below meth c Q P cl D cA A xa nL c0 s0 tgt ls st h) (kf : ¬ (¬ a = b) → m_go p l e R s m args below meth c Q P cl D cA A xa nL c0 s0 (pc + 3) ls st h) : m_go p l e R s m args below meth c Q P cl D cA A xa nL c0 s0 pc ls (.int b :: .int a :: st) h :=
  fun H locs ad la hr hl hs => lv_icmp_ne hx hb hd ht (fun z => kt (by exact z) H locs ad la hr hl (g_tl (g_tl hs))) (fun z => kf (by first | exact z | exact fun y => y z) H locs ad la hr hl (g_tl (g_tl hs)))
theorem g_icmp_lt (hx : p.tables.exec = Jvm.exec) (hb : c.code = cc) {a b : Int32} {off : Int} {tgt : Nat} (hd : decode cc pc = .ok (.if_icmp .lt off, 3)) (ht : (pc : Int) + off = (tgt : Int)) (kt : a < b → m_go p l e R s m args below meth c Q P cl D cA A xa nL c0 s0 tgt ls st h) (kf : ¬ (a < b) → m_go p l e R s m args below meth c Q P cl D cA A xa nL c0 s0 (pc + 3) ls st h) : m_go p l e R s m args below meth c Q P cl D cA A xa nL c0 s0 pc ls (.int b :: .int a :: st) h :=
  fun H locs ad la hr hl hs => lv_icmp_lt hx hb hd ht (fun z => kt (by exact z) H locs ad la hr hl (g_tl (g_tl hs))) (fun z => kf (by first | exact z | exact fun y => y z) H locs ad la hr hl (g_tl (g_tl hs)))
theorem g_icmp_ge (hx : p.tables.exec = Jvm.exec) (hb : c.code = cc) {a b : Int32} {off : Int} {tgt : Nat} (hd : decode cc pc = .ok (.if_icmp .ge off, 3)) (ht : (pc : Int) + off = (tgt : Int)) (kt : b ≤ a → m_go p l e R s m args below meth c Q P cl D cA A xa nL c0 s0 tgt ls st h) (kf : ¬ (b ≤ a) → m_go p l e R s m args below meth c Q P cl D cA A xa nL c0 s0 (pc + 3) ls st h) : m_go p l e R s m args below meth c Q P cl D cA A xa nL c0 s0 pc ls (.int b :: .int a :: st) h :=
  fun H locs ad la hr hl hs => lv_icmp_ge hx hb hd ht (fun z => kt (by exact z) H locs ad la hr hl (g_tl (g_tl hs))) (fun z => kf (by first | exact z | exact fun y => y z) H locs ad la hr hl (g_tl (g_tl hs)))
theorem g_icmp_gt (hx : p.tables.exec = Jvm.exec) (hb : c.code = cc) {a b : Int32} {off : Int} {tgt : Nat} (hd : decode cc pc = .ok (.if_icmp .gt off, 3)) (ht : (pc : Int) + off = (tgt : Int)) (kt : b < a → m_go p l e R s m args below meth c Q P cl D cA A xa nL c0 s0 tgt ls st h) (kf : ¬ (b < a) → m_go p l e R s m args below meth c Q P cl D cA A xa nL c0 s0 (pc + 3) ls st h) : m_go p l e R s m args below meth c Q P cl D cA A xa nL c0 s0 pc ls (.int b :: .int a :: st) h :=
  fun H locs ad la hr hl hs => lv_icmp_gt hx hb hd ht (fun z => kt (by exact z) H locs ad la hr hl (g_tl (g_tl hs))) (fun z => kf (by first | exact z | exact fun y => y z) H locs ad la hr hl (g_tl (g_tl hs)))
theorem g_icmp_le (hx : p.tables.exec = Jvm.exec) (hb : c.code = cc) {a b : Int32} {off : Int} {tgt : Nat} (hd : decode cc pc = .ok (.if_icmp .le off, 3)) (ht : (pc : Int) + off = (tgt : Int)) (kt : a ≤ b → m_go p l e R s m args below meth c Q P cl D cA A xa nL c0 s0 tgt ls st h) (kf : ¬ (a ≤ b) → m_go p l e R s m args below meth c Q P cl D cA A xa nL c0 s0 (pc + 3) ls st h) : m_go p l e R s m args below meth c Q P cl D cA A xa nL c0 s0 pc ls (.int b :: .int a :: st) h :=
  fun H locs ad la hr hl hs => lv_icmp_le hx hb hd ht (fun z => kt (by exact z) H locs ad la hr hl (g_tl (g_tl hs))) (fun z => kf (by first | exact z | exact fun y => y z) H locs ad la hr hl (g_tl (g_tl hs)))
theorem g_ifnull (hx : p.tables.exec = Jvm.exec) (hb : c.code = cc) {x : Nat} {off : Int} (hd : decode cc pc = .ok (.ifnull off, 3)) (k : m_go p l e R s m args below meth c Q P cl D cA A xa nL c0 s0 (pc + 3) ls st h) : m_go p l e R s m args below meth c Q P cl D cA A xa nL c0 s0 pc ls (.ref x :: st) h :=
  fun H locs ad la hr hl hs => lv_ifnull hx hb hd (k H locs ad la hr hl (g_tl hs))
theorem g_ifnullN (hx : p.tables.exec = Jvm.exec) (hb : c.code = cc) {off : Int} {tgt : Nat} (hd : decode cc pc = .ok (.ifnull off, 3)) (ht : (pc : Int) + off = (tgt : Int)) (k : m_go p l e R s m args below meth c Q P cl D cA A xa nL c0 s0 tgt ls st h) : m_go p l e R s m args below meth c Q P cl D cA A xa nL c0 s0 pc ls (.null :: st) h :=
  fun H locs ad la hr hl hs => lv_ifnullN hx hb hd ht (k H locs ad la hr hl (g_tl hs))
theorem g_ifnonnull (hx : p.tables.exec = Jvm.exec) (hb : c.code = cc) {x : Nat} {off : Int} {tgt : Nat} (hd : decode cc pc = .ok (.ifnonnull off, 3)) (ht : (pc : Int) + off = (tgt : Int)) (k : m_go p l e R s m args below meth c Q P cl D cA A xa nL c0 s0 tgt ls st h) : m_go p l e R s m args below meth c Q P cl D cA A xa nL c0 s0 pc ls (.ref x :: st) h :=
  fun H locs ad la hr hl hs => lv_ifnonnull hx hb hd ht (k H locs ad la hr hl (g_tl hs))
theorem g_ifnonnullN (hx : p.tables.exec = Jvm.exec) (hb : c.code = cc) {off : Int} (hd : decode cc pc = .ok (.ifnonnull off, 3)) (k : m_go p l e R s m args below meth c Q P cl D cA A xa nL c0 s0 (pc + 3) ls st h) : m_go p l e R s m args below meth c Q P cl D cA A xa nL c0 s0 pc ls (.null :: st) h :=
  fun H locs ad la hr hl hs => lv_ifnonnullN hx hb hd (k H locs ad la hr hl (g_tl hs))
theorem g_tableIn (hx : p.tables.exec = Jvm.exec) (hb : c.code = cc) {dflt lo hi : Int} {offs : Array Int} {len : Nat} {x : Int32} {off : Int} {tgt : Nat} (hd : decode cc pc = .ok (.tableswitch dflt lo hi offs, len)) (h1 : ¬ x.toInt < lo) (h2 : ¬ hi < x.toInt) (ho : offs[(x.toInt - lo).toNat]? = some off) (ht : (pc : Int) + off = (tgt : Int)) (k : m_go p l e R s m args below meth c Q P cl D cA A xa nL c0 s0 tgt ls st h) : m_go p l e R s m args below meth c Q P cl D cA A xa nL c0 s0 pc ls (.int x :: st) h :=
  fun H locs ad la hr hl hs => lv_tableIn hx hb hd h1 h2 ho ht (k H locs ad la hr hl (g_tl hs))
theorem g_tableOut (hx : p.tables.exec = Jvm.exec) (hb : c.code = cc) {dflt lo hi : Int} {offs : Array Int} {len : Nat} {x : Int32} {tgt : Nat} (hd : decode cc pc = .ok (.tableswitch dflt lo hi offs, len)) (h1 : x.toInt < lo ∨ hi < x.toInt) (ht : (pc : Int) + dflt = (tgt : Int)) (k : m_go p l e R s m args below meth c Q P cl D cA A xa nL c0 s0 tgt ls st h) : m_go p l e R s m args below meth c Q P cl D cA A xa nL c0 s0 pc ls (.int x :: st) h :=
  fun H locs ad la hr hl hs => lv_tableOut hx hb hd h1 ht (k H locs ad la hr hl (g_tl hs))
end GOA
end
section
/-! fields and rows -/
theorem m_upne {α : Type} {f : Nat → Nat → α} {a b k : Nat} {v : α} (hb : b ≠ a) : m_up f a k v b = f b := by
  funext y
  simp [m_up, hb]
theorem m_upeq {α : Type} {f : Nat → Nat → α} {a k j : Nat} {v : α} : m_up f a k v a j = if j = k then v else f a j := by simp [m_up]
theorem m_upI {f : Nat → Nat → Int32} {a k : Nat} {v : Int32} : m_up f a k v a = upd (f a) k v := by
  funext y
  simp [m_up, upd]
theorem m_upL {f : Nat → Nat → Int64} {a k : Nat} {v : Int64} : m_up f a k v a = vp_updL (f a) k v := by
  funext y
  simp [m_up, vp_updL]
theorem m_upD {f : Nat → Nat → UInt64} {a k : Nat} {v : UInt64} : m_up f a k v a = vf_upd (f a) k v := by
  funext y
  simp [m_up, vf_upd]
theorem m_I_setI (h : m_H) (a k : Nat) (v : Int32) : m_I (m_setI h a k v) = m_up (m_I h) a k v := rfl
theorem m_L_setL (h : m_H) (a k : Nat) (v : Int64) : m_L (m_setL h a k v) = m_up (m_L h) a k v := rfl
theorem m_D_setD (h : m_H) (a k : Nat) (v : UInt64) : m_D (m_setD h a k v) = m_up (m_D h) a k v := rfl
theorem m_R_setR (h : m_H) (a k : Nat) (v : Option Nat) : m_R (m_setR h a k v) = m_up (m_R h) a k v := rfl
section CELLS
variable {P : m_P} {cA : Nat → ClassId} {ad : Nat → Nat} {h : m_H} {a b k : Nat}
theorem m_cI_ne {v : Int32} (hb : b ≠ a) : m_cell P cA ad (m_setI h a k v) b = m_cell P cA ad h b := by
  have e1 : m_I (m_setI h a k v) b = m_I h b := m_upne hb
  unfold m_cell m_fv
  rw [e1]
  rfl
theorem m_cL_ne {v : Int64} (hb : b ≠ a) : m_cell P cA ad (m_setL h a k v) b = m_cell P cA ad h b := by
  have e1 : m_L (m_setL h a k v) b = m_L h b := m_upne hb
  unfold m_cell m_fv
  rw [e1]
  rfl
theorem m_cD_ne {v : UInt64} (hb : b ≠ a) : m_cell P cA ad (m_setD h a k v) b = m_cell P cA ad h b := by
  have e1 : m_D (m_setD h a k v) b = m_D h b := m_upne hb
  unfold m_cell m_fv
  rw [e1]
  rfl
theorem m_cR_ne {v : Option Nat} (hb : b ≠ a) : m_cell P cA ad (m_setR h a k v) b = m_cell P cA ad h b := by
  have e1 : m_R (m_setR h a k v) b = m_R h b := m_upne hb
  unfold m_cell m_fv
  rw [e1]
  rfl
theorem m_cell_obj {ci : Nat} (hk : m_k h a = ci) (hc : ci < 100) : m_cell P cA ad h a = .inr (ci, (List.range (m_nf P ci)).map (fun k => m_fv P ad h a ci k)) := by
  unfold m_cell
  rw [hk, if_pos hc]
theorem m_cell_I {ci : Nat} (hk : m_k h a = ci) (h1 : 100 ≤ ci) (h2 : ci ≠ 102) (h3 : ci ≠ 103) (h4 : ci < 200) : m_cell P cA ad h a = .inl (cA ci, m_l h a, .inl (m_I h a)) := by
  unfold m_cell
  rw [hk, if_neg (by omega), if_neg h2, if_neg h3, if_pos h4]
theorem m_cell_L (hk : m_k h a = 102) : m_cell P cA ad h a = .inl (cA 102, m_l h a, .inr (.inl (m_L h a))) := by
  unfold m_cell
  rw [hk]
  rfl
theorem m_cell_D (hk : m_k h a = 103) : m_cell P cA ad h a = .inl (cA 103, m_l h a, .inr (.inr (.inr (.inl (m_D h a))))) := by
  unfold m_cell
  rw [hk]
  rfl
theorem m_cell_R {ci : Nat} (hk : m_k h a = ci) (h1 : 200 ≤ ci) : m_cell P cA ad h a = .inl (cA ci, m_l h a, .inr (.inr (.inr (.inr (fun i => (m_R h a i).map ad))))) := by
  unfold m_cell
  rw [hk, if_neg (by omega), if_neg (by omega), if_neg (by omega), if_neg (by omega)]
end CELLS
/-- a field as the small machine reads it -/
def m_gv (P : m_P) (h : m_H) (a ci k : Nat) : Value := if m_fk P ci k = 1 then m_rv (m_R h a k) else if m_fk P ci k = 2 then .long (m_L h a k) else .int (m_I h a k)
theorem m_gv_cv {P : m_P} {ad : Nat → Nat} {h : m_H} {a ci k : Nat} : m_cv ad (m_gv P h a ci k) = m_fv P ad h a ci k := by
  unfold m_gv m_fv
  split
  · exact m_rv_cv ad _
  · split <;> rfl
theorem m_rv_in {h : m_H} (hw : m_wf h) {a k : Nat} (ha : a < m_n h) : m_in (m_n h) (m_rv (m_R h a k)) := by
  cases hr : m_R h a k with
  | none => trivial
  | some j => exact hw.2 a k j ha hr
theorem m_gv_in {P : m_P} {h : m_H} {a ci k : Nat} (hw : m_wf h) (ha : a < m_n h) : m_in (m_n h) (m_gv P h a ci k) := by
  unfold m_gv
  split
  · exact m_rv_in hw ha
  · split <;> trivial
theorem m_wf_I {h : m_H} {a k : Nat} {v : Int32} (hw : m_wf h) : m_wf (m_setI h a k v) := hw
theorem m_wf_L {h : m_H} {a k : Nat} {v : Int64} (hw : m_wf h) : m_wf (m_setL h a k v) := hw
theorem m_wf_D {h : m_H} {a k : Nat} {v : UInt64} (hw : m_wf h) : m_wf (m_setD h a k v) := hw
theorem m_wf_R {h : m_H} {a k : Nat} {v : Option Nat} (hw : m_wf h) (hv : ∀ j, v = some j → j < m_n h ∨ m_X ≤ j) : m_wf (m_setR h a k v) := by
  refine ⟨hw.1, fun b i j hb hj => ?_⟩
  rw [m_R_setR] at hj
  unfold m_up at hj
  split at hj
  · exact hv j hj
  · exact hw.2 b i j hb hj
/-- what is known of a class: its row, its words, its fields' kinds -/
def m_tyok (z : Nat) (ty : FieldType) : Prop := (z = 0 ∧ ty = .int) ∨ (z = 1 ∧ ((∃ n, ty = .object n) ∨ ∃ t, ty = .array t)) ∨ (z = 2 ∧ ty = .long) ∨ (z = 3 ∧ ty = .boolean)
def m_cok (P : m_P) (cl : List vw_C) (G : List Cond) (ci : Nat) (C : String) (T : u_T) : Prop :=
  ci < 100 ∧ cl[ci]? = some (C, T, m_nf P ci) ∧ (∀ w ∈ u_ws C T (m_nf P ci), w ∈ G) ∧ (∀ a, a < m_nf P ci → ∀ b, b < m_nf P ci → a ≠ b → (T a).2.1 ≠ (T b).2.1) ∧ ∃ ty : Nat → FieldType, (∀ k, k < m_nf P ci → parseFieldDescriptor (T k).2.2.1 = some (ty k)) ∧ ∀ k, k < m_nf P ci → m_tyok (m_fk P ci k) (ty k)
section GOH
variable {p : Program} {l : Launch} {e : Env} {R : Room} {s : State} {m : MethodId} {args : Array Value} {below : List Frame} {meth : Method} {c : Code} {Q : State → Prop} {P : m_P} {cl : List vw_C} {D : va_G} {cA : Nat → ClassId} {A : Nat → Prop} {xa : Nat → Nat} {nL c0 s0 : Nat} {pc : Nat} {ls : m_F} {st : List Value} {h : m_H} {cc : ByteArray} {tys : List (ClassId × FieldType)} {G : List Cond} {own : String}
theorem g_get (hx : p.tables.exec = Jvm.exec) (hb : c.code = cc) (hts : ∀ w ∈ G, w.before args s = true) (hown : s.vm.findClass own = some m.cls) (hK : va_K D cl tys s) {ci : Nat} {C : String} {T : u_T} (hc : m_cok P cl G ci C T) {k index a : Nat} (hlink : Cond.fieldLink own index (T k).1 (T k).2.1 (T k).2.2.1 ∈ G) (ha : a < m_n h) (hk : m_k h a = ci) (hkN : k < m_nf P ci) (hd : decode cc pc = .ok (.getfield index, 3))
    (kk : m_go p l e R s m args below meth c Q P cl D cA A xa nL c0 s0 (pc + 3) ls (m_gv P h a ci k :: st) h) : m_go p l e R s m args below meth c Q P cl D cA A xa nL c0 s0 pc ls (.ref a :: st) h := by
  intro H locs ad la hr hl hs
  obtain ⟨hP, hD, hS, hw, hX⟩ := id hr
  obtain ⟨h0, h1, h2, h3, h4⟩ := hc
  have he := m_ws_at (P := P) (cA := cA) (ad := ad) ha
  rw [m_cell_obj hk h0] at he
  refine va_get hx hb hts h2 hown hK hP a he h1 k hkN (hts _ hlink) (fun _ z => z) (v := m_cv ad (m_gv P h a ci k)) ?_ hd (kk H locs ad la hr hl (g_cs (m_gv_in hw ha) (g_tl hs)))
  rw [List.getElem?_map, List.getElem?_range hkN, m_gv_cv]
  rfl
/-- an object's cell with one field changed -/
theorem m_obj_set {P : m_P} {cA : Nat → ClassId} {ad : Nat → Nat} {h h' : m_H} {a ci k : Nat} {v : Value} (hk : m_k h a = ci) (hk' : m_k h' a = ci) (hc : ci < 100) (hkN : k < m_nf P ci) (hv : m_fv P ad h' a ci k = v) (ho : ∀ j, j ≠ k → m_fv P ad h' a ci j = m_fv P ad h a ci j) :
    m_cell P cA ad h' a = .inr (ci, ((List.range (m_nf P ci)).map (fun k => m_fv P ad h a ci k)).set k v) := by
  rw [m_cell_obj hk' hc, ← hv, m_map_set (f := fun k => m_fv P ad h a ci k) (g := fun k => m_fv P ad h' a ci k) hkN ho]
theorem g_put (hx : p.tables.exec = Jvm.exec) (hb : c.code = cc) (hts : ∀ w ∈ G, w.before args s = true) (hown : s.vm.findClass own = some m.cls) (hK : va_K D cl tys s) {ci : Nat} {C : String} {T : u_T} (hc : m_cok P cl G ci C T) {k index a : Nat} (hlink : Cond.fieldLink own index (T k).1 (T k).2.1 (T k).2.2.1 ∈ G) (hfin : (T k).2.2.2 = false ∨ ((T k).2.2.2 = true ∧ meth.name = "<init>" ∧ (T k).1 = own)) (ha : a < m_n h) (hk : m_k h a = ci) (hkN : k < m_nf P ci) (hd : decode cc pc = .ok (.putfield index, 3))
    {v : Value} {h' : m_H} (hn : m_n h' = m_n h) (hcs : m_c h' = m_c h) (hss : m_s h' = m_s h) (hk' : m_k h' a = ci) (hw' : m_wf h → m_wf h') (hty : ∀ (ad : Nat → Nat) (ty : FieldType), m_tyok (m_fk P ci k) ty → narrow ty (m_cv ad v) = m_cv ad v ∧ fits ty (m_cv ad v) = true)
    (hv : ∀ ad, m_fv P ad h' a ci k = m_cv ad v) (ho : ∀ ad j, j ≠ k → m_fv P ad h' a ci j = m_fv P ad h a ci j) (hob : ∀ ad b, b ≠ a → m_cell P cA ad h' b = m_cell P cA ad h b)
    (kk : m_go p l e R s m args below meth c Q P cl D cA A xa nL c0 s0 (pc + 3) ls st h') : m_go p l e R s m args below meth c Q P cl D cA A xa nL c0 s0 pc ls (v :: .ref a :: st) h := by
  intro H locs ad la hr hl hs
  obtain ⟨hP, hD, hS, hw, hX⟩ := id hr
  obtain ⟨h0, h1, h2, h3, ty, h4, h5⟩ := hc
  have he := m_ws_at (P := P) (cA := cA) (ad := ad) ha
  rw [m_cell_obj hk h0] at he
  obtain ⟨q1, q2⟩ := hty ad (ty k) (h5 k hkN)
  have hnew := m_obj_set (P := P) (cA := cA) (ad := ad) hk hk' h0 hkN (hv ad) (ho ad)
  have hset : (m_ws P cA ad h).set a (ad a, .inr (ci, ((List.range (m_nf P ci)).map (fun k => m_fv P ad h a ci k)).set k (m_cv ad v))) = m_ws P cA ad h' := by
    rw [← hnew]
    exact m_ws_set ha hn (hob ad)
  have fin : ∀ (H1 : Heap) (locs1 : List Loc), va_P D cl (m_ws P cA ad h') H1 → va_D A (m_ws P cA ad h') → va_S A s.heap H1 locs1 → W p l e R s m args below meth c H1 locs1 (m_c h - c0) (m_s h - s0) Q (F0 m (pc + 3) la (st.map (m_cv ad))) := by
    intro H1 locs1 a1 a2 a3
    have := kk H1 locs1 ad la ⟨a1, a2, a3, hw' hw, hX⟩ (hn ▸ hl) (by rw [hn]; exact g_tl (g_tl hs))
    rw [hcs, hss] at this
    exact this
  rcases hfin with hfin | ⟨hfin, hin, hdc⟩
  · refine va_put hx hb hts h2 ty h4 h3 hown hK hP hD hS a he h1 k hkN (hts _ hlink) (fun _ z => z) hfin (h4 k hkN) q1 q2 (by simpa using hkN) hd (fun H1 locs1 a1 a2 a3 => ?_)
    rw [hset] at a1 a2
    exact fin H1 locs1 a1 a2 a3
  · refine va_putF hx hb hts h2 ty h4 h3 hown hK hP hD hS a he h1 k hkN (hts _ hlink) (fun _ z => z) hfin hin hdc (h4 k hkN) q1 q2 (by simpa using hkN) hd (fun H1 locs1 a1 a2 a3 => ?_)
    rw [hset] at a1 a2
    exact fin H1 locs1 a1 a2 a3
end GOH
end
section
/-! rows and new cells -/
/-- the class of a kind of rows is in the list -/
def m_aok (tys : List (ClassId × FieldType)) (cA : Nat → ClassId) (z : Nat) (ty : FieldType) : Prop := ∃ t0 : Nat, tys[t0]? = some (cA z, ty)
section GOR
variable {p : Program} {l : Launch} {e : Env} {R : Room} {s : State} {m : MethodId} {args : Array Value} {below : List Frame} {meth : Method} {c : Code} {Q : State → Prop} {P : m_P} {cl : List vw_C} {D : va_G} {cA : Nat → ClassId} {A : Nat → Prop} {xa : Nat → Nat} {nL c0 s0 : Nat} {pc : Nat} {ls : m_F} {st : List Value} {h : m_H} {cc : ByteArray} {tys : List (ClassId × FieldType)} {G : List Cond} {own : String} {a : Nat} {i : Int32}
theorem g_iald (hx : p.tables.exec = Jvm.exec) (hb : c.code = cc) (hK : va_K D cl tys s) (ht : m_aok tys cA 100 .int) (ha : a < m_n h) (hk : m_k h a = 100) (hi : ¬ (i < 0 ∨ m_l h a ≤ i.toNatClampNeg)) (hd : decode cc pc = .ok (.iaload, 1)) (kk : m_go p l e R s m args below meth c Q P cl D cA A xa nL c0 s0 (pc + 1) ls (.int (m_I h a i.toNatClampNeg) :: st) h) : m_go p l e R s m args below meth c Q P cl D cA A xa nL c0 s0 pc ls (.int i :: .ref a :: st) h := by
  intro H locs ad la hr hl hs
  obtain ⟨t0, ht⟩ := ht
  have he := m_ws_at (P := P) (cA := cA) (ad := ad) ha
  rw [m_cell_I (ci := 100) hk (by decide) (by decide) (by decide) (by decide)] at he
  exact va_iald hx hb hK hr.1 a t0 he ht hi hd (kk H locs ad la hr hl (g_cs trivial (g_tl (g_tl hs))))
theorem g_iast (hx : p.tables.exec = Jvm.exec) (hb : c.code = cc) (hK : va_K D cl tys s) (ht : m_aok tys cA 100 .int) {v : Int32} (ha : a < m_n h) (hk : m_k h a = 100) (hi : ¬ (i < 0 ∨ m_l h a ≤ i.toNatClampNeg)) (hd : decode cc pc = .ok (.iastore, 1)) (kk : m_go p l e R s m args below meth c Q P cl D cA A xa nL c0 s0 (pc + 1) ls st (m_setI h a i.toNatClampNeg v)) : m_go p l e R s m args below meth c Q P cl D cA A xa nL c0 s0 pc ls (.int v :: .int i :: .ref a :: st) h := by
  intro H locs ad la hr hl hs
  obtain ⟨hP, hD, hS, hw, hX⟩ := id hr
  obtain ⟨t0, ht⟩ := ht
  have he := m_ws_at (P := P) (cA := cA) (ad := ad) ha
  rw [m_cell_I (ci := 100) hk (by decide) (by decide) (by decide) (by decide)] at he
  have hset := m_ws_set (P := P) (cA := cA) (ad := ad) (h' := m_setI h a i.toNatClampNeg v) ha rfl (fun b hb => m_cI_ne hb)
  rw [m_cell_I (ci := 100) (show m_k (m_setI h a i.toNatClampNeg v) a = 100 from hk) (by decide) (by decide) (by decide) (by decide), m_I_setI, m_upI] at hset
  refine va_iast hx hb hK hP hD hS a t0 he ht hi hd (fun H1 locs1 a1 a2 a3 => ?_)
  · have a1 : va_P D cl (m_ws P cA ad (m_setI h a i.toNatClampNeg v)) H1 := by rw [← hset]; exact a1
    have a2 : va_D A (m_ws P cA ad (m_setI h a i.toNatClampNeg v)) := by rw [← hset]; exact a2
    exact kk H1 locs1 ad la ⟨a1, a2, a3, hw, hX⟩ hl (g_tl (g_tl (g_tl hs)))
theorem g_bald (hx : p.tables.exec = Jvm.exec) (hb : c.code = cc) (hK : va_K D cl tys s) (ht : m_aok tys cA 101 .byte) (ha : a < m_n h) (hk : m_k h a = 101) (hi : ¬ (i < 0 ∨ m_l h a ≤ i.toNatClampNeg)) (hd : decode cc pc = .ok (.baload, 1)) (kk : m_go p l e R s m args below meth c Q P cl D cA A xa nL c0 s0 (pc + 1) ls (.int (m_I h a i.toNatClampNeg) :: st) h) : m_go p l e R s m args below meth c Q P cl D cA A xa nL c0 s0 pc ls (.int i :: .ref a :: st) h := by
  intro H locs ad la hr hl hs
  obtain ⟨t0, ht⟩ := ht
  have he := m_ws_at (P := P) (cA := cA) (ad := ad) ha
  rw [m_cell_I (ci := 101) hk (by decide) (by decide) (by decide) (by decide)] at he
  exact va_bald hx hb hK hr.1 a t0 he ht hi hd (kk H locs ad la hr hl (g_cs trivial (g_tl (g_tl hs))))
theorem g_bast (hx : p.tables.exec = Jvm.exec) (hb : c.code = cc) (hK : va_K D cl tys s) (ht : m_aok tys cA 101 .byte) {v : Int32} (ha : a < m_n h) (hk : m_k h a = 101) (hi : ¬ (i < 0 ∨ m_l h a ≤ i.toNatClampNeg)) (hd : decode cc pc = .ok (.bastore, 1)) (kk : m_go p l e R s m args below meth c Q P cl D cA A xa nL c0 s0 (pc + 1) ls st (m_setI h a i.toNatClampNeg v.toInt8.toInt32)) : m_go p l e R s m args below meth c Q P cl D cA A xa nL c0 s0 pc ls (.int v :: .int i :: .ref a :: st) h := by
  intro H locs ad la hr hl hs
  obtain ⟨hP, hD, hS, hw, hX⟩ := id hr
  obtain ⟨t0, ht⟩ := ht
  have he := m_ws_at (P := P) (cA := cA) (ad := ad) ha
  rw [m_cell_I (ci := 101) hk (by decide) (by decide) (by decide) (by decide)] at he
  have hset := m_ws_set (P := P) (cA := cA) (ad := ad) (h' := m_setI h a i.toNatClampNeg v.toInt8.toInt32) ha rfl (fun b hb => m_cI_ne hb)
  rw [m_cell_I (ci := 101) (show m_k (m_setI h a i.toNatClampNeg v.toInt8.toInt32) a = 101 from hk) (by decide) (by decide) (by decide) (by decide), m_I_setI, m_upI] at hset
  refine va_bast hx hb hK hP hD hS a t0 he ht hi hd (fun H1 locs1 a1 a2 a3 => ?_)
  · rw [vp_nar_byte] at a1 a2
    have a1 : va_P D cl (m_ws P cA ad (m_setI h a i.toNatClampNeg v.toInt8.toInt32)) H1 := by rw [← hset]; exact a1
    have a2 : va_D A (m_ws P cA ad (m_setI h a i.toNatClampNeg v.toInt8.toInt32)) := by rw [← hset]; exact a2
    exact kk H1 locs1 ad la ⟨a1, a2, a3, hw, hX⟩ hl (g_tl (g_tl (g_tl hs)))
theorem g_lald (hx : p.tables.exec = Jvm.exec) (hb : c.code = cc) (hK : va_K D cl tys s) (ht : m_aok tys cA 102 .long) (ha : a < m_n h) (hk : m_k h a = 102) (hi : ¬ (i < 0 ∨ m_l h a ≤ i.toNatClampNeg)) (hd : decode cc pc = .ok (.laload, 1)) (kk : m_go p l e R s m args below meth c Q P cl D cA A xa nL c0 s0 (pc + 1) ls (.long (m_L h a i.toNatClampNeg) :: st) h) : m_go p l e R s m args below meth c Q P cl D cA A xa nL c0 s0 pc ls (.int i :: .ref a :: st) h := by
  intro H locs ad la hr hl hs
  obtain ⟨t0, ht⟩ := ht
  have he := m_ws_at (P := P) (cA := cA) (ad := ad) ha
  rw [m_cell_L hk] at he
  exact va_lald hx hb hK hr.1 a t0 he ht hi hd (kk H locs ad la hr hl (g_cs trivial (g_tl (g_tl hs))))
theorem g_last (hx : p.tables.exec = Jvm.exec) (hb : c.code = cc) (hK : va_K D cl tys s) (ht : m_aok tys cA 102 .long) {v : Int64} (ha : a < m_n h) (hk : m_k h a = 102) (hi : ¬ (i < 0 ∨ m_l h a ≤ i.toNatClampNeg)) (hd : decode cc pc = .ok (.lastore, 1)) (kk : m_go p l e R s m args below meth c Q P cl D cA A xa nL c0 s0 (pc + 1) ls st (m_setL h a i.toNatClampNeg v)) : m_go p l e R s m args below meth c Q P cl D cA A xa nL c0 s0 pc ls (.long v :: .int i :: .ref a :: st) h := by
  intro H locs ad la hr hl hs
  obtain ⟨hP, hD, hS, hw, hX⟩ := id hr
  obtain ⟨t0, ht⟩ := ht
  have he := m_ws_at (P := P) (cA := cA) (ad := ad) ha
  rw [m_cell_L hk] at he
  have hset := m_ws_set (P := P) (cA := cA) (ad := ad) (h' := m_setL h a i.toNatClampNeg v) ha rfl (fun b hb => m_cL_ne hb)
  rw [m_cell_L (show m_k (m_setL h a i.toNatClampNeg v) a = 102 from hk), m_L_setL, m_upL] at hset
  refine va_last hx hb hK hP hD hS a t0 he ht hi hd (fun H1 locs1 a1 a2 a3 => ?_)
  · have a1 : va_P D cl (m_ws P cA ad (m_setL h a i.toNatClampNeg v)) H1 := by rw [← hset]; exact a1
    have a2 : va_D A (m_ws P cA ad (m_setL h a i.toNatClampNeg v)) := by rw [← hset]; exact a2
    exact kk H1 locs1 ad la ⟨a1, a2, a3, hw, hX⟩ hl (g_tl (g_tl (g_tl hs)))
theorem g_dald (hx : p.tables.exec = Jvm.exec) (hb : c.code = cc) (hK : va_K D cl tys s) (ht : m_aok tys cA 103 .double) (ha : a < m_n h) (hk : m_k h a = 103) (hi : ¬ (i < 0 ∨ m_l h a ≤ i.toNatClampNeg)) (hd : decode cc pc = .ok (.daload, 1)) (kk : m_go p l e R s m args below meth c Q P cl D cA A xa nL c0 s0 (pc + 1) ls (.double (m_D h a i.toNatClampNeg) :: st) h) : m_go p l e R s m args below meth c Q P cl D cA A xa nL c0 s0 pc ls (.int i :: .ref a :: st) h := by
  intro H locs ad la hr hl hs
  obtain ⟨t0, ht⟩ := ht
  have he := m_ws_at (P := P) (cA := cA) (ad := ad) ha
  rw [m_cell_D hk] at he
  exact va_dald hx hb hK hr.1 a t0 he ht hi hd (kk H locs ad la hr hl (g_cs trivial (g_tl (g_tl hs))))
theorem g_dast (hx : p.tables.exec = Jvm.exec) (hb : c.code = cc) (hK : va_K D cl tys s) (ht : m_aok tys cA 103 .double) {v : UInt64} (ha : a < m_n h) (hk : m_k h a = 103) (hi : ¬ (i < 0 ∨ m_l h a ≤ i.toNatClampNeg)) (hd : decode cc pc = .ok (.dastore, 1)) (kk : m_go p l e R s m args below meth c Q P cl D cA A xa nL c0 s0 (pc + 1) ls st (m_setD h a i.toNatClampNeg v)) : m_go p l e R s m args below meth c Q P cl D cA A xa nL c0 s0 pc ls (.double v :: .int i :: .ref a :: st) h := by
  intro H locs ad la hr hl hs
  obtain ⟨hP, hD, hS, hw, hX⟩ := id hr
  obtain ⟨t0, ht⟩ := ht
  have he := m_ws_at (P := P) (cA := cA) (ad := ad) ha
  rw [m_cell_D hk] at he
  have hset := m_ws_set (P := P) (cA := cA) (ad := ad) (h' := m_setD h a i.toNatClampNeg v) ha rfl (fun b hb => m_cD_ne hb)
  rw [m_cell_D (show m_k (m_setD h a i.toNatClampNeg v) a = 103 from hk), m_D_setD, m_upD] at hset
  refine va_dast hx hb hK hP hD hS a t0 he ht hi hd (fun H1 locs1 a1 a2 a3 => ?_)
  · have a1 : va_P D cl (m_ws P cA ad (m_setD h a i.toNatClampNeg v)) H1 := by rw [← hset]; exact a1
    have a2 : va_D A (m_ws P cA ad (m_setD h a i.toNatClampNeg v)) := by rw [← hset]; exact a2
    exact kk H1 locs1 ad la ⟨a1, a2, a3, hw, hX⟩ hl (g_tl (g_tl (g_tl hs)))
theorem g_aald (hx : p.tables.exec = Jvm.exec) (hb : c.code = cc) (hK : va_K D cl tys s) {z : Nat} {C : String} (ht : m_aok tys cA z (.object C)) (hz : 200 ≤ z) (ha : a < m_n h) (hk : m_k h a = z) (hi : ¬ (i < 0 ∨ m_l h a ≤ i.toNatClampNeg)) (hd : decode cc pc = .ok (.aaload, 1)) (kk : m_go p l e R s m args below meth c Q P cl D cA A xa nL c0 s0 (pc + 1) ls (m_rv (m_R h a i.toNatClampNeg) :: st) h) : m_go p l e R s m args below meth c Q P cl D cA A xa nL c0 s0 pc ls (.int i :: .ref a :: st) h := by
  intro H locs ad la hr hl hs
  obtain ⟨t0, ht⟩ := ht
  have he := m_ws_at (P := P) (cA := cA) (ad := ad) ha
  rw [m_cell_R hk hz] at he
  refine va_aldq hx hb hK hr.1 a t0 he ht hi hd ?_
  have := kk H locs ad la hr hl (g_cs (m_rv_in hr.2.2.2.1 ha) (g_tl (g_tl hs)))
  rw [List.map_cons, m_rv_cv] at this
  exact this
theorem g_aast (hx : p.tables.exec = Jvm.exec) (hb : c.code = cc) (hK : va_K D cl tys s) {z v ci : Nat} {r : vw_C} (hc : cl[ci]? = some r) (ht : m_aok tys cA z (.object r.1)) (hz : 200 ≤ z) (ha : a < m_n h) (hk : m_k h a = z) (hv : v < m_n h) (hkv : m_k h v = ci) (hci : ci < 100) (hi : ¬ (i < 0 ∨ m_l h a ≤ i.toNatClampNeg)) (hd : decode cc pc = .ok (.aastore, 1)) (kk : m_go p l e R s m args below meth c Q P cl D cA A xa nL c0 s0 (pc + 1) ls st (m_setR h a i.toNatClampNeg (some v))) : m_go p l e R s m args below meth c Q P cl D cA A xa nL c0 s0 pc ls (.ref v :: .int i :: .ref a :: st) h := by
  intro H locs ad la hr hl hs
  obtain ⟨hP, hD, hS, hw, hX⟩ := id hr
  obtain ⟨t0, ht⟩ := ht
  have he := m_ws_at (P := P) (cA := cA) (ad := ad) ha
  rw [m_cell_R hk hz] at he
  have hev := m_ws_at (P := P) (cA := cA) (ad := ad) hv
  rw [m_cell_obj hkv hci] at hev
  have hset := m_ws_set (P := P) (cA := cA) (ad := ad) (h' := m_setR h a i.toNatClampNeg (some v)) ha rfl (fun b hb => m_cR_ne hb)
  rw [m_cell_R (show m_k (m_setR h a i.toNatClampNeg (some v)) a = z from hk) hz] at hset
  have hf : (fun j => (m_R (m_setR h a i.toNatClampNeg (some v)) a j).map ad) = va_up (fun j => (m_R h a j).map ad) i.toNatClampNeg (some (ad v)) := by
    funext j
    rw [m_R_setR, m_upeq]
    unfold va_up
    split <;> rfl
  rw [hf] at hset
  refine va_astq hx hb hK hP hD hS a t0 v ci he ht hev hc hi hd (fun H1 locs1 a1 a2 a3 => ?_)
  have a1 : va_P D cl (m_ws P cA ad (m_setR h a i.toNatClampNeg (some v))) H1 := by rw [← hset]; exact a1
  have a2 : va_D A (m_ws P cA ad (m_setR h a i.toNatClampNeg (some v))) := by rw [← hset]; exact a2
  exact kk H1 locs1 ad la ⟨a1, a2, a3, m_wf_R hw (fun j hj => by cases hj; exact Or.inl hv), hX⟩ hl (g_tl (g_tl (g_tl hs)))
theorem g_alen (hx : p.tables.exec = Jvm.exec) (hb : c.code = cc) (hK : va_K D cl tys s) {z : Nat} {ty : FieldType} (ht : m_aok tys cA z ty) (hz : 100 ≤ z) (ha : a < m_n h) (hk : m_k h a = z) (hd : decode cc pc = .ok (.arraylength, 1)) (kk : m_go p l e R s m args below meth c Q P cl D cA A xa nL c0 s0 (pc + 1) ls (.int (Int32.ofNat (m_l h a)) :: st) h) : m_go p l e R s m args below meth c Q P cl D cA A xa nL c0 s0 pc ls (.ref a :: st) h := by
  intro H locs ad la hr hl hs
  obtain ⟨t0, ht⟩ := ht
  have he := m_ws_at (P := P) (cA := cA) (ad := ad) ha
  have hq : ∃ x : vp_A, m_cell P cA ad h a = .inl (cA z, x) ∧ x.1 = m_l h a := by
    by_cases h2 : z = 102
    · subst h2; exact ⟨_, m_cell_L hk, rfl⟩
    by_cases h3 : z = 103
    · subst h3; exact ⟨_, m_cell_D hk, rfl⟩
    by_cases h4 : z < 200
    · exact ⟨_, m_cell_I hk hz h2 h3 h4, rfl⟩
    · exact ⟨_, m_cell_R hk (by omega), rfl⟩
  obtain ⟨x, hx1, hx2⟩ := hq
  rw [hx1] at he
  exact va_alen hx hb hK hr.1 a t0 he ht (by rw [hx2]) hd (kk H locs ad la hr hl (g_cs trivial (g_tl hs)))
theorem m_mk_ne {kd len z b : Nat} {ad : Nat → Nat} (hb : b ≠ m_n h) : m_cell P cA ad (m_mk h kd len z) b = m_cell P cA ad h b := by
  have e1 : m_k (m_mk h kd len z) b = m_k h b := by show m_u1 (m_k h) (m_n h) kd b = m_k h b; unfold m_u1; rw [if_neg hb]
  have e2 : m_l (m_mk h kd len z) b = m_l h b := by show m_u1 (m_l h) (m_n h) len b = m_l h b; unfold m_u1; rw [if_neg hb]
  have e3 : m_I (m_mk h kd len z) b = m_I h b := by funext y; show m_zr (m_I h) (m_n h) 0 b y = m_I h b y; unfold m_zr; rw [if_neg hb]
  have e4 : m_L (m_mk h kd len z) b = m_L h b := by funext y; show m_zr (m_L h) (m_n h) 0 b y = m_L h b y; unfold m_zr; rw [if_neg hb]
  have e5 : m_D (m_mk h kd len z) b = m_D h b := by funext y; show m_zr (m_D h) (m_n h) 0 b y = m_D h b y; unfold m_zr; rw [if_neg hb]
  have e6 : m_R (m_mk h kd len z) b = m_R h b := by funext y; show m_zr (m_R h) (m_n h) none b y = m_R h b y; unfold m_zr; rw [if_neg hb]
  unfold m_cell m_fv
  rw [e1, e2, e3, e4, e5, e6]
theorem m_ws_push {kd len z q : Nat} {ad : Nat → Nat} {ev : va_E} (hw : m_wf h) (hn : m_n h < m_X) (hc : m_cell P cA (m_u1 ad (m_n h) q) (m_mk h kd len z) (m_n h) = ev) : m_ws P cA ad h ++ [(q, ev)] = m_ws P cA (m_u1 ad (m_n h) q) (m_mk h kd len z) := by
  have hd : ∀ j, j < m_n h ∨ m_X ≤ j → m_u1 ad (m_n h) q j = ad j := fun j hj => by unfold m_u1; rw [if_neg (by omega)]
  unfold m_ws
  rw [show m_n (m_mk h kd len z) = m_n h + 1 from rfl, List.range_succ, List.map_append]
  congr 1
  · refine List.map_congr_left (fun b hb => ?_)
    have hb := List.mem_range.mp hb
    rw [m_mk_ne (Nat.ne_of_lt hb), m_cell_ad hw hb hd, hd b (Or.inl hb)]
  · rw [List.map_cons, List.map_nil, hc]
    unfold m_u1
    rw [if_pos rfl]
theorem m_wf_mk {kd len z : Nat} (hw : m_wf h) (hn : m_n h < m_X) : m_wf (m_mk h kd len z) := by
  refine ⟨hn, fun b k j hb hj => ?_⟩
  have hj : m_zr (m_R h) (m_n h) none b k = some j := hj
  unfold m_zr at hj
  split at hj
  · cases hj
  · next hne =>
    have hb : b < m_n h + 1 := hb
    rcases hw.2 b k j (by omega) hj with q | q
    · exact Or.inl (Nat.lt_succ_of_lt q)
    · exact Or.inr q
theorem m_mk_k {kd len z : Nat} : m_k (m_mk h kd len z) (m_n h) = kd := by show m_u1 (m_k h) (m_n h) kd (m_n h) = kd; simp [m_u1]
theorem m_mk_l {kd len z : Nat} : m_l (m_mk h kd len z) (m_n h) = len := by show m_u1 (m_l h) (m_n h) len (m_n h) = len; simp [m_u1]
theorem m_mk_I {kd len z : Nat} : m_I (m_mk h kd len z) (m_n h) = fun _ => 0 := by funext y; show m_zr (m_I h) (m_n h) 0 (m_n h) y = 0; simp [m_zr]
theorem m_mk_L {kd len z : Nat} : m_L (m_mk h kd len z) (m_n h) = fun _ => 0 := by funext y; show m_zr (m_L h) (m_n h) 0 (m_n h) y = 0; simp [m_zr]
theorem m_mk_D {kd len z : Nat} : m_D (m_mk h kd len z) (m_n h) = fun _ => 0 := by funext y; show m_zr (m_D h) (m_n h) 0 (m_n h) y = 0; simp [m_zr]
theorem m_mk_R {kd len z : Nat} : m_R (m_mk h kd len z) (m_n h) = fun _ => none := by funext y; show m_zr (m_R h) (m_n h) none (m_n h) y = none; simp [m_zr]
theorem m_go_mk {kd len z : Nat} {pc' : Nat} {H1 : Heap} {locs : List Loc} {ad : Nat → Nat} {la : Array Slot} {q : Nat} {H : Heap} {ev : va_E} (hr : m_rel s P cl D cA A xa ad H locs h) (hl : m_lR ad (m_n h) ls la nL) (hs : ∀ v ∈ st, m_in (m_n h) v) (hn : m_n h < m_X) (h0 : c0 ≤ m_c h) (h1 : s0 ≤ m_s h) (hc : m_cell P cA (m_u1 ad (m_n h) q) (m_mk h kd len z) (m_n h) = ev) (a1 : va_P D cl (m_ws P cA ad h ++ [(q, ev)]) H1) (a2 : va_D A (m_ws P cA ad h ++ [(q, ev)])) (a3 : va_S A s.heap H1 locs)
    (kk : m_go p l e R s m args below meth c Q P cl D cA A xa nL c0 s0 pc' ls (.ref (m_n h) :: st) (m_mk h kd len z)) : W p l e R s m args below meth c H1 locs (m_c h - c0 + 1) (m_s h - s0 + z) Q (F0 m pc' la (.ref q :: st.map (m_cv ad))) := by
  obtain ⟨hP, hD, hS, hw, hX⟩ := hr
  rw [m_ws_push hw hn hc] at a1 a2
  have hd : ∀ j, j < m_n h ∨ m_X ≤ j → m_u1 ad (m_n h) q j = ad j := fun j hj => by unfold m_u1; rw [if_neg (by omega)]
  have := kk H1 locs (m_u1 ad (m_n h) q) la ⟨a1, a2, a3, m_wf_mk hw hn, fun j hj => by rw [hd j (Or.inr hj)]; exact hX j hj⟩ (m_lR_ad hl (Nat.le_succ _) hd) (g_cs (Or.inl (Nat.lt_succ_self _)) (fun v hv => m_in_mono (hs v hv) (Nat.le_succ _)))
  rw [List.map_cons, m_cv_map hs hd, show m_cv (m_u1 ad (m_n h) q) (.ref (m_n h)) = .ref q by simp [m_cv, m_u1], show m_c (m_mk h kd len z) - c0 = m_c h - c0 + 1 by show m_c h + 1 - c0 = _; omega, show m_s (m_mk h kd len z) - s0 = m_s h - s0 + z by show m_s h + z - s0 = _; omega] at this
  exact this
theorem m_RA_eq {z : Nat} {ty : FieldType} {cB : ClassId} (hK : va_K D cl (tys ++ [(cB, ty)]) s) (ht : m_aok tys cA z ty) : cB = cA z := by
  obtain ⟨t0, ht⟩ := ht
  have q1 := (hK.2 t0 _ (by rw [List.getElem?_append_left (List.getElem?_eq_some_iff.mp ht).1]; exact ht)).2
  have q2 := (hK.2 tys.length (cB, ty) (by rw [List.getElem?_append_right (Nat.le_refl _), Nat.sub_self]; rfl)).2
  cases ty with
  | object C =>
    obtain ⟨_, _, _, _, _, g1⟩ := q1
    obtain ⟨_, _, _, _, _, g2⟩ := q2
    exact Option.some.inj (g2.symm.trans g1)
  | _ => exact Option.some.inj (q2.symm.trans q1)
theorem g_new_i (hx : p.tables.exec = Jvm.exec) (hb : c.code = cc) (hK : va_K D cl tys s) (hA : ∀ q, s.heap.size ≤ q → A q) (ht : m_aok tys cA 100 .int) (harr : (Cond.arrayClass .int).before args s = true) (hn : m_n h < m_X) (h0 : c0 ≤ m_c h) (h1 : s0 ≤ m_s h) (hi : ¬ i < 0) (hz : i.toNatClampNeg ≤ 60000000) (hc1 : m_c h - c0 + 1 ≤ R.cells) (hc2 : m_s h - s0 + i.toNatClampNeg ≤ R.slots) (hd : decode cc pc = .ok (.newarray .int, 2)) (kk : m_go p l e R s m args below meth c Q P cl D cA A xa nL c0 s0 (pc + 2) ls (.ref (m_n h) :: st) (m_mk h 100 i.toNatClampNeg i.toNatClampNeg)) : m_go p l e R s m args below meth c Q P cl D cA A xa nL c0 s0 pc ls (.int i :: st) h := by
  intro H locs ad la hr hl hs
  refine va_newa (atype := .int) (ty := .int) (a0 := (i.toNatClampNeg, .inl (fun _ => 0))) hx hb harr rfl hK hr.1 hr.2.1 hr.2.2.1 hA (fun _ => rfl) hi rfl (by show i.toNatClampNeg * 4 ≤ 536870912; omega) hc1 hc2 hd (fun q cB H1 hK' a1 a2 a3 => ?_)
  have hcB := m_RA_eq hK' ht
  subst hcB
  refine m_go_mk hr hl (g_tl hs) hn h0 h1 ?_ a1 a2 a3 kk
  show m_cell P cA (m_u1 ad (m_n h) q) (m_mk h 100 i.toNatClampNeg i.toNatClampNeg) (m_n h) = _
  rw [m_cell_I (ci := 100) m_mk_k (by decide) (by decide) (by decide) (by decide), m_mk_l, m_mk_I]
theorem g_new_b (hx : p.tables.exec = Jvm.exec) (hb : c.code = cc) (hK : va_K D cl tys s) (hA : ∀ q, s.heap.size ≤ q → A q) (ht : m_aok tys cA 101 .byte) (harr : (Cond.arrayClass .byte).before args s = true) (hn : m_n h < m_X) (h0 : c0 ≤ m_c h) (h1 : s0 ≤ m_s h) (hi : ¬ i < 0) (hz : i.toNatClampNeg ≤ 60000000) (hc1 : m_c h - c0 + 1 ≤ R.cells) (hc2 : m_s h - s0 + i.toNatClampNeg ≤ R.slots) (hd : decode cc pc = .ok (.newarray .byte, 2)) (kk : m_go p l e R s m args below meth c Q P cl D cA A xa nL c0 s0 (pc + 2) ls (.ref (m_n h) :: st) (m_mk h 101 i.toNatClampNeg i.toNatClampNeg)) : m_go p l e R s m args below meth c Q P cl D cA A xa nL c0 s0 pc ls (.int i :: st) h := by
  intro H locs ad la hr hl hs
  refine va_newa (atype := .byte) (ty := .byte) (a0 := (i.toNatClampNeg, .inl (fun _ => 0))) hx hb harr rfl hK hr.1 hr.2.1 hr.2.2.1 hA (fun _ => rfl) hi rfl (by show i.toNatClampNeg * 1 ≤ 536870912; omega) hc1 hc2 hd (fun q cB H1 hK' a1 a2 a3 => ?_)
  have hcB := m_RA_eq hK' ht
  subst hcB
  refine m_go_mk hr hl (g_tl hs) hn h0 h1 ?_ a1 a2 a3 kk
  show m_cell P cA (m_u1 ad (m_n h) q) (m_mk h 101 i.toNatClampNeg i.toNatClampNeg) (m_n h) = _
  rw [m_cell_I (ci := 101) m_mk_k (by decide) (by decide) (by decide) (by decide), m_mk_l, m_mk_I]
theorem g_new_l (hx : p.tables.exec = Jvm.exec) (hb : c.code = cc) (hK : va_K D cl tys s) (hA : ∀ q, s.heap.size ≤ q → A q) (ht : m_aok tys cA 102 .long) (harr : (Cond.arrayClass .long).before args s = true) (hn : m_n h < m_X) (h0 : c0 ≤ m_c h) (h1 : s0 ≤ m_s h) (hi : ¬ i < 0) (hz : i.toNatClampNeg ≤ 60000000) (hc1 : m_c h - c0 + 1 ≤ R.cells) (hc2 : m_s h - s0 + i.toNatClampNeg ≤ R.slots) (hd : decode cc pc = .ok (.newarray .long, 2)) (kk : m_go p l e R s m args below meth c Q P cl D cA A xa nL c0 s0 (pc + 2) ls (.ref (m_n h) :: st) (m_mk h 102 i.toNatClampNeg i.toNatClampNeg)) : m_go p l e R s m args below meth c Q P cl D cA A xa nL c0 s0 pc ls (.int i :: st) h := by
  intro H locs ad la hr hl hs
  refine va_newa (atype := .long) (ty := .long) (a0 := (i.toNatClampNeg, .inr (.inl (fun _ => 0)))) hx hb harr rfl hK hr.1 hr.2.1 hr.2.2.1 hA (fun _ => rfl) hi rfl (by show i.toNatClampNeg * 8 ≤ 536870912; omega) hc1 hc2 hd (fun q cB H1 hK' a1 a2 a3 => ?_)
  have hcB := m_RA_eq hK' ht
  subst hcB
  refine m_go_mk hr hl (g_tl hs) hn h0 h1 ?_ a1 a2 a3 kk
  show m_cell P cA (m_u1 ad (m_n h) q) (m_mk h 102 i.toNatClampNeg i.toNatClampNeg) (m_n h) = _
  rw [m_cell_L m_mk_k, m_mk_l, m_mk_L]
theorem g_new_d (hx : p.tables.exec = Jvm.exec) (hb : c.code = cc) (hK : va_K D cl tys s) (hA : ∀ q, s.heap.size ≤ q → A q) (ht : m_aok tys cA 103 .double) (harr : (Cond.arrayClass .double).before args s = true) (hn : m_n h < m_X) (h0 : c0 ≤ m_c h) (h1 : s0 ≤ m_s h) (hi : ¬ i < 0) (hz : i.toNatClampNeg ≤ 60000000) (hc1 : m_c h - c0 + 1 ≤ R.cells) (hc2 : m_s h - s0 + i.toNatClampNeg ≤ R.slots) (hd : decode cc pc = .ok (.newarray .double, 2)) (kk : m_go p l e R s m args below meth c Q P cl D cA A xa nL c0 s0 (pc + 2) ls (.ref (m_n h) :: st) (m_mk h 103 i.toNatClampNeg i.toNatClampNeg)) : m_go p l e R s m args below meth c Q P cl D cA A xa nL c0 s0 pc ls (.int i :: st) h := by
  intro H locs ad la hr hl hs
  refine va_newa (atype := .double) (ty := .double) (a0 := (i.toNatClampNeg, .inr (.inr (.inr (.inl (fun _ => 0)))))) hx hb harr rfl hK hr.1 hr.2.1 hr.2.2.1 hA (fun _ => rfl) hi rfl (by show i.toNatClampNeg * 8 ≤ 536870912; omega) hc1 hc2 hd (fun q cB H1 hK' a1 a2 a3 => ?_)
  have hcB := m_RA_eq hK' ht
  subst hcB
  refine m_go_mk hr hl (g_tl hs) hn h0 h1 ?_ a1 a2 a3 kk
  show m_cell P cA (m_u1 ad (m_n h) q) (m_mk h 103 i.toNatClampNeg i.toNatClampNeg) (m_n h) = _
  rw [m_cell_D m_mk_k, m_mk_l, m_mk_D]
theorem g_new_q (hx : p.tables.exec = Jvm.exec) (hb : c.code = cc) (hown : s.vm.findClass own = some m.cls) (hK : va_K D cl tys s) (hA : ∀ q, s.heap.size ≤ q → A q) {z index : Nat} {C : String} (hz2 : 200 ≤ z) (ht : m_aok tys cA z (.object C)) (hlink : (Cond.classLink own index C).before args s = true) (hov : va_AO C s) (hn : m_n h < m_X) (h0 : c0 ≤ m_c h) (h1 : s0 ≤ m_s h) (hi : ¬ i < 0) (hz : i.toNatClampNeg ≤ 60000000) (hc1 : m_c h - c0 + 1 ≤ R.cells) (hc2 : m_s h - s0 + i.toNatClampNeg ≤ R.slots) (hd : decode cc pc = .ok (.anewarray index, 3)) (kk : m_go p l e R s m args below meth c Q P cl D cA A xa nL c0 s0 (pc + 3) ls (.ref (m_n h) :: st) (m_mk h z i.toNatClampNeg i.toNatClampNeg)) : m_go p l e R s m args below meth c Q P cl D cA A xa nL c0 s0 pc ls (.int i :: st) h := by
  intro H locs ad la hr hl hs
  refine va_newq hx hb hown hlink hov hK hr.1 hr.2.1 hr.2.2.1 hA hi rfl (by omega) hc1 hc2 hd (fun q cB H1 hK' a1 a2 a3 => ?_)
  have hcB := m_RA_eq hK' ht
  subst hcB
  refine m_go_mk hr hl (g_tl hs) hn h0 h1 ?_ a1 a2 a3 kk
  rw [m_cell_R m_mk_k hz2, m_mk_l, m_mk_R]
  rfl
theorem g_new (hx : p.tables.exec = Jvm.exec) (hb : c.code = cc) (hts : ∀ w ∈ G, w.before args s = true) (hown : s.vm.findClass own = some m.cls) (hK : va_K D cl tys s) (hA : ∀ q, s.heap.size ≤ q → A q) {ci index : Nat} {C : String} {T : u_T} (hc : m_cok P cl G ci C T) (hlink : (Cond.classLink own index C).before args s = true) (hinst : (Cond.instantiable C (m_nf P ci)).before args s = true) (hini : (Cond.initialized C).before args s = true) (hn : m_n h < m_X) (h0 : c0 ≤ m_c h) (h1 : s0 ≤ m_s h) (hc1 : m_c h - c0 + 1 ≤ R.cells) (hc2 : m_s h - s0 + m_nf P ci ≤ R.slots) (hd : decode cc pc = .ok (.new index, 3)) (kk : m_go p l e R s m args below meth c Q P cl D cA A xa nL c0 s0 (pc + 3) ls (.ref (m_n h) :: st) (m_mk h ci 0 (m_nf P ci))) : m_go p l e R s m args below meth c Q P cl D cA A xa nL c0 s0 pc ls st h := by
  intro H locs ad la hr hl hs
  obtain ⟨q0, q1, q2, q3, ty, q4, q5⟩ := hc
  refine va_new (fs := (List.range (m_nf P ci)).map (fun k => m_fv P (m_u1 ad (m_n h) 0) (m_mk h ci 0 (m_nf P ci)) (m_n h) ci k)) hx hb hts q2 ty q4 hown hlink hinst hini hK hr.1 hr.2.1 hr.2.2.1 hA q1 (fun j hj => ?_) hc1 hc2 hd (fun q H1 a1 a2 a3 => ?_)
  · have ev : vp_V ((List.range (m_nf P ci)).map (fun k => m_fv P (m_u1 ad (m_n h) 0) (m_mk h ci 0 (m_nf P ci)) (m_n h) ci k)) j = m_fv P (m_u1 ad (m_n h) 0) (m_mk h ci 0 (m_nf P ci)) (m_n h) ci j := by
      unfold vp_V
      simp [hj]
    rw [ev]
    unfold m_fv
    rw [m_mk_I, m_mk_L, m_mk_R]
    rcases q5 j hj with ⟨z1, z2⟩ | ⟨z1, ⟨n, z2⟩ | ⟨t, z2⟩⟩ | ⟨z1, z2⟩ | ⟨z1, z2⟩ <;> rw [z1, z2] <;> rfl
  · refine m_go_mk hr hl hs hn h0 h1 ?_ a1 a2 a3 kk
    rw [m_cell_obj m_mk_k q0]
    congr 2
    refine List.map_congr_left (fun k _ => ?_)
    unfold m_fv
    rw [m_mk_R]
    rfl
end GOR
end
