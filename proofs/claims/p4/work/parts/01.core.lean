/-! THE SMALL MACHINE. Its heap: cells by number; ints, longs, doubles and references by cell and place. No types of its own. -/
abbrev m_H : Type := (Nat × Nat × Nat) × (Nat → Nat) × (Nat → Nat) × (Nat → Nat → Int32) × (Nat → Nat → Int64) × (Nat → Nat → UInt64) × (Nat → Nat → Option Nat)
/-- how many cells -/
def m_n (h : m_H) : Nat := h.1.1
/-- cells and slots that were made, as the room counts them -/
def m_c (h : m_H) : Nat := h.1.2.1
def m_s (h : m_H) : Nat := h.1.2.2
/-- a cell's kind: below 100 an object of that class; 100 int[], 101 byte[], 102 long[], 103 double[]; from 200 on rows of references -/
def m_k (h : m_H) : Nat → Nat := h.2.1
def m_l (h : m_H) : Nat → Nat := h.2.2.1
def m_I (h : m_H) : Nat → Nat → Int32 := h.2.2.2.1
def m_L (h : m_H) : Nat → Nat → Int64 := h.2.2.2.2.1
def m_D (h : m_H) : Nat → Nat → UInt64 := h.2.2.2.2.2.1
def m_R (h : m_H) : Nat → Nat → Option Nat := h.2.2.2.2.2.2
def m_up {α : Type} (f : Nat → Nat → α) (a k : Nat) (v : α) : Nat → Nat → α := fun x y => if x = a ∧ y = k then v else f x y
def m_zr {α : Type} (f : Nat → Nat → α) (a : Nat) (v : α) : Nat → Nat → α := fun x y => if x = a then v else f x y
def m_u1 {α : Type} (f : Nat → α) (a : Nat) (v : α) : Nat → α := fun x => if x = a then v else f x
def m_setI (h : m_H) (a k : Nat) (v : Int32) : m_H := (h.1, m_k h, m_l h, m_up (m_I h) a k v, m_L h, m_D h, m_R h)
def m_setL (h : m_H) (a k : Nat) (v : Int64) : m_H := (h.1, m_k h, m_l h, m_I h, m_up (m_L h) a k v, m_D h, m_R h)
def m_setD (h : m_H) (a k : Nat) (v : UInt64) : m_H := (h.1, m_k h, m_l h, m_I h, m_L h, m_up (m_D h) a k v, m_R h)
def m_setR (h : m_H) (a k : Nat) (v : Option Nat) : m_H := (h.1, m_k h, m_l h, m_I h, m_L h, m_D h, m_up (m_R h) a k v)
/-- a new cell of kind kd, of length len, of z slots -/
def m_mk (h : m_H) (kd len z : Nat) : m_H := ((m_n h + 1, m_c h + 1, m_s h + z), m_u1 (m_k h) (m_n h) kd, m_u1 (m_l h) (m_n h) len, m_zr (m_I h) (m_n h) 0, m_zr (m_L h) (m_n h) 0, m_zr (m_D h) (m_n h) 0, m_zr (m_R h) (m_n h) none)
/-- what a throw makes -/
def m_bump (h : m_H) : m_H := ((m_n h, m_c h + 1, m_s h + 6), m_k h, m_l h, m_I h, m_L h, m_D h, m_R h)
/-- n ints copied from a row to a row -/
def m_cpy (h : m_H) (a i b j n : Nat) : m_H := (h.1, m_k h, m_l h, (fun x y => if x = b ∧ j ≤ y ∧ y < j + n then m_I h a (i + (y - j)) else m_I h x y), m_L h, m_D h, m_R h)
abbrev m_F : Type := List (Option Value)
/-- a program: code from a place on, arguments, locals, kinds of fields, fields, handlers, ints of constants, receivers' classes, the search for a word -/
abbrev m_P : Type := (Nat → Nat → List Instr) × (Nat → Nat) × (Nat → Nat) × (Nat → Nat → Nat) × (Nat → Nat) × (Nat → Nat → Option (Nat × Nat)) × (Nat → Nat → Int32) × (Nat → Nat) × ((Nat → Int32) → Nat → Int32 → Int32 → Option Nat) × Nat × (Nat → Int32)
def m_tg (P : m_P) : Nat → Nat → List Instr := P.1
def m_na (P : m_P) : Nat → Nat := P.2.1
def m_nl (P : m_P) : Nat → Nat := P.2.2.1
def m_fk (P : m_P) : Nat → Nat → Nat := P.2.2.2.1
def m_nf (P : m_P) : Nat → Nat := P.2.2.2.2.1
def m_hd (P : m_P) : Nat → Nat → Option (Nat × Nat) := P.2.2.2.2.2.1
def m_xf (P : m_P) : Nat → Nat → Int32 := P.2.2.2.2.2.2.1
def m_rc (P : m_P) : Nat → Nat := P.2.2.2.2.2.2.2.1
def m_wd (P : m_P) : (Nat → Int32) → Nat → Int32 → Int32 → Option Nat := P.2.2.2.2.2.2.2.2.1
/-- the law's script: its length, its ints -/
def m_xl (P : m_P) : Nat := P.2.2.2.2.2.2.2.2.2.1
def m_xs (P : m_P) : Nat → Int32 := P.2.2.2.2.2.2.2.2.2.2
/-- constants have numbers from here on -/
abbrev m_X : Nat := 1000000000
abbrev m_R1 : Type := (List Instr × m_F × List Value × m_H) ⊕ (Nat × List Value × List Value) ⊕ (Option Value) ⊕ Nat
def m_nx (is : List Instr) (ls : m_F) (st : List Value) (h : m_H) : Option m_R1 := some (.inl (is, ls, st, h))
def m_rv (r : Option Nat) : Value := match r with | none => .null | some a => .ref a
/-- no long or double stands just ahead of place k -/
def m_ok1 (ls : m_F) (k : Nat) : Bool := match k with | 0 => true | j + 1 => match ls[j]? with | some (some v) => v.category == 1 | _ => true
def m_cat (st : List Value) : Nat := (st.map fun v => v.category).sum
def m_pop (k : Nat) (st : List Value) : Option (List Value × List Value) := if k ≤ st.length then some ((st.take k).reverse, st.drop k) else none
def m_icond (c : Jvm.ClassFile.Cond) (a b : Int32) : Bool := match c with
  | .eq => decide (a = b) | .ne => decide (¬ a = b) | .lt => decide (a < b) | .ge => decide (b ≤ a) | .gt => decide (b < a) | .le => decide (a ≤ b)
/-- the constants of the enum: numbers m_X + 1 to m_X + 35 -/
abbrev m_XN : Nat := 35
def m_kon (k : Nat) : Bool := decide (m_X < k) && decide (k ≤ m_X + m_XN)
theorem m_kon_ok {k : Nat} (h : m_kon k = true) : m_X < k ∧ k ≤ m_X + m_XN := by
  unfold m_kon at h
  simpa using h
theorem m_kon_at {k : Nat} (h : m_kon k = true) : ∃ i, i < m_XN ∧ k = m_X + 1 + i := by
  obtain ⟨h1, h2⟩ := m_kon_ok h
  obtain ⟨i, rfl⟩ := Nat.exists_eq_add_of_le (show m_X + 1 ≤ k from h1)
  exact ⟨i, by omega, rfl⟩
def m_isK (v : Value) : Bool := match v with | .null => true | .ref k => m_kon k | _ => false
def m_vo (v : Value) : Option Nat := match v with | .ref k => some k | _ => none
def m_acond (c : Jvm.ClassFile.ACond) (a b : Option Nat) : Bool := match c with | .eq => decide (a = b) | .ne => decide (¬ a = b)
def m_WE : String := "DriverHost$Word"
def m_WD : String := "LDriverHost$Word;"
def m_WN : List String := ["DRIVERS", "COMMAND", "TIME", "SET", "KEEP", "OR", "AND", "NOT", "REG", "VAR", "ARG", "RES", "MANY", "FIRST", "DELAY", "CALM", "STREAK", "POISON", "EVERY", "HANDOVER", "PURE", "AGAIN", "ONCE", "CHECK", "NUMBER", "DRIVER", "KIND", "CLASS", "ARGUMENT", "PRIORITY", "STATE", "FAILURE", "RESULT", "EXECUTIONS", "CRASHES"]
/-- their ints, by field -/
def m_WF : List (String × String × String × List Int32) := [("DriverHost$Word", "isSetting", "Z", [0, 0, 0, 0, 0, 0, 0, 0, 0, 0, 0, 0, 0, 0, 1, 1, 1, 1, 1, 1, 0, 0, 0, 0, 0, 0, 0, 0, 0, 0, 0, 0, 0, 0, 0]), ("DriverHost$Word", "commandClass", "I", [-1, -1, -1, -1, -1, -1, -1, -1, -1, -1, -1, -1, -1, -1, -1, -1, -1, -1, -1, -1, 0, 1, 2, 3, -1, -1, -1, -1, -1, -1, -1, -1, -1, -1, -1]), ("DriverHost$Word", "property", "I", [-1, -1, -1, -1, -1, -1, -1, -1, -1, -1, -1, -1, -1, -1, -1, -1, -1, -1, -1, -1, -1, -1, -1, -1, 0, 1, 2, 3, 4, 5, 6, 7, 8, 9, 10])]
