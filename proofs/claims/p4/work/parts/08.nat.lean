/-! the library's own: Math.min, Math.max, arraycopy, Object's constructor; comparisons of longs; floats -/
/-- the room of a method from which calls go d deep -/
def m_rm (d cs ss : Nat) : Room := { frames := d + 8, cells := cs, slots := ss, locals := 40 * d + 200 }
section GON
variable {p : Program} {l : Launch} {e : Env} {R : Room} {s : State} {m : MethodId} {args : Array Value} {below : List Frame} {meth : Method} {c : Code} {Q : State → Prop} {P : m_P} {cl : List vw_C} {D : va_G} {cA : Nat → ClassId} {A : Nat → Prop} {xa : Nat × (Nat → Nat)} {nL c0 s0 : Nat} {pc : Nat} {ls : m_F} {st : List Value} {h : m_H} {cc : ByteArray} {tys : List (ClassId × FieldType)} {G : List Cond} {own : String} {index : Nat}
theorem g_lcmp (hx : p.tables.exec = Jvm.exec) (hb : c.code = cc) {a b : Int64} (hd : decode cc pc = .ok (.lcmp, 1)) (k : m_go p l e R s m args below meth c Q P cl D cA A xa nL c0 s0 (pc + 1) ls (.int (lg_cmp a b) :: st) h) : m_go p l e R s m args below meth c Q P cl D cA A xa nL c0 s0 pc ls (.long b :: .long a :: st) h :=
  fun H locs ad la hr hl hs => W.lcmp hx hb hd (k H locs ad la hr hl (g_cs trivial (g_tl (g_tl hs))))
theorem m_n64 {r : UInt64} (h : isNaN64 r = false) : vf_n64 r := by
  unfold isNaN64 at h
  exact UInt64.not_lt.mp (of_decide_eq_false h)
theorem m_n32 {r : UInt32} (h : isNaN32 r = false) : vf_n32 r := by
  unfold isNaN32 at h
  exact UInt32.not_lt.mp (of_decide_eq_false h)
theorem g_ddiv (hx : p.tables.exec = Jvm.exec) (hb : c.code = cc) {a b : UInt64} (hn : isNaN64 (FP.ddiv a b) = false) (hd : decode cc pc = .ok (.ddiv, 1)) (k : m_go p l e R s m args below meth c Q P cl D cA A xa nL c0 s0 (pc + 1) ls (.double (FP.ddiv a b) :: st) h) : m_go p l e R s m args below meth c Q P cl D cA A xa nL c0 s0 pc ls (.double b :: .double a :: st) h :=
  fun H locs ad la hr hl hs => lv_ddiv hx hb hd (m_n64 hn) (k H locs ad la hr hl (g_cs trivial (g_tl (g_tl hs))))
theorem g_fdiv (hx : p.tables.exec = Jvm.exec) (hb : c.code = cc) {a b : UInt32} (hn : isNaN32 (FP.fdiv a b) = false) (hd : decode cc pc = .ok (.fdiv, 1)) (k : m_go p l e R s m args below meth c Q P cl D cA A xa nL c0 s0 (pc + 1) ls (.float (FP.fdiv a b) :: st) h) : m_go p l e R s m args below meth c Q P cl D cA A xa nL c0 s0 pc ls (.float b :: .float a :: st) h :=
  fun H locs ad la hr hl hs => lv_fdiv hx hb hd (m_n32 hn) (k H locs ad la hr hl (g_cs trivial (g_tl (g_tl hs))))
theorem g_f2d (hx : p.tables.exec = Jvm.exec) (hb : c.code = cc) {a : UInt32} (hn : isNaN64 (FP.f2d a) = false) (hd : decode cc pc = .ok (.f2d, 1)) (k : m_go p l e R s m args below meth c Q P cl D cA A xa nL c0 s0 (pc + 1) ls (.double (FP.f2d a) :: st) h) : m_go p l e R s m args below meth c Q P cl D cA A xa nL c0 s0 pc ls (.float a :: st) h :=
  fun H locs ad la hr hl hs => lv_f2d hx hb hd (m_n64 hn) (k H locs ad la hr hl (g_cs trivial (g_tl hs)))
theorem g_d2f (hx : p.tables.exec = Jvm.exec) (hb : c.code = cc) {a : UInt64} (hn : isNaN32 (FP.d2f a) = false) (hd : decode cc pc = .ok (.d2f, 1)) (k : m_go p l e R s m args below meth c Q P cl D cA A xa nL c0 s0 (pc + 1) ls (.float (FP.d2f a) :: st) h) : m_go p l e R s m args below meth c Q P cl D cA A xa nL c0 s0 pc ls (.double a :: st) h :=
  fun H locs ad la hr hl hs => lv_d2f hx hb hd (m_n32 hn) (k H locs ad la hr hl (g_cs trivial (g_tl hs)))
theorem g_dcmp (hx : p.tables.exec = Jvm.exec) (hb : c.code = cc) {a b : UInt64} {op : CmpOp} (hd : decode cc pc = .ok (.dcmp op, 1)) (k : m_go p l e R s m args below meth c Q P cl D cA A xa nL c0 s0 (pc + 1) ls (.int (Op.cmpValue (FP.dcmp a b) op) :: st) h) : m_go p l e R s m args below meth c Q P cl D cA A xa nL c0 s0 pc ls (.double b :: .double a :: st) h :=
  fun H locs ad la hr hl hs => lv_dcmp hx hb hd (k H locs ad la hr hl (g_cs trivial (g_tl (g_tl hs))))
theorem g_fcmp (hx : p.tables.exec = Jvm.exec) (hb : c.code = cc) {a b : UInt32} {op : CmpOp} (hd : decode cc pc = .ok (.fcmp op, 1)) (k : m_go p l e R s m args below meth c Q P cl D cA A xa nL c0 s0 (pc + 1) ls (.int (Op.cmpValue (FP.fcmp a b) op) :: st) h) : m_go p l e R s m args below meth c Q P cl D cA A xa nL c0 s0 pc ls (.float b :: .float a :: st) h :=
  fun H locs ad la hr hl hs => lv_fcmp hx hb hd (k H locs ad la hr hl (g_cs trivial (g_tl (g_tl hs))))
theorem g_min (hx : p.tables.exec = Jvm.exec) (hb : c.code = cc) (hml : c.maxLocals = nL) (hown : s.vm.findClass own = some m.cls) (hlink : (Cond.methodLink own index Lib.Math.min.name).before args s = true) (hstat : (Cond.static Lib.Math.min.name).before args s = true) (hini : (Cond.initialized "java/lang/Math").before args s = true) (hcode : (Cond.code Lib.Math.min.name Lib.Math.min.code 2 (some .int)).before args s = true) (hf : 1 ≤ R.frames) (hlo : m_cat st + 13 ≤ R.locals) (hc : m_c h - c0 ≤ R.cells) (hsl : m_s h - s0 ≤ R.slots) {a b : Int32} (hd : decode cc pc = .ok (.invokestatic index, 3)) (k : m_go p l e R s m args below meth c Q P cl D cA A xa nL c0 s0 (pc + 3) ls (.int (if b < a then b else a) :: st) h) : m_go p l e R s m args below meth c Q P cl D cA A xa nL c0 s0 pc ls (.int b :: .int a :: st) h :=
  fun H locs ad la hr hl hs => va_mmin hx hb (hml.trans hl.1.symm) hown hlink hstat hini hcode hf (by rw [m_cat_map]; exact hlo) hc hsl hd (k H locs ad la hr hl (g_cs trivial (g_tl (g_tl hs))))
theorem g_max (hx : p.tables.exec = Jvm.exec) (hb : c.code = cc) (hml : c.maxLocals = nL) (hown : s.vm.findClass own = some m.cls) (hlink : (Cond.methodLink own index Lib.Math.max.name).before args s = true) (hstat : (Cond.static Lib.Math.max.name).before args s = true) (hini : (Cond.initialized "java/lang/Math").before args s = true) (hcode : (Cond.code Lib.Math.max.name Lib.Math.max.code 2 (some .int)).before args s = true) (hf : 1 ≤ R.frames) (hlo : m_cat st + 13 ≤ R.locals) (hc : m_c h - c0 ≤ R.cells) (hsl : m_s h - s0 ≤ R.slots) {a b : Int32} (hd : decode cc pc = .ok (.invokestatic index, 3)) (k : m_go p l e R s m args below meth c Q P cl D cA A xa nL c0 s0 (pc + 3) ls (.int (if a < b then b else a) :: st) h) : m_go p l e R s m args below meth c Q P cl D cA A xa nL c0 s0 pc ls (.int b :: .int a :: st) h :=
  fun H locs ad la hr hl hs => va_mmax hx hb (hml.trans hl.1.symm) hown hlink hstat hini hcode hf (by rw [m_cat_map]; exact hlo) hc hsl hd (k H locs ad la hr hl (g_cs trivial (g_tl (g_tl hs))))
theorem g_objInit (hx : p.tables.exec = Jvm.exec) (hb : c.code = cc) (hml : c.maxLocals = nL) (hown : s.vm.findClass own = some m.cls) (hlink : (Cond.methodLink own index Lib.objectInit).before args s = true) (hinst : (Cond.instanceMethod Lib.objectInit).before args s = true) (hcode : (Cond.code Lib.objectInit ⟨#[0xb1]⟩ 1 none).before args s = true) (hf : 1 ≤ R.frames) (hlo : m_cat st + 12 ≤ R.locals) {a : Nat} (hd : decode cc pc = .ok (.invokespecial index, 3)) (k : m_go p l e R s m args below meth c Q P cl D cA A xa nL c0 s0 (pc + 3) ls st h) : m_go p l e R s m args below meth c Q P cl D cA A xa nL c0 s0 pc ls (.ref a :: st) h := by
  intro H locs ad la hr hl hs
  refine W.objInit hx hb hown hlink hinst hcode rfl (by rw [hml]; exact hl.1) rfl hd hf ?_ (k H locs ad la hr hl (g_tl hs))
  show 2 * 0 + _ + 12 ≤ _
  rw [m_cat_map]
  omega
theorem m_cpy_I (h : m_H) (a i b j n : Nat) : m_I (m_cpy h a i b j n) b = va_cpy (m_I h a) (m_I h b) i j n := by
  funext y
  show (if b = b ∧ j ≤ y ∧ y < j + n then m_I h a (i + (y - j)) else m_I h b y) = _
  unfold va_cpy
  simp
theorem m_cpy_ne {a i b j n z : Nat} {ad : Nat → Nat} (hz : z ≠ b) : m_cell P cA ad (m_cpy h a i b j n) z = m_cell P cA ad h z := by
  have e1 : m_I (m_cpy h a i b j n) z = m_I h z := by
    funext y
    show (if z = b ∧ j ≤ y ∧ y < j + n then m_I h a (i + (y - j)) else m_I h z y) = _
    rw [if_neg (fun q => hz q.1)]
  unfold m_cell m_fv
  rw [e1]
  rfl
theorem g_copy (hx : p.tables.exec = Jvm.exec) (hb : c.code = cc) (hml : c.maxLocals = nL) (hown : s.vm.findClass own = some m.cls) (hlink : (Cond.methodLink own index arraycopyName).before args s = true) (hnat : (Cond.native arraycopyName).before args s = true) (hstat : (Cond.static arraycopyName).before args s = true) (hini : (Cond.initialized "java/lang/System").before args s = true) (hK : va_K D cl tys s) (ht : m_aok tys cA 100 .int) (hf : 1 ≤ R.frames) (hlo : m_cat st + (nativeFrameWords "java/lang/System" "arraycopy" 5 + 11) ≤ R.locals) {a b : Nat} {i j n : Int32} (ha : a < m_n h) (hka : m_k h a = 100) (hbn : b < m_n h) (hkb : m_k h b = 100) (h1 : ¬ i < 0) (h2 : ¬ j < 0) (h3 : ¬ n < 0) (h4 : i.toNatClampNeg + n.toNatClampNeg ≤ m_l h a) (h5 : j.toNatClampNeg + n.toNatClampNeg ≤ m_l h b) (hd : decode cc pc = .ok (.invokestatic index, 3)) (kk : m_go p l e R s m args below meth c Q P cl D cA A xa nL c0 s0 (pc + 3) ls st (m_cpy h a i.toNatClampNeg b j.toNatClampNeg n.toNatClampNeg)) : m_go p l e R s m args below meth c Q P cl D cA A xa nL c0 s0 pc ls (.int n :: .int j :: .ref b :: .int i :: .ref a :: st) h := by
  intro H locs ad la hr hl hs
  obtain ⟨hP, hD, hS, hw, hX⟩ := id hr
  obtain ⟨t0, ht⟩ := ht
  have he := m_ws_at (P := P) (cA := cA) (ad := ad) ha
  rw [m_cell_I (ci := 100) hka (by decide) (by decide) (by decide) (by decide)] at he
  have he2 := m_ws_at (P := P) (cA := cA) (ad := ad) hbn
  rw [m_cell_I (ci := 100) hkb (by decide) (by decide) (by decide) (by decide)] at he2
  have hset := m_ws_set (P := P) (cA := cA) (ad := ad) (h' := m_cpy h a i.toNatClampNeg b j.toNatClampNeg n.toNatClampNeg) hbn rfl (fun z hz => m_cpy_ne hz)
  rw [m_cell_I (ci := 100) (show m_k (m_cpy h a i.toNatClampNeg b j.toNatClampNeg n.toNatClampNeg) b = 100 from hkb) (by decide) (by decide) (by decide) (by decide), m_cpy_I] at hset
  refine va_copyi hx hb (hml.trans hl.1.symm) hown hlink hnat hstat hini hK hP hD hS a b t0 t0 he he2 ht ht rfl h1 h2 h3 h4 h5 (fun _ _ => rfl) hf (by rw [m_cat_map]; exact hlo) hd (fun H1 locs1 a1 a2 a3 => ?_)
  have a1 : va_P D cl (m_ws P cA ad (m_cpy h a i.toNatClampNeg b j.toNatClampNeg n.toNatClampNeg)) H1 := by rw [← hset]; exact a1
  have a2 : va_D A (m_ws P cA ad (m_cpy h a i.toNatClampNeg b j.toNatClampNeg n.toNatClampNeg)) := by rw [← hset]; exact a2
  exact kk H1 locs1 ad la ⟨a1, a2, a3, hw, hX⟩ hl (g_tl (g_tl (g_tl (g_tl (g_tl hs)))))
end GON
