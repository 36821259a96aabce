section
/-! ===== BEGIN words of one list among another's, by their places ===== -/
theorem goodIn_r {big : List Cond} (ws : List Cond) (ps : List Nat) (hp : ws = ps.filterMap (fun i => big[i]?)) (h : ws.all goodWord = true) : GoodIn big ws := by
  intro w hw
  have h1 := List.all_eq_true.mp h w hw
  rw [hp] at hw
  obtain ⟨i, -, hi⟩ := List.mem_filterMap.mp hw
  have hm : w ∈ big := by first | exact List.mem_of_getElem? hi | exact List.getElem?_mem hi
  exact ⟨hm, good_of_word h1⟩
theorem goodIn_app {big a b : List Cond} (ha : GoodIn big a) (hb : GoodIn big b) : GoodIn big (a ++ b) := fun w h => (List.mem_append.mp h).elim (ha w) (hb w)
theorem goodIn_ca {big a b : List Cond} {c : Cond} (ha : GoodIn big (c :: a)) (hb : GoodIn big b) : GoodIn big (c :: (a ++ b)) := fun w h => (List.mem_cons.mp h).elim (fun e => ha w (List.mem_cons.mpr (Or.inl e))) (fun h => (List.mem_append.mp h).elim (fun h => ha w (List.mem_cons.mpr (Or.inr h))) (hb w))
theorem goodIn_sub {big ws : List Cond} (hm : ∀ w ∈ ws, w ∈ big) (h : ws.all goodWord = true) : GoodIn big ws := fun w hw => ⟨hm w hw, good_of_word (List.all_eq_true.mp h w hw)⟩
/-! ===== END ===== -/
/-! ===== BEGIN exceptions that leave a method, and their catching by the caller (launches without stack traces) ===== -/
section VXA
/-! The laws vx_back, vx_callV, vx_callS, vx_callSW, vx_throw0, vx_throwS follow proofs of the library, with one case more: JvmDerived/Free/Laws.lean (Back.of_free), Shelf42/LK1.lean (callV, callS), Shelf/KitTraced.lean (throwNew0V, throwNewS). -/
/-- where a method has thrown q: the class by its name, the cell, what was written, the world -/
def vx_T (XC : String → State → State → Prop) (st : State) (q : Addr) (t : State) (mc ms : Nat) (free : Addr → Prop) : Prop :=
  ∃ (E : String) (ce : Cell) (L : List Loc), XC E st t ∧ t.heap[q]? = some ce ∧ ce.vm = .none ∧ st.vm.findClass E = some ce.cls ∧ st.WarmedH t.vm ∧ st.sameButNew ({ t with vm := st.vm } : State) L mc ms ∧ ∀ z ∈ L, free z.base
def vx_Q (Qc : Array Value → State → Outcome → State → Prop) (XC : String → State → State → Prop) (mc ms : Nat) (free : Addr → Prop) : Array Value → State → Outcome → State → Prop := fun a st o t =>
  (Qc a st o t ∧ ∃ L, FrameEnd st o t L mc ms ∧ ∀ q ∈ L, free q.base) ∨ ∃ q, o = .threw q ∧ vx_T XC st q t mc ms free
/-- a callee that returns or throws -/
def vx_Met (l : Launch) (y : MethodName) (ws : List Cond) (rm : Room) (Pc : Array Value → State → Prop) (Qc : Array Value → State → Outcome → State → Prop) (XC : String → State → State → Prop) (mc ms : Nat) (free : Addr → Prop) : Prop :=
  MetFree l y (headSpec ws rm) Pc (fun _ _ _ _ _ => True) (vx_Q Qc XC mc ms free)
def vx_Post (XC : String → State → State → Prop) (mc ms : Nat) (free : Addr → Prop) : Pt → Array Value → Addr → Pt → Prop := fun A a q B =>
  ∃ (g : JFrame) (mk : MethodId) (t : State) (L : List Loc) (E : String) (ce : Cell), B.U.heap = t.heap ∧ B.U.vm = t.vm ∧ XC E (A.U.calling g mk a) t ∧ t.heap[q]? = some ce ∧ ce.vm = .none ∧ A.U.vm.findClass E = some ce.cls ∧ B.locs = A.locs ++ L ∧ (∀ z ∈ L, free z.base) ∧ B.cells = A.cells + mc ∧ B.slots = A.slots + ms
def vx_Back (l : Launch) (R : Room) (p : Program) (e : Env) (below : List Frame) (s : State) (sargs : Array Value) (y : MethodName) (len W9 : Nat)
    (Pre : Pt → Array Value → Prop) (Post : Pt → Array Value → Option Value → Pt → Prop) (PostX : Pt → Array Value → Addr → Pt → Prop) : Prop :=
  ∀ (m : MethodId) (meth : Method) (c : Code) (A : Pt) (g : JFrame) (ig : Instr) (mk : MethodId) (a : Array Value),
    Stand p l e R s m sargs below meth c A.U A.locs A.cells A.slots → g.method = m → g.locals.size = c.maxLocals → decode c.code g.pc = .ok (ig, len) →
    2 * g.monitorRoom + (g.stack.map fun v => v.category).sum ≤ W9 → A.U.methodNamed? y = some mk → Pre A a →
    (∃ (v : Option Value) (B : Pt), Stand p l e R s m sargs below meth c B.U B.locs B.cells B.slots ∧ Post A a v B ∧
      Steps p.tables e below (doInvoke e (A.U.setTop g) [] mk a).1 (B.U.setTop { g with pc := g.pc + len, stack := v.toList ++ g.stack })) ∨
    (∃ (q : Addr) (B : Pt), Stand p l e R s m sargs below meth c B.U B.locs B.cells B.slots ∧ PostX A a q B ∧
      Steps p.tables e below (doInvoke e (A.U.setTop g) [] mk a).1 ((B.U.setTop g).pushFrame (.throwing q)))
section Payer
variable {l : Launch} {R : Room} {p : Program} {e : Env} {below : List Frame} {s : State} {sargs : Array Value} {y : MethodName} {len W9 : Nat}
theorem vx_back {ws : List Cond} {rm : Room} {Pc : Array Value → State → Prop} {Qc : Array Value → State → Outcome → State → Prop} {XC : String → State → State → Prop} {mc ms : Nat} {free : Addr → Prop} {bytes : ByteArray} {maxL : Nat} {ret : Option FieldType}
    (hM : vx_Met l y ws rm Pc Qc XC mc ms free) (hblind : FrameBlind Pc) (hrc : rm.cells = mc) (hrs : rm.slots = ms)
    (hframes : rm.frames + 1 ≤ R.frames) (hlocals : W9 + (maxL + 11) + rm.locals ≤ R.locals)
    (hws : ∀ w ∈ ws, ∀ a' U, s.WarmedH U.vm → w.before a' U = true) (hcode : Cond.code y bytes maxL ret ∈ ws) (hinit : ∀ a' U, s.WarmedH U.vm → (Cond.initialized y.cls).before a' U = true) :
    vx_Back l R p e below s sargs y len W9 (PreOf R mc ms Pc) (PostOf Qc mc ms free) (vx_Post XC mc ms free) := by
  intro m meth c A g ig mk a X hg hsize hdg hW hn hp
  have h1 : (headSpec ws rm).pre.before a A.U = true := atoms_intro fun w hw => hws w hw _ _ X.warmed
  have h2 : (Cond.code y bytes maxL ret).before a A.U = true := hws _ hcode _ _ X.warmed
  have h3 : (Cond.initialized y.cls).before a A.U = true := hinit _ _ X.warmed
  have h4 : A.cells + (headSpec ws rm).room.cells ≤ R.cells := by rw [show (headSpec ws rm).room.cells = mc from hrc]; exact hp.1
  have h5 : A.slots + (headSpec ws rm).room.slots ≤ R.slots := by rw [show (headSpec ws rm).room.slots = ms from hrs]; exact hp.2.1
  have hPc : Pc a (A.U.calling g mk a) := hblind _ _ _ _ hp.2.2
  obtain ⟨U, Ls, c0, s0⟩ := A
  dsimp only [Pt.U, Pt.locs, Pt.cells, Pt.slots] at h1 h2 h3 h4 h5 X hn hPc ⊢
  obtain ⟨methY, cY, hmY, hcY, -, hlY, -, -, -, -⟩ := Cond.code_spec hn h2
  obtain ⟨kY, hkY, -⟩ := className_of_methodNamed hn
  have hinitY : kY.init = .initialized := Cond.initialized_spec (findClass_of_methodNamed hn) hkY h3
  have h : At U g.method c below := by rw [hg]; exact X.here
  have hlocals9 : W9 + (maxL + 11) + (headSpec ws rm).room.locals ≤ R.locals := hlocals
  have happ : (headSpec ws rm).appliesLoose y e.platform (U.calling g mk a) = true :=
    Spec.appliesLoose_calling (g := g) h hdg hn hkY hinitY
      (X.room_calling (g := g) (R' := (headSpec ws rm).room) hsize hmY hcY hframes (by rw [hlY]; omega) h4 h5) h1
  obtain ⟨mid, hmid⟩ := h.above
  have hfr : (U.setTop g).frames = (.java g :: mid) ++ below := by rw [State.frames_setTop' g h.top, hmid]; rfl
  obtain ⟨o, s₂, hsteps, -, hend, hq⟩ := Steps.callFree hM p X.admits X.cas X.clock (acts := []) hfr happ hPc trivial
  have hq' : vx_Q Qc XC mc ms free a (U.calling g mk a) o s₂ := hq
  rw [State.frames_setTop' g h.top] at hend
  obtain ⟨g₀, hg0⟩ := Option.isSome_iff_exists.mp h.top
  obtain ⟨r, hr⟩ := State.topJava?_eq_some.mp hg0
  have hr' : (({ U with heap := s₂.heap, slotsUsed := s₂.slotsUsed } : State).setVm s₂.vm).frames = .java g₀ :: r := hr
  rcases hq' with ⟨hqc, L, hfe, hL⟩ | ⟨q, rfl, E, ce, L, hx, hce, hcv, hcl, hW₂, hsm, hL⟩
  · obtain ⟨⟨v, rfl⟩, hW₂, e2, q2, q3, q4, q5, q6⟩ := id hfe
    have e3 : s₂ = ({ (U.calling g mk a).setFrames s₂.frames with heap := s₂.heap, slotsUsed := s₂.slotsUsed } : State).setVm s₂.vm := by
      have : s₂ = ({ s₂ with vm := (U.calling g mk a).vm } : State).setVm s₂.vm := rfl
      rw [e2] at this
      exact this
    obtain ⟨c₂, i₂, len₂, hc₂, hd₂, hf₂⟩ := hend
    have hW' : U.WarmedH s₂.vm := hW₂
    have hcc : c₂ = c := by
      have h1 : s₂.code? g.method = U.code? g.method := by
        rw [State.code?_eq, State.code?_eq, hW'.alike.method?]
      exact Option.some.inj (hc₂.symm.trans (h1.trans h.code))
    subst hcc
    have hlen : len₂ = len := by rw [hdg] at hd₂; cases hd₂; rfl
    subst hlen
    have hs₂ : s₂ = (({ U with heap := s₂.heap, slotsUsed := s₂.slotsUsed } : State).setVm s₂.vm).setTop { g with pc := g.pc + len₂, stack := v.toList ++ g.stack } := by
      refine e3.trans ?_
      rw [hf₂, State.calling_eq h.top, State.setFrames_setFrames, State.setTop_of_frames _ hr', hr]
      rfl
    have hsame : U.sameButNew ({ U with heap := s₂.heap, slotsUsed := s₂.slotsUsed } : State) L mc ms := by
      refine ⟨?_, q2, q3, q4, q5, q6⟩
      obtain ⟨t, ht, -⟩ := State.frames_cons hr
      show ({ U with heap := s₂.heap, slotsUsed := s₂.slotsUsed } : State) = { U.setFrames U.frames with heap := s₂.heap, slotsUsed := s₂.slotsUsed }
      rw [State.setFrames_self ht]
    subst hg
    refine Or.inl ⟨v, ⟨(({ U with heap := s₂.heap, slotsUsed := s₂.slotsUsed } : State).setVm s₂.vm), Ls ++ L, c0 + mc, s0 + ms⟩,
      ⟨X.admits, X.cas, X.clock, X.frames, X.room, X.hears, X.method, X.code, (X.here.setHeapUsed s₂.heap s₂.slotsUsed).setVm hW'.alike, X.tail, State.WarmedH.trans X.warmed hW', X.limits, X.bytes, X.same.trans (hsame.setVm s.vm)⟩,
      ⟨g, mk, s₂, L, rfl, rfl, hqc, rfl, hL, rfl, rfl⟩, ?_⟩
    show Steps p.tables e below _ ((({ U with heap := s₂.heap, slotsUsed := s₂.slotsUsed } : State).setVm s₂.vm).setTop { g with pc := g.pc + len₂, stack := v.toList ++ g.stack })
    rw [← hs₂]
    exact hsteps
  · obtain ⟨e2, q2, q3, q4, q5, q6⟩ := id hsm
    have e3 : s₂ = ({ (U.calling g mk a).setFrames s₂.frames with heap := s₂.heap, slotsUsed := s₂.slotsUsed } : State).setVm s₂.vm := by
      have : s₂ = ({ s₂ with vm := (U.calling g mk a).vm } : State).setVm s₂.vm := rfl
      rw [e2] at this
      exact this
    have hf₂ : s₂.frames = .throwing q :: .java g :: U.frames.tail := hend
    have hW' : U.WarmedH s₂.vm := hW₂
    have hs₂ : s₂ = ((({ U with heap := s₂.heap, slotsUsed := s₂.slotsUsed } : State).setVm s₂.vm).setTop g).pushFrame (.throwing q) := by
      refine e3.trans ?_
      rw [hf₂, State.calling_eq h.top, State.setFrames_setFrames, State.pushFrame, State.frames_setTop _ hr', State.setTop_of_frames _ hr', State.setFrames_setFrames, hr]
      rfl
    have hsame : U.sameButNew ({ U with heap := s₂.heap, slotsUsed := s₂.slotsUsed } : State) L mc ms := by
      refine ⟨?_, q2, q3, q4, q5, q6⟩
      obtain ⟨t, ht, -⟩ := State.frames_cons hr
      show ({ U with heap := s₂.heap, slotsUsed := s₂.slotsUsed } : State) = { U.setFrames U.frames with heap := s₂.heap, slotsUsed := s₂.slotsUsed }
      rw [State.setFrames_self ht]
    subst hg
    refine Or.inr ⟨q, ⟨(({ U with heap := s₂.heap, slotsUsed := s₂.slotsUsed } : State).setVm s₂.vm), Ls ++ L, c0 + mc, s0 + ms⟩,
      ⟨X.admits, X.cas, X.clock, X.frames, X.room, X.hears, X.method, X.code, (X.here.setHeapUsed s₂.heap s₂.slotsUsed).setVm hW'.alike, X.tail, State.WarmedH.trans X.warmed hW', X.limits, X.bytes, X.same.trans (hsame.setVm s.vm)⟩,
      ⟨g, mk, s₂, L, E, ce, rfl, rfl, hx, hce, hcv, hcl, rfl, hL, rfl, rfl⟩, ?_⟩
    show Steps p.tables e below _ (((({ U with heap := s₂.heap, slotsUsed := s₂.slotsUsed } : State).setVm s₂.vm).setTop g).pushFrame (.throwing q))
    rw [← hs₂]
    exact hsteps
end Payer
section Calls
variable {p : Program} {l : Launch} {e : Env} {R : Room} {s : State} {m : MethodId} {args : Array Value} {below : List Frame} {meth : Method} {c : Code} {T : State} {locs : List Loc} {cells slots : Nat}
theorem vx_callV (X : Stand p l e R s m args below meth c T locs cells slots) (hexec : p.tables.exec = Jvm.exec) {own C : String} {index : Nat} {y : MethodName} {bytes : ByteArray} {maxL : Nat} {ret : Option FieldType}
    (hown : s.vm.findClass own = some m.cls) (hlink : (Cond.methodLink own index y).before args s = true) (hinst : (Cond.instanceMethod y).before args s = true) (hsel : (Cond.selects C y y).before args s = true)
    (hcode : (Cond.code y bytes maxL ret).before args s = true) (hy : y.cls ≠ "java/lang/invoke/MethodHandle" ∧ y.cls ≠ "java/lang/invoke/VarHandle")
    {W9 : Nat} {Pre : Pt → Array Value → Prop} {Post : Pt → Array Value → Option Value → Pt → Prop} {PostX : Pt → Array Value → Addr → Pt → Prop} (hK : vx_Back l R p e below s args y 3 W9 Pre Post PostX)
    {b : Addr} {cellB : Cell} (hcell : T.heap[b]? = some cellB) (hobj : cellB.vm.isStatics = false) (hcls : s.vm.findClass C = some cellB.cls)
    {g : JFrame} (hg : g.method = m) (hsize : g.locals.size = c.maxLocals) {argsL rest : List Value} (hlen : ∀ sig, parseMethodDescriptor y.desc = some sig → argsL.length = sig.parameters.length)
    (hstack : g.stack = argsL.reverse ++ .ref b :: rest) (hW : 2 * g.monitorRoom + (rest.map fun v => v.category).sum ≤ W9) (hdg : decode c.code g.pc = .ok (.invokevirtual index, 3))
    (hpre : ∀ vm₁, s.WarmedH vm₁ → Pre ⟨T.setVm vm₁, locs, cells, slots⟩ (Value.ref b :: argsL).toArray) :
    (∃ (v : Option Value) (vm₁ : Vm) (B : Pt), s.WarmedH vm₁ ∧ Stand p l e R s m args below meth c B.U B.locs B.cells B.slots ∧ Post ⟨T.setVm vm₁, locs, cells, slots⟩ (Value.ref b :: argsL).toArray v B ∧
      ∀ target, Steps p.tables e below (B.U.setTop { g with pc := g.pc + 3, stack := v.toList ++ rest }) target → Steps p.tables e below (T.setTop g) target) ∨
    (∃ (q : Addr) (vm₁ : Vm) (B : Pt), s.WarmedH vm₁ ∧ Stand p l e R s m args below meth c B.U B.locs B.cells B.slots ∧ PostX ⟨T.setVm vm₁, locs, cells, slots⟩ (Value.ref b :: argsL).toArray q B ∧
      Steps p.tables e below (T.setTop g) ((B.U.setTop { g with stack := rest }).pushFrame (.throwing q))) := by
  obtain ⟨mk, methM, hnamed, hmethM, hstM, habM⟩ := Cond.instanceMethod_spec hinst
  obtain ⟨methM', cM, hmethM', -, -, -, -, -, -, hsigM⟩ := Cond.code_spec hnamed hcode
  cases hmethM.symm.trans hmethM'
  obtain ⟨c2, r2, m2, q1, q2, q3, q4, kP, hkP, hkPi⟩ := Cond.selects_spec hsel
  cases hcls.symm.trans q1
  cases (State.methodFound?_of_named hnamed hy).symm.trans q2
  cases hnamed.symm.trans q3
  have hselP : selectMethod e.platform s.vm cellB.cls mk = .method mk := by rw [Launch.admits_selectMethod X.admits]; exact q4
  obtain ⟨vm₁, X₁, hstep₁⟩ := X.invokevirtual hexec hown hlink hnamed hmethM hstM hkP hkPi hy (a := b) (cell := cellB) hcell
    (fun z h => by rw [h] at hobj; cases hobj) hselP hmethM habM hkP hkPi (g := g) hg (argsL := argsL) (rest := rest) (hlen _ hsigM) hstack hdg
  rcases hK m meth c ⟨T.setVm vm₁, locs, cells, slots⟩ { g with stack := rest } (.invokevirtual index) mk (Value.ref b :: argsL).toArray X₁ hg hsize hdg hW (X₁.named hnamed) (hpre vm₁ X₁.warmed) with ⟨v, B, X', hpost, hsteps⟩ | ⟨q, B, X', hpost, hsteps⟩
  · exact Or.inl ⟨v, vm₁, B, X₁.warmed, X', hpost, fun target h => hstep₁ _ fun acts => by rw [doInvoke_state]; exact hsteps.trans h⟩
  · exact Or.inr ⟨q, vm₁, B, X₁.warmed, X', hpost, hstep₁ _ fun acts => by rw [doInvoke_state]; exact hsteps⟩
theorem vx_callS (X : Stand p l e R s m args below meth c T locs cells slots) (hexec : p.tables.exec = Jvm.exec) {own : String} {index : Nat} {y : MethodName} {bytes : ByteArray} {maxL : Nat} {ret : Option FieldType}
    (hown : s.vm.findClass own = some m.cls) (hlink : (Cond.methodLink own index y).before args s = true) (hstat : (Cond.static y).before args s = true) (hinit : (Cond.initialized y.cls).before args s = true)
    (hcode : (Cond.code y bytes maxL ret).before args s = true) (hy : y.cls ≠ "java/lang/invoke/MethodHandle" ∧ y.cls ≠ "java/lang/invoke/VarHandle")
    {W9 : Nat} {Pre : Pt → Array Value → Prop} {Post : Pt → Array Value → Option Value → Pt → Prop} {PostX : Pt → Array Value → Addr → Pt → Prop} (hK : vx_Back l R p e below s args y 3 W9 Pre Post PostX)
    {g : JFrame} (hg : g.method = m) (hsize : g.locals.size = c.maxLocals) {argsL rest : List Value} (hlen : ∀ sig, parseMethodDescriptor y.desc = some sig → argsL.length = sig.parameters.length)
    (hstack : g.stack = argsL.reverse ++ rest) (hW : 2 * g.monitorRoom + (rest.map fun v => v.category).sum ≤ W9) (hdg : decode c.code g.pc = .ok (.invokestatic index, 3))
    (hpre : ∀ vm₁, s.WarmedH vm₁ → Pre ⟨T.setVm vm₁, locs, cells, slots⟩ argsL.toArray) :
    (∃ (v : Option Value) (vm₁ : Vm) (B : Pt), s.WarmedH vm₁ ∧ Stand p l e R s m args below meth c B.U B.locs B.cells B.slots ∧ Post ⟨T.setVm vm₁, locs, cells, slots⟩ argsL.toArray v B ∧
      ∀ target, Steps p.tables e below (B.U.setTop { g with pc := g.pc + 3, stack := v.toList ++ rest }) target → Steps p.tables e below (T.setTop g) target) ∨
    (∃ (q : Addr) (vm₁ : Vm) (B : Pt), s.WarmedH vm₁ ∧ Stand p l e R s m args below meth c B.U B.locs B.cells B.slots ∧ PostX ⟨T.setVm vm₁, locs, cells, slots⟩ argsL.toArray q B ∧
      Steps p.tables e below (T.setTop g) ((B.U.setTop { g with stack := rest }).pushFrame (.throwing q))) := by
  obtain ⟨mk, hnamed⟩ := Cond.code_named hcode
  obtain ⟨methM, cM, hmethM, -, -, -, -, -, -, hsigM⟩ := Cond.code_spec hnamed hcode
  have hstatic : methM.isStatic = true := Cond.static_spec hnamed hmethM hstat
  obtain ⟨kP, hkP, -⟩ := className_of_methodNamed hnamed
  have hinitP : kP.init = .initialized := Cond.initialized_spec (findClass_of_methodNamed hnamed) hkP hinit
  obtain ⟨vm₁, X₁, hstep₁⟩ := X.invokestatic hexec hown hlink hnamed hmethM hstatic hkP hinitP hy (g := g) hg (argsL := argsL) (rest := rest) (hlen _ hsigM) hstack hdg
  rcases hK m meth c ⟨T.setVm vm₁, locs, cells, slots⟩ { g with stack := rest } (.invokestatic index) mk argsL.toArray X₁ hg hsize hdg hW (X₁.named hnamed) (hpre vm₁ X₁.warmed) with ⟨v, B, X', hpost, hsteps⟩ | ⟨q, B, X', hpost, hsteps⟩
  · exact Or.inl ⟨v, vm₁, B, X₁.warmed, X', hpost, fun target h => hstep₁ _ fun acts => by rw [doInvoke_state]; exact hsteps.trans h⟩
  · exact Or.inr ⟨q, vm₁, B, X₁.warmed, X', hpost, hstep₁ _ fun acts => by rw [doInvoke_state]; exact hsteps⟩
end Calls
theorem vx_cls {s : State} {T : State} {vm₁ : Vm} {E : String} {k : ClassId} (hW : s.WarmedH vm₁) (h : (T.setVm vm₁).vm.findClass E = some k) : s.vm.findClass E = some k := by
  have h1 : vm₁.findClass E = some k := h
  rw [hW.alike.findClass] at h1
  exact h1
/-- the method's frame g, with q thrown over it -/
def vx_W (p : Program) (l : Launch) (e : Env) (R : Room) (s : State) (m : MethodId) (args : Array Value) (below : List Frame) (meth : Method) (c : Code) (H : Heap) (locs : List Loc) (cells slots : Nat) (Q : State → Prop) (g : JFrame) (q : Addr) : Prop :=
  ∀ T : State, T.heap = H → Stand p l e R s m args below meth c T locs cells slots → ∃ t, Steps p.tables e below ((T.setTop g).pushFrame (.throwing q)) t ∧ Q t
def vx_Run (p : Program) (l : Launch) (e : Env) (R : Room) (s : State) (m : MethodId) (args : Array Value) (below : List Frame) (meth : Method) (c : Code) (H : Heap) (locs : List Loc) (cells slots mc ms : Nat) (g : JFrame) (rest : List Value) (Qa : State → Outcome → State → Prop) (XC : String → State → State → Prop) (free : Addr → Prop) : Prop :=
  ∀ T : State, T.heap = H → Stand p l e R s m args below meth c T locs cells slots →
    (∃ (v : Option Value) (st₀ t T' : State) (L : List Loc), st₀.heap = H ∧ Stand p l e R s m args below meth c T' (locs ++ L) (cells + mc) (slots + ms) ∧ (∀ q ∈ L, free q.base) ∧ T'.heap = t.heap ∧ T'.vm = t.vm ∧ Qa st₀ (.returned v) t ∧
      Goes p e below T g T' { g with pc := g.pc + 3, stack := v.toList ++ rest }) ∨
    (∃ (q : Addr) (st₀ t T' : State) (L : List Loc) (E : String) (ce : Cell), st₀.heap = H ∧ Stand p l e R s m args below meth c T' (locs ++ L) (cells + mc) (slots + ms) ∧ (∀ z ∈ L, free z.base) ∧ T'.heap = t.heap ∧ T'.vm = t.vm ∧ XC E st₀ t ∧ t.heap[q]? = some ce ∧ ce.vm = .none ∧ s.vm.findClass E = some ce.cls ∧
      Steps p.tables e below (T.setTop g) ((T'.setTop { g with stack := rest }).pushFrame (.throwing q)))
def vx_X {S : Type} (px : S → Prop) (B : String → S → State → Prop) (A : Nat → Prop) : String → State → State → Prop := fun E st t => ∃ u : S, px u ∧ B E u t ∧ va_F A st t
section Runs
variable {p : Program} {l : Launch} {e : Env} {R : Room} {s : State} {m : MethodId} {args : Array Value} {below : List Frame} {meth : Method} {c : Code} {H : Heap} {locs : List Loc} {cells slots : Nat}
variable {y : MethodName} {bytes cc : ByteArray} {maxL nL mc ms n index : Nat} {ret : Option FieldType} {ws : List Cond} {rm : Room} {Pc : Array Value → State → Prop} {Qc : Array Value → State → Outcome → State → Prop} {XC : String → State → State → Prop} {free : Addr → Prop} {Ts : List Cond} {own C : String} {b : Addr} {As rest : List Value} {g : JFrame}
theorem vx_callBack (cb : CallB R s args own index y bytes maxL ret ws rm mc ms n) (hM : vx_Met l y ws rm Pc Qc XC mc ms free) (hbl : FrameBlind Pc) : vx_Back l R p e below s args y 3 8 (PreOf R mc ms Pc) (PostOf Qc mc ms free) (vx_Post XC mc ms free) := by
  obtain ⟨hrc, hrs, hfr, hlo, hws, hcw, -, hini, -⟩ := cb
  exact vx_back (bytes := bytes) (maxL := maxL) (ret := ret) hM hbl hrc hrs hfr hlo hws hcw (fun a' U hW => word_at hW (Or.inl (by first | rfl | simp [Cond.onTables, Cond.keeps, Cond.steady])) hini)
theorem vx_runV (S : CallFix p m c cc nL s args Ts own) (hM : vx_Met l y ws rm Pc Qc XC mc ms free) (cw : CallW R s args own C index y bytes maxL ret ws rm mc ms n) (hp : PreV s H C b Pc As)
    (hg : g.method = m) (hn : As.length = n) (hsize : g.locals.size = nL) (hstack : g.stack = As.reverse ++ .ref b :: rest) (hW : 2 * g.monitorRoom + (rest.map fun v => v.category).sum ≤ 8) (hdg : decode cc g.pc = .ok (.invokevirtual index, 3)) (hf : cells + mc ≤ R.cells ∧ slots + ms ≤ R.slots) :
    vx_Run p l e R s m args below meth c H locs cells slots mc ms g rest (Qc (Value.ref b :: As).toArray) XC free := by
  have hK : vx_Back l R p e below s args y 3 8 (PreOf R mc ms Pc) (PostOf Qc mc ms free) (vx_Post XC mc ms free) := vx_callBack cw.1 hM hp.1
  obtain ⟨⟨-, -, -, -, -, -, hcode, -, hy, hlen, hl⟩, hin, hse⟩ := cw
  obtain ⟨hx, hb, hml, ho, -⟩ := S
  obtain ⟨-, ⟨cellB, hcB, hoB, hclB⟩, hPc⟩ := hp
  intro T hT X
  rcases vx_callV X hx (C := C) (bytes := bytes) (maxL := maxL) (ret := ret) ho hl hin hse hcode hy hK (by rw [hT]; exact hcB) hoB hclB hg (hsize.trans hml.symm) (argsL := As) (rest := rest) (fun sig h => hn.trans (hlen sig h)) hstack hW (by rw [hb]; exact hdg)
    (fun vm₁ hW₁ => ⟨hf.1, hf.2, hPc (T.setVm vm₁) hT hW₁⟩) with ⟨v, vm₁, ⟨U', l2, c2, s2⟩, hW₁, X', ⟨g', mk, t, L, e1, e2, hq, h1, hL, h2, h3⟩, st⟩ | ⟨q, vm₁, ⟨U', l2, c2, s2⟩, hW₁, X', ⟨g', mk, t, L, E, ce, e1, e2, hq, hce, hcv, hcl, h1, hL, h2, h3⟩, st⟩
  · dsimp only [Pt.U, Pt.locs, Pt.cells, Pt.slots] at X' e1 e2 h1 h2 h3 st
    subst h1; subst h2; subst h3
    exact Or.inl ⟨v, (T.setVm vm₁).calling g' mk (Value.ref b :: As).toArray, t, U', L, hT, X', hL, e1, e2, hq, st⟩
  · dsimp only [Pt.U, Pt.locs, Pt.cells, Pt.slots] at X' e1 e2 h1 h2 h3 st hcl
    subst h1; subst h2; subst h3
    exact Or.inr ⟨q, (T.setVm vm₁).calling g' mk (Value.ref b :: As).toArray, t, U', L, E, ce, hT, X', hL, e1, e2, hq, hce, hcv, vx_cls hW₁ hcl, st⟩
theorem vx_runS (S : CallFix p m c cc nL s args Ts own) (hM : vx_Met l y ws rm Pc Qc XC mc ms free) (cw : CallB R s args own index y bytes maxL ret ws rm mc ms n ∧ (Cond.static y).before args s = true) (hp : PreS s H Pc As)
    (hg : g.method = m) (hn : As.length = n) (hsize : g.locals.size = nL) (hstack : g.stack = As.reverse ++ rest) (hW : 2 * g.monitorRoom + (rest.map fun v => v.category).sum ≤ 8) (hdg : decode cc g.pc = .ok (.invokestatic index, 3)) (hf : cells + mc ≤ R.cells ∧ slots + ms ≤ R.slots) :
    vx_Run p l e R s m args below meth c H locs cells slots mc ms g rest (Qc As.toArray) XC free := by
  have hK : vx_Back l R p e below s args y 3 8 (PreOf R mc ms Pc) (PostOf Qc mc ms free) (vx_Post XC mc ms free) := vx_callBack cw.1 hM hp.1
  obtain ⟨⟨-, -, -, -, -, -, hcode, hini, hy, hlen, hl⟩, hstt⟩ := cw
  obtain ⟨hx, hb, hml, ho, -⟩ := S
  intro T hT X
  rcases vx_callS X hx (bytes := bytes) (maxL := maxL) (ret := ret) ho hl hstt hini hcode hy hK hg (hsize.trans hml.symm) (argsL := As) (rest := rest) (fun sig h => hn.trans (hlen sig h)) hstack hW (by rw [hb]; exact hdg)
    (fun vm₁ hW₁ => ⟨hf.1, hf.2, hp.2 (T.setVm vm₁) hT hW₁⟩) with ⟨v, vm₁, ⟨U', l2, c2, s2⟩, hW₁, X', ⟨g', mk, t, L, e1, e2, hq, h1, hL, h2, h3⟩, st⟩ | ⟨q, vm₁, ⟨U', l2, c2, s2⟩, hW₁, X', ⟨g', mk, t, L, E, ce, e1, e2, hq, hce, hcv, hcl, h1, hL, h2, h3⟩, st⟩
  · dsimp only [Pt.U, Pt.locs, Pt.cells, Pt.slots] at X' e1 e2 h1 h2 h3 st
    subst h1; subst h2; subst h3
    exact Or.inl ⟨v, (T.setVm vm₁).calling g' mk As.toArray, t, U', L, hT, X', hL, e1, e2, hq, st⟩
  · dsimp only [Pt.U, Pt.locs, Pt.cells, Pt.slots] at X' e1 e2 h1 h2 h3 st hcl
    subst h1; subst h2; subst h3
    exact Or.inr ⟨q, (T.setVm vm₁).calling g' mk As.toArray, t, U', L, E, ce, hT, X', hL, e1, e2, hq, hce, hcv, vx_cls hW₁ hcl, st⟩
end Runs
section Rows
variable {p : Program} {l : Launch} {e : Env} {R : Room} {s : State} {m : MethodId} {args : Array Value} {below : List Frame} {meth : Method} {c : Code} {H : Heap} {locs : List Loc} {cells slots : Nat} {Q : State → Prop}
variable {mc ms : Nat} {free : Addr → Prop} {A0 A1 : Nat → Prop} {H0 : Heap} {a : Array Value} {pc : Nat} {ls : Array Slot} {st0 rest : List Value}
theorem vx_keep {st₀ t T' : State} {L : List Loc} (h0 : st₀.heap = H) (e1 : T'.heap = t.heap) (hS : va_S A0 H0 H locs) (hA : ∀ q, q < H.size → A1 q → A0 q) (hf : ∀ q, free q → A0 q) (hL : ∀ q ∈ L, free q.base) (hF : va_F A1 st₀ t) :
    H.size ≤ T'.heap.size ∧ (∀ q : Nat, q < H.size → ¬ A1 q → T'.heap[q]? = H[q]?) ∧ va_S A0 H0 T'.heap (locs ++ L) := by
  obtain ⟨hz, hk⟩ := hF
  rw [h0] at hz hk
  exact ⟨by rw [e1]; exact hz, fun q h1 h2 => by rw [e1]; exact hk q h1 h2,
    ⟨Nat.le_trans hS.1 (by rw [e1]; exact hz), fun q h1 h2 => by rw [e1, hk q (Nat.lt_of_lt_of_le h1 hS.1) (fun z => h2 (hA q (Nat.lt_of_lt_of_le h1 hS.1) z))]; exact hS.2.1 q h1 h2, fun q hq => by
      rcases List.mem_append.mp hq with h | h
      · exact hS.2.2 q h
      · exact hf _ (hL q h)⟩⟩
theorem vx_calli {S SX : Type} {post : Int32 → S → Prop} {px : SX → Prop} {B : S → State → Prop} {BX : String → SX → State → Prop} {AX : Nat → Prop} (hr : vx_Run p l e R s m args below meth c H locs cells slots mc ms (F0 m pc ls st0) rest (va_Qi post B A1 a) (vx_X px BX AX) free) (hS : va_S A0 H0 H locs) (hA : ∀ q, q < H.size → A1 q → A0 q) (hf : ∀ q, free q → A0 q) (hAX : ∀ q, q < H.size → AX q → A0 q)
    (kx : ∀ (E : String) (ce : Cell) (q9 : Addr) (u : SX) (t : State) (H1 : Heap) (locs1 : List Loc), t.heap = H1 → s.vm.Alike t.vm → px u → BX E u t → H.size ≤ H1.size → (∀ q : Nat, q < H.size → ¬ AX q → H1[q]? = H[q]?) → va_S A0 H0 H1 locs1 → H1[q9]? = some ce → ce.vm = .none → s.vm.findClass E = some ce.cls → vx_W p l e R s m args below meth c H1 locs1 (cells + mc) (slots + ms) Q (F0 m pc ls rest) q9)
    (kk : ∀ (r : Int32) (u : S) (t : State) (H1 : Heap) (locs1 : List Loc), t.heap = H1 → s.vm.Alike t.vm → post r u → B u t → H.size ≤ H1.size → (∀ q : Nat, q < H.size → ¬ A1 q → H1[q]? = H[q]?) → va_S A0 H0 H1 locs1 → W p l e R s m args below meth c H1 locs1 (cells + mc) (slots + ms) Q (F0 m (pc + 3) ls (.int r :: rest))) : W p l e R s m args below meth c H locs cells slots Q (F0 m pc ls st0) := by
  intro T hT X
  rcases hr T hT X with ⟨v, st₀, t, T', L, h0, X', hL, e1, e2, ⟨⟨r, u, hv, hp, hb⟩, hF⟩, st⟩ | ⟨q, st₀, t, T', L, E, ce, h0, X', hL, e1, e2, ⟨u, hp, hb, hF⟩, hce, hcv, hcl, st⟩
  · cases hv
    obtain ⟨k1, k2, k3⟩ := vx_keep h0 e1 hS hA hf hL hF
    obtain ⟨t2, a1, b1⟩ := kk r u t T'.heap (locs ++ L) e1.symm (by rw [← e2]; exact X'.warmed.alike) hp hb k1 k2 k3 T' rfl X'
    exact ⟨t2, st t2 a1, b1⟩
  · obtain ⟨k1, k2, k3⟩ := vx_keep h0 e1 hS hAX hf hL hF
    obtain ⟨t2, a1, b1⟩ := kx E ce q u t T'.heap (locs ++ L) e1.symm (by rw [← e2]; exact X'.warmed.alike) hp hb k1 k2 k3 (by rw [e1]; exact hce) hcv hcl T' rfl X'
    exact ⟨t2, st.trans a1, b1⟩
theorem vx_calll {S SX : Type} {post : Int64 → S → Prop} {px : SX → Prop} {B : S → State → Prop} {BX : String → SX → State → Prop} {AX : Nat → Prop} (hr : vx_Run p l e R s m args below meth c H locs cells slots mc ms (F0 m pc ls st0) rest (va_Ql post B A1 a) (vx_X px BX AX) free) (hS : va_S A0 H0 H locs) (hA : ∀ q, q < H.size → A1 q → A0 q) (hf : ∀ q, free q → A0 q) (hAX : ∀ q, q < H.size → AX q → A0 q)
    (kx : ∀ (E : String) (ce : Cell) (q9 : Addr) (u : SX) (t : State) (H1 : Heap) (locs1 : List Loc), t.heap = H1 → s.vm.Alike t.vm → px u → BX E u t → H.size ≤ H1.size → (∀ q : Nat, q < H.size → ¬ AX q → H1[q]? = H[q]?) → va_S A0 H0 H1 locs1 → H1[q9]? = some ce → ce.vm = .none → s.vm.findClass E = some ce.cls → vx_W p l e R s m args below meth c H1 locs1 (cells + mc) (slots + ms) Q (F0 m pc ls rest) q9)
    (kk : ∀ (r : Int64) (u : S) (t : State) (H1 : Heap) (locs1 : List Loc), t.heap = H1 → s.vm.Alike t.vm → post r u → B u t → H.size ≤ H1.size → (∀ q : Nat, q < H.size → ¬ A1 q → H1[q]? = H[q]?) → va_S A0 H0 H1 locs1 → W p l e R s m args below meth c H1 locs1 (cells + mc) (slots + ms) Q (F0 m (pc + 3) ls (.long r :: rest))) : W p l e R s m args below meth c H locs cells slots Q (F0 m pc ls st0) := by
  intro T hT X
  rcases hr T hT X with ⟨v, st₀, t, T', L, h0, X', hL, e1, e2, ⟨⟨r, u, hv, hp, hb⟩, hF⟩, st⟩ | ⟨q, st₀, t, T', L, E, ce, h0, X', hL, e1, e2, ⟨u, hp, hb, hF⟩, hce, hcv, hcl, st⟩
  · cases hv
    obtain ⟨k1, k2, k3⟩ := vx_keep h0 e1 hS hA hf hL hF
    obtain ⟨t2, a1, b1⟩ := kk r u t T'.heap (locs ++ L) e1.symm (by rw [← e2]; exact X'.warmed.alike) hp hb k1 k2 k3 T' rfl X'
    exact ⟨t2, st t2 a1, b1⟩
  · obtain ⟨k1, k2, k3⟩ := vx_keep h0 e1 hS hAX hf hL hF
    obtain ⟨t2, a1, b1⟩ := kx E ce q u t T'.heap (locs ++ L) e1.symm (by rw [← e2]; exact X'.warmed.alike) hp hb k1 k2 k3 (by rw [e1]; exact hce) hcv hcl T' rfl X'
    exact ⟨t2, st.trans a1, b1⟩
theorem vx_callf {S SX : Type} {post : UInt32 → S → Prop} {px : SX → Prop} {B : S → State → Prop} {BX : String → SX → State → Prop} {AX : Nat → Prop} (hr : vx_Run p l e R s m args below meth c H locs cells slots mc ms (F0 m pc ls st0) rest (va_Qf post B A1 a) (vx_X px BX AX) free) (hS : va_S A0 H0 H locs) (hA : ∀ q, q < H.size → A1 q → A0 q) (hf : ∀ q, free q → A0 q) (hAX : ∀ q, q < H.size → AX q → A0 q)
    (kx : ∀ (E : String) (ce : Cell) (q9 : Addr) (u : SX) (t : State) (H1 : Heap) (locs1 : List Loc), t.heap = H1 → s.vm.Alike t.vm → px u → BX E u t → H.size ≤ H1.size → (∀ q : Nat, q < H.size → ¬ AX q → H1[q]? = H[q]?) → va_S A0 H0 H1 locs1 → H1[q9]? = some ce → ce.vm = .none → s.vm.findClass E = some ce.cls → vx_W p l e R s m args below meth c H1 locs1 (cells + mc) (slots + ms) Q (F0 m pc ls rest) q9)
    (kk : ∀ (r : UInt32) (u : S) (t : State) (H1 : Heap) (locs1 : List Loc), t.heap = H1 → s.vm.Alike t.vm → post r u → B u t → H.size ≤ H1.size → (∀ q : Nat, q < H.size → ¬ A1 q → H1[q]? = H[q]?) → va_S A0 H0 H1 locs1 → W p l e R s m args below meth c H1 locs1 (cells + mc) (slots + ms) Q (F0 m (pc + 3) ls (.float r :: rest))) : W p l e R s m args below meth c H locs cells slots Q (F0 m pc ls st0) := by
  intro T hT X
  rcases hr T hT X with ⟨v, st₀, t, T', L, h0, X', hL, e1, e2, ⟨⟨r, u, hv, hp, hb⟩, hF⟩, st⟩ | ⟨q, st₀, t, T', L, E, ce, h0, X', hL, e1, e2, ⟨u, hp, hb, hF⟩, hce, hcv, hcl, st⟩
  · cases hv
    obtain ⟨k1, k2, k3⟩ := vx_keep h0 e1 hS hA hf hL hF
    obtain ⟨t2, a1, b1⟩ := kk r u t T'.heap (locs ++ L) e1.symm (by rw [← e2]; exact X'.warmed.alike) hp hb k1 k2 k3 T' rfl X'
    exact ⟨t2, st t2 a1, b1⟩
  · obtain ⟨k1, k2, k3⟩ := vx_keep h0 e1 hS hAX hf hL hF
    obtain ⟨t2, a1, b1⟩ := kx E ce q u t T'.heap (locs ++ L) e1.symm (by rw [← e2]; exact X'.warmed.alike) hp hb k1 k2 k3 (by rw [e1]; exact hce) hcv hcl T' rfl X'
    exact ⟨t2, st.trans a1, b1⟩
theorem vx_calld {S SX : Type} {post : UInt64 → S → Prop} {px : SX → Prop} {B : S → State → Prop} {BX : String → SX → State → Prop} {AX : Nat → Prop} (hr : vx_Run p l e R s m args below meth c H locs cells slots mc ms (F0 m pc ls st0) rest (va_Qd post B A1 a) (vx_X px BX AX) free) (hS : va_S A0 H0 H locs) (hA : ∀ q, q < H.size → A1 q → A0 q) (hf : ∀ q, free q → A0 q) (hAX : ∀ q, q < H.size → AX q → A0 q)
    (kx : ∀ (E : String) (ce : Cell) (q9 : Addr) (u : SX) (t : State) (H1 : Heap) (locs1 : List Loc), t.heap = H1 → s.vm.Alike t.vm → px u → BX E u t → H.size ≤ H1.size → (∀ q : Nat, q < H.size → ¬ AX q → H1[q]? = H[q]?) → va_S A0 H0 H1 locs1 → H1[q9]? = some ce → ce.vm = .none → s.vm.findClass E = some ce.cls → vx_W p l e R s m args below meth c H1 locs1 (cells + mc) (slots + ms) Q (F0 m pc ls rest) q9)
    (kk : ∀ (r : UInt64) (u : S) (t : State) (H1 : Heap) (locs1 : List Loc), t.heap = H1 → s.vm.Alike t.vm → post r u → B u t → H.size ≤ H1.size → (∀ q : Nat, q < H.size → ¬ A1 q → H1[q]? = H[q]?) → va_S A0 H0 H1 locs1 → W p l e R s m args below meth c H1 locs1 (cells + mc) (slots + ms) Q (F0 m (pc + 3) ls (.double r :: rest))) : W p l e R s m args below meth c H locs cells slots Q (F0 m pc ls st0) := by
  intro T hT X
  rcases hr T hT X with ⟨v, st₀, t, T', L, h0, X', hL, e1, e2, ⟨⟨r, u, hv, hp, hb⟩, hF⟩, st⟩ | ⟨q, st₀, t, T', L, E, ce, h0, X', hL, e1, e2, ⟨u, hp, hb, hF⟩, hce, hcv, hcl, st⟩
  · cases hv
    obtain ⟨k1, k2, k3⟩ := vx_keep h0 e1 hS hA hf hL hF
    obtain ⟨t2, a1, b1⟩ := kk r u t T'.heap (locs ++ L) e1.symm (by rw [← e2]; exact X'.warmed.alike) hp hb k1 k2 k3 T' rfl X'
    exact ⟨t2, st t2 a1, b1⟩
  · obtain ⟨k1, k2, k3⟩ := vx_keep h0 e1 hS hAX hf hL hF
    obtain ⟨t2, a1, b1⟩ := kx E ce q u t T'.heap (locs ++ L) e1.symm (by rw [← e2]; exact X'.warmed.alike) hp hb k1 k2 k3 (by rw [e1]; exact hce) hcv hcl T' rfl X'
    exact ⟨t2, st.trans a1, b1⟩
theorem vx_callv {S SX : Type} {post : S → Prop} {px : SX → Prop} {B : S → State → Prop} {BX : String → SX → State → Prop} {AX : Nat → Prop} (hr : vx_Run p l e R s m args below meth c H locs cells slots mc ms (F0 m pc ls st0) rest (va_Qv post B A1 a) (vx_X px BX AX) free) (hS : va_S A0 H0 H locs) (hA : ∀ q, q < H.size → A1 q → A0 q) (hf : ∀ q, free q → A0 q) (hAX : ∀ q, q < H.size → AX q → A0 q)
    (kx : ∀ (E : String) (ce : Cell) (q9 : Addr) (u : SX) (t : State) (H1 : Heap) (locs1 : List Loc), t.heap = H1 → s.vm.Alike t.vm → px u → BX E u t → H.size ≤ H1.size → (∀ q : Nat, q < H.size → ¬ AX q → H1[q]? = H[q]?) → va_S A0 H0 H1 locs1 → H1[q9]? = some ce → ce.vm = .none → s.vm.findClass E = some ce.cls → vx_W p l e R s m args below meth c H1 locs1 (cells + mc) (slots + ms) Q (F0 m pc ls rest) q9)
    (kk : ∀ (u : S) (t : State) (H1 : Heap) (locs1 : List Loc), t.heap = H1 → s.vm.Alike t.vm → post u → B u t → H.size ≤ H1.size → (∀ q : Nat, q < H.size → ¬ A1 q → H1[q]? = H[q]?) → va_S A0 H0 H1 locs1 → W p l e R s m args below meth c H1 locs1 (cells + mc) (slots + ms) Q (F0 m (pc + 3) ls (rest))) : W p l e R s m args below meth c H locs cells slots Q (F0 m pc ls st0) := by
  intro T hT X
  rcases hr T hT X with ⟨v, st₀, t, T', L, h0, X', hL, e1, e2, ⟨⟨u, hv, hp, hb⟩, hF⟩, st⟩ | ⟨q, st₀, t, T', L, E, ce, h0, X', hL, e1, e2, ⟨u, hp, hb, hF⟩, hce, hcv, hcl, st⟩
  · cases hv
    obtain ⟨k1, k2, k3⟩ := vx_keep h0 e1 hS hA hf hL hF
    obtain ⟨t2, a1, b1⟩ := kk u t T'.heap (locs ++ L) e1.symm (by rw [← e2]; exact X'.warmed.alike) hp hb k1 k2 k3 T' rfl X'
    exact ⟨t2, st t2 a1, b1⟩
  · obtain ⟨k1, k2, k3⟩ := vx_keep h0 e1 hS hAX hf hL hF
    obtain ⟨t2, a1, b1⟩ := kx E ce q u t T'.heap (locs ++ L) e1.symm (by rw [← e2]; exact X'.warmed.alike) hp hb k1 k2 k3 (by rw [e1]; exact hce) hcv hcl T' rfl X'
    exact ⟨t2, st.trans a1, b1⟩
/-- caught by the row x of this method's table; the rows ahead don't take it -/
theorem vx_catch {own name : String} {E : String} {ce : Cell} {q : Addr} (hown : s.vm.findClass own = some m.cls) (pre : List ExceptionTableEntry) (x : ExceptionTableEntry) (suf : List ExceptionTableEntry) (hsplit : c.exceptionTable.toList = pre ++ x :: suf)
    (hpass : ∀ z ∈ pre, covers z pc = false ∨ (z.catchType ≠ 0 ∧ ∃ nm : String, (Cond.classLink own z.catchType nm).before args s = true ∧ va_Nc E nm s)) (hx : covers x pc = true) (h0 : x.catchType ≠ 0)
    (hlink : (Cond.classLink own x.catchType name).before args s = true) (hcast : (Cond.castable E name).before args s = true) (hcell : H[q]? = some ce) (hv : ce.vm = .none) (hcl : s.vm.findClass E = some ce.cls)
    (kk : W p l e R s m args below meth c H locs cells slots Q (F0 m x.handlerPc ls [.ref q])) : vx_W p l e R s m args below meth c H locs cells slots Q (F0 m pc ls rest) q := by
  intro T hT X
  have hpl : e.platform.magicAccessors = ({} : Platform).magicAccessors := by rw [X.admits.platform]
  obtain ⟨c3, c4, hc3, hc4, hasg⟩ := Cond.castable_spec hcast
  cases Option.some.inj (hc3.symm.trans hcl)
  obtain ⟨c5, hc5, hcl5⟩ := Cond.classLink_spec hown hlink e.platform hpl
  cases Option.some.inj (hc4.symm.trans hc5)
  obtain ⟨vm', X', st⟩ := X.thenCaughtThrough q (g := F0 m pc ls rest) rfl (Steps.refl _) (by rw [hT]; exact hcell) (by rw [hv]; rfl) (by obtain ⟨k9, h9, -⟩ := Vm.findClass_spec hcl; exact ⟨k9, h9⟩) pre x suf hsplit
    (fun z hz => by
      rcases hpass z hz with h | ⟨hz0, nm, hl1, hn1⟩
      · exact Or.inl h
      · obtain ⟨c6, hc6, hcl6⟩ := Cond.classLink_spec hown hl1 e.platform hpl
        obtain ⟨a8, b8, h1, h2, h3⟩ := hn1
        cases Option.some.inj (h1.symm.trans hcl)
        cases Option.some.inj (h2.symm.trans hc6)
        exact Or.inr ⟨hz0, _, hcl6, h3⟩) hx (Or.inr ⟨h0, c4, hcl5, hasg⟩)
  obtain ⟨t, a1, b1⟩ := kk (T.setVm vm') hT X'
  exact ⟨t, st.trans a1, b1⟩
end Rows
section Ends
variable {p : Program} {l : Launch} {e : Env} {R : Room} {s : State} {m : MethodId} {args : Array Value} {below : List Frame} {meth : Method} {c : Code} {H : Heap} {locs : List Loc} {cells slots : Nat} {Q : State → Prop}
variable {mc ms : Nat} {free : Addr → Prop} {A0 A1 : Nat → Prop} {H0 : Heap} {a : Array Value} {ls : Array Slot} {st0 rest : List Value}
variable {Qc : Array Value → State → Outcome → State → Prop} {XC : String → State → State → Prop}
/-- what a body that may throw owes at its end -/
def vx_MQ (below : List Frame) (Qc : Array Value → State → Outcome → State → Prop) (XC : String → State → State → Prop) (a : Array Value) (s : State) (mc ms : Nat) (free : Addr → Prop) : State → Prop := fun t =>
  ∃ o, t.status = .running ∧ Ended t below o ∧ vx_Q Qc XC mc ms free a s o t
theorem vx_ret {g : JFrame} {mc ms : Nat} (k : W p l e R s m args below meth c H locs cells slots (MQ below Qc args s mc ms free) g) : W p l e R s m args below meth c H locs cells slots (vx_MQ below Qc XC args s mc ms free) g := by
  intro T hT X
  obtain ⟨t, a1, o, b1, b2, b3, b4⟩ := k T hT X
  exact ⟨t, a1, o, b1, b2, Or.inl ⟨b3, b4⟩⟩
/-- not caught here: it goes on to the caller -/
theorem vx_widen {g : JFrame} {q : Addr} {k n : Nat} (h1 : cells ≤ k) (h2 : slots ≤ n) (kk : vx_W p l e R s m args below meth c H locs k n Q g q) : vx_W p l e R s m args below meth c H locs cells slots Q g q := fun T hT X => kk T hT (stand_widen X h1 h2)
theorem vx_out {pc : Nat} {E : String} {ce : Cell} {q : Addr} {mc ms : Nat} (hout : ∀ x ∈ c.exceptionTable.toList, covers x pc = false) (hlocks : meth.locks = false) (hcell : H[q]? = some ce) (hv : ce.vm = .none) (hcl : s.vm.findClass E = some ce.cls)
    (hx : ∀ t : State, t.heap = H → s.vm.Alike t.vm → XC E s t) (hf : ∀ z ∈ locs, free z.base) (hc : cells ≤ mc) (hs : slots ≤ ms) :
    vx_W p l e R s m args below meth c H locs cells slots (vx_MQ below Qc XC args s mc ms free) (F0 m pc ls rest) q := by
  intro T hT X
  obtain ⟨st1, hrun, hend, hW, hsm⟩ := X.leaveThrown q (g := F0 m pc ls rest) rfl rfl rfl hout hlocks
  have hcell9 : (T.setFrames (.throwing q :: below)).heap[q]? = some ce := by
    show T.heap[q]? = some ce
    rw [hT]; exact hcell
  exact ⟨_, st1, .threw q, hrun, hend, Or.inr ⟨q, rfl, E, ce, locs, hx _ hT hW.alike, hcell9, hv, hcl, hW, hsm.mono hc hs, hf⟩⟩
theorem vx_frame {U : State} {k n : Nat} (h : s.sameButNew ({ U with vm := s.vm } : State) locs k n) : s.heap.size ≤ U.heap.size ∧ ∀ q : Nat, q < s.heap.size → (∀ z ∈ locs, z.base ≠ q) → U.heap[q]? = s.heap[q]? := by
  obtain ⟨-, h2, -, -, -, h6⟩ := h
  refine ⟨h2, fun q hq hz => ?_⟩
  obtain ⟨c9, e1, e2, e3, e4⟩ := h6 q _ (Array.getElem?_eq_getElem hq)
  have hs : c9.slots = (s.heap[q]).slots := Array.ext_getElem? fun i => e4 i fun hm => hz _ hm rfl
  have h9 : c9 = s.heap[q] := by
    rw [hs] at e2
    exact e2
  have e5 : U.heap[q]? = some c9 := e1
  rw [e5, h9, Array.getElem?_eq_getElem hq]
/-- the words of a throw but the four that speak of the heap -/
def vx_no (w : Cond) : Bool := decide (w ≠ .isRef (.static Bundle.tN "UNASSIGNED_STACK" Bundle.steD)) && decide (w ≠ .isRef (.static Bundle.tN "SUPPRESSED_SENTINEL" Bundle.listD)) && decide (w ≠ .laysStatic Bundle.tN "UNASSIGNED_STACK" Bundle.steD) && decide (w ≠ .laysStatic Bundle.tN "SUPPRESSED_SENTINEL" Bundle.listD)
def vx_at0 (own : String) (ic : Nat) (X : String) (names : List String) : List Cond := (Bundle.ownAtoms0 own ic X names).filter vx_no
def vx_atS (own : String) (ic : Nat) (X : String) (names : List String) : List Cond := (Bundle.ownAtoms own ic X names).filter vx_no
/-- a word that the tables alone decide, or a good one -/
def vx_ot (w : Cond) : Bool := w.onTables || goodWord w
theorem vx_ot_at {args a' : Array Value} {s U : State} {w : Cond} (hW : s.WarmedH U.vm) (hvm : s.vm = U.vm) (hg : vx_ot w = true) (h : w.before args s = true) : w.before a' U = true := by
  simp only [vx_ot, Bool.or_eq_true] at hg
  rcases hg with hg | hg
  · exact va_tabs hg hvm h
  · exact word_at hW (good_of_word hg) h
/-- a list's words: the good ones out of the method's own list, the others by premises of their own -/
theorem vx_hat {args : Array Value} {s : State} {L B : List Cond} (h1 : ∀ w ∈ L.filter goodWord, w.before args s = true) (h2 : ∀ w ∈ L.filter (fun w => !goodWord w), w ∈ B) (h3 : ∀ w ∈ B, w.before args s = true) : ∀ w ∈ L, w.before args s = true := by
  intro w hw
  by_cases g : goodWord w = true
  · exact h1 w (List.mem_filter.mpr ⟨hw, g⟩)
  · refine h3 w (h2 w (List.mem_filter.mpr ⟨hw, ?_⟩))
    show (!goodWord w) = true
    cases hgw : goodWord w
    · rfl
    · exact absurd hgw g
theorem vx_c {args : Array Value} {s : State} {w : Cond} {B : List Cond} (h : w.before args s = true) (t : ∀ w ∈ B, w.before args s = true) : ∀ w' ∈ w :: B, w'.before args s = true := fun w' h' => (List.mem_cons.mp h').elim (fun e => by rw [e]; exact h) (t w')
theorem vx_n {args : Array Value} {s : State} : ∀ w ∈ ([] : List Cond), w.before args s = true := fun _ h => nomatch h
theorem vx_own {args : Array Value} {s : State} {L : List Cond} (h1 : ∀ w ∈ L.filter vx_no, w.before args s = true)
    (hU : (Cond.isRef (.static Bundle.tN "UNASSIGNED_STACK" Bundle.steD)).before args s = true) (hN : (Cond.isRef (.static Bundle.tN "SUPPRESSED_SENTINEL" Bundle.listD)).before args s = true)
    (lU : (Cond.laysStatic Bundle.tN "UNASSIGNED_STACK" Bundle.steD).before args s = true) (lN : (Cond.laysStatic Bundle.tN "SUPPRESSED_SENTINEL" Bundle.listD).before args s = true) : ∀ w ∈ L, w.before args s = true := by
  intro w hw
  by_cases e1 : w = .isRef (.static Bundle.tN "UNASSIGNED_STACK" Bundle.steD)
  · rw [e1]; exact hU
  · by_cases e2 : w = .isRef (.static Bundle.tN "SUPPRESSED_SENTINEL" Bundle.listD)
    · rw [e2]; exact hN
    · by_cases e3 : w = .laysStatic Bundle.tN "UNASSIGNED_STACK" Bundle.steD
      · rw [e3]; exact lU
      · by_cases e4 : w = .laysStatic Bundle.tN "SUPPRESSED_SENTINEL" Bundle.listD
        · rw [e4]; exact lN
        · exact h1 w (List.mem_filter.mpr ⟨hw, by unfold vx_no; rw [decide_eq_true e1, decide_eq_true e2, decide_eq_true e3, decide_eq_true e4]; rfl⟩)
/-- where a static field lies, its class's statics cell in H -/
def vx_L (C n d : String) (A : Nat → Prop) (U : State) (H : Heap) : Prop := ∃ (c : ClassId) (k : Class) (i : Nat) (f : Field) (a : Nat) (cell : Cell), U.vm.findClass C = some c ∧ U.fieldFound? C n d = some (c, k, i, f) ∧ f.isStatic = true ∧ k.statics = some a ∧ H[a]? = some cell ∧ cell.vm.isStatics = true ∧ cell.cls = c ∧ f.slot < cell.slots.size ∧ k.staticTypes[f.slot]? = some f.type ∧ ¬ A a
theorem vx_L.moved {C n d : String} {A : Nat → Prop} {u U : State} {H : Heap} (hvm : u.vm.Alike U.vm) (h : vx_L C n d A u H) : vx_L C n d A U H := by
  obtain ⟨c, k, i, f, a, cell, h1, h2, h3, h4, h5, h6, h7, h8, h9, h10⟩ := h
  obtain ⟨k', hi', he⟩ := State.fieldFound?_setVm hvm h2
  exact ⟨c, k', i, f, a, cell, by rw [hvm.findClass]; exact h1, hi', h3, by rw [he]; exact h4, h5, h6, h7, h8, by rw [he]; exact h9, h10⟩
theorem vx_L.kept {C n d : String} {A : Nat → Prop} {U : State} {H H1 : Heap} (h : vx_L C n d A U H) (hq : ∀ a : Nat, a < H.size → ¬ A a → H1[a]? = H[a]?) : vx_L C n d A U H1 := by
  obtain ⟨c, k, i, f, a, cell, h1, h2, h3, h4, h5, h6, h7, h8, h9, h10⟩ := h
  exact ⟨c, k, i, f, a, cell, h1, h2, h3, h4, by rw [hq a (Array.getElem?_eq_some_iff.mp h5).1 h10]; exact h5, h6, h7, h8, h9, h10⟩
theorem vx_L.narrow {C n d : String} {A B : Nat → Prop} {U : State} {H : Heap} (h : vx_L C n d A U H) (hAB : ∀ q, B q → A q) : vx_L C n d B U H := by
  obtain ⟨c, k, i, f, a, cell, h1, h2, h3, h4, h5, h6, h7, h8, h9, h10⟩ := h
  exact ⟨c, k, i, f, a, cell, h1, h2, h3, h4, h5, h6, h7, h8, h9, fun z => h10 (hAB _ z)⟩
theorem vx_L.word {C n d : String} {A : Nat → Prop} {s : State} {args : Array Value} (h : vx_L C n d A s s.heap) : (Cond.laysStatic C n d).before args s = true := by
  obtain ⟨c, k, i, f, a, cell, h1, h2, h3, h4, h5, h6, h7, h8, h9, -⟩ := h
  show (Cond.laysStatic C n d).holds args s none s [] = true
  exact Cond.laysStatic_of h1 h2 h3 h4 h5 h6 h7 h8 h9
/-- .. and what it holds: null or some reference -/
def vx_Zq (C n d : String) (A : Nat → Prop) (U : State) (H : Heap) : Prop := va_Zq C n d A U H ∧ vx_L C n d A U H
theorem vx_Zq.moved {C n d : String} {A : Nat → Prop} {u U : State} {H : Heap} (hvm : u.vm.Alike U.vm) (h : vx_Zq C n d A u H) : vx_Zq C n d A U H := ⟨va_Zq.moved hvm h.1, vx_L.moved hvm h.2⟩
theorem vx_Zq.kept {C n d : String} {A : Nat → Prop} {U : State} {H H1 : Heap} (h : vx_Zq C n d A U H) (hq : ∀ a : Nat, a < H.size → ¬ A a → H1[a]? = H[a]?) : vx_Zq C n d A U H1 := ⟨va_Zq.kept h.1 hq, vx_L.kept h.2 hq⟩
theorem vx_Zq.narrow {C n d : String} {A B : Nat → Prop} {U : State} {H : Heap} (h : vx_Zq C n d A U H) (hAB : ∀ q, B q → A q) : vx_Zq C n d B U H := ⟨va_Zq.narrow h.1 hAB, vx_L.narrow h.2 hAB⟩
theorem vx_Zqof {args : Array Value} {s : State} {C n d : String} {A : Nat → Prop} (hl : (Cond.laysStatic C n d).before args s = true) (hini : (Cond.initialized C).before args s = true) (h : (Cond.isRef (.static C n d)).before args s = true) (hA : ∀ a : Nat, a < s.heap.size → ¬ A a) : vx_Zq C n d A s s.heap := by
  refine ⟨va_Zqof hl hini h hA, ?_⟩
  obtain ⟨c, k, i, f, a, cell, h1, h2, h3, h4, h5, h6, h7, h8, h9⟩ := Cond.laysStatic_spec hl
  exact ⟨c, k, i, f, a, cell, h1, h2, h3, h4, h5, h6, h7, h8, h9, hA a (Array.getElem?_eq_some_iff.mp h5).1⟩
theorem vx_isRef {C n d : String} {v : Value} {A : Nat → Prop} {s : State} {args : Array Value} (h : va_Z C n d v A s s.heap) (hv : v.isRef = true) : (Cond.isRef (.static C n d)).before args s = true := by
  obtain ⟨cf, kf, fi, f, a, cell, h1, h2, h3, h4, h5, h6, h7, -⟩ := h
  have he : (Term.static C n d).eval args s none [] s = some v := by
    simp [Term.eval, State.fieldNamed?, h1, h2, h4, h5, h6, h7]
  simp only [Cond.before, Cond.holds, Cond.value, he]
  cases v <;> simp_all [Value.isRef]
theorem vx_isRefq {C n d : String} {A : Nat → Prop} {s : State} {args : Array Value} (h : va_Zq C n d A s s.heap) : (Cond.isRef (.static C n d)).before args s = true := by
  rcases h with h | ⟨t, h⟩
  · exact vx_isRef h rfl
  · exact vx_isRef h rfl
/-- the same frame, seen from here: as if the method were called anew in this heap -/
theorem vx_rebase {T : State} (X : Stand p l e R s m args below meth c T locs cells slots) {R' : Room} (hf : R'.frames ≤ R.frames) (hl : R'.locals ≤ R.locals) (hc : cells + R'.cells ≤ R.cells) (hs : slots + R'.slots ≤ R.slots) :
    Stand p l e R' ((T.setVm s.vm).setFrames (.invoking m args :: below)) m args below meth c T [] 0 0 := by
  have htop : (T.setVm s.vm).topJava?.isSome := X.here.top
  have hF : ((T.setVm s.vm).setFrames (.invoking m args :: below)).frames = .invoking m args :: below := State.frames_setFrames _ (State.cur_lt_of_top htop)
  obtain ⟨g₀, hg0⟩ := Option.isSome_iff_exists.mp htop
  obtain ⟨r, hr⟩ := State.topJava?_eq_some.mp hg0
  have hl9 : e.platform.stackLimits (T.setVm s.vm).me = e.platform.stackLimits s.me := X.limits
  have hb9 : (T.setVm s.vm).me.stackBytes = s.me.stackBytes := X.bytes
  refine ⟨X.admits, X.cas, X.clock, hF, ?_, X.hears, X.method, X.code, X.here, X.tail, X.warmed, ?_, ?_, ?_⟩
  · have h := X.room
    have hU : ((T.setVm s.vm).setFrames (.invoking m args :: below)).localsInUse = s.localsInUse := by
      rw [State.localsInUse_invoking hF (meth := meth) (c := c) X.method X.code, State.localsInUse_invoking X.frames X.method X.code]
    simp only [State.hasRoom, Bool.and_eq_true, decide_eq_true_eq] at h ⊢
    obtain ⟨⟨⟨⟨h1, h2, h3, h4, h5, h6⟩, h7⟩, h8⟩, h9⟩ := h
    rw [X.frames, List.length_cons] at h2 h3
    have q1 := X.heapSize
    have q2 := X.used
    simp only [hF, hU, List.length_cons, State.stackLimits_setFrames, State.stackBytes_setFrames, hl9, hb9]
    refine ⟨⟨⟨⟨by omega, by omega, by omega, by omega, by omega, h6⟩, ?_⟩, ?_⟩, X.book⟩
    · show T.heap.size + R'.cells ≤ e.platform.maxCells
      omega
    · show T.slotsUsed + R'.slots ≤ e.platform.maxSlots
      omega
  · rw [State.stackLimits_setFrames]; rfl
  · rw [State.stackBytes_setFrames]; rfl
  · refine ⟨?_, Nat.le_refl _, Nat.le_refl _, ?_, ?_, fun a c9 h9 => ⟨c9, h9, rfl, rfl, fun _ _ => rfl⟩⟩
    · obtain ⟨t, ht, -⟩ := State.frames_cons hr
      show T.setVm s.vm = { ((T.setVm s.vm).setFrames (.invoking m args :: below)).setFrames (T.setVm s.vm).frames with heap := T.heap, slotsUsed := T.slotsUsed }
      rw [State.setFrames_setFrames, State.setFrames_self ht]
      rfl
    · show T.slotsUsed = T.slotsUsed + ((T.heap.toList.drop T.heap.size).map (·.slots.size)).sum
      rw [List.drop_eq_nil_of_le (Nat.le_of_eq Array.length_toList)]
      rfl
    · show ((T.heap.toList.drop T.heap.size).map (·.slots.size)).sum ≤ 0
      rw [List.drop_eq_nil_of_le (Nat.le_of_eq Array.length_toList)]
      exact Nat.le_refl _
/-- 'throw new E()': new; dup; invokespecial; athrow -/
theorem vx_throw0 {cc : ByteArray} {pc : Nat} (hexec : p.tables.exec = Jvm.exec) (hb : c.code = cc) (hl : l.stackTraces = false) {own cls : String} {names : List String} {ik ic mc ms : Nat} {A : Nat → Prop}
    (hown : s.vm.findClass own = some m.cls) (hcls : Bundle.fit cls = true) (hnames : ∀ n ∈ names, Bundle.fit n = true)
    (hk : (Cond.classLink own ik cls).before args s = true) (hini : (Cond.initialized cls).before args s = true) (hat : ∀ w ∈ vx_at0 own ic cls names, w.before args s = true)
    (hgood : ∀ w ∈ Cond.classLink own ik cls :: Cond.initialized cls :: vx_at0 own ic cls names, vx_ot w = true)
    (hU : vx_Zq Bundle.tN "UNASSIGNED_STACK" Bundle.steD A s s.heap) (hN : vx_Zq Bundle.tN "SUPPRESSED_SENTINEL" Bundle.listD A s s.heap) (hS : va_S A s.heap H locs) (hsize : ls.size = c.maxLocals)
    (d0 : decode cc pc = .ok (.new ik, 3)) (d3 : decode cc (pc + 3) = .ok (.dup, 1)) (d4 : decode cc (pc + 4) = .ok (.invokespecial ic, 3)) (d7 : decode cc (pc + 7) = .ok (.athrow, 1))
    (hout : ∀ x ∈ c.exceptionTable.toList, covers x (pc + 7) = false)
    (hRframes : names.length + 3 < R.frames) (hRlocals : (rest.map fun v => v.category).sum + (13 * (names.length + 1) + 42) ≤ R.locals) (hRcells : cells + 1 ≤ R.cells) (hRslots : slots + 6 ≤ R.slots) (hlocks : meth.locks = false)
    (hx : ∀ t : State, s.vm.Alike t.vm → H.size ≤ t.heap.size → (∀ q : Nat, q < H.size → t.heap[q]? = H[q]?) → XC cls s t)
    (hf : ∀ z ∈ locs, free z.base) (hc : cells + 1 ≤ mc) (hs : slots + 6 ≤ ms) :
    W p l e R s m args below meth c H locs cells slots (vx_MQ below Qc XC args s mc ms free) (F0 m pc ls rest) := by
  intro T hT X
  have htr : e.platform.stackTraces = false := (show e.platform.stackTraces = l.stackTraces by rw [X.admits.platform]).trans hl
  have Y := vx_rebase X (R' := { frames := R.frames, locals := R.locals, cells := 1, slots := 6 }) (Nat.le_refl _) (Nat.le_refl _) hRcells hRslots
  obtain ⟨s', hA⟩ : ∃ z, z = (T.setVm s.vm).setFrames (.invoking m args :: below) := ⟨_, rfl⟩
  rw [← hA] at Y
  have hvm : s'.vm = s.vm := by rw [hA]; rfl
  have hhp : s'.heap = H := by rw [hA]; exact hT
  have hW0 : s.WarmedH s'.vm := by rw [hvm]; exact State.WarmedH.refl s
  have hat' : ∀ w ∈ vx_at0 own ic cls names, w.before args s' = true := fun w hw => vx_ot_at hW0 hvm.symm (hgood w (List.mem_cons_of_mem _ (List.mem_cons_of_mem _ hw))) (hat w hw)
  have hk' : (Cond.classLink own ik cls).before args s' = true := vx_ot_at hW0 hvm.symm (hgood _ List.mem_cons_self) hk
  have hini' : (Cond.initialized cls).before args s' = true := vx_ot_at hW0 hvm.symm (hgood _ (List.mem_cons_of_mem _ List.mem_cons_self)) hini
  have hU' : vx_Zq Bundle.tN "UNASSIGNED_STACK" Bundle.steD A s' s'.heap := by rw [hhp]; exact vx_Zq.moved hW0.alike (hU.kept hS.2.1)
  have hN' : vx_Zq Bundle.tN "SUPPRESSED_SENTINEL" Bundle.listD A s' s'.heap := by rw [hhp]; exact vx_Zq.moved hW0.alike (hN.kept hS.2.1)
  have h : ∀ w ∈ Bundle.ownAtoms0 own ic cls names, w.before args s' = true := vx_own hat' (vx_isRefq hU'.1) (vx_isRefq hN'.1) hU'.2.word hN'.2.word
  have hown' : s'.vm.findClass own = some m.cls := by rw [hvm]; exact hown
  have hins : (Cond.instantiable cls 6).before args s' = true := h _ (by simp [Bundle.ownAtoms0])
  obtain ⟨vm₁, cX, kX, hfX, hkX, -, -, X₁, st1⟩ := Y.newCold hexec (own := own) (C := cls) (index := ik) (n := 6) hown' hk' hins hini'
    (g := F0 m pc ls rest) rfl (by rw [hb]; exact d0) (Nat.le_refl _) (Nat.le_refl _)
  generalize hT1 : (T.setVm vm₁).pushCell { cls := cX, slots := kX.instanceTypes.map defaultValue, vm := .none } = T1 at X₁ st1
  have hcat : (Value.ref T.heap.size).category = 1 := rfl
  have hcellA : T1.heap[T.heap.size]? = some (freshCell cX kX) := by rw [← hT1]; exact State.heap_pushCell_size _ _
  have d3' : decode c.code (pc + 3) = .ok (.dup, 1) := by rw [hb]; exact d3
  obtain ⟨U, hsteps, hrun, hend, hW, hsame, ce, hce, hO⟩ := X₁.ctorThrow0 hexec htr (own := own) (cls := cls) (names := names) (ic := ic) hown' hcls hnames h (fun x hx => nomatch hx) hfX hkX hcellA (by rw [hhp, hT]; exact Nat.le_refl _)
    (g := { method := m, pc := pc + 4, locals := ls, stack := .ref T.heap.size :: .ref T.heap.size :: rest, locked := none }) rfl hsize rfl rfl (rest := rest) rfl
    (by rw [hb]; exact d4) (by rw [hb]; exact d7) hout hRframes (by simp only [List.map_cons, List.sum_cons, hcat]; omega) hlocks
  obtain ⟨f1, f2⟩ := vx_frame hsame
  rw [hhp] at f1 f2
  have hWs : s.WarmedH U.vm := State.WarmedH.trans hW0 hW
  have hcl : s.vm.findClass cls = some ce.cls := by
    have h9 := hO.cls
    rw [hvm] at h9
    exact h9
  have hall : s.sameButNew ({ U with vm := s.vm } : State) locs mc ms := by
    subst hA
    obtain ⟨e1, e2⟩ := hsame
    rw [State.setFrames_setFrames] at e1
    have h2 : (T.setVm s.vm).sameButNew ({ U with vm := s.vm } : State) [] (0 + 1) (0 + 6) := ⟨e1, e2⟩
    have h3 := X.same.trans h2
    rw [List.append_nil] at h3
    exact h3.mono hc hs
  refine ⟨U, ?_, .threw T.heap.size, hrun, hend, Or.inr ⟨T.heap.size, rfl, cls, ce, locs, hx U hWs.alike f1 (fun q hq => f2 q hq (fun z hz => nomatch hz)), hce, hO.vm, hcl, hWs, hall, hf⟩⟩
  refine st1 _ ?_
  show Steps p.tables e below (T1.setTop { method := m, pc := pc + 3, locals := ls, stack := .ref T.heap.size :: rest, locked := none }) _
  jvm_step X₁.here [X₁.here.top, hexec, d3', Value.category]
  exact hsteps
/-- 'throw new E("text")': new; dup; ldc; invokespecial; athrow -/
theorem vx_throwS {cc : ByteArray} {pc : Nat} (hexec : p.tables.exec = Jvm.exec) (hb : c.code = cc) (hl : l.stackTraces = false) {own cls text : String} {names : List String} {ik is ic mc ms sa : Nat} {A : Nat → Prop}
    (hown : s.vm.findClass own = some m.cls) (hcls : Bundle.fit cls = true) (hnames : ∀ n ∈ names, Bundle.fit n = true)
    (hk : (Cond.classLink own ik cls).before args s = true) (hini : (Cond.initialized cls).before args s = true) (hstr : vk_R own is text sa s) (hat : ∀ w ∈ vx_atS own ic cls names, w.before args s = true)
    (hgood : ∀ w ∈ Cond.classLink own ik cls :: Cond.initialized cls :: vx_atS own ic cls names, vx_ot w = true)
    (hU : vx_Zq Bundle.tN "UNASSIGNED_STACK" Bundle.steD A s s.heap) (hN : vx_Zq Bundle.tN "SUPPRESSED_SENTINEL" Bundle.listD A s s.heap) (hS : va_S A s.heap H locs) (hsize : ls.size = c.maxLocals)
    (d0 : decode cc pc = .ok (.new ik, 3)) (d3 : decode cc (pc + 3) = .ok (.dup, 1)) (d4 : decode cc (pc + 4) = .ok (.ldc is, 2)) (d6 : decode cc (pc + 6) = .ok (.invokespecial ic, 3)) (d9 : decode cc (pc + 9) = .ok (.athrow, 1))
    (hout : ∀ x ∈ c.exceptionTable.toList, covers x (pc + 9) = false)
    (hRframes : names.length + 3 < R.frames) (hRlocals : (rest.map fun v => v.category).sum + (13 * (names.length + 1) + 43) ≤ R.locals) (hRcells : cells + 1 ≤ R.cells) (hRslots : slots + 6 ≤ R.slots) (hlocks : meth.locks = false)
    (hx : ∀ t : State, s.vm.Alike t.vm → H.size ≤ t.heap.size → (∀ q : Nat, q < H.size → t.heap[q]? = H[q]?) → XC cls s t)
    (hf : ∀ z ∈ locs, free z.base) (hc : cells + 1 ≤ mc) (hs : slots + 6 ≤ ms) :
    W p l e R s m args below meth c H locs cells slots (vx_MQ below Qc XC args s mc ms free) (F0 m pc ls rest) := by
  intro T hT X
  have htr : e.platform.stackTraces = false := (show e.platform.stackTraces = l.stackTraces by rw [X.admits.platform]).trans hl
  have Y := vx_rebase X (R' := { frames := R.frames, locals := R.locals, cells := 1, slots := 6 }) (Nat.le_refl _) (Nat.le_refl _) hRcells hRslots
  obtain ⟨s', hA⟩ : ∃ z, z = (T.setVm s.vm).setFrames (.invoking m args :: below) := ⟨_, rfl⟩
  rw [← hA] at Y
  have hvm : s'.vm = s.vm := by rw [hA]; rfl
  have hhp : s'.heap = H := by rw [hA]; exact hT
  have hW0 : s.WarmedH s'.vm := by rw [hvm]; exact State.WarmedH.refl s
  have hat' : ∀ w ∈ vx_atS own ic cls names, w.before args s' = true := fun w hw => vx_ot_at hW0 hvm.symm (hgood w (List.mem_cons_of_mem _ (List.mem_cons_of_mem _ hw))) (hat w hw)
  have hk' : (Cond.classLink own ik cls).before args s' = true := vx_ot_at hW0 hvm.symm (hgood _ List.mem_cons_self) hk
  have hini' : (Cond.initialized cls).before args s' = true := vx_ot_at hW0 hvm.symm (hgood _ (List.mem_cons_of_mem _ List.mem_cons_self)) hini
  have hU' : vx_Zq Bundle.tN "UNASSIGNED_STACK" Bundle.steD A s' s'.heap := by rw [hhp]; exact vx_Zq.moved hW0.alike (hU.kept hS.2.1)
  have hN' : vx_Zq Bundle.tN "SUPPRESSED_SENTINEL" Bundle.listD A s' s'.heap := by rw [hhp]; exact vx_Zq.moved hW0.alike (hN.kept hS.2.1)
  have h : ∀ w ∈ Bundle.ownAtoms own ic cls names, w.before args s' = true := vx_own hat' (vx_isRefq hU'.1) (vx_isRefq hN'.1) hU'.2.word hN'.2.word
  have hown' : s'.vm.findClass own = some m.cls := by rw [hvm]; exact hown
  have hins : (Cond.instantiable cls 6).before args s' = true := h _ (by simp [Bundle.ownAtoms])
  obtain ⟨vm₁, cX, kX, hfX, hkX, -, -, X₁, st1⟩ := Y.newCold hexec (own := own) (C := cls) (index := ik) (n := 6) hown' hk' hins hini'
    (g := F0 m pc ls rest) rfl (by rw [hb]; exact d0) (Nat.le_refl _) (Nat.le_refl _)
  generalize hT1 : (T.setVm vm₁).pushCell { cls := cX, slots := kX.instanceTypes.map defaultValue, vm := .none } = T1 at X₁ st1
  have hcat : (Value.ref T.heap.size).category = 1 := rfl
  have hcellA : T1.heap[T.heap.size]? = some (freshCell cX kX) := by rw [← hT1]; exact State.heap_pushCell_size _ _
  have d3' : decode c.code (pc + 3) = .ok (.dup, 1) := by rw [hb]; exact d3
  have d4' : decode c.code (pc + 4) = .ok (.ldc is, 2) := by rw [hb]; exact d4
  have hstr' : vk_R own is text sa s' := vk_R.warm hW0 hstr
  obtain ⟨U, hsteps, hrun, hend, hW, hsame, ce, hce, hO⟩ := X₁.ctorThrowS hexec htr (own := own) (cls := cls) (names := names) (ic := ic) hown' hcls hnames h (fun x hx => nomatch hx) hfX hkX hcellA (by rw [hhp, hT]; exact Nat.le_refl _) (msg := .ref sa) rfl
    (g := { method := m, pc := pc + 6, locals := ls, stack := .ref sa :: .ref T.heap.size :: .ref T.heap.size :: rest, locked := none }) rfl hsize rfl rfl (rest := rest) rfl
    (by rw [hb]; exact d6) (by rw [hb]; exact d9) hout hRframes (by simp only [List.map_cons, List.sum_cons, hcat]; omega) hlocks
  obtain ⟨f1, f2⟩ := vx_frame hsame
  rw [hhp] at f1 f2
  have hWs : s.WarmedH U.vm := State.WarmedH.trans hW0 hW
  have hcl : s.vm.findClass cls = some ce.cls := by
    have h9 := hO.cls
    rw [hvm] at h9
    exact h9
  have hall : s.sameButNew ({ U with vm := s.vm } : State) locs mc ms := by
    subst hA
    obtain ⟨e1, e2⟩ := hsame
    rw [State.setFrames_setFrames] at e1
    have h2 : (T.setVm s.vm).sameButNew ({ U with vm := s.vm } : State) [] (0 + 1) (0 + 6) := ⟨e1, e2⟩
    have h3 := X.same.trans h2
    rw [List.append_nil] at h3
    exact h3.mono hc hs
  refine ⟨U, ?_, .threw T.heap.size, hrun, hend, Or.inr ⟨T.heap.size, rfl, cls, ce, locs, hx U hWs.alike f1 (fun q hq => f2 q hq (fun z hz => nomatch hz)), hce, hO.vm, hcl, hWs, hall, hf⟩⟩
  refine st1 _ ?_
  show Steps p.tables e below (T1.setTop { method := m, pc := pc + 3, locals := ls, stack := .ref T.heap.size :: rest, locked := none }) _
  jvm_step X₁.here [X₁.here.top, hexec, d3', Value.category]
  exact X₁.ldcString hexec (own := own) (text := text) (index := is) (a := sa) hown' hstr'.1 hstr'.2
    (g := { method := m, pc := pc + 4, locals := ls, stack := .ref T.heap.size :: .ref T.heap.size :: rest, locked := none }) rfl d4' _ hsteps
/-- 'throw new E("text")', the text by a wide index -/
theorem vx_throwSW {cc : ByteArray} {pc : Nat} (hexec : p.tables.exec = Jvm.exec) (hb : c.code = cc) (hl : l.stackTraces = false) {own cls text : String} {names : List String} {ik is ic mc ms sa : Nat} {A : Nat → Prop}
    (hown : s.vm.findClass own = some m.cls) (hcls : Bundle.fit cls = true) (hnames : ∀ n ∈ names, Bundle.fit n = true)
    (hk : (Cond.classLink own ik cls).before args s = true) (hini : (Cond.initialized cls).before args s = true) (hstr : vk_R own is text sa s) (hat : ∀ w ∈ vx_atS own ic cls names, w.before args s = true)
    (hgood : ∀ w ∈ Cond.classLink own ik cls :: Cond.initialized cls :: vx_atS own ic cls names, vx_ot w = true)
    (hU : vx_Zq Bundle.tN "UNASSIGNED_STACK" Bundle.steD A s s.heap) (hN : vx_Zq Bundle.tN "SUPPRESSED_SENTINEL" Bundle.listD A s s.heap) (hS : va_S A s.heap H locs) (hsize : ls.size = c.maxLocals)
    (d0 : decode cc pc = .ok (.new ik, 3)) (d3 : decode cc (pc + 3) = .ok (.dup, 1)) (d4 : decode cc (pc + 4) = .ok (.ldc_w is, 3)) (d7 : decode cc (pc + 7) = .ok (.invokespecial ic, 3)) (d10 : decode cc (pc + 10) = .ok (.athrow, 1))
    (hout : ∀ x ∈ c.exceptionTable.toList, covers x (pc + 10) = false)
    (hRframes : names.length + 3 < R.frames) (hRlocals : (rest.map fun v => v.category).sum + (13 * (names.length + 1) + 43) ≤ R.locals) (hRcells : cells + 1 ≤ R.cells) (hRslots : slots + 6 ≤ R.slots) (hlocks : meth.locks = false)
    (hx : ∀ t : State, s.vm.Alike t.vm → H.size ≤ t.heap.size → (∀ q : Nat, q < H.size → t.heap[q]? = H[q]?) → XC cls s t)
    (hf : ∀ z ∈ locs, free z.base) (hc : cells + 1 ≤ mc) (hs : slots + 6 ≤ ms) :
    W p l e R s m args below meth c H locs cells slots (vx_MQ below Qc XC args s mc ms free) (F0 m pc ls rest) := by
  intro T hT X
  have htr : e.platform.stackTraces = false := (show e.platform.stackTraces = l.stackTraces by rw [X.admits.platform]).trans hl
  have Y := vx_rebase X (R' := { frames := R.frames, locals := R.locals, cells := 1, slots := 6 }) (Nat.le_refl _) (Nat.le_refl _) hRcells hRslots
  obtain ⟨s', hA⟩ : ∃ z, z = (T.setVm s.vm).setFrames (.invoking m args :: below) := ⟨_, rfl⟩
  rw [← hA] at Y
  have hvm : s'.vm = s.vm := by rw [hA]; rfl
  have hhp : s'.heap = H := by rw [hA]; exact hT
  have hW0 : s.WarmedH s'.vm := by rw [hvm]; exact State.WarmedH.refl s
  have hat' : ∀ w ∈ vx_atS own ic cls names, w.before args s' = true := fun w hw => vx_ot_at hW0 hvm.symm (hgood w (List.mem_cons_of_mem _ (List.mem_cons_of_mem _ hw))) (hat w hw)
  have hk' : (Cond.classLink own ik cls).before args s' = true := vx_ot_at hW0 hvm.symm (hgood _ List.mem_cons_self) hk
  have hini' : (Cond.initialized cls).before args s' = true := vx_ot_at hW0 hvm.symm (hgood _ (List.mem_cons_of_mem _ List.mem_cons_self)) hini
  have hU' : vx_Zq Bundle.tN "UNASSIGNED_STACK" Bundle.steD A s' s'.heap := by rw [hhp]; exact vx_Zq.moved hW0.alike (hU.kept hS.2.1)
  have hN' : vx_Zq Bundle.tN "SUPPRESSED_SENTINEL" Bundle.listD A s' s'.heap := by rw [hhp]; exact vx_Zq.moved hW0.alike (hN.kept hS.2.1)
  have h : ∀ w ∈ Bundle.ownAtoms own ic cls names, w.before args s' = true := vx_own hat' (vx_isRefq hU'.1) (vx_isRefq hN'.1) hU'.2.word hN'.2.word
  have hown' : s'.vm.findClass own = some m.cls := by rw [hvm]; exact hown
  have hins : (Cond.instantiable cls 6).before args s' = true := h _ (by simp [Bundle.ownAtoms])
  obtain ⟨vm₁, cX, kX, hfX, hkX, -, -, X₁, st1⟩ := Y.newCold hexec (own := own) (C := cls) (index := ik) (n := 6) hown' hk' hins hini'
    (g := F0 m pc ls rest) rfl (by rw [hb]; exact d0) (Nat.le_refl _) (Nat.le_refl _)
  generalize hT1 : (T.setVm vm₁).pushCell { cls := cX, slots := kX.instanceTypes.map defaultValue, vm := .none } = T1 at X₁ st1
  have hcat : (Value.ref T.heap.size).category = 1 := rfl
  have hcellA : T1.heap[T.heap.size]? = some (freshCell cX kX) := by rw [← hT1]; exact State.heap_pushCell_size _ _
  have d3' : decode c.code (pc + 3) = .ok (.dup, 1) := by rw [hb]; exact d3
  have d4' : decode c.code (pc + 4) = .ok (.ldc_w is, 3) := by rw [hb]; exact d4
  have hstr' : vk_R own is text sa s' := vk_R.warm hW0 hstr
  obtain ⟨U, hsteps, hrun, hend, hW, hsame, ce, hce, hO⟩ := X₁.ctorThrowS hexec htr (own := own) (cls := cls) (names := names) (ic := ic) hown' hcls hnames h (fun x hx => nomatch hx) hfX hkX hcellA (by rw [hhp, hT]; exact Nat.le_refl _) (msg := .ref sa) rfl
    (g := { method := m, pc := pc + 7, locals := ls, stack := .ref sa :: .ref T.heap.size :: .ref T.heap.size :: rest, locked := none }) rfl hsize rfl rfl (rest := rest) rfl
    (by rw [hb]; exact d7) (by rw [hb]; exact d10) hout hRframes (by simp only [List.map_cons, List.sum_cons, hcat]; omega) hlocks
  obtain ⟨f1, f2⟩ := vx_frame hsame
  rw [hhp] at f1 f2
  have hWs : s.WarmedH U.vm := State.WarmedH.trans hW0 hW
  have hcl : s.vm.findClass cls = some ce.cls := by
    have h9 := hO.cls
    rw [hvm] at h9
    exact h9
  have hall : s.sameButNew ({ U with vm := s.vm } : State) locs mc ms := by
    subst hA
    obtain ⟨e1, e2⟩ := hsame
    rw [State.setFrames_setFrames] at e1
    have h2 : (T.setVm s.vm).sameButNew ({ U with vm := s.vm } : State) [] (0 + 1) (0 + 6) := ⟨e1, e2⟩
    have h3 := X.same.trans h2
    rw [List.append_nil] at h3
    exact h3.mono hc hs
  refine ⟨U, ?_, .threw T.heap.size, hrun, hend, Or.inr ⟨T.heap.size, rfl, cls, ce, locs, hx U hWs.alike f1 (fun q hq => f2 q hq (fun z hz => nomatch hz)), hce, hO.vm, hcl, hWs, hall, hf⟩⟩
  refine st1 _ ?_
  show Steps p.tables e below (T1.setTop { method := m, pc := pc + 3, locals := ls, stack := .ref T.heap.size :: rest, locked := none }) _
  jvm_step X₁.here [X₁.here.top, hexec, d3', Value.category]
  exact X₁.ldcStringW hexec (own := own) (text := text) (index := is) (a := sa) hown' hstr'.1 hstr'.2
    (g := { method := m, pc := pc + 4, locals := ls, stack := .ref T.heap.size :: .ref T.heap.size :: rest, locked := none }) rfl d4' _ hsteps
end Ends
section Bodies
variable {l : Launch}
theorem vx_ofW {y : MethodName} {ws ws' : List Cond} {rm : Room} {Pc : Array Value → State → Prop} {Qc : Array Value → State → Outcome → State → Prop} {XC : String → State → State → Prop} {mc ms : Nat} {free : Addr → Prop} {cc : ByteArray} {maxL : Nat} {ret : Option FieldType}
    (hy : plainName y.cls = true) (hw : ws = Cond.code y cc maxL ret :: ws')
    (body : ∀ p e s m args below meth c s₁, BodyLoose p l y (headSpec ws rm) cc maxL ret e s m args below meth c s₁ → c.maxLocals = maxL → (∀ x ∈ c.exceptionTable.toList, False) → Pc args s →
      W p l e (headSpec ws rm).room s m args below meth c s.heap [] 0 0 (vx_MQ below Qc XC args s mc ms free) (entryFrame m args maxL)) : vx_Met l y ws rm Pc Qc XC mc ms free := by
  refine MetFree.of_bodyS (code := cc) (maxLocals := maxL) (ret := ret) hy ?_ ?_
  · intro args s m h hn
    obtain ⟨meth, c, h1, h2, h3, h4, h5, h6, -, -⟩ := Cond.code_spec hn (atoms_spec (ws := ws) h _ (by rw [hw]; exact List.mem_cons_self))
    exact ⟨meth, c, h1, h2, h3, h4, h5, h6⟩
  · intro p e s m args below meth c s₁ B hml hP _
    have hh0 : s₁.heap = s.heap := by rw [B.state]; rfl
    have ht : ∀ x ∈ c.exceptionTable.toList, False := by
      obtain ⟨meth9, c9, h1, h2, -, -, -, -, h7, -⟩ := Cond.code_spec B.named (atoms_spec (ws := ws) B.pre _ (by rw [hw]; exact List.mem_cons_self))
      cases Option.some.inj (h1.symm.trans B.method)
      cases Option.some.inj (h2.symm.trans (Stand.of_body B).code)
      intro x hx
      rw [Array.isEmpty_iff.mp h7] at hx
      cases hx
    obtain ⟨t, a1, o, b1, b2, b3⟩ := body p e s m args below meth c s₁ B hml ht hP s₁ hh0 (Stand.of_body B)
    exact ⟨t, o, a1, b1, b2, b3⟩
/-- the table of a body with handlers -/
theorem vx_table {p : Program} {x y : MethodName} {S : Spec} {cc bytes : ByteArray} {maxL maxL' : Nat} {ret ret' : Option FieldType} {e : Env} {s s₁ : State} {m : MethodId} {args : Array Value} {below : List Frame} {meth : Method} {c : Code} {hh : List (Nat × Nat × Nat × Nat)}
    (B : BodyLoose p l y S cc maxL ret e s m args below meth c s₁) (h : (Cond.codeWith y bytes maxL' ret' hh).before args s = true) : c.exceptionTable.toList = tableOf hh := by
  obtain ⟨m9, meth9, c9, hn9, h1, h2, -, -, h6, -⟩ := Cond.codeWith_spec h
  cases Option.some.inj (hn9.symm.trans B.named)
  cases Option.some.inj (h1.symm.trans B.method)
  cases Option.some.inj (h2.symm.trans (Stand.of_body B).code)
  rw [← h6, table_eq]
end Bodies
end VXA
/-! ===== END ===== -/
/-! ===== BEGIN a static call of a method with an exception table ===== -/
section VXS
variable {p : Program} {l : Launch} {e : Env} {R : Room} {s : State} {m : MethodId} {args : Array Value} {below : List Frame} {meth : Method} {c : Code} {T : State} {H : Heap} {locs : List Loc} {cells slots : Nat}
abbrev vx_CSW (R : Room) (s : State) (args : Array Value) (own : String) (index : Nat) (y : MethodName) (bytes : ByteArray) (maxL : Nat) (ret : Option FieldType) (hh : List (Nat × Nat × Nat × Nat)) (ws : List Cond) (rm : Room) (mc ms n : Nat) : Prop :=
  (rm.cells = mc ∧ rm.slots = ms ∧ rm.frames + 1 ≤ R.frames ∧ 8 + (maxL + 11) + rm.locals ≤ R.locals ∧ (∀ w ∈ ws, ∀ (a' : Array Value) (U : State), s.WarmedH U.vm → w.before a' U = true) ∧ Cond.codeWith y bytes maxL ret hh ∈ ws) ∧
  (Cond.codeWith y bytes maxL ret hh).before args s = true ∧ (Cond.initialized y.cls).before args s = true ∧ (y.cls ≠ "java/lang/invoke/MethodHandle" ∧ y.cls ≠ "java/lang/invoke/VarHandle") ∧
  (∀ sig, parseMethodDescriptor y.desc = some sig → n = sig.parameters.length) ∧ (Cond.methodLink own index y).before args s = true ∧ (Cond.static y).before args s = true
theorem vx_cwSW {own : String} {index maxL mc ms : Nat} {y : MethodName} {bytes : ByteArray} {ret : Option FieldType} {hh : List (Nat × Nat × Nat × Nat)} {Ts ws ws' : List Cond} {rm : Room} (n : Nat) (ht : ∀ w ∈ Ts, w.before args s = true) (hT : GoodIn Ts (va_wsS own index y ws)) (hw : ws = Cond.codeWith y bytes maxL ret hh :: ws') (hrc : rm.cells = mc) (hrs : rm.slots = ms)
    (hd : y.cls ≠ "java/lang/invoke/MethodHandle" ∧ y.cls ≠ "java/lang/invoke/VarHandle" ∧ (parseMethodDescriptor y.desc).map (fun d => d.parameters.length) = some n) (hR : rm.frames + 1 ≤ R.frames ∧ 8 + (maxL + 11) + rm.locals ≤ R.locals) :
    vx_CSW R s args own index y bytes maxL ret hh ws rm mc ms n := by
  have ok : ∀ w ∈ va_wsS own index y ws, w.before args s = true := fun w h => ht w (hT w h).1
  have hG : GoodIn Ts ws := fun w h => hT w (by unfold va_wsS; exact List.mem_append_right _ h)
  have hc : Cond.codeWith y bytes maxL ret hh ∈ ws := by rw [hw]; exact List.mem_cons_self
  refine ⟨⟨hrc, hrs, hR.1, hR.2, pay_in ht hG, hc⟩, ht _ (hG _ hc).1, ok _ (by simp [va_wsS]), ⟨hd.1, hd.2.1⟩, fun sig h => ?_, ok _ (by simp [va_wsS]), ok _ (by simp [va_wsS])⟩
  have h2 := hd.2.2
  rw [h] at h2
  exact (Option.some.inj h2).symm
theorem vx_callSW (X : Stand p l e R s m args below meth c T locs cells slots) (hexec : p.tables.exec = Jvm.exec) {own : String} {index : Nat} {y : MethodName} {bytes : ByteArray} {maxL : Nat} {ret : Option FieldType} {hh : List (Nat × Nat × Nat × Nat)}
    (hown : s.vm.findClass own = some m.cls) (hlink : (Cond.methodLink own index y).before args s = true) (hstat : (Cond.static y).before args s = true) (hinit : (Cond.initialized y.cls).before args s = true)
    (hcode : (Cond.codeWith y bytes maxL ret hh).before args s = true) (hy : y.cls ≠ "java/lang/invoke/MethodHandle" ∧ y.cls ≠ "java/lang/invoke/VarHandle")
    {W9 : Nat} {Pre : Pt → Array Value → Prop} {Post : Pt → Array Value → Option Value → Pt → Prop} (hK : Back l R p e below s args y 3 W9 Pre Post)
    {g : JFrame} (hg : g.method = m) (hsize : g.locals.size = c.maxLocals) {argsL rest : List Value} (hlen : ∀ sig, parseMethodDescriptor y.desc = some sig → argsL.length = sig.parameters.length)
    (hstack : g.stack = argsL.reverse ++ rest) (hW : 2 * g.monitorRoom + (rest.map fun v => v.category).sum ≤ W9) (hdg : decode c.code g.pc = .ok (.invokestatic index, 3))
    (hpre : ∀ vm₁, s.WarmedH vm₁ → Pre ⟨T.setVm vm₁, locs, cells, slots⟩ argsL.toArray) :
    ∃ (v : Option Value) (vm₁ : Vm) (B : Pt), s.WarmedH vm₁ ∧ Stand p l e R s m args below meth c B.U B.locs B.cells B.slots ∧ Post ⟨T.setVm vm₁, locs, cells, slots⟩ argsL.toArray v B ∧
      ∀ target, Steps p.tables e below (B.U.setTop { g with pc := g.pc + 3, stack := v.toList ++ rest }) target → Steps p.tables e below (T.setTop g) target := by
  obtain ⟨mk, methM, cM, hnamed, hmethM, -, -, -, -, -, -, hsigM⟩ := Cond.codeWith_spec hcode
  have hstatic : methM.isStatic = true := Cond.static_spec hnamed hmethM hstat
  obtain ⟨kP, hkP, -⟩ := className_of_methodNamed hnamed
  have hinitP : kP.init = .initialized := Cond.initialized_spec (findClass_of_methodNamed hnamed) hkP hinit
  obtain ⟨vm₁, X₁, hstep₁⟩ := X.invokestatic hexec hown hlink hnamed hmethM hstatic hkP hinitP hy (g := g) hg (argsL := argsL) (rest := rest) (hlen _ hsigM) hstack hdg
  obtain ⟨v, B, X', hpost, hsteps⟩ := hK m meth c ⟨T.setVm vm₁, locs, cells, slots⟩ { g with stack := rest } (.invokestatic index) mk argsL.toArray X₁ hg hsize hdg hW (X₁.named hnamed) (hpre vm₁ X₁.warmed)
  exact ⟨v, vm₁, B, X₁.warmed, X', hpost, fun target h => hstep₁ _ fun acts => by rw [doInvoke_state]; exact hsteps.trans h⟩
theorem vx_runSW {y : MethodName} {bytes cc : ByteArray} {maxL nL mc ms n index : Nat} {ret : Option FieldType} {hh : List (Nat × Nat × Nat × Nat)} {ws : List Cond} {rm : Room} {Pc : Array Value → State → Prop} {Qc : Array Value → State → Outcome → State → Prop} {free : Addr → Prop} {Ts : List Cond} {own : String} {As rest : List Value} {g : JFrame}
    (S : CallFix p m c cc nL s args Ts own) (hM : Met l y ws rm Pc Qc mc ms free) (cw : vx_CSW R s args own index y bytes maxL ret hh ws rm mc ms n) (hp : PreS s H Pc As)
    (hg : g.method = m) (hn : As.length = n) (hsize : g.locals.size = nL) (hstack : g.stack = As.reverse ++ rest) (hW : 2 * g.monitorRoom + (rest.map fun v => v.category).sum ≤ 8) (hdg : decode cc g.pc = .ok (.invokestatic index, 3)) (hf : cells + mc ≤ R.cells ∧ slots + ms ≤ R.slots) :
    va_Run p l e R s m args below meth c H locs cells slots mc ms g rest (Qc As.toArray) (free) := by
  obtain ⟨⟨hrc, hrs, hfr, hlo, hws, hcw⟩, hcode, hini, hy, hlen, hl, hstt⟩ := cw
  have hK : Back l R p e below s args y 3 8 (PreOf R mc ms Pc) (PostOf Qc mc ms free) := va_backW (hh := hh) (bytes := bytes) (maxL := maxL) (ret := ret) hM hp.1 hrc hrs hfr hlo hws hcw (fun a' U hW => word_at hW (Or.inl (by first | rfl | simp [Cond.onTables, Cond.keeps, Cond.steady])) hini)
  obtain ⟨hx, hb, hml, ho, -⟩ := S
  intro T hT X
  obtain ⟨v, vm₁, ⟨U', l2, c2, s2⟩, hW₁, X', ⟨g', mk, t, L, e1, e2, hq, h1, hL, h2, h3⟩, st⟩ := vx_callSW X hx (hh := hh) (bytes := bytes) (maxL := maxL) (ret := ret) ho hl hstt hini hcode hy hK hg (hsize.trans hml.symm) (argsL := As) (rest := rest) (fun sig h => hn.trans (hlen sig h)) hstack hW (by rw [hb]; exact hdg)
    (fun vm₁ hW₁ => ⟨hf.1, hf.2, hp.2 (T.setVm vm₁) hT hW₁⟩)
  dsimp only [Pt.U, Pt.locs, Pt.cells, Pt.slots] at X' e1 e2 h1 h2 h3 st
  subst h1; subst h2; subst h3
  exact ⟨v, (T.setVm vm₁).calling g' mk As.toArray, t, U', L, hT, X', hL, e1, e2, hq, st⟩
/-- not caught here, past rows that name other classes: it goes on to the caller -/
theorem vx_outP {p : Program} {l : Launch} {e : Env} {R : Room} {s : State} {m : MethodId} {args : Array Value} {below : List Frame} {meth : Method} {c : Code} {H : Heap} {locs : List Loc} {cells slots : Nat} {free : Addr → Prop} {ls : Array Slot} {rest : List Value} {Qc : Array Value → State → Outcome → State → Prop} {XC : String → State → State → Prop}
    {pc : Nat} {own E : String} {ce : Cell} {q : Addr} {mc ms : Nat} (hown : s.vm.findClass own = some m.cls) (hlocks : meth.locks = false)
    (hpass : ∀ z ∈ c.exceptionTable.toList, covers z pc = false ∨ (z.catchType ≠ 0 ∧ ∃ nm : String, (Cond.classLink own z.catchType nm).before args s = true ∧ va_Nc E nm s)) (hcell : H[q]? = some ce) (hv : ce.vm = .none) (hcl : s.vm.findClass E = some ce.cls)
    (hx : ∀ t : State, t.heap = H → s.vm.Alike t.vm → XC E s t) (hf : ∀ z ∈ locs, free z.base) (hc : cells ≤ mc) (hs : slots ≤ ms) :
    vx_W p l e R s m args below meth c H locs cells slots (vx_MQ below Qc XC args s mc ms free) (F0 m pc ls rest) q := by
  intro T hT X
  have hpl : e.platform.magicAccessors = ({} : Platform).magicAccessors := by rw [X.admits.platform]
  obtain ⟨vm', hW', X', st⟩ := X.outThrough hlocks q (g := F0 m pc ls rest) rfl rfl rfl (cell := ce) (by rw [hT]; exact hcell) (by rw [hv]; rfl)
    (by obtain ⟨k9, h9, -⟩ := Vm.findClass_spec hcl; exact ⟨k9, h9⟩) (fun z hz => by
      rcases hpass z hz with h | ⟨hz0, nm, hl1, hn1⟩
      · exact Or.inl h
      · obtain ⟨c6, hc6, hcl6⟩ := Cond.classLink_spec hown hl1 e.platform hpl
        obtain ⟨a8, b8, h1, h2, h3⟩ := hn1
        cases Option.some.inj (h1.symm.trans hcl)
        cases Option.some.inj (h2.symm.trans hc6)
        exact Or.inr ⟨hz0, _, hcl6, h3⟩)
  obtain ⟨g₀, hfr⟩ := X'.frames_eq
  have hcell9 : ((T.setVm vm').setFrames (.throwing q :: below)).heap[q]? = some ce := by
    show T.heap[q]? = some ce
    rw [hT]; exact hcell
  have hend : Ended ((T.setVm vm').setFrames (.throwing q :: below)) below (.threw q) := State.frames_setFrames _ (State.cur_lt_of_frames hfr)
  refine ⟨(T.setVm vm').setFrames (.throwing q :: below), ?_, .threw q, X'.here.running, hend, Or.inr ⟨q, rfl, E, ce, locs, hx _ hT (X'.ends _).1.alike, hcell9, hv, hcl, (X'.ends _).1, (X'.ends _).2.mono hc hs, hf⟩⟩
  rw [X.pushThrowing_eq]
  exact st
/-- a thing of a world lies in the heap -/
theorem vx_lt {D : va_G} {cl : List vw_C} {ws : va_W} {H1 : Heap} (h : va_P D cl ws H1) {k : Nat} {q : Nat × va_E} (hk : ws[k]? = some q) : q.1 < H1.size := (h k q hk).lt
end VXS
/-! ===== END ===== -/
/-! ===== BEGIN methods with a table of their own: called by a name, returning or throwing ===== -/
section VXH
/-! vx_backW, vx_callVX, vx_callSX, vx_callVW, vx_runVW, vx_runVX, vx_runSX, vx_ofWH follow the same proofs as their sisters above (Free/Laws.lean, Shelf42/LK1.lean); vx_outP calls Shelf42/NT130.lean (outThrough). -/
section
variable {l : Launch} {R : Room} {p : Program} {e : Env} {below : List Frame} {s : State} {sargs : Array Value} {y : MethodName} {len W9 : Nat}
theorem vx_backW {ws : List Cond} {rm : Room} {Pc : Array Value → State → Prop} {Qc : Array Value → State → Outcome → State → Prop} {XC : String → State → State → Prop} {mc ms : Nat} {free : Addr → Prop} {bytes : ByteArray} {maxL : Nat} {ret : Option FieldType} {hh : List (Nat × Nat × Nat × Nat)}
    (hM : vx_Met l y ws rm Pc Qc XC mc ms free) (hblind : FrameBlind Pc) (hrc : rm.cells = mc) (hrs : rm.slots = ms)
    (hframes : rm.frames + 1 ≤ R.frames) (hlocals : W9 + (maxL + 11) + rm.locals ≤ R.locals)
    (hws : ∀ w ∈ ws, ∀ a' U, s.WarmedH U.vm → w.before a' U = true) (hcode : Cond.codeWith y bytes maxL ret hh ∈ ws) (hinit : ∀ a' U, s.WarmedH U.vm → (Cond.initialized y.cls).before a' U = true) :
    vx_Back l R p e below s sargs y len W9 (PreOf R mc ms Pc) (PostOf Qc mc ms free) (vx_Post XC mc ms free) := by
  intro m meth c A g ig mk a X hg hsize hdg hW hn hp
  have h1 : (headSpec ws rm).pre.before a A.U = true := atoms_intro fun w hw => hws w hw _ _ X.warmed
  have h2 : (Cond.codeWith y bytes maxL ret hh).before a A.U = true := hws _ hcode _ _ X.warmed
  have h3 : (Cond.initialized y.cls).before a A.U = true := hinit _ _ X.warmed
  have h4 : A.cells + (headSpec ws rm).room.cells ≤ R.cells := by rw [show (headSpec ws rm).room.cells = mc from hrc]; exact hp.1
  have h5 : A.slots + (headSpec ws rm).room.slots ≤ R.slots := by rw [show (headSpec ws rm).room.slots = ms from hrs]; exact hp.2.1
  have hPc : Pc a (A.U.calling g mk a) := hblind _ _ _ _ hp.2.2
  obtain ⟨U, Ls, c0, s0⟩ := A
  dsimp only [Pt.U, Pt.locs, Pt.cells, Pt.slots] at h1 h2 h3 h4 h5 X hn hPc ⊢
  obtain ⟨m9, methY, cY, hn9, hmY, hcY, -, hlY, -⟩ := Cond.codeWith_spec h2
  cases Option.some.inj (hn9.symm.trans hn)
  obtain ⟨kY, hkY, -⟩ := className_of_methodNamed hn
  have hinitY : kY.init = .initialized := Cond.initialized_spec (findClass_of_methodNamed hn) hkY h3
  have h : At U g.method c below := by rw [hg]; exact X.here
  have hlocals9 : W9 + (maxL + 11) + (headSpec ws rm).room.locals ≤ R.locals := hlocals
  have happ : (headSpec ws rm).appliesLoose y e.platform (U.calling g mk a) = true :=
    Spec.appliesLoose_calling (g := g) h hdg hn hkY hinitY
      (X.room_calling (g := g) (R' := (headSpec ws rm).room) hsize hmY hcY hframes (by rw [hlY]; omega) h4 h5) h1
  obtain ⟨mid, hmid⟩ := h.above
  have hfr : (U.setTop g).frames = (.java g :: mid) ++ below := by rw [State.frames_setTop' g h.top, hmid]; rfl
  obtain ⟨o, s₂, hsteps, -, hend, hq⟩ := Steps.callFree hM p X.admits X.cas X.clock (acts := []) hfr happ hPc trivial
  have hq' : vx_Q Qc XC mc ms free a (U.calling g mk a) o s₂ := hq
  rw [State.frames_setTop' g h.top] at hend
  obtain ⟨g₀, hg0⟩ := Option.isSome_iff_exists.mp h.top
  obtain ⟨r, hr⟩ := State.topJava?_eq_some.mp hg0
  have hr' : (({ U with heap := s₂.heap, slotsUsed := s₂.slotsUsed } : State).setVm s₂.vm).frames = .java g₀ :: r := hr
  rcases hq' with ⟨hqc, L, hfe, hL⟩ | ⟨q, rfl, E, ce, L, hx, hce, hcv, hcl, hW₂, hsm, hL⟩
  · obtain ⟨⟨v, rfl⟩, hW₂, e2, q2, q3, q4, q5, q6⟩ := id hfe
    have e3 : s₂ = ({ (U.calling g mk a).setFrames s₂.frames with heap := s₂.heap, slotsUsed := s₂.slotsUsed } : State).setVm s₂.vm := by
      have : s₂ = ({ s₂ with vm := (U.calling g mk a).vm } : State).setVm s₂.vm := rfl
      rw [e2] at this
      exact this
    obtain ⟨c₂, i₂, len₂, hc₂, hd₂, hf₂⟩ := hend
    have hW' : U.WarmedH s₂.vm := hW₂
    have hcc : c₂ = c := by
      have h1 : s₂.code? g.method = U.code? g.method := by
        rw [State.code?_eq, State.code?_eq, hW'.alike.method?]
      exact Option.some.inj (hc₂.symm.trans (h1.trans h.code))
    subst hcc
    have hlen : len₂ = len := by rw [hdg] at hd₂; cases hd₂; rfl
    subst hlen
    have hs₂ : s₂ = (({ U with heap := s₂.heap, slotsUsed := s₂.slotsUsed } : State).setVm s₂.vm).setTop { g with pc := g.pc + len₂, stack := v.toList ++ g.stack } := by
      refine e3.trans ?_
      rw [hf₂, State.calling_eq h.top, State.setFrames_setFrames, State.setTop_of_frames _ hr', hr]
      rfl
    have hsame : U.sameButNew ({ U with heap := s₂.heap, slotsUsed := s₂.slotsUsed } : State) L mc ms := by
      refine ⟨?_, q2, q3, q4, q5, q6⟩
      obtain ⟨t, ht, -⟩ := State.frames_cons hr
      show ({ U with heap := s₂.heap, slotsUsed := s₂.slotsUsed } : State) = { U.setFrames U.frames with heap := s₂.heap, slotsUsed := s₂.slotsUsed }
      rw [State.setFrames_self ht]
    subst hg
    refine Or.inl ⟨v, ⟨(({ U with heap := s₂.heap, slotsUsed := s₂.slotsUsed } : State).setVm s₂.vm), Ls ++ L, c0 + mc, s0 + ms⟩,
      ⟨X.admits, X.cas, X.clock, X.frames, X.room, X.hears, X.method, X.code, (X.here.setHeapUsed s₂.heap s₂.slotsUsed).setVm hW'.alike, X.tail, State.WarmedH.trans X.warmed hW', X.limits, X.bytes, X.same.trans (hsame.setVm s.vm)⟩,
      ⟨g, mk, s₂, L, rfl, rfl, hqc, rfl, hL, rfl, rfl⟩, ?_⟩
    show Steps p.tables e below _ ((({ U with heap := s₂.heap, slotsUsed := s₂.slotsUsed } : State).setVm s₂.vm).setTop { g with pc := g.pc + len₂, stack := v.toList ++ g.stack })
    rw [← hs₂]
    exact hsteps
  · obtain ⟨e2, q2, q3, q4, q5, q6⟩ := id hsm
    have e3 : s₂ = ({ (U.calling g mk a).setFrames s₂.frames with heap := s₂.heap, slotsUsed := s₂.slotsUsed } : State).setVm s₂.vm := by
      have : s₂ = ({ s₂ with vm := (U.calling g mk a).vm } : State).setVm s₂.vm := rfl
      rw [e2] at this
      exact this
    have hf₂ : s₂.frames = .throwing q :: .java g :: U.frames.tail := hend
    have hW' : U.WarmedH s₂.vm := hW₂
    have hs₂ : s₂ = ((({ U with heap := s₂.heap, slotsUsed := s₂.slotsUsed } : State).setVm s₂.vm).setTop g).pushFrame (.throwing q) := by
      refine e3.trans ?_
      rw [hf₂, State.calling_eq h.top, State.setFrames_setFrames, State.pushFrame, State.frames_setTop _ hr', State.setTop_of_frames _ hr', State.setFrames_setFrames, hr]
      rfl
    have hsame : U.sameButNew ({ U with heap := s₂.heap, slotsUsed := s₂.slotsUsed } : State) L mc ms := by
      refine ⟨?_, q2, q3, q4, q5, q6⟩
      obtain ⟨t, ht, -⟩ := State.frames_cons hr
      show ({ U with heap := s₂.heap, slotsUsed := s₂.slotsUsed } : State) = { U.setFrames U.frames with heap := s₂.heap, slotsUsed := s₂.slotsUsed }
      rw [State.setFrames_self ht]
    subst hg
    refine Or.inr ⟨q, ⟨(({ U with heap := s₂.heap, slotsUsed := s₂.slotsUsed } : State).setVm s₂.vm), Ls ++ L, c0 + mc, s0 + ms⟩,
      ⟨X.admits, X.cas, X.clock, X.frames, X.room, X.hears, X.method, X.code, (X.here.setHeapUsed s₂.heap s₂.slotsUsed).setVm hW'.alike, X.tail, State.WarmedH.trans X.warmed hW', X.limits, X.bytes, X.same.trans (hsame.setVm s.vm)⟩,
      ⟨g, mk, s₂, L, E, ce, rfl, rfl, hx, hce, hcv, hcl, rfl, hL, rfl, rfl⟩, ?_⟩
    show Steps p.tables e below _ (((({ U with heap := s₂.heap, slotsUsed := s₂.slotsUsed } : State).setVm s₂.vm).setTop g).pushFrame (.throwing q))
    rw [← hs₂]
    exact hsteps
end
variable {p : Program} {l : Launch} {e : Env} {R : Room} {s : State} {m : MethodId} {args : Array Value} {below : List Frame} {meth : Method} {c : Code} {T : State} {H : Heap} {locs : List Loc} {cells slots : Nat}
theorem vx_callVX (X : Stand p l e R s m args below meth c T locs cells slots) (hexec : p.tables.exec = Jvm.exec) {own C : String} {index : Nat} {y : MethodName} {bytes : ByteArray} {maxL : Nat} {ret : Option FieldType} {hh : List (Nat × Nat × Nat × Nat)}
    (hown : s.vm.findClass own = some m.cls) (hlink : (Cond.methodLink own index y).before args s = true) (hinst : (Cond.instanceMethod y).before args s = true) (hsel : (Cond.selects C y y).before args s = true)
    (hcode : (Cond.codeWith y bytes maxL ret hh).before args s = true) (hy : y.cls ≠ "java/lang/invoke/MethodHandle" ∧ y.cls ≠ "java/lang/invoke/VarHandle")
    {W9 : Nat} {Pre : Pt → Array Value → Prop} {Post : Pt → Array Value → Option Value → Pt → Prop} {PostX : Pt → Array Value → Addr → Pt → Prop} (hK : vx_Back l R p e below s args y 3 W9 Pre Post PostX)
    {b : Addr} {cellB : Cell} (hcell : T.heap[b]? = some cellB) (hobj : cellB.vm.isStatics = false) (hcls : s.vm.findClass C = some cellB.cls)
    {g : JFrame} (hg : g.method = m) (hsize : g.locals.size = c.maxLocals) {argsL rest : List Value} (hlen : ∀ sig, parseMethodDescriptor y.desc = some sig → argsL.length = sig.parameters.length)
    (hstack : g.stack = argsL.reverse ++ .ref b :: rest) (hW : 2 * g.monitorRoom + (rest.map fun v => v.category).sum ≤ W9) (hdg : decode c.code g.pc = .ok (.invokevirtual index, 3))
    (hpre : ∀ vm₁, s.WarmedH vm₁ → Pre ⟨T.setVm vm₁, locs, cells, slots⟩ (Value.ref b :: argsL).toArray) :
    (∃ (v : Option Value) (vm₁ : Vm) (B : Pt), s.WarmedH vm₁ ∧ Stand p l e R s m args below meth c B.U B.locs B.cells B.slots ∧ Post ⟨T.setVm vm₁, locs, cells, slots⟩ (Value.ref b :: argsL).toArray v B ∧
      ∀ target, Steps p.tables e below (B.U.setTop { g with pc := g.pc + 3, stack := v.toList ++ rest }) target → Steps p.tables e below (T.setTop g) target) ∨
    (∃ (q : Addr) (vm₁ : Vm) (B : Pt), s.WarmedH vm₁ ∧ Stand p l e R s m args below meth c B.U B.locs B.cells B.slots ∧ PostX ⟨T.setVm vm₁, locs, cells, slots⟩ (Value.ref b :: argsL).toArray q B ∧
      Steps p.tables e below (T.setTop g) ((B.U.setTop { g with stack := rest }).pushFrame (.throwing q))) := by
  obtain ⟨mk, methM, hnamed, hmethM, hstM, habM⟩ := Cond.instanceMethod_spec hinst
  obtain ⟨m8, methM', cM, hn8, hmethM', -, -, -, -, -, -, hsigM⟩ := Cond.codeWith_spec hcode
  cases Option.some.inj (hn8.symm.trans hnamed)
  cases hmethM.symm.trans hmethM'
  obtain ⟨c2, r2, m2, q1, q2, q3, q4, kP, hkP, hkPi⟩ := Cond.selects_spec hsel
  cases hcls.symm.trans q1
  cases (State.methodFound?_of_named hnamed hy).symm.trans q2
  cases hnamed.symm.trans q3
  have hselP : selectMethod e.platform s.vm cellB.cls mk = .method mk := by rw [Launch.admits_selectMethod X.admits]; exact q4
  obtain ⟨vm₁, X₁, hstep₁⟩ := X.invokevirtual hexec hown hlink hnamed hmethM hstM hkP hkPi hy (a := b) (cell := cellB) hcell
    (fun z h => by rw [h] at hobj; cases hobj) hselP hmethM habM hkP hkPi (g := g) hg (argsL := argsL) (rest := rest) (hlen _ hsigM) hstack hdg
  rcases hK m meth c ⟨T.setVm vm₁, locs, cells, slots⟩ { g with stack := rest } (.invokevirtual index) mk (Value.ref b :: argsL).toArray X₁ hg hsize hdg hW (X₁.named hnamed) (hpre vm₁ X₁.warmed) with ⟨v, B, X', hpost, hsteps⟩ | ⟨q, B, X', hpost, hsteps⟩
  · exact Or.inl ⟨v, vm₁, B, X₁.warmed, X', hpost, fun target h => hstep₁ _ fun acts => by rw [doInvoke_state]; exact hsteps.trans h⟩
  · exact Or.inr ⟨q, vm₁, B, X₁.warmed, X', hpost, hstep₁ _ fun acts => by rw [doInvoke_state]; exact hsteps⟩
theorem vx_callSX (X : Stand p l e R s m args below meth c T locs cells slots) (hexec : p.tables.exec = Jvm.exec) {own : String} {index : Nat} {y : MethodName} {bytes : ByteArray} {maxL : Nat} {ret : Option FieldType} {hh : List (Nat × Nat × Nat × Nat)}
    (hown : s.vm.findClass own = some m.cls) (hlink : (Cond.methodLink own index y).before args s = true) (hstat : (Cond.static y).before args s = true) (hinit : (Cond.initialized y.cls).before args s = true)
    (hcode : (Cond.codeWith y bytes maxL ret hh).before args s = true) (hy : y.cls ≠ "java/lang/invoke/MethodHandle" ∧ y.cls ≠ "java/lang/invoke/VarHandle")
    {W9 : Nat} {Pre : Pt → Array Value → Prop} {Post : Pt → Array Value → Option Value → Pt → Prop} {PostX : Pt → Array Value → Addr → Pt → Prop} (hK : vx_Back l R p e below s args y 3 W9 Pre Post PostX)
    {g : JFrame} (hg : g.method = m) (hsize : g.locals.size = c.maxLocals) {argsL rest : List Value} (hlen : ∀ sig, parseMethodDescriptor y.desc = some sig → argsL.length = sig.parameters.length)
    (hstack : g.stack = argsL.reverse ++ rest) (hW : 2 * g.monitorRoom + (rest.map fun v => v.category).sum ≤ W9) (hdg : decode c.code g.pc = .ok (.invokestatic index, 3))
    (hpre : ∀ vm₁, s.WarmedH vm₁ → Pre ⟨T.setVm vm₁, locs, cells, slots⟩ argsL.toArray) :
    (∃ (v : Option Value) (vm₁ : Vm) (B : Pt), s.WarmedH vm₁ ∧ Stand p l e R s m args below meth c B.U B.locs B.cells B.slots ∧ Post ⟨T.setVm vm₁, locs, cells, slots⟩ argsL.toArray v B ∧
      ∀ target, Steps p.tables e below (B.U.setTop { g with pc := g.pc + 3, stack := v.toList ++ rest }) target → Steps p.tables e below (T.setTop g) target) ∨
    (∃ (q : Addr) (vm₁ : Vm) (B : Pt), s.WarmedH vm₁ ∧ Stand p l e R s m args below meth c B.U B.locs B.cells B.slots ∧ PostX ⟨T.setVm vm₁, locs, cells, slots⟩ argsL.toArray q B ∧
      Steps p.tables e below (T.setTop g) ((B.U.setTop { g with stack := rest }).pushFrame (.throwing q))) := by
  obtain ⟨mk, methM, cM, hnamed, hmethM, -, -, -, -, -, -, hsigM⟩ := Cond.codeWith_spec hcode
  have hstatic : methM.isStatic = true := Cond.static_spec hnamed hmethM hstat
  obtain ⟨kP, hkP, -⟩ := className_of_methodNamed hnamed
  have hinitP : kP.init = .initialized := Cond.initialized_spec (findClass_of_methodNamed hnamed) hkP hinit
  obtain ⟨vm₁, X₁, hstep₁⟩ := X.invokestatic hexec hown hlink hnamed hmethM hstatic hkP hinitP hy (g := g) hg (argsL := argsL) (rest := rest) (hlen _ hsigM) hstack hdg
  rcases hK m meth c ⟨T.setVm vm₁, locs, cells, slots⟩ { g with stack := rest } (.invokestatic index) mk argsL.toArray X₁ hg hsize hdg hW (X₁.named hnamed) (hpre vm₁ X₁.warmed) with ⟨v, B, X', hpost, hsteps⟩ | ⟨q, B, X', hpost, hsteps⟩
  · exact Or.inl ⟨v, vm₁, B, X₁.warmed, X', hpost, fun target h => hstep₁ _ fun acts => by rw [doInvoke_state]; exact hsteps.trans h⟩
  · exact Or.inr ⟨q, vm₁, B, X₁.warmed, X', hpost, hstep₁ _ fun acts => by rw [doInvoke_state]; exact hsteps⟩
theorem vx_callVW (X : Stand p l e R s m args below meth c T locs cells slots) (hexec : p.tables.exec = Jvm.exec) {own C : String} {index : Nat} {y : MethodName} {bytes : ByteArray} {maxL : Nat} {ret : Option FieldType} {hh : List (Nat × Nat × Nat × Nat)}
    (hown : s.vm.findClass own = some m.cls) (hlink : (Cond.methodLink own index y).before args s = true) (hinst : (Cond.instanceMethod y).before args s = true) (hsel : (Cond.selects C y y).before args s = true)
    (hcode : (Cond.codeWith y bytes maxL ret hh).before args s = true) (hy : y.cls ≠ "java/lang/invoke/MethodHandle" ∧ y.cls ≠ "java/lang/invoke/VarHandle")
    {W9 : Nat} {Pre : Pt → Array Value → Prop} {Post : Pt → Array Value → Option Value → Pt → Prop} (hK : Back l R p e below s args y 3 W9 Pre Post)
    {b : Addr} {cellB : Cell} (hcell : T.heap[b]? = some cellB) (hobj : cellB.vm.isStatics = false) (hcls : s.vm.findClass C = some cellB.cls)
    {g : JFrame} (hg : g.method = m) (hsize : g.locals.size = c.maxLocals) {argsL rest : List Value} (hlen : ∀ sig, parseMethodDescriptor y.desc = some sig → argsL.length = sig.parameters.length)
    (hstack : g.stack = argsL.reverse ++ .ref b :: rest) (hW : 2 * g.monitorRoom + (rest.map fun v => v.category).sum ≤ W9) (hdg : decode c.code g.pc = .ok (.invokevirtual index, 3))
    (hpre : ∀ vm₁, s.WarmedH vm₁ → Pre ⟨T.setVm vm₁, locs, cells, slots⟩ (Value.ref b :: argsL).toArray) :
    ∃ (v : Option Value) (vm₁ : Vm) (B : Pt), s.WarmedH vm₁ ∧ Stand p l e R s m args below meth c B.U B.locs B.cells B.slots ∧ Post ⟨T.setVm vm₁, locs, cells, slots⟩ (Value.ref b :: argsL).toArray v B ∧
      ∀ target, Steps p.tables e below (B.U.setTop { g with pc := g.pc + 3, stack := v.toList ++ rest }) target → Steps p.tables e below (T.setTop g) target := by
  obtain ⟨mk, methM, hnamed, hmethM, hstM, habM⟩ := Cond.instanceMethod_spec hinst
  obtain ⟨m8, methM', cM, hn8, hmethM', -, -, -, -, -, -, hsigM⟩ := Cond.codeWith_spec hcode
  cases Option.some.inj (hn8.symm.trans hnamed)
  cases hmethM.symm.trans hmethM'
  obtain ⟨c2, r2, m2, q1, q2, q3, q4, kP, hkP, hkPi⟩ := Cond.selects_spec hsel
  cases hcls.symm.trans q1
  cases (State.methodFound?_of_named hnamed hy).symm.trans q2
  cases hnamed.symm.trans q3
  have hselP : selectMethod e.platform s.vm cellB.cls mk = .method mk := by rw [Launch.admits_selectMethod X.admits]; exact q4
  obtain ⟨vm₁, X₁, hstep₁⟩ := X.invokevirtual hexec hown hlink hnamed hmethM hstM hkP hkPi hy (a := b) (cell := cellB) hcell
    (fun z h => by rw [h] at hobj; cases hobj) hselP hmethM habM hkP hkPi (g := g) hg (argsL := argsL) (rest := rest) (hlen _ hsigM) hstack hdg
  obtain ⟨v, B, X', hpost, hsteps⟩ := hK m meth c ⟨T.setVm vm₁, locs, cells, slots⟩ { g with stack := rest } (.invokevirtual index) mk (Value.ref b :: argsL).toArray X₁ hg hsize hdg hW (X₁.named hnamed) (hpre vm₁ X₁.warmed)
  exact ⟨v, vm₁, B, X₁.warmed, X', hpost, fun target h => hstep₁ _ fun acts => by rw [doInvoke_state]; exact hsteps.trans h⟩
abbrev vx_CVW (R : Room) (s : State) (args : Array Value) (own C : String) (index : Nat) (y : MethodName) (bytes : ByteArray) (maxL : Nat) (ret : Option FieldType) (hh : List (Nat × Nat × Nat × Nat)) (ws : List Cond) (rm : Room) (mc ms n : Nat) : Prop :=
  (rm.cells = mc ∧ rm.slots = ms ∧ rm.frames + 1 ≤ R.frames ∧ 8 + (maxL + 11) + rm.locals ≤ R.locals ∧ (∀ w ∈ ws, ∀ (a' : Array Value) (U : State), s.WarmedH U.vm → w.before a' U = true) ∧ Cond.codeWith y bytes maxL ret hh ∈ ws) ∧
  (Cond.codeWith y bytes maxL ret hh).before args s = true ∧ (Cond.initialized y.cls).before args s = true ∧ (y.cls ≠ "java/lang/invoke/MethodHandle" ∧ y.cls ≠ "java/lang/invoke/VarHandle") ∧
  (∀ sig, parseMethodDescriptor y.desc = some sig → n = sig.parameters.length) ∧ (Cond.methodLink own index y).before args s = true ∧ (Cond.instanceMethod y).before args s = true ∧ (Cond.selects C y y).before args s = true
theorem vx_cwVW {own C : String} {index maxL mc ms : Nat} {y : MethodName} {bytes : ByteArray} {ret : Option FieldType} {hh : List (Nat × Nat × Nat × Nat)} {Ts ws ws' : List Cond} {rm : Room} (n : Nat) (ht : ∀ w ∈ Ts, w.before args s = true) (hT : GoodIn Ts (wsV own index C y ws)) (hw : ws = Cond.codeWith y bytes maxL ret hh :: ws') (hrc : rm.cells = mc) (hrs : rm.slots = ms)
    (hd : y.cls = C ∧ y.cls ≠ "java/lang/invoke/MethodHandle" ∧ y.cls ≠ "java/lang/invoke/VarHandle" ∧ (parseMethodDescriptor y.desc).map (fun d => d.parameters.length) = some n) (hR : rm.frames + 1 ≤ R.frames ∧ 8 + (maxL + 11) + rm.locals ≤ R.locals) :
    vx_CVW R s args own C index y bytes maxL ret hh ws rm mc ms n := by
  obtain ⟨hC, hd⟩ := hd
  subst hC
  have ok : ∀ w ∈ wsV own index y.cls y ws, w.before args s = true := fun w h => ht w (hT w h).1
  have hG : GoodIn Ts ws := fun w h => hT w (by unfold wsV; exact List.mem_append_right _ h)
  have hc : Cond.codeWith y bytes maxL ret hh ∈ ws := by rw [hw]; exact List.mem_cons_self
  refine ⟨⟨hrc, hrs, hR.1, hR.2, pay_in ht hG, hc⟩, ht _ (hG _ hc).1, ok _ (by simp [wsV]), ⟨hd.1, hd.2.1⟩, fun sig h => ?_, ok _ (by simp [wsV]), ok _ (by simp [wsV]), ok _ (by simp [wsV])⟩
  have h2 := hd.2.2
  rw [h] at h2
  exact (Option.some.inj h2).symm
theorem vx_runVW {y : MethodName} {bytes cc : ByteArray} {maxL nL mc ms n index : Nat} {ret : Option FieldType} {hh : List (Nat × Nat × Nat × Nat)} {ws : List Cond} {rm : Room} {Pc : Array Value → State → Prop} {Qc : Array Value → State → Outcome → State → Prop} {free : Addr → Prop} {Ts : List Cond} {own C : String} {b : Addr} {As rest : List Value} {g : JFrame}
    (S : CallFix p m c cc nL s args Ts own) (hM : Met l y ws rm Pc Qc mc ms free) (cw : vx_CVW R s args own C index y bytes maxL ret hh ws rm mc ms n) (hp : PreV s H C b Pc As)
    (hg : g.method = m) (hn : As.length = n) (hsize : g.locals.size = nL) (hstack : g.stack = As.reverse ++ .ref b :: rest) (hW : 2 * g.monitorRoom + (rest.map fun v => v.category).sum ≤ 8) (hdg : decode cc g.pc = .ok (.invokevirtual index, 3)) (hf : cells + mc ≤ R.cells ∧ slots + ms ≤ R.slots) :
    va_Run p l e R s m args below meth c H locs cells slots mc ms g rest (Qc (Value.ref b :: As).toArray) free := by
  obtain ⟨⟨hrc, hrs, hfr, hlo, hws, hcw⟩, hcode, hini, hy, hlen, hl, hin, hse⟩ := cw
  have hK : Back l R p e below s args y 3 8 (PreOf R mc ms Pc) (PostOf Qc mc ms free) := va_backW (hh := hh) (bytes := bytes) (maxL := maxL) (ret := ret) hM hp.1 hrc hrs hfr hlo hws hcw (fun a' U hW => word_at hW (Or.inl (by first | rfl | simp [Cond.onTables, Cond.keeps, Cond.steady])) hini)
  obtain ⟨hx, hb, hml, ho, -⟩ := S
  obtain ⟨-, ⟨cellB, hcB, hoB, hclB⟩, hPc⟩ := hp
  intro T hT X
  obtain ⟨v, vm₁, ⟨U', l2, c2, s2⟩, hW₁, X', ⟨g', mk, t, L, e1, e2, hq, h1, hL, h2, h3⟩, st⟩ := vx_callVW X hx (C := C) (hh := hh) (bytes := bytes) (maxL := maxL) (ret := ret) ho hl hin hse hcode hy hK (by rw [hT]; exact hcB) hoB hclB hg (hsize.trans hml.symm) (argsL := As) (rest := rest) (fun sig h => hn.trans (hlen sig h)) hstack hW (by rw [hb]; exact hdg)
    (fun vm₁ hW₁ => ⟨hf.1, hf.2, hPc (T.setVm vm₁) hT hW₁⟩)
  dsimp only [Pt.U, Pt.locs, Pt.cells, Pt.slots] at X' e1 e2 h1 h2 h3 st
  subst h1; subst h2; subst h3
  exact ⟨v, (T.setVm vm₁).calling g' mk (Value.ref b :: As).toArray, t, U', L, hT, X', hL, e1, e2, hq, st⟩
section
variable {y : MethodName} {bytes cc : ByteArray} {maxL nL mc ms n index : Nat} {ret : Option FieldType} {ws : List Cond} {rm : Room} {Pc : Array Value → State → Prop} {Qc : Array Value → State → Outcome → State → Prop} {XC : String → State → State → Prop} {free : Addr → Prop} {Ts : List Cond} {own C : String} {b : Addr} {As rest : List Value} {g : JFrame}
theorem vx_runVX {hh : List (Nat × Nat × Nat × Nat)} (S : CallFix p m c cc nL s args Ts own) (hM : vx_Met l y ws rm Pc Qc XC mc ms free) (cw : vx_CVW R s args own C index y bytes maxL ret hh ws rm mc ms n) (hp : PreV s H C b Pc As)
    (hg : g.method = m) (hn : As.length = n) (hsize : g.locals.size = nL) (hstack : g.stack = As.reverse ++ .ref b :: rest) (hW : 2 * g.monitorRoom + (rest.map fun v => v.category).sum ≤ 8) (hdg : decode cc g.pc = .ok (.invokevirtual index, 3)) (hf : cells + mc ≤ R.cells ∧ slots + ms ≤ R.slots) :
    vx_Run p l e R s m args below meth c H locs cells slots mc ms g rest (Qc (Value.ref b :: As).toArray) XC free := by
  obtain ⟨⟨hrc, hrs, hfr, hlo, hws, hcw⟩, hcode, hini, hy, hlen, hl, hin, hse⟩ := cw
  have hK : vx_Back l R p e below s args y 3 8 (PreOf R mc ms Pc) (PostOf Qc mc ms free) (vx_Post XC mc ms free) := vx_backW (hh := hh) (bytes := bytes) (maxL := maxL) (ret := ret) hM hp.1 hrc hrs hfr hlo hws hcw (fun a' U hW => word_at hW (Or.inl (by first | rfl | simp [Cond.onTables, Cond.keeps, Cond.steady])) hini)
  obtain ⟨hx, hb, hml, ho, -⟩ := S
  obtain ⟨-, ⟨cellB, hcB, hoB, hclB⟩, hPc⟩ := hp
  intro T hT X
  rcases vx_callVX X hx (C := C) (hh := hh) (bytes := bytes) (maxL := maxL) (ret := ret) ho hl hin hse hcode hy hK (by rw [hT]; exact hcB) hoB hclB hg (hsize.trans hml.symm) (argsL := As) (rest := rest) (fun sig h => hn.trans (hlen sig h)) hstack hW (by rw [hb]; exact hdg)
    (fun vm₁ hW₁ => ⟨hf.1, hf.2, hPc (T.setVm vm₁) hT hW₁⟩) with ⟨v, vm₁, ⟨U', l2, c2, s2⟩, hW₁, X', ⟨g', mk, t, L, e1, e2, hq, h1, hL, h2, h3⟩, st⟩ | ⟨q, vm₁, ⟨U', l2, c2, s2⟩, hW₁, X', ⟨g', mk, t, L, E, ce, e1, e2, hq, hce, hcv, hcl, h1, hL, h2, h3⟩, st⟩
  · dsimp only [Pt.U, Pt.locs, Pt.cells, Pt.slots] at X' e1 e2 h1 h2 h3 st
    subst h1; subst h2; subst h3
    exact Or.inl ⟨v, (T.setVm vm₁).calling g' mk (Value.ref b :: As).toArray, t, U', L, hT, X', hL, e1, e2, hq, st⟩
  · dsimp only [Pt.U, Pt.locs, Pt.cells, Pt.slots] at X' e1 e2 h1 h2 h3 st hcl
    subst h1; subst h2; subst h3
    exact Or.inr ⟨q, (T.setVm vm₁).calling g' mk (Value.ref b :: As).toArray, t, U', L, E, ce, hT, X', hL, e1, e2, hq, hce, hcv, vx_cls hW₁ hcl, st⟩
theorem vx_runSX {hh : List (Nat × Nat × Nat × Nat)} (S : CallFix p m c cc nL s args Ts own) (hM : vx_Met l y ws rm Pc Qc XC mc ms free) (cw : vx_CSW R s args own index y bytes maxL ret hh ws rm mc ms n) (hp : PreS s H Pc As)
    (hg : g.method = m) (hn : As.length = n) (hsize : g.locals.size = nL) (hstack : g.stack = As.reverse ++ rest) (hW : 2 * g.monitorRoom + (rest.map fun v => v.category).sum ≤ 8) (hdg : decode cc g.pc = .ok (.invokestatic index, 3)) (hf : cells + mc ≤ R.cells ∧ slots + ms ≤ R.slots) :
    vx_Run p l e R s m args below meth c H locs cells slots mc ms g rest (Qc As.toArray) XC free := by
  obtain ⟨⟨hrc, hrs, hfr, hlo, hws, hcw⟩, hcode, hini, hy, hlen, hl, hstt⟩ := cw
  have hK : vx_Back l R p e below s args y 3 8 (PreOf R mc ms Pc) (PostOf Qc mc ms free) (vx_Post XC mc ms free) := vx_backW (hh := hh) (bytes := bytes) (maxL := maxL) (ret := ret) hM hp.1 hrc hrs hfr hlo hws hcw (fun a' U hW => word_at hW (Or.inl (by first | rfl | simp [Cond.onTables, Cond.keeps, Cond.steady])) hini)
  obtain ⟨hx, hb, hml, ho, -⟩ := S
  intro T hT X
  rcases vx_callSX X hx (hh := hh) (bytes := bytes) (maxL := maxL) (ret := ret) ho hl hstt hini hcode hy hK hg (hsize.trans hml.symm) (argsL := As) (rest := rest) (fun sig h => hn.trans (hlen sig h)) hstack hW (by rw [hb]; exact hdg)
    (fun vm₁ hW₁ => ⟨hf.1, hf.2, hp.2 (T.setVm vm₁) hT hW₁⟩) with ⟨v, vm₁, ⟨U', l2, c2, s2⟩, hW₁, X', ⟨g', mk, t, L, e1, e2, hq, h1, hL, h2, h3⟩, st⟩ | ⟨q, vm₁, ⟨U', l2, c2, s2⟩, hW₁, X', ⟨g', mk, t, L, E, ce, e1, e2, hq, hce, hcv, hcl, h1, hL, h2, h3⟩, st⟩
  · dsimp only [Pt.U, Pt.locs, Pt.cells, Pt.slots] at X' e1 e2 h1 h2 h3 st
    subst h1; subst h2; subst h3
    exact Or.inl ⟨v, (T.setVm vm₁).calling g' mk As.toArray, t, U', L, hT, X', hL, e1, e2, hq, st⟩
  · dsimp only [Pt.U, Pt.locs, Pt.cells, Pt.slots] at X' e1 e2 h1 h2 h3 st hcl
    subst h1; subst h2; subst h3
    exact Or.inr ⟨q, (T.setVm vm₁).calling g' mk As.toArray, t, U', L, E, ce, hT, X', hL, e1, e2, hq, hce, hcv, vx_cls hW₁ hcl, st⟩
end
end VXH
theorem vx_ofWH {l : Launch} {y : MethodName} {ws ws' : List Cond} {rm : Room} {Pc : Array Value → State → Prop} {Qc : Array Value → State → Outcome → State → Prop} {XC : String → State → State → Prop} {mc ms : Nat} {free : Addr → Prop} {cc : ByteArray} {maxL : Nat} {ret : Option FieldType} {hh : List (Nat × Nat × Nat × Nat)}
    (hy : plainName y.cls = true) (hw : ws = Cond.codeWith y cc maxL ret hh :: ws')
    (body : ∀ p e s m args below meth c s₁, BodyLoose p l y (headSpec ws rm) cc maxL ret e s m args below meth c s₁ → c.maxLocals = maxL → Pc args s →
      W p l e (headSpec ws rm).room s m args below meth c s.heap [] 0 0 (vx_MQ below Qc XC args s mc ms free) (entryFrame m args maxL)) : vx_Met l y ws rm Pc Qc XC mc ms free := by
  refine MetFree.of_bodyS (code := cc) (maxLocals := maxL) (ret := ret) hy ?_ ?_
  · intro args s m h hn
    obtain ⟨m9, meth, c, hn9, h1, h2, h3, h4, -, h5, h6, -⟩ := Cond.codeWith_spec (atoms_spec (ws := ws) h _ (by rw [hw]; exact List.mem_cons_self))
    cases hn.symm.trans hn9
    exact ⟨meth, c, h1, h2, h3, h4, h5, h6⟩
  · intro p e s m args below meth c s₁ B hml hP _
    have hh0 : s₁.heap = s.heap := by rw [B.state]; rfl
    obtain ⟨t, a1, o, b1, b2, b3⟩ := body p e s m args below meth c s₁ B hml hP s₁ hh0 (Stand.of_body B)
    exact ⟨t, o, a1, b1, b2, b3⟩
/-! ===== END ===== -/
end
section
/-! THE SMALL MACHINE. Its heap: cells by number; ints, longs, doubles and references by cell and place. No types of its own. -/
abbrev m_H : Type := (Nat × Nat × Nat) × (Nat → Nat) × (Nat → Nat) × (Nat → Nat → Int32) × (Nat → Nat → Int64) × (Nat → Nat → UInt64) × (Nat → Nat → Option Nat)
/-- how many cells -/
def m_n (h : m_H) : Nat := h.1.1
/-- cells and slots that were made, as the room counts them -/
def m_c (h : m_H) : Nat := h.1.2.1
def m_s (h : m_H) : Nat := h.1.2.2
/-- a cell's kind: below 100 an object of that class; 100 int[], 101 byte[], 102 long[], 103 double[]; from 200 on rows of references -/
def m_k (h : m_H) : Nat → Nat := h.2.1
def m_l (h : m_H) : Nat → Nat := h.2.2.1
def m_I (h : m_H) : Nat → Nat → Int32 := h.2.2.2.1
def m_L (h : m_H) : Nat → Nat → Int64 := h.2.2.2.2.1
def m_D (h : m_H) : Nat → Nat → UInt64 := h.2.2.2.2.2.1
def m_R (h : m_H) : Nat → Nat → Option Nat := h.2.2.2.2.2.2
def m_up {α : Type} (f : Nat → Nat → α) (a k : Nat) (v : α) : Nat → Nat → α := fun x y => if x = a ∧ y = k then v else f x y
def m_zr {α : Type} (f : Nat → Nat → α) (a : Nat) (v : α) : Nat → Nat → α := fun x y => if x = a then v else f x y
def m_u1 {α : Type} (f : Nat → α) (a : Nat) (v : α) : Nat → α := fun x => if x = a then v else f x
def m_setI (h : m_H) (a k : Nat) (v : Int32) : m_H := (h.1, m_k h, m_l h, m_up (m_I h) a k v, m_L h, m_D h, m_R h)
def m_setL (h : m_H) (a k : Nat) (v : Int64) : m_H := (h.1, m_k h, m_l h, m_I h, m_up (m_L h) a k v, m_D h, m_R h)
def m_setD (h : m_H) (a k : Nat) (v : UInt64) : m_H := (h.1, m_k h, m_l h, m_I h, m_L h, m_up (m_D h) a k v, m_R h)
def m_setR (h : m_H) (a k : Nat) (v : Option Nat) : m_H := (h.1, m_k h, m_l h, m_I h, m_L h, m_D h, m_up (m_R h) a k v)
/-- a new cell of kind kd, of length len, of z slots -/
def m_mk (h : m_H) (kd len z : Nat) : m_H := ((m_n h + 1, m_c h + 1, m_s h + z), m_u1 (m_k h) (m_n h) kd, m_u1 (m_l h) (m_n h) len, m_zr (m_I h) (m_n h) 0, m_zr (m_L h) (m_n h) 0, m_zr (m_D h) (m_n h) 0, m_zr (m_R h) (m_n h) none)
/-- what a throw makes -/
def m_bump (h : m_H) : m_H := ((m_n h, m_c h + 1, m_s h + 6), m_k h, m_l h, m_I h, m_L h, m_D h, m_R h)
/-- n ints copied from a row to a row -/
def m_cpy (h : m_H) (a i b j n : Nat) : m_H := (h.1, m_k h, m_l h, (fun x y => if x = b ∧ j ≤ y ∧ y < j + n then m_I h a (i + (y - j)) else m_I h x y), m_L h, m_D h, m_R h)
abbrev m_F : Type := List (Option Value)
/-- a program: code from a place on, arguments, locals, kinds of fields, fields, handlers, ints of constants, receivers' classes, the search for a word -/
abbrev m_P : Type := (Nat → Nat → List Instr) × (Nat → Nat) × (Nat → Nat) × (Nat → Nat → Nat) × (Nat → Nat) × (Nat → Nat → Option (Nat × Nat)) × (Nat → Nat → Int32) × (Nat → Nat) × ((Nat → Int32) → Nat → Int32 → Int32 → Option Nat) × Nat × (Nat → Int32)
def m_tg (P : m_P) : Nat → Nat → List Instr := P.1
def m_na (P : m_P) : Nat → Nat := P.2.1
def m_nl (P : m_P) : Nat → Nat := P.2.2.1
def m_fk (P : m_P) : Nat → Nat → Nat := P.2.2.2.1
def m_nf (P : m_P) : Nat → Nat := P.2.2.2.2.1
def m_hd (P : m_P) : Nat → Nat → Option (Nat × Nat) := P.2.2.2.2.2.1
def m_xf (P : m_P) : Nat → Nat → Int32 := P.2.2.2.2.2.2.1
def m_rc (P : m_P) : Nat → Nat := P.2.2.2.2.2.2.2.1
def m_wd (P : m_P) : (Nat → Int32) → Nat → Int32 → Int32 → Option Nat := P.2.2.2.2.2.2.2.2.1
/-- the law's script: its length, its ints -/
def m_xl (P : m_P) : Nat := P.2.2.2.2.2.2.2.2.2.1
def m_xs (P : m_P) : Nat → Int32 := P.2.2.2.2.2.2.2.2.2.2
/-- constants have numbers from here on -/
abbrev m_X : Nat := 1000000000
abbrev m_R1 : Type := (List Instr × m_F × List Value × m_H) ⊕ (Nat × List Value × List Value) ⊕ (Option Value) ⊕ Nat
def m_nx (is : List Instr) (ls : m_F) (st : List Value) (h : m_H) : Option m_R1 := some (.inl (is, ls, st, h))
def m_rv (r : Option Nat) : Value := match r with | none => .null | some a => .ref a
/-- no long or double stands just ahead of place k -/
def m_ok1 (ls : m_F) (k : Nat) : Bool := match k with | 0 => true | j + 1 => match ls[j]? with | some (some v) => v.category == 1 | _ => true
def m_cat (st : List Value) : Nat := (st.map fun v => v.category).sum
def m_pop (k : Nat) (st : List Value) : Option (List Value × List Value) := if k ≤ st.length then some ((st.take k).reverse, st.drop k) else none
def m_icond (c : Jvm.ClassFile.Cond) (a b : Int32) : Bool := match c with
  | .eq => decide (a = b) | .ne => decide (¬ a = b) | .lt => decide (a < b) | .ge => decide (b ≤ a) | .gt => decide (b < a) | .le => decide (a ≤ b)
end
section
/-- the locals at a method's start -/
def m_sl : List Value → m_F
  | [] => []
  | v :: vs => if v.category = 2 then some v :: none :: m_sl vs else some v :: m_sl vs
/-- one instruction of the small machine: the next place, a call, a return, a throw; none: it doesn't go on -/
def m_st (P : m_P) (y : Nat) (i : Instr) (is : List Instr) (ls : m_F) (st : List Value) (h : m_H) : Option m_R1 :=
  match i with
  | .aconst_null => m_nx is ls (.null :: st) h
  | .iconst v => m_nx is ls (.int (Int32.ofInt v) :: st) h
  | .ldc2_w v => m_nx is ls (.long (Int64.ofNat v) :: st) h
  | .fconst k => if k = 0 then m_nx is ls (.float FP.fconst0 :: st) h else none
  | .dconst k => if k = 0 then m_nx is ls (.double FP.dconst0 :: st) h else m_nx is ls (.double FP.dconst1 :: st) h
  | .iload k => match ls[k]? with
    | some (some (.int x)) => m_nx is ls (.int x :: st) h
    | _ => none
  | .lload k => match ls[k]? with
    | some (some (.long x)) => m_nx is ls (.long x :: st) h
    | _ => none
  | .fload k => match ls[k]? with
    | some (some (.float x)) => m_nx is ls (.float x :: st) h
    | _ => none
  | .dload k => match ls[k]? with
    | some (some (.double x)) => m_nx is ls (.double x :: st) h
    | _ => none
  | .aload k => match ls[k]? with
    | some (some (.ref x)) => m_nx is ls (.ref x :: st) h
    | some (some .null) => m_nx is ls (.null :: st) h
    | _ => none
  | .istore k => match st with
    | .int x :: st => if m_ok1 ls k = true ∧ k < ls.length then m_nx is (ls.set k (some (.int x))) st h else none
    | _ => none
  | .fstore k => match st with
    | .float x :: st => if m_ok1 ls k = true ∧ k < ls.length then m_nx is (ls.set k (some (.float x))) st h else none
    | _ => none
  | .dstore k => match st with
    | .double x :: st => if m_ok1 ls k = true ∧ k + 1 < ls.length then m_nx is ((ls.set k (some (.double x))).set (k + 1) none) st h else none
    | _ => none
  | .astore k => match st with
    | .ref x :: st => if m_ok1 ls k = true ∧ k < ls.length then m_nx is (ls.set k (some (.ref x))) st h else none
    | .null :: st => if m_ok1 ls k = true ∧ k < ls.length then m_nx is (ls.set k (some .null)) st h else none
    | _ => none
  | .iinc k v => match ls[k]? with
    | some (some (.int x)) => if m_ok1 ls k = true then m_nx is (ls.set k (some (.int (x + Int32.ofInt v)))) st h else none
    | _ => none
  | .dup => match st with
    | v :: st => if v.category = 1 then m_nx is ls (v :: v :: st) h else none
    | _ => none
  | .pop => match st with
    | v :: st => if v.category = 1 then m_nx is ls st h else none
    | _ => none
  | .dup2 => match st with
    | v :: w :: st => if v.category = 1 ∧ w.category = 1 then m_nx is ls (v :: w :: v :: w :: st) h else none
    | _ => none
  | .iadd => match st with
    | .int b :: .int a :: st => m_nx is ls (.int (a + b) :: st) h
    | _ => none
  | .isub => match st with
    | .int b :: .int a :: st => m_nx is ls (.int (a - b) :: st) h
    | _ => none
  | .imul => match st with
    | .int b :: .int a :: st => m_nx is ls (.int (a * b) :: st) h
    | _ => none
  | .iand => match st with
    | .int b :: .int a :: st => m_nx is ls (.int (a &&& b) :: st) h
    | _ => none
  | .ior => match st with
    | .int b :: .int a :: st => m_nx is ls (.int (a ||| b) :: st) h
    | _ => none
  | .ishr => match st with
    | .int b :: .int a :: st => m_nx is ls (.int (a >>> (b &&& 31)) :: st) h
    | _ => none
  | .idiv => match st with
    | .int b :: .int a :: st => if b = 0 then none else m_nx is ls (.int (a / b) :: st) h
    | _ => none
  | .irem => match st with
    | .int b :: .int a :: st => if b = 0 then none else m_nx is ls (.int (a - a / b * b) :: st) h
    | _ => none
  | .i2b => match st with
    | .int a :: st => m_nx is ls (.int a.toInt8.toInt32 :: st) h
    | _ => none
  | .i2l => match st with
    | .int a :: st => m_nx is ls (.long a.toInt64 :: st) h
    | _ => none
  | .i2d => match st with
    | .int a :: st => m_nx is ls (.double (FP.i2d a) :: st) h
    | _ => none
  | .i2f => match st with
    | .int a :: st => m_nx is ls (.float (FP.i2f a) :: st) h
    | _ => none
  | .ladd => match st with
    | .long b :: .long a :: st => m_nx is ls (.long (a + b) :: st) h
    | _ => none
  | .lsub => match st with
    | .long b :: .long a :: st => m_nx is ls (.long (a - b) :: st) h
    | _ => none
  | .lmul => match st with
    | .long b :: .long a :: st => m_nx is ls (.long (a * b) :: st) h
    | _ => none
  | .lcmp => match st with
    | .long b :: .long a :: st => m_nx is ls (.int (lg_cmp a b) :: st) h
    | _ => none
  | .ddiv => match st with
    | .double b :: .double a :: st => if isNaN64 (FP.ddiv a b) = false then m_nx is ls (.double (FP.ddiv a b) :: st) h else none
    | _ => none
  | .fdiv => match st with
    | .float b :: .float a :: st => if isNaN32 (FP.fdiv a b) = false then m_nx is ls (.float (FP.fdiv a b) :: st) h else none
    | _ => none
  | .f2d => match st with
    | .float a :: st => if isNaN64 (FP.f2d a) = false then m_nx is ls (.double (FP.f2d a) :: st) h else none
    | _ => none
  | .d2f => match st with
    | .double a :: st => if isNaN32 (FP.d2f a) = false then m_nx is ls (.float (FP.d2f a) :: st) h else none
    | _ => none
  | .dcmp op => match st with
    | .double b :: .double a :: st => m_nx is ls (.int (Op.cmpValue (FP.dcmp a b) op) :: st) h
    | _ => none
  | .fcmp op => match st with
    | .float b :: .float a :: st => m_nx is ls (.int (Op.cmpValue (FP.fcmp a b) op) :: st) h
    | _ => none
  | .goto t => m_nx (m_tg P y t.toNat) ls st h
  | .ifCond c t => match st with
    | .int a :: st => if m_icond c a 0 = true then m_nx (m_tg P y t.toNat) ls st h else m_nx is ls st h
    | _ => none
  | .if_icmp c t => match st with
    | .int b :: .int a :: st => if m_icond c a b = true then m_nx (m_tg P y t.toNat) ls st h else m_nx is ls st h
    | _ => none
  | .ifnull t => match st with
    | .null :: st => m_nx (m_tg P y t.toNat) ls st h
    | .ref _ :: st => m_nx is ls st h
    | _ => none
  | .ifnonnull t => match st with
    | .ref _ :: st => m_nx (m_tg P y t.toNat) ls st h
    | .null :: st => m_nx is ls st h
    | _ => none
  | .tableswitch d lo hi offs => match st with
    | .int x :: st => if x.toInt < lo ∨ hi < x.toInt then m_nx (m_tg P y d.toNat) ls st h
      else match offs[(x.toInt - lo).toNat]? with
        | some t => m_nx (m_tg P y t.toNat) ls st h
        | none => none
    | _ => none
  | .getfield x => match st with
    | .ref a :: st => if a < m_n h ∧ m_k h a = x / 64 ∧ x % 64 < m_nf P (x / 64) ∧ x / 64 < 100 then
        (if m_fk P (x / 64) (x % 64) = 1 then m_nx is ls (m_rv (m_R h a (x % 64)) :: st) h
        else if m_fk P (x / 64) (x % 64) = 2 then m_nx is ls (.long (m_L h a (x % 64)) :: st) h
        else m_nx is ls (.int (m_I h a (x % 64)) :: st) h) else none
    | _ => none
  | .putfield x => match st with
    | .int v :: .ref a :: st => if a < m_n h ∧ m_k h a = x / 64 ∧ x % 64 < m_nf P (x / 64) ∧ x / 64 < 100 ∧ (m_fk P (x / 64) (x % 64) = 0 ∨ m_fk P (x / 64) (x % 64) = 3 ∧ (v = 0 ∨ v = 1)) then m_nx is ls st (m_setI h a (x % 64) v) else none
    | .long v :: .ref a :: st => if a < m_n h ∧ m_k h a = x / 64 ∧ x % 64 < m_nf P (x / 64) ∧ x / 64 < 100 ∧ m_fk P (x / 64) (x % 64) = 2 then m_nx is ls st (m_setL h a (x % 64) v) else none
    | .ref v :: .ref a :: st => if a < m_n h ∧ m_k h a = x / 64 ∧ x % 64 < m_nf P (x / 64) ∧ x / 64 < 100 ∧ m_fk P (x / 64) (x % 64) = 1 then m_nx is ls st (m_setR h a (x % 64) (some v)) else none
    | .null :: .ref a :: st => if a < m_n h ∧ m_k h a = x / 64 ∧ x % 64 < m_nf P (x / 64) ∧ x / 64 < 100 ∧ m_fk P (x / 64) (x % 64) = 1 then m_nx is ls st (m_setR h a (x % 64) none) else none
    | _ => none
  | .iaload => match st with
    | .int i :: .ref a :: st => if a = m_X then (if i < 0 ∨ m_xl P ≤ i.toNatClampNeg then none else m_nx is ls (.int (m_xs P i.toNatClampNeg) :: st) h) else if a < m_n h ∧ m_k h a = 100 ∧ ¬ (i < 0 ∨ m_l h a ≤ i.toNatClampNeg) then m_nx is ls (.int (m_I h a i.toNatClampNeg) :: st) h else none
    | _ => none
  | .baload => match st with
    | .int i :: .ref a :: st => if a < m_n h ∧ m_k h a = 101 ∧ ¬ (i < 0 ∨ m_l h a ≤ i.toNatClampNeg) then m_nx is ls (.int (m_I h a i.toNatClampNeg) :: st) h else none
    | _ => none
  | .laload => match st with
    | .int i :: .ref a :: st => if a < m_n h ∧ m_k h a = 102 ∧ ¬ (i < 0 ∨ m_l h a ≤ i.toNatClampNeg) then m_nx is ls (.long (m_L h a i.toNatClampNeg) :: st) h else none
    | _ => none
  | .daload => match st with
    | .int i :: .ref a :: st => if a < m_n h ∧ m_k h a = 103 ∧ ¬ (i < 0 ∨ m_l h a ≤ i.toNatClampNeg) then m_nx is ls (.double (m_D h a i.toNatClampNeg) :: st) h else none
    | _ => none
  | .checkcast ci => match st with
    | .int i :: .ref a :: st => if a < m_n h ∧ m_k h a = 200 + ci ∧ ¬ (i < 0 ∨ m_l h a ≤ i.toNatClampNeg) then m_nx is ls (m_rv (m_R h a i.toNatClampNeg) :: st) h else none
    | _ => none
  | .iastore => match st with
    | .int v :: .int i :: .ref a :: st => if a < m_n h ∧ m_k h a = 100 ∧ ¬ (i < 0 ∨ m_l h a ≤ i.toNatClampNeg) then m_nx is ls st (m_setI h a i.toNatClampNeg v) else none
    | _ => none
  | .bastore => match st with
    | .int v :: .int i :: .ref a :: st => if a < m_n h ∧ m_k h a = 101 ∧ ¬ (i < 0 ∨ m_l h a ≤ i.toNatClampNeg) then m_nx is ls st (m_setI h a i.toNatClampNeg v.toInt8.toInt32) else none
    | _ => none
  | .lastore => match st with
    | .long v :: .int i :: .ref a :: st => if a < m_n h ∧ m_k h a = 102 ∧ ¬ (i < 0 ∨ m_l h a ≤ i.toNatClampNeg) then m_nx is ls st (m_setL h a i.toNatClampNeg v) else none
    | _ => none
  | .dastore => match st with
    | .double v :: .int i :: .ref a :: st => if a < m_n h ∧ m_k h a = 103 ∧ ¬ (i < 0 ∨ m_l h a ≤ i.toNatClampNeg) then m_nx is ls st (m_setD h a i.toNatClampNeg v) else none
    | _ => none
  | .instanceof ci => match st with
    | .ref v :: .int i :: .ref a :: st => if a < m_n h ∧ m_k h a = 200 + ci ∧ v < m_n h ∧ m_k h v = ci ∧ ci < 100 ∧ ¬ (i < 0 ∨ m_l h a ≤ i.toNatClampNeg) then m_nx is ls st (m_setR h a i.toNatClampNeg (some v)) else none
    | _ => none
  | .ldc_w z => match st with
    | .ref a :: st => if a = m_X then m_nx is ls (.int (Int32.ofNat (m_xl P)) :: st) h else if a < m_n h ∧ m_k h a = z ∧ 100 ≤ z then m_nx is ls (.int (Int32.ofNat (m_l h a)) :: st) h else none
    | _ => none
  | .newarray .int => match st with
    | .int n :: st => if n < 0 ∨ 60000000 < n.toNatClampNeg ∨ m_X ≤ m_n h then none else m_nx is ls (.ref (m_n h) :: st) (m_mk h 100 n.toNatClampNeg n.toNatClampNeg)
    | _ => none
  | .newarray .byte => match st with
    | .int n :: st => if n < 0 ∨ 60000000 < n.toNatClampNeg ∨ m_X ≤ m_n h then none else m_nx is ls (.ref (m_n h) :: st) (m_mk h 101 n.toNatClampNeg n.toNatClampNeg)
    | _ => none
  | .newarray .long => match st with
    | .int n :: st => if n < 0 ∨ 60000000 < n.toNatClampNeg ∨ m_X ≤ m_n h then none else m_nx is ls (.ref (m_n h) :: st) (m_mk h 102 n.toNatClampNeg n.toNatClampNeg)
    | _ => none
  | .newarray .double => match st with
    | .int n :: st => if n < 0 ∨ 60000000 < n.toNatClampNeg ∨ m_X ≤ m_n h then none else m_nx is ls (.ref (m_n h) :: st) (m_mk h 103 n.toNatClampNeg n.toNatClampNeg)
    | _ => none
  | .anewarray ci => match st with
    | .int n :: st => if n < 0 ∨ 60000000 < n.toNatClampNeg ∨ 100 ≤ ci ∨ m_X ≤ m_n h then none else m_nx is ls (.ref (m_n h) :: st) (m_mk h (200 + ci) n.toNatClampNeg n.toNatClampNeg)
    | _ => none
  | .getstatic k => if m_X ≤ k then m_nx is ls (.ref k :: st) h else none
  | .new ci => if ci < 100 ∧ m_n h < m_X then m_nx is ls (.ref (m_n h) :: st) (m_mk h ci 0 (m_nf P ci)) else none
  | .invokevirtual z => match m_pop (m_na P z) st with
    | some (.ref a :: as, st') => if a < m_n h ∧ m_k h a = m_rc P z ∧ m_cat st' ≤ 8 ∧ (m_sl (.ref a :: as)).length ≤ m_nl P z then some (.inr (.inl (z, .ref a :: as, st'))) else none
    | _ => none
  | .invokespecial z => if z = 9000 then (match st with
      | .ref a :: st => if a < m_n h ∧ m_cat st ≤ 8 then m_nx is ls st h else none
      | _ => none)
    else match m_pop (m_na P z) st with
    | some (.ref a :: as, st') => if a < m_n h ∧ m_k h a = m_rc P z ∧ m_cat st' ≤ 8 ∧ (m_sl (.ref a :: as)).length ≤ m_nl P z then some (.inr (.inl (z, .ref a :: as, st'))) else none
    | _ => none
  | .invokestatic z => if z = 9001 then (match st with
      | .int b :: .int a :: st => if m_cat st ≤ 8 then m_nx is ls (.int (if b < a then b else a) :: st) h else none
      | _ => none)
    else if z = 9002 then (match st with
      | .int b :: .int a :: st => if m_cat st ≤ 8 then m_nx is ls (.int (if a < b then b else a) :: st) h else none
      | _ => none)
    else if z = 9003 then (match st with
      | .int n :: .int j :: .ref b :: .int i :: .ref a :: st => if a < m_n h ∧ m_k h a = 100 ∧ b < m_n h ∧ m_k h b = 100 ∧ ¬ i < 0 ∧ ¬ j < 0 ∧ ¬ n < 0 ∧ i.toNatClampNeg + n.toNatClampNeg ≤ m_l h a ∧ j.toNatClampNeg + n.toNatClampNeg ≤ m_l h b ∧ m_cat st ≤ 8 then m_nx is ls st (m_cpy h a i.toNatClampNeg b j.toNatClampNeg n.toNatClampNeg) else none
      | _ => none)
    else match m_pop (m_na P z) st with
    | some (as, st') => if m_cat st' ≤ 8 ∧ (m_sl as).length ≤ m_nl P z then some (.inr (.inl (z, as, st'))) else none
    | _ => none
  | .invokedynamic k => match m_hd P y k with
    | none => if m_cat st ≤ 8 then some (.inr (.inr (.inr k))) else none
    | _ => none
  | .ireturn => match st with
    | [.int v] => some (.inr (.inr (.inl (some (.int v)))))
    | _ => none
  | .ret _ => match st with
    | [.int v] => if v = 0 ∨ v = 1 then some (.inr (.inr (.inl (some (.int v))))) else none
    | _ => none
  | .areturn => match st with
    | [.ref v] => some (.inr (.inr (.inl (some (.ref v)))))
    | [.null] => some (.inr (.inr (.inl (some .null))))
    | _ => none
  | .freturn => match st with
    | [.float v] => some (.inr (.inr (.inl (some (.float v)))))
    | _ => none
  | .dreturn => match st with
    | [.double v] => some (.inr (.inr (.inl (some (.double v)))))
    | _ => none
  | .return_ => match st with
    | [] => some (.inr (.inr (.inl none)))
    | _ => none
  | _ => none
/-- the locals at a method's start, filled up -/
def m_ent (nl : Nat) (as : List Value) : m_F := m_sl as ++ List.replicate (nl - (m_sl as).length) none
/-- a method with handlers -/
def m_hh (P : m_P) (y : Nat) : Bool := (m_hd P y 0).isSome || (m_hd P y 1).isSome
def m_isp (i : Instr) : Bool := match i with | .invokespecial _ => true | _ => false
/-- the small machine, n steps at the most, calls d deep at the most -/
def m_ex (P : m_P) : Nat → Nat → Nat → List Instr → m_F → List Value → m_H → Option ((Option Value ⊕ Nat) × m_H)
  | 0, _, _, _, _, _, _ => none
  | _ + 1, _, _, [], _, _, _ => none
  | n + 1, d, y, i :: is, ls, st, h =>
    match m_st P y i is ls st h with
    | none => none
    | some (.inl q) => m_ex P n d y q.1 q.2.1 q.2.2.1 q.2.2.2
    | some (.inr (.inl q)) => match d with
      | 0 => none
      | d' + 1 => match m_ex P n d' q.1 (m_tg P q.1 0) (m_ent (m_nl P q.1) q.2.1) [] h with
        | none => none
        | some (.inl v, h') => m_ex P n (d' + 1) y is ls (v.toList ++ q.2.2) h'
        | some (.inr e, h') => if m_isp i = true then none else match m_hd P y e with
          | none => if m_hh P y = true then none else some (.inr e, h')
          | some r => if m_ok1 ls r.1 = true then m_ex P n (d' + 1) y (m_tg P y r.2) (ls.set r.1 none) [] h' else none
    | some (.inr (.inr (.inl v))) => some (.inl v, h)
    | some (.inr (.inr (.inr e))) => some (.inr e, m_bump h)
end
section
/-! WHAT A HEAP OF THE SMALL MACHINE IS IN THE MACHINE'S: ad gives the address of each cell and constant -/
def m_cv (ad : Nat → Nat) (v : Value) : Value := match v with | .ref a => .ref (ad a) | v => v
def m_in (n : Nat) (v : Value) : Prop := match v with | .ref a => a < n ∨ m_X ≤ a | .retAddr _ => False | _ => True
def m_fv (P : m_P) (ad : Nat → Nat) (h : m_H) (a ci k : Nat) : Value := if m_fk P ci k = 1 then va_rf ((m_R h a k).map ad) else if m_fk P ci k = 2 then .long (m_L h a k) else .int (m_I h a k)
def m_cell (P : m_P) (cA : Nat → ClassId) (ad : Nat → Nat) (h : m_H) (a : Nat) : va_E :=
  if m_k h a < 100 then .inr (m_k h a, (List.range (m_nf P (m_k h a))).map (fun k => m_fv P ad h a (m_k h a) k))
  else if m_k h a = 102 then .inl (cA 102, m_l h a, .inr (.inl (m_L h a)))
  else if m_k h a = 103 then .inl (cA 103, m_l h a, .inr (.inr (.inr (.inl (m_D h a)))))
  else if m_k h a < 200 then .inl (cA (m_k h a), m_l h a, .inl (m_I h a))
  else .inl (cA (m_k h a), m_l h a, .inr (.inr (.inr (.inr (fun i => (m_R h a i).map ad)))))
def m_ws (P : m_P) (cA : Nat → ClassId) (ad : Nat → Nat) (h : m_H) : va_W := (List.range (m_n h)).map (fun a => (ad a, m_cell P cA ad h a))
/-- references lead to cells or constants -/
def m_wf (h : m_H) : Prop := m_n h ≤ m_X ∧ ∀ a k j, a < m_n h → m_R h a k = some j → j < m_n h ∨ m_X ≤ j
theorem m_ws_at {P : m_P} {cA : Nat → ClassId} {ad : Nat → Nat} {h : m_H} {a : Nat} (ha : a < m_n h) : (m_ws P cA ad h)[a]? = some (ad a, m_cell P cA ad h a) := by
  unfold m_ws
  rw [List.getElem?_map, List.getElem?_range ha]
  rfl
theorem m_map_set {α : Type} {f g : Nat → α} {N k : Nat} (hk : k < N) (h : ∀ j, j ≠ k → g j = f j) : ((List.range N).map f).set k (g k) = (List.range N).map g := by
  apply List.ext_getElem?
  intro i
  by_cases hi : i = k
  · subst hi
    rw [List.getElem?_set_self (by simpa using hk), List.getElem?_map, List.getElem?_range hk]
    rfl
  · rw [List.getElem?_set_ne (Ne.symm hi), List.getElem?_map, List.getElem?_map]
    by_cases hN : i < N
    · rw [List.getElem?_range hN]
      simp [h i hi]
    · rw [List.getElem?_eq_none (by simpa using Nat.le_of_not_lt hN)]
      rfl
theorem m_ws_set {P : m_P} {cA : Nat → ClassId} {ad : Nat → Nat} {h h' : m_H} {a : Nat} (ha : a < m_n h) (hn : m_n h' = m_n h) (ho : ∀ b, b ≠ a → m_cell P cA ad h' b = m_cell P cA ad h b) : (m_ws P cA ad h).set a (ad a, m_cell P cA ad h' a) = m_ws P cA ad h' := by
  unfold m_ws
  rw [hn]
  exact m_map_set (f := fun a => (ad a, m_cell P cA ad h a)) (g := fun a => (ad a, m_cell P cA ad h' a)) ha (fun j hj => by simp [ho j hj])
theorem m_range_succ (n : Nat) : List.range (n + 1) = List.range n ++ [n] := List.range_succ
theorem m_map_ref {h : m_H} (hw : m_wf h) {a : Nat} (ha : a < m_n h) {ad ad' : Nat → Nat} (hd : ∀ j, j < m_n h ∨ m_X ≤ j → ad' j = ad j) (k : Nat) : (m_R h a k).map ad' = (m_R h a k).map ad := by
  cases hr : m_R h a k with
  | none => rfl
  | some j => simp [hd j (hw.2 a k j ha hr)]
theorem m_cell_ad {P : m_P} {cA : Nat → ClassId} {ad ad' : Nat → Nat} {h : m_H} {a : Nat} (hw : m_wf h) (ha : a < m_n h) (hd : ∀ j, j < m_n h ∨ m_X ≤ j → ad' j = ad j) : m_cell P cA ad' h a = m_cell P cA ad h a := by
  unfold m_cell m_fv
  simp only [m_map_ref hw ha hd]
/-- a value is the same under an address table that is longer -/
theorem m_cv_ad {ad ad' : Nat → Nat} {n : Nat} {v : Value} (hv : m_in n v) (hd : ∀ j, j < n ∨ m_X ≤ j → ad' j = ad j) : m_cv ad' v = m_cv ad v := by
  cases v <;> simp only [m_cv]
  case ref a => rw [hd a hv]
theorem m_cv_map {ad ad' : Nat → Nat} {n : Nat} {st : List Value} (hv : ∀ v ∈ st, m_in n v) (hd : ∀ j, j < n ∨ m_X ≤ j → ad' j = ad j) : st.map (m_cv ad') = st.map (m_cv ad) :=
  List.map_congr_left (fun v h => m_cv_ad (hv v h) hd)
theorem m_in_mono {n n' : Nat} {v : Value} (h : m_in n v) (hn : n ≤ n') : m_in n' v := by
  cases v <;> simp only [m_in] at h ⊢
  case ref a => exact h.imp (fun z => Nat.lt_of_lt_of_le z hn) id
theorem m_rv_cv (ad : Nat → Nat) (r : Option Nat) : m_cv ad (m_rv r) = va_rf (r.map ad) := by cases r <;> rfl
theorem m_cat_cv (ad : Nat → Nat) (v : Value) : (m_cv ad v).category = v.category := by cases v <;> rfl
theorem m_cat_map (ad : Nat → Nat) (st : List Value) : ((st.map (m_cv ad)).map fun v => v.category).sum = m_cat st := by
  unfold m_cat
  rw [List.map_map]
  congr 1
  exact List.map_congr_left (fun v _ => m_cat_cv ad v)
/-- the locals -/
def m_lR (ad : Nat → Nat) (n : Nat) (ls : m_F) (la : Array Slot) (nL : Nat) : Prop :=
  la.size = nL ∧ ls.length = nL ∧ lv_wf la ∧ ∀ (i : Nat) (v : Value), ls[i]? = some (some v) → la[i]? = some (.val (m_cv ad v)) ∧ m_in n v
theorem m_lR_ad {ad ad' : Nat → Nat} {n n' : Nat} {ls : m_F} {la : Array Slot} {nL : Nat} (h : m_lR ad n ls la nL) (hn : n ≤ n') (hd : ∀ j, j < n ∨ m_X ≤ j → ad' j = ad j) : m_lR ad' n' ls la nL := by
  obtain ⟨h1, h2, h3, h4⟩ := h
  refine ⟨h1, h2, h3, fun i v hi => ?_⟩
  obtain ⟨a1, a2⟩ := h4 i v hi
  exact ⟨by rw [m_cv_ad a2 hd]; exact a1, m_in_mono a2 hn⟩
/-- the locals as the kit lists them -/
def m_ll (ad : Nat → Nat) (ls : m_F) : List (Nat × Value) := (List.range ls.length).filterMap (fun i => match ls[i]? with | some (some v) => some (i, m_cv ad v) | _ => none)
theorem m_ll_mem {ad : Nat → Nat} {ls : m_F} {q : Nat × Value} : q ∈ m_ll ad ls ↔ ∃ v, ls[q.1]? = some (some v) ∧ q.2 = m_cv ad v := by
  unfold m_ll
  rw [List.mem_filterMap]
  constructor
  · rintro ⟨i, -, h⟩
    split at h
    · next v hv => cases h; exact ⟨v, hv, rfl⟩
    · cases h
  · rintro ⟨v, hv, h2⟩
    refine ⟨q.1, List.mem_range.mpr (List.getElem?_eq_some_iff.mp hv).1, ?_⟩
    rw [hv]
    simp only
    rw [← h2]
theorem m_lR_has {ad : Nat → Nat} {n : Nat} {ls : m_F} {la : Array Slot} {nL : Nat} (h : m_lR ad n ls la nL) : lv_has la nL (m_ll ad ls) := by
  obtain ⟨h1, h2, h3, h4⟩ := h
  refine ⟨h1, h3, fun q hq => ?_⟩
  obtain ⟨v, hv, h5⟩ := m_ll_mem.mp hq
  rw [h5]
  exact (h4 _ _ hv).1
theorem m_lR_st1 {ad : Nat → Nat} {n : Nat} {ls : m_F} {la la' : Array Slot} {nL k : Nat} {v : Value} (h : m_lR ad n ls la nL) (hk : m_ok1 ls k = true) (hl : k < ls.length) (hv : m_in n v)
    (h' : lv_has la' nL ((k, m_cv ad v) :: (m_ll ad ls).filter (fun q => !(q.1 == k) && !(q.1 + 1 == k && q.2.category == 2)))) : m_lR ad n (ls.set k (some v)) la' nL := by
  obtain ⟨h1, h2, h3, h4⟩ := h
  obtain ⟨g1, g2, g3⟩ := h'
  refine ⟨g1, by rw [List.length_set]; exact h2, g2, fun i w hi => ?_⟩
  by_cases hik : i = k
  · subst hik
    rw [List.getElem?_set_self hl] at hi
    cases hi
    exact ⟨g3 (i, m_cv ad v) List.mem_cons_self, hv⟩
  · rw [List.getElem?_set_ne (Ne.symm hik)] at hi
    refine ⟨g3 (i, m_cv ad w) (List.mem_cons_of_mem _ (List.mem_filter.mpr ⟨m_ll_mem.mpr ⟨w, hi, rfl⟩, ?_⟩)), (h4 i w hi).2⟩
    simp only [Bool.and_eq_true, Bool.not_eq_true', beq_eq_false_iff_ne, ne_eq, Bool.and_eq_false_iff]
    refine ⟨hik, ?_⟩
    by_cases hj : i + 1 = k
    · right
      subst hj
      simp only [m_ok1, hi, beq_iff_eq] at hk
      rw [m_cat_cv, hk]
      decide
    · exact Or.inl hj
theorem m_lR_st2 {ad : Nat → Nat} {n : Nat} {ls : m_F} {la la' : Array Slot} {nL k : Nat} {v : Value} (h : m_lR ad n ls la nL) (hk : m_ok1 ls k = true) (hl : k + 1 < ls.length) (hv : m_in n v)
    (h' : lv_has la' nL ((k, m_cv ad v) :: (m_ll ad ls).filter (fun q => !(q.1 == k) && (!(q.1 == k + 1) && !(q.1 + 1 == k && q.2.category == 2))))) : m_lR ad n ((ls.set k (some v)).set (k + 1) none) la' nL := by
  obtain ⟨h1, h2, h3, h4⟩ := h
  obtain ⟨g1, g2, g3⟩ := h'
  refine ⟨g1, by rw [List.length_set, List.length_set]; exact h2, g2, fun i w hi => ?_⟩
  by_cases hi1 : i = k + 1
  · subst hi1
    rw [List.getElem?_set_self (by rw [List.length_set]; exact hl)] at hi
    cases hi
  rw [List.getElem?_set_ne (Ne.symm hi1)] at hi
  by_cases hik : i = k
  · subst hik
    rw [List.getElem?_set_self (by omega)] at hi
    cases hi
    exact ⟨g3 (i, m_cv ad v) List.mem_cons_self, hv⟩
  · rw [List.getElem?_set_ne (Ne.symm hik)] at hi
    refine ⟨g3 (i, m_cv ad w) (List.mem_cons_of_mem _ (List.mem_filter.mpr ⟨m_ll_mem.mpr ⟨w, hi, rfl⟩, ?_⟩)), (h4 i w hi).2⟩
    simp only [Bool.and_eq_true, Bool.not_eq_true', beq_eq_false_iff_ne, ne_eq, Bool.and_eq_false_iff]
    refine ⟨hik, hi1, ?_⟩
    by_cases hj : i + 1 = k
    · right
      subst hj
      simp only [m_ok1, hi, beq_iff_eq] at hk
      rw [m_cat_cv, hk]
      decide
    · exact Or.inl hj
theorem m_lR_stN {ad : Nat → Nat} {n : Nat} {ls : m_F} {la la' : Array Slot} {nL k : Nat} {w : Value} (h : m_lR ad n ls la nL) (hk : m_ok1 ls k = true)
    (h' : lv_has la' nL ((k, w) :: (m_ll ad ls).filter (fun q => !(q.1 == k) && !(q.1 + 1 == k && q.2.category == 2)))) : m_lR ad n (ls.set k none) la' nL := by
  obtain ⟨h1, h2, h3, h4⟩ := h
  obtain ⟨g1, g2, g3⟩ := h'
  refine ⟨g1, by rw [List.length_set]; exact h2, g2, fun i v hi => ?_⟩
  by_cases hik : i = k
  · subst hik
    by_cases hl : i < ls.length
    · rw [List.getElem?_set_self hl] at hi
      cases hi
    · rw [List.getElem?_eq_none (by rw [List.length_set]; omega)] at hi
      cases hi
  · rw [List.getElem?_set_ne (Ne.symm hik)] at hi
    refine ⟨g3 (i, m_cv ad v) (List.mem_cons_of_mem _ (List.mem_filter.mpr ⟨m_ll_mem.mpr ⟨v, hi, rfl⟩, ?_⟩)), (h4 i v hi).2⟩
    simp only [Bool.and_eq_true, Bool.not_eq_true', beq_eq_false_iff_ne, ne_eq, Bool.and_eq_false_iff]
    refine ⟨hik, ?_⟩
    by_cases hj : i + 1 = k
    · right
      subst hj
      simp only [m_ok1, hi, beq_iff_eq] at hk
      rw [m_cat_cv, hk]
      decide
    · exact Or.inl hj
end
section
/-! THE SMALL MACHINE'S INSTRUCTIONS IN THE MACHINE: stack, locals, arithmetic, branches -/
def m_rel (s : State) (P : m_P) (cl : List vw_C) (D : va_G) (cA : Nat → ClassId) (A : Nat → Prop) (xa : Nat × (Nat → Nat)) (ad : Nat → Nat) (H : Heap) (locs : List Loc) (h : m_H) : Prop :=
  va_P D cl (m_ws P cA ad h) H ∧ va_D A (m_ws P cA ad h) ∧ va_S A s.heap H locs ∧ m_wf h ∧ xa.1 ≤ m_n h ∧ ∀ j, j < xa.1 ∨ m_X ≤ j → ad j = xa.2 j
def m_go (p : Program) (l : Launch) (e : Env) (R : Room) (s : State) (m : MethodId) (args : Array Value) (below : List Frame) (meth : Method) (c : Code) (Q : State → Prop) (P : m_P) (cl : List vw_C) (D : va_G) (cA : Nat → ClassId) (A : Nat → Prop) (xa : Nat × (Nat → Nat)) (nL c0 s0 : Nat) (pc : Nat) (ls : m_F) (st : List Value) (h : m_H) : Prop :=
  ∀ (H : Heap) (locs : List Loc) (ad : Nat → Nat) (la : Array Slot), m_rel s P cl D cA A xa ad H locs h → m_lR ad (m_n h) ls la nL → (∀ v ∈ st, m_in (m_n h) v) → W p l e R s m args below meth c H locs (m_c h - c0) (m_s h - s0) Q (F0 m pc la (st.map (m_cv ad)))
section GO
variable {p : Program} {l : Launch} {e : Env} {R : Room} {s : State} {m : MethodId} {args : Array Value} {below : List Frame} {meth : Method} {c : Code} {Q : State → Prop} {P : m_P} {cl : List vw_C} {D : va_G} {cA : Nat → ClassId} {A : Nat → Prop} {xa : Nat × (Nat → Nat)} {nL c0 s0 : Nat} {pc : Nat} {ls : m_F} {st : List Value} {h : m_H} {cc : ByteArray}
theorem g_tl {n : Nat} {v : Value} {st : List Value} (h : ∀ w ∈ v :: st, m_in n w) : ∀ w ∈ st, m_in n w := fun w hw => h w (List.mem_cons_of_mem _ hw)
theorem g_hd {n : Nat} {v : Value} {st : List Value} (h : ∀ w ∈ v :: st, m_in n w) : m_in n v := h v List.mem_cons_self
theorem g_cs {n : Nat} {v : Value} {st : List Value} (hv : m_in n v) (h : ∀ w ∈ st, m_in n w) : ∀ w ∈ v :: st, m_in n w := List.forall_mem_cons.mpr ⟨hv, h⟩
theorem g_null (hx : p.tables.exec = Jvm.exec) (hb : c.code = cc) (hd : decode cc pc = .ok (.aconst_null, 1)) (k : m_go p l e R s m args below meth c Q P cl D cA A xa nL c0 s0 (pc + 1) ls (.null :: st) h) : m_go p l e R s m args below meth c Q P cl D cA A xa nL c0 s0 pc ls st h :=
  fun H locs ad la hr hl hs => lv_null hx hb hd (k H locs ad la hr hl (g_cs trivial hs))
theorem g_iconst (hx : p.tables.exec = Jvm.exec) (hb : c.code = cc) {n : Int} {v : Int32} (hv : Int32.ofInt n = v) (hd : decode cc pc = .ok (.iconst n, 1)) (k : m_go p l e R s m args below meth c Q P cl D cA A xa nL c0 s0 (pc + 1) ls (.int v :: st) h) : m_go p l e R s m args below meth c Q P cl D cA A xa nL c0 s0 pc ls st h :=
  fun H locs ad la hr hl hs => lv_iconst hx hb hd hv (k H locs ad la hr hl (g_cs trivial hs))
theorem g_bipush (hx : p.tables.exec = Jvm.exec) (hb : c.code = cc) {n : Int} {v : Int32} (hv : (Int8.ofInt n).toInt32 = v) (hd : decode cc pc = .ok (.bipush n, 2)) (k : m_go p l e R s m args below meth c Q P cl D cA A xa nL c0 s0 (pc + 2) ls (.int v :: st) h) : m_go p l e R s m args below meth c Q P cl D cA A xa nL c0 s0 pc ls st h :=
  fun H locs ad la hr hl hs => lv_bipush hx hb hd hv (k H locs ad la hr hl (g_cs trivial hs))
theorem g_sipush (hx : p.tables.exec = Jvm.exec) (hb : c.code = cc) {n : Int} {v : Int32} (hv : (Int16.ofInt n).toInt32 = v) (hd : decode cc pc = .ok (.sipush n, 3)) (k : m_go p l e R s m args below meth c Q P cl D cA A xa nL c0 s0 (pc + 3) ls (.int v :: st) h) : m_go p l e R s m args below meth c Q P cl D cA A xa nL c0 s0 pc ls st h :=
  fun H locs ad la hr hl hs => lv_sipush hx hb hd hv (k H locs ad la hr hl (g_cs trivial hs))
theorem g_ldc (hx : p.tables.exec = Jvm.exec) (hb : c.code = cc) {own : String} {index : Nat} {v : Int32} (hown : s.vm.findClass own = some m.cls) (hc : (Jvm.Cond.constant own index v).before args s = true) (hd : decode cc pc = .ok (.ldc index, 2)) (k : m_go p l e R s m args below meth c Q P cl D cA A xa nL c0 s0 (pc + 2) ls (.int v :: st) h) : m_go p l e R s m args below meth c Q P cl D cA A xa nL c0 s0 pc ls st h :=
  fun H locs ad la hr hl hs => lv_ldc hx hb hown hc hd (k H locs ad la hr hl (g_cs trivial hs))
theorem g_ldcw (hx : p.tables.exec = Jvm.exec) (hb : c.code = cc) {own : String} {index : Nat} {v : Int32} (hown : s.vm.findClass own = some m.cls) (hc : (Jvm.Cond.constant own index v).before args s = true) (hd : decode cc pc = .ok (.ldc_w index, 3)) (k : m_go p l e R s m args below meth c Q P cl D cA A xa nL c0 s0 (pc + 3) ls (.int v :: st) h) : m_go p l e R s m args below meth c Q P cl D cA A xa nL c0 s0 pc ls st h :=
  fun H locs ad la hr hl hs => lv_ldcw hx hb hown hc hd (k H locs ad la hr hl (g_cs trivial hs))
theorem g_ldc2 (hx : p.tables.exec = Jvm.exec) (hb : c.code = cc) {own : String} {index : Nat} {v : Int64} (hown : s.vm.findClass own = some m.cls) (hc : (Jvm.Cond.constantLong own index v).before args s = true) (hd : decode cc pc = .ok (.ldc2_w index, 3)) (k : m_go p l e R s m args below meth c Q P cl D cA A xa nL c0 s0 (pc + 3) ls (.long v :: st) h) : m_go p l e R s m args below meth c Q P cl D cA A xa nL c0 s0 pc ls st h :=
  fun H locs ad la hr hl hs => lv_ldc2 hx hb hown hc hd (k H locs ad la hr hl (g_cs trivial hs))
theorem g_lconst (hx : p.tables.exec = Jvm.exec) (hb : c.code = cc) {n : Fin 2} {v : Int64} (hv : Int64.ofNat (n : Nat) = v) (hd : decode cc pc = .ok (.lconst n, 1)) (k : m_go p l e R s m args below meth c Q P cl D cA A xa nL c0 s0 (pc + 1) ls (.long v :: st) h) : m_go p l e R s m args below meth c Q P cl D cA A xa nL c0 s0 pc ls st h :=
  fun H locs ad la hr hl hs => lv_lconst hx hb hd hv (k H locs ad la hr hl (g_cs trivial hs))
theorem g_fconst (hx : p.tables.exec = Jvm.exec) (hb : c.code = cc) (hd : decode cc pc = .ok (.fconst 0, 1)) (k : m_go p l e R s m args below meth c Q P cl D cA A xa nL c0 s0 (pc + 1) ls (.float FP.fconst0 :: st) h) : m_go p l e R s m args below meth c Q P cl D cA A xa nL c0 s0 pc ls st h :=
  fun H locs ad la hr hl hs => lv_fconst0 hx hb hd (k H locs ad la hr hl (g_cs trivial hs))
theorem g_dconst0 (hx : p.tables.exec = Jvm.exec) (hb : c.code = cc) (hd : decode cc pc = .ok (.dconst 0, 1)) (k : m_go p l e R s m args below meth c Q P cl D cA A xa nL c0 s0 (pc + 1) ls (.double FP.dconst0 :: st) h) : m_go p l e R s m args below meth c Q P cl D cA A xa nL c0 s0 pc ls st h :=
  fun H locs ad la hr hl hs => lv_dconst0 hx hb hd (k H locs ad la hr hl (g_cs trivial hs))
theorem g_dconst1 (hx : p.tables.exec = Jvm.exec) (hb : c.code = cc) (hd : decode cc pc = .ok (.dconst 1, 1)) (k : m_go p l e R s m args below meth c Q P cl D cA A xa nL c0 s0 (pc + 1) ls (.double FP.dconst1 :: st) h) : m_go p l e R s m args below meth c Q P cl D cA A xa nL c0 s0 pc ls st h :=
  fun H locs ad la hr hl hs => lv_dconst1 hx hb hd (k H locs ad la hr hl (g_cs trivial hs))
theorem g_iload (hx : p.tables.exec = Jvm.exec) (hb : c.code = cc) {i : Nat} {x : Int32} (hi : ls[i]? = some (some (.int x))) (hd : decode cc pc = .ok (.iload i, 2)) (k : m_go p l e R s m args below meth c Q P cl D cA A xa nL c0 s0 (pc + 2) ls (.int x :: st) h) : m_go p l e R s m args below meth c Q P cl D cA A xa nL c0 s0 pc ls st h :=
  fun H locs ad la hr hl hs => lv_iload hx hb hd (hl.2.2.2 i _ hi).1 (k H locs ad la hr hl (g_cs trivial hs))
theorem g_iload_n (hx : p.tables.exec = Jvm.exec) (hb : c.code = cc) {i : Fin 4} {x : Int32} (hi : ls[(i : Nat)]? = some (some (.int x))) (hd : decode cc pc = .ok (.iload_n i, 1)) (k : m_go p l e R s m args below meth c Q P cl D cA A xa nL c0 s0 (pc + 1) ls (.int x :: st) h) : m_go p l e R s m args below meth c Q P cl D cA A xa nL c0 s0 pc ls st h :=
  fun H locs ad la hr hl hs => lv_iload_n hx hb hd rfl (hl.2.2.2 _ _ hi).1 (k H locs ad la hr hl (g_cs trivial hs))
theorem g_lload (hx : p.tables.exec = Jvm.exec) (hb : c.code = cc) {i : Nat} {x : Int64} (hi : ls[i]? = some (some (.long x))) (hd : decode cc pc = .ok (.lload i, 2)) (k : m_go p l e R s m args below meth c Q P cl D cA A xa nL c0 s0 (pc + 2) ls (.long x :: st) h) : m_go p l e R s m args below meth c Q P cl D cA A xa nL c0 s0 pc ls st h :=
  fun H locs ad la hr hl hs => lv_lload hx hb hd (hl.2.2.2 i _ hi).1 (k H locs ad la hr hl (g_cs trivial hs))
theorem g_lload_n (hx : p.tables.exec = Jvm.exec) (hb : c.code = cc) {i : Fin 4} {x : Int64} (hi : ls[(i : Nat)]? = some (some (.long x))) (hd : decode cc pc = .ok (.lload_n i, 1)) (k : m_go p l e R s m args below meth c Q P cl D cA A xa nL c0 s0 (pc + 1) ls (.long x :: st) h) : m_go p l e R s m args below meth c Q P cl D cA A xa nL c0 s0 pc ls st h :=
  fun H locs ad la hr hl hs => lv_lload_n hx hb hd rfl (hl.2.2.2 _ _ hi).1 (k H locs ad la hr hl (g_cs trivial hs))
theorem g_fload (hx : p.tables.exec = Jvm.exec) (hb : c.code = cc) {i : Nat} {x : UInt32} (hi : ls[i]? = some (some (.float x))) (hd : decode cc pc = .ok (.fload i, 2)) (k : m_go p l e R s m args below meth c Q P cl D cA A xa nL c0 s0 (pc + 2) ls (.float x :: st) h) : m_go p l e R s m args below meth c Q P cl D cA A xa nL c0 s0 pc ls st h :=
  fun H locs ad la hr hl hs => lv_fload hx hb hd (hl.2.2.2 i _ hi).1 (k H locs ad la hr hl (g_cs trivial hs))
theorem g_dload (hx : p.tables.exec = Jvm.exec) (hb : c.code = cc) {i : Nat} {x : UInt64} (hi : ls[i]? = some (some (.double x))) (hd : decode cc pc = .ok (.dload i, 2)) (k : m_go p l e R s m args below meth c Q P cl D cA A xa nL c0 s0 (pc + 2) ls (.double x :: st) h) : m_go p l e R s m args below meth c Q P cl D cA A xa nL c0 s0 pc ls st h :=
  fun H locs ad la hr hl hs => lv_dload hx hb hd (hl.2.2.2 i _ hi).1 (k H locs ad la hr hl (g_cs trivial hs))
theorem g_aload (hx : p.tables.exec = Jvm.exec) (hb : c.code = cc) {i : Nat} {x : Nat} (hi : ls[i]? = some (some (.ref x))) (hd : decode cc pc = .ok (.aload i, 2)) (k : m_go p l e R s m args below meth c Q P cl D cA A xa nL c0 s0 (pc + 2) ls (.ref x :: st) h) : m_go p l e R s m args below meth c Q P cl D cA A xa nL c0 s0 pc ls st h :=
  fun H locs ad la hr hl hs => lv_aload hx hb hd (hl.2.2.2 i _ hi).1 (k H locs ad la hr hl (g_cs (hl.2.2.2 i _ hi).2 hs))
theorem g_aload_n (hx : p.tables.exec = Jvm.exec) (hb : c.code = cc) {i : Fin 4} {x : Nat} (hi : ls[(i : Nat)]? = some (some (.ref x))) (hd : decode cc pc = .ok (.aload_n i, 1)) (k : m_go p l e R s m args below meth c Q P cl D cA A xa nL c0 s0 (pc + 1) ls (.ref x :: st) h) : m_go p l e R s m args below meth c Q P cl D cA A xa nL c0 s0 pc ls st h :=
  fun H locs ad la hr hl hs => lv_aload_n hx hb hd rfl (hl.2.2.2 _ _ hi).1 (k H locs ad la hr hl (g_cs (hl.2.2.2 _ _ hi).2 hs))
theorem g_aloadN (hx : p.tables.exec = Jvm.exec) (hb : c.code = cc) {i : Nat} (hi : ls[i]? = some (some .null)) (hd : decode cc pc = .ok (.aload i, 2)) (k : m_go p l e R s m args below meth c Q P cl D cA A xa nL c0 s0 (pc + 2) ls (.null :: st) h) : m_go p l e R s m args below meth c Q P cl D cA A xa nL c0 s0 pc ls st h :=
  fun H locs ad la hr hl hs => lv_aloadN hx hb hd (hl.2.2.2 i _ hi).1 (k H locs ad la hr hl (g_cs trivial hs))
theorem g_aload_nN (hx : p.tables.exec = Jvm.exec) (hb : c.code = cc) {i : Fin 4} (hi : ls[(i : Nat)]? = some (some .null)) (hd : decode cc pc = .ok (.aload_n i, 1)) (k : m_go p l e R s m args below meth c Q P cl D cA A xa nL c0 s0 (pc + 1) ls (.null :: st) h) : m_go p l e R s m args below meth c Q P cl D cA A xa nL c0 s0 pc ls st h :=
  fun H locs ad la hr hl hs => lv_aload_nN hx hb hd rfl (hl.2.2.2 _ _ hi).1 (k H locs ad la hr hl (g_cs trivial hs))
theorem g_istore (hx : p.tables.exec = Jvm.exec) (hb : c.code = cc) {i : Nat} {x : Int32} (h1 : m_ok1 ls i = true) (h2 : i < ls.length) (hd : decode cc pc = .ok (.istore i, 2)) (k : m_go p l e R s m args below meth c Q P cl D cA A xa nL c0 s0 (pc + 2) (ls.set i (some (.int x))) st h) : m_go p l e R s m args below meth c Q P cl D cA A xa nL c0 s0 pc ls (.int x :: st) h :=
  fun H locs ad la hr hl hs => lv_istore hx hb hd (m_lR_has hl) (hl.2.1 ▸ h2) rfl (fun la' hl' => k H locs ad la' hr (m_lR_st1 hl h1 h2 trivial hl') (g_tl hs))
theorem g_istore_n (hx : p.tables.exec = Jvm.exec) (hb : c.code = cc) {i : Fin 4} {x : Int32} (h1 : m_ok1 ls i = true) (h2 : (i : Nat) < ls.length) (hd : decode cc pc = .ok (.istore_n i, 1)) (k : m_go p l e R s m args below meth c Q P cl D cA A xa nL c0 s0 (pc + 1) (ls.set i (some (.int x))) st h) : m_go p l e R s m args below meth c Q P cl D cA A xa nL c0 s0 pc ls (.int x :: st) h :=
  fun H locs ad la hr hl hs => lv_istore_n hx hb hd rfl (m_lR_has hl) (hl.2.1 ▸ h2) rfl (fun la' hl' => k H locs ad la' hr (m_lR_st1 hl h1 h2 trivial hl') (g_tl hs))
theorem g_fstore (hx : p.tables.exec = Jvm.exec) (hb : c.code = cc) {i : Nat} {x : UInt32} (h1 : m_ok1 ls i = true) (h2 : i < ls.length) (hd : decode cc pc = .ok (.fstore i, 2)) (k : m_go p l e R s m args below meth c Q P cl D cA A xa nL c0 s0 (pc + 2) (ls.set i (some (.float x))) st h) : m_go p l e R s m args below meth c Q P cl D cA A xa nL c0 s0 pc ls (.float x :: st) h :=
  fun H locs ad la hr hl hs => lv_fstore hx hb hd (m_lR_has hl) (hl.2.1 ▸ h2) rfl (fun la' hl' => k H locs ad la' hr (m_lR_st1 hl h1 h2 trivial hl') (g_tl hs))
theorem g_dstore (hx : p.tables.exec = Jvm.exec) (hb : c.code = cc) {i : Nat} {x : UInt64} (h1 : m_ok1 ls i = true) (h2 : i + 1 < ls.length) (hd : decode cc pc = .ok (.dstore i, 2)) (k : m_go p l e R s m args below meth c Q P cl D cA A xa nL c0 s0 (pc + 2) ((ls.set i (some (.double x))).set (i + 1) none) st h) : m_go p l e R s m args below meth c Q P cl D cA A xa nL c0 s0 pc ls (.double x :: st) h :=
  fun H locs ad la hr hl hs => lv_dstore hx hb hd (m_lR_has hl) (hl.2.1 ▸ h2) rfl (fun la' hl' => k H locs ad la' hr (m_lR_st2 hl h1 h2 trivial hl') (g_tl hs))
theorem g_astore (hx : p.tables.exec = Jvm.exec) (hb : c.code = cc) {i : Nat} {x : Nat} (h1 : m_ok1 ls i = true) (h2 : i < ls.length) (hd : decode cc pc = .ok (.astore i, 2)) (k : m_go p l e R s m args below meth c Q P cl D cA A xa nL c0 s0 (pc + 2) (ls.set i (some (.ref x))) st h) : m_go p l e R s m args below meth c Q P cl D cA A xa nL c0 s0 pc ls (.ref x :: st) h :=
  fun H locs ad la hr hl hs => lv_astore hx hb hd (m_lR_has hl) (hl.2.1 ▸ h2) rfl (fun la' hl' => k H locs ad la' hr (m_lR_st1 hl h1 h2 (g_hd hs) hl') (g_tl hs))
theorem g_astore_n (hx : p.tables.exec = Jvm.exec) (hb : c.code = cc) {i : Fin 4} {x : Nat} (h1 : m_ok1 ls i = true) (h2 : (i : Nat) < ls.length) (hd : decode cc pc = .ok (.astore_n i, 1)) (k : m_go p l e R s m args below meth c Q P cl D cA A xa nL c0 s0 (pc + 1) (ls.set i (some (.ref x))) st h) : m_go p l e R s m args below meth c Q P cl D cA A xa nL c0 s0 pc ls (.ref x :: st) h :=
  fun H locs ad la hr hl hs => lv_astore_n hx hb hd rfl (m_lR_has hl) (hl.2.1 ▸ h2) rfl (fun la' hl' => k H locs ad la' hr (m_lR_st1 hl h1 h2 (g_hd hs) hl') (g_tl hs))
theorem g_astoreN (hx : p.tables.exec = Jvm.exec) (hb : c.code = cc) {i : Nat} (h1 : m_ok1 ls i = true) (h2 : i < ls.length) (hd : decode cc pc = .ok (.astore i, 2)) (k : m_go p l e R s m args below meth c Q P cl D cA A xa nL c0 s0 (pc + 2) (ls.set i (some .null)) st h) : m_go p l e R s m args below meth c Q P cl D cA A xa nL c0 s0 pc ls (.null :: st) h :=
  fun H locs ad la hr hl hs => lv_astoreN hx hb hd (m_lR_has hl) (hl.2.1 ▸ h2) rfl (fun la' hl' => k H locs ad la' hr (m_lR_st1 hl h1 h2 trivial hl') (g_tl hs))
theorem g_astore_nN (hx : p.tables.exec = Jvm.exec) (hb : c.code = cc) {i : Fin 4} (h1 : m_ok1 ls i = true) (h2 : (i : Nat) < ls.length) (hd : decode cc pc = .ok (.astore_n i, 1)) (k : m_go p l e R s m args below meth c Q P cl D cA A xa nL c0 s0 (pc + 1) (ls.set i (some .null)) st h) : m_go p l e R s m args below meth c Q P cl D cA A xa nL c0 s0 pc ls (.null :: st) h :=
  fun H locs ad la hr hl hs => lv_astore_nN hx hb hd rfl (m_lR_has hl) (hl.2.1 ▸ h2) rfl (fun la' hl' => k H locs ad la' hr (m_lR_st1 hl h1 h2 trivial hl') (g_tl hs))
theorem g_iinc (hx : p.tables.exec = Jvm.exec) (hb : c.code = cc) {i : Nat} {n : Int} {x : Int32} (h1 : m_ok1 ls i = true) (hi : ls[i]? = some (some (.int x))) (hd : decode cc pc = .ok (.iinc i n, 3)) (k : m_go p l e R s m args below meth c Q P cl D cA A xa nL c0 s0 (pc + 3) (ls.set i (some (.int (x + Int32.ofInt n)))) st h) : m_go p l e R s m args below meth c Q P cl D cA A xa nL c0 s0 pc ls st h := by
  intro H locs ad la hr hl hs
  have h2 : i < ls.length := (List.getElem?_eq_some_iff.mp hi).1
  obtain ⟨j, hj⟩ := List.getElem?_of_mem (m_ll_mem (ad := ad) (ls := ls) (q := (i, .int x)) |>.mpr ⟨_, hi, rfl⟩)
  exact lv_iinc hx hb hd (m_lR_has hl) hj rfl (hl.2.1 ▸ h2) rfl (fun la' hl' => k H locs ad la' hr (m_lR_st1 hl h1 h2 trivial hl') hs)
end GO
end
section
/-! arithmetic, stack and branches -/
section GOA
variable {p : Program} {l : Launch} {e : Env} {R : Room} {s : State} {m : MethodId} {args : Array Value} {below : List Frame} {meth : Method} {c : Code} {Q : State → Prop} {P : m_P} {cl : List vw_C} {D : va_G} {cA : Nat → ClassId} {A : Nat → Prop} {xa : Nat × (Nat → Nat)} {nL c0 s0 : Nat} {pc : Nat} {ls : m_F} {st : List Value} {h : m_H} {cc : ByteArray}
theorem g_iadd (hx : p.tables.exec = Jvm.exec) (hb : c.code = cc) {a b : Int32} (hd : decode cc pc = .ok (.iadd, 1)) (k : m_go p l e R s m args below meth c Q P cl D cA A xa nL c0 s0 (pc + 1) ls (.int (a + b) :: st) h) : m_go p l e R s m args below meth c Q P cl D cA A xa nL c0 s0 pc ls (.int b :: .int a :: st) h :=
  fun H locs ad la hr hl hs => lv_iadd hx hb hd (k H locs ad la hr hl (g_cs trivial (g_tl (g_tl hs))))
theorem g_isub (hx : p.tables.exec = Jvm.exec) (hb : c.code = cc) {a b : Int32} (hd : decode cc pc = .ok (.isub, 1)) (k : m_go p l e R s m args below meth c Q P cl D cA A xa nL c0 s0 (pc + 1) ls (.int (a - b) :: st) h) : m_go p l e R s m args below meth c Q P cl D cA A xa nL c0 s0 pc ls (.int b :: .int a :: st) h :=
  fun H locs ad la hr hl hs => lv_isub hx hb hd (k H locs ad la hr hl (g_cs trivial (g_tl (g_tl hs))))
theorem g_imul (hx : p.tables.exec = Jvm.exec) (hb : c.code = cc) {a b : Int32} (hd : decode cc pc = .ok (.imul, 1)) (k : m_go p l e R s m args below meth c Q P cl D cA A xa nL c0 s0 (pc + 1) ls (.int (a * b) :: st) h) : m_go p l e R s m args below meth c Q P cl D cA A xa nL c0 s0 pc ls (.int b :: .int a :: st) h :=
  fun H locs ad la hr hl hs => lv_imul hx hb hd (k H locs ad la hr hl (g_cs trivial (g_tl (g_tl hs))))
theorem g_iand (hx : p.tables.exec = Jvm.exec) (hb : c.code = cc) {a b : Int32} (hd : decode cc pc = .ok (.iand, 1)) (k : m_go p l e R s m args below meth c Q P cl D cA A xa nL c0 s0 (pc + 1) ls (.int (a &&& b) :: st) h) : m_go p l e R s m args below meth c Q P cl D cA A xa nL c0 s0 pc ls (.int b :: .int a :: st) h :=
  fun H locs ad la hr hl hs => lv_iand hx hb hd (k H locs ad la hr hl (g_cs trivial (g_tl (g_tl hs))))
theorem g_ior (hx : p.tables.exec = Jvm.exec) (hb : c.code = cc) {a b : Int32} (hd : decode cc pc = .ok (.ior, 1)) (k : m_go p l e R s m args below meth c Q P cl D cA A xa nL c0 s0 (pc + 1) ls (.int (a ||| b) :: st) h) : m_go p l e R s m args below meth c Q P cl D cA A xa nL c0 s0 pc ls (.int b :: .int a :: st) h :=
  fun H locs ad la hr hl hs => lv_ior hx hb hd (k H locs ad la hr hl (g_cs trivial (g_tl (g_tl hs))))
theorem g_ishr (hx : p.tables.exec = Jvm.exec) (hb : c.code = cc) {a b : Int32} (hd : decode cc pc = .ok (.ishr, 1)) (k : m_go p l e R s m args below meth c Q P cl D cA A xa nL c0 s0 (pc + 1) ls (.int (a >>> (b &&& 31)) :: st) h) : m_go p l e R s m args below meth c Q P cl D cA A xa nL c0 s0 pc ls (.int b :: .int a :: st) h :=
  fun H locs ad la hr hl hs => lv_ishr hx hb hd (k H locs ad la hr hl (g_cs trivial (g_tl (g_tl hs))))
theorem g_idiv (hx : p.tables.exec = Jvm.exec) (hb : c.code = cc) {a b : Int32} (h0 : ¬ b = 0) (hd : decode cc pc = .ok (.idiv, 1)) (k : m_go p l e R s m args below meth c Q P cl D cA A xa nL c0 s0 (pc + 1) ls (.int (a / b) :: st) h) : m_go p l e R s m args below meth c Q P cl D cA A xa nL c0 s0 pc ls (.int b :: .int a :: st) h :=
  fun H locs ad la hr hl hs => lv_idiv hx hb hd h0 (k H locs ad la hr hl (g_cs trivial (g_tl (g_tl hs))))
theorem g_irem (hx : p.tables.exec = Jvm.exec) (hb : c.code = cc) {a b : Int32} (h0 : ¬ b = 0) (hd : decode cc pc = .ok (.irem, 1)) (k : m_go p l e R s m args below meth c Q P cl D cA A xa nL c0 s0 (pc + 1) ls (.int (a - a / b * b) :: st) h) : m_go p l e R s m args below meth c Q P cl D cA A xa nL c0 s0 pc ls (.int b :: .int a :: st) h :=
  fun H locs ad la hr hl hs => lv_irem hx hb hd h0 (k H locs ad la hr hl (g_cs trivial (g_tl (g_tl hs))))
theorem g_ladd (hx : p.tables.exec = Jvm.exec) (hb : c.code = cc) {a b : Int64} (hd : decode cc pc = .ok (.ladd, 1)) (k : m_go p l e R s m args below meth c Q P cl D cA A xa nL c0 s0 (pc + 1) ls (.long (a + b) :: st) h) : m_go p l e R s m args below meth c Q P cl D cA A xa nL c0 s0 pc ls (.long b :: .long a :: st) h :=
  fun H locs ad la hr hl hs => lv_ladd hx hb hd (k H locs ad la hr hl (g_cs trivial (g_tl (g_tl hs))))
theorem g_lsub (hx : p.tables.exec = Jvm.exec) (hb : c.code = cc) {a b : Int64} (hd : decode cc pc = .ok (.lsub, 1)) (k : m_go p l e R s m args below meth c Q P cl D cA A xa nL c0 s0 (pc + 1) ls (.long (a - b) :: st) h) : m_go p l e R s m args below meth c Q P cl D cA A xa nL c0 s0 pc ls (.long b :: .long a :: st) h :=
  fun H locs ad la hr hl hs => lv_lsub hx hb hd (k H locs ad la hr hl (g_cs trivial (g_tl (g_tl hs))))
theorem g_lmul (hx : p.tables.exec = Jvm.exec) (hb : c.code = cc) {a b : Int64} (hd : decode cc pc = .ok (.lmul, 1)) (k : m_go p l e R s m args below meth c Q P cl D cA A xa nL c0 s0 (pc + 1) ls (.long (a * b) :: st) h) : m_go p l e R s m args below meth c Q P cl D cA A xa nL c0 s0 pc ls (.long b :: .long a :: st) h :=
  fun H locs ad la hr hl hs => lv_lmul hx hb hd (k H locs ad la hr hl (g_cs trivial (g_tl (g_tl hs))))
theorem g_i2b (hx : p.tables.exec = Jvm.exec) (hb : c.code = cc) {a : Int32} (hd : decode cc pc = .ok (.i2b, 1)) (k : m_go p l e R s m args below meth c Q P cl D cA A xa nL c0 s0 (pc + 1) ls (.int a.toInt8.toInt32 :: st) h) : m_go p l e R s m args below meth c Q P cl D cA A xa nL c0 s0 pc ls (.int a :: st) h :=
  fun H locs ad la hr hl hs => lv_i2b hx hb hd rfl (k H locs ad la hr hl (g_cs trivial (g_tl hs)))
theorem g_i2l (hx : p.tables.exec = Jvm.exec) (hb : c.code = cc) {a : Int32} (hd : decode cc pc = .ok (.i2l, 1)) (k : m_go p l e R s m args below meth c Q P cl D cA A xa nL c0 s0 (pc + 1) ls (.long a.toInt64 :: st) h) : m_go p l e R s m args below meth c Q P cl D cA A xa nL c0 s0 pc ls (.int a :: st) h :=
  fun H locs ad la hr hl hs => lv_i2l hx hb hd rfl (k H locs ad la hr hl (g_cs trivial (g_tl hs)))
theorem g_i2d (hx : p.tables.exec = Jvm.exec) (hb : c.code = cc) {a : Int32} (hd : decode cc pc = .ok (.i2d, 1)) (k : m_go p l e R s m args below meth c Q P cl D cA A xa nL c0 s0 (pc + 1) ls (.double (FP.i2d a) :: st) h) : m_go p l e R s m args below meth c Q P cl D cA A xa nL c0 s0 pc ls (.int a :: st) h :=
  fun H locs ad la hr hl hs => lv_i2d hx hb hd (k H locs ad la hr hl (g_cs trivial (g_tl hs)))
theorem g_i2f (hx : p.tables.exec = Jvm.exec) (hb : c.code = cc) {a : Int32} (hd : decode cc pc = .ok (.i2f, 1)) (k : m_go p l e R s m args below meth c Q P cl D cA A xa nL c0 s0 (pc + 1) ls (.float (FP.i2f a) :: st) h) : m_go p l e R s m args below meth c Q P cl D cA A xa nL c0 s0 pc ls (.int a :: st) h :=
  fun H locs ad la hr hl hs => lv_i2f hx hb hd (k H locs ad la hr hl (g_cs trivial (g_tl hs)))
theorem g_dup (hx : p.tables.exec = Jvm.exec) (hb : c.code = cc) {v : Value} (hv : v.category = 1) (hd : decode cc pc = .ok (.dup, 1)) (k : m_go p l e R s m args below meth c Q P cl D cA A xa nL c0 s0 (pc + 1) ls (v :: v :: st) h) : m_go p l e R s m args below meth c Q P cl D cA A xa nL c0 s0 pc ls (v :: st) h :=
  fun H locs ad la hr hl hs => lv_dup hx hb hd (by rw [m_cat_cv]; exact hv) (k H locs ad la hr hl (g_cs (g_hd hs) hs))
theorem g_pop (hx : p.tables.exec = Jvm.exec) (hb : c.code = cc) {v : Value} (hv : v.category = 1) (hd : decode cc pc = .ok (.pop, 1)) (k : m_go p l e R s m args below meth c Q P cl D cA A xa nL c0 s0 (pc + 1) ls st h) : m_go p l e R s m args below meth c Q P cl D cA A xa nL c0 s0 pc ls (v :: st) h :=
  fun H locs ad la hr hl hs => lv_pop hx hb hd (by rw [m_cat_cv]; exact hv) (k H locs ad la hr hl (g_tl hs))
theorem g_dup2 (hx : p.tables.exec = Jvm.exec) (hb : c.code = cc) {v w : Value} (hv : v.category = 1) (hw : w.category = 1) (hd : decode cc pc = .ok (.dup2, 1)) (k : m_go p l e R s m args below meth c Q P cl D cA A xa nL c0 s0 (pc + 1) ls (v :: w :: v :: w :: st) h) : m_go p l e R s m args below meth c Q P cl D cA A xa nL c0 s0 pc ls (v :: w :: st) h :=
  fun H locs ad la hr hl hs => lv_dup2_11 hx hb hd (by rw [m_cat_cv]; exact hv) (by rw [m_cat_cv]; exact hw) (k H locs ad la hr hl (g_cs (g_hd hs) (g_cs (g_hd (g_tl hs)) hs)))
theorem g_goto (hx : p.tables.exec = Jvm.exec) (hb : c.code = cc) {off : Int} {tgt : Nat} (hd : decode cc pc = .ok (.goto off, 3)) (ht : (pc : Int) + off = (tgt : Int)) (k : m_go p l e R s m args below meth c Q P cl D cA A xa nL c0 s0 tgt ls st h) : m_go p l e R s m args below meth c Q P cl D cA A xa nL c0 s0 pc ls st h :=
  fun H locs ad la hr hl hs => lv_goto hx hb hd ht (k H locs ad la hr hl hs)
theorem g_if_eq (hx : p.tables.exec = Jvm.exec) (hb : c.code = cc) {a : Int32} {off : Int} {tgt : Nat} (hd : decode cc pc = .ok (.ifCond .eq off, 3)) (ht : (pc : Int) + off = (tgt : Int)) (kt : a = 0 → m_go p l e R s m args below meth c Q P cl D cA A xa nL c0 s0 tgt ls st h) (kf : ¬ (a = 0) → m_go p l e R s m args below meth c Q P cl D cA A xa nL c0 s0 (pc + 3) ls st h) : m_go p l e R s m args below meth c Q P cl D cA A xa nL c0 s0 pc ls (.int a :: st) h :=
  fun H locs ad la hr hl hs => lv_if_eq hx hb hd ht (fun z => kt (by exact z) H locs ad la hr hl (g_tl hs)) (fun z => kf (by first | exact z | exact fun y => y z) H locs ad la hr hl (g_tl hs))
theorem g_if_ne (hx : p.tables.exec = Jvm.exec) (hb : c.code = cc) {a : Int32} {off : Int} {tgt : Nat} (hd : decode cc pc = .ok (.ifCond .ne off, 3)) (ht : (pc : Int) + off = (tgt : Int)) (kt : ¬ a = 0 → m_go p l e R s m args below meth c Q P cl D cA A xa nL c0 s0 tgt ls st h) (kf : ¬ (¬ a = 0) → m_go p l e R s m args below meth c Q P cl D cA A xa nL c0 s0 (pc + 3) ls st h) : m_go p l e R s m args below meth c Q P cl D cA A xa nL c0 s0 pc ls (.int a :: st) h :=
  fun H locs ad la hr hl hs => lv_if_ne hx hb hd ht (fun z => kt (by exact z) H locs ad la hr hl (g_tl hs)) (fun z => kf (by first | exact z | exact fun y => y z) H locs ad la hr hl (g_tl hs))
theorem g_if_lt (hx : p.tables.exec = Jvm.exec) (hb : c.code = cc) {a : Int32} {off : Int} {tgt : Nat} (hd : decode cc pc = .ok (.ifCond .lt off, 3)) (ht : (pc : Int) + off = (tgt : Int)) (kt : a < 0 → m_go p l e R s m args below meth c Q P cl D cA A xa nL c0 s0 tgt ls st h) (kf : ¬ (a < 0) → m_go p l e R s m args below meth c Q P cl D cA A xa nL c0 s0 (pc + 3) ls st h) : m_go p l e R s m args below meth c Q P cl D cA A xa nL c0 s0 pc ls (.int a :: st) h :=
  fun H locs ad la hr hl hs => lv_if_lt hx hb hd ht (fun z => kt (by exact z) H locs ad la hr hl (g_tl hs)) (fun z => kf (by first | exact z | exact fun y => y z) H locs ad la hr hl (g_tl hs))
theorem g_if_ge (hx : p.tables.exec = Jvm.exec) (hb : c.code = cc) {a : Int32} {off : Int} {tgt : Nat} (hd : decode cc pc = .ok (.ifCond .ge off, 3)) (ht : (pc : Int) + off = (tgt : Int)) (kt : 0 ≤ a → m_go p l e R s m args below meth c Q P cl D cA A xa nL c0 s0 tgt ls st h) (kf : ¬ (0 ≤ a) → m_go p l e R s m args below meth c Q P cl D cA A xa nL c0 s0 (pc + 3) ls st h) : m_go p l e R s m args below meth c Q P cl D cA A xa nL c0 s0 pc ls (.int a :: st) h :=
  fun H locs ad la hr hl hs => lv_if_ge hx hb hd ht (fun z => kt (by exact z) H locs ad la hr hl (g_tl hs)) (fun z => kf (by first | exact z | exact fun y => y z) H locs ad la hr hl (g_tl hs))
theorem g_if_gt (hx : p.tables.exec = Jvm.exec) (hb : c.code = cc) {a : Int32} {off : Int} {tgt : Nat} (hd : decode cc pc = .ok (.ifCond .gt off, 3)) (ht : (pc : Int) + off = (tgt : Int)) (kt : 0 < a → m_go p l e R s m args below meth c Q P cl D cA A xa nL c0 s0 tgt ls st h) (kf : ¬ (0 < a) → m_go p l e R s m args below meth c Q P cl D cA A xa nL c0 s0 (pc + 3) ls st h) : m_go p l e R s m args below meth c Q P cl D cA A xa nL c0 s0 pc ls (.int a :: st) h :=
  fun H locs ad la hr hl hs => lv_if_gt hx hb hd ht (fun z => kt (by exact z) H locs ad la hr hl (g_tl hs)) (fun z => kf (by first | exact z | exact fun y => y z) H locs ad la hr hl (g_tl hs))
theorem g_if_le (hx : p.tables.exec = Jvm.exec) (hb : c.code = cc) {a : Int32} {off : Int} {tgt : Nat} (hd : decode cc pc = .ok (.ifCond .le off, 3)) (ht : (pc : Int) + off = (tgt : Int)) (kt : a ≤ 0 → m_go p l e R s m args below meth c Q P cl D cA A xa nL c0 s0 tgt ls st h) (kf : ¬ (a ≤ 0) → m_go p l e R s m args below meth c Q P cl D cA A xa nL c0 s0 (pc + 3) ls st h) : m_go p l e R s m args below meth c Q P cl D cA A xa nL c0 s0 pc ls (.int a :: st) h :=
  fun H locs ad la hr hl hs => lv_if_le hx hb hd ht (fun z => kt (by exact z) H locs ad la hr hl (g_tl hs)) (fun z => kf (by first | exact z | exact fun y => y z) H locs ad la hr hl (g_tl hs))
theorem g_icmp_eq (hx : p.tables.exec = Jvm.exec) (hb : c.code = cc) {a b : Int32} {off : Int} {tgt : Nat} (hd : decode cc pc = .ok (.if_icmp .eq off, 3)) (ht : (pc : Int) + off = (tgt : Int)) (kt : a = b → m_go p l e R s m args below meth c Q P cl D cA A xa nL c0 s0 tgt ls st h) (kf : ¬ (a = b) → m_go p l e R s m args below meth c Q P cl D cA A xa nL c0 s0 (pc + 3) ls st h) : m_go p l e R s m args below meth c Q P cl D cA A xa nL c0 s0 pc ls (.int b :: .int a :: st) h :=
  fun H locs ad la hr hl hs => lv_icmp_eq hx hb hd ht (fun z => kt (by exact z) H locs ad la hr hl (g_tl (g_tl hs))) (fun z => kf (by first | exact z | exact fun y => y z) H locs ad la hr hl (g_tl (g_tl hs)))
theorem g_icmp_ne (hx : p.tables.exec = Jvm.exec) (hb : c.code = cc) {a b : Int32} {off : Int} {tgt : Nat} (hd : decode cc pc = .ok (.if_icmp .ne off, 3)) (ht : (pc : Int) + off = (tgt : Int)) (kt : ¬ a = b → m_go p l e R s m args below meth c Q P cl D cA A xa nL c0 s0 tgt ls st h) (kf : ¬ (¬ a = b) → m_go p l e R s m args below meth c Q P cl D cA A xa nL c0 s0 (pc + 3) ls st h) : m_go p l e R s m args below meth c Q P cl D cA A xa nL c0 s0 pc ls (.int b :: .int a :: st) h :=
  fun H locs ad la hr hl hs => lv_icmp_ne hx hb hd ht (fun z => kt (by exact z) H locs ad la hr hl (g_tl (g_tl hs))) (fun z => kf (by first | exact z | exact fun y => y z) H locs ad la hr hl (g_tl (g_tl hs)))
theorem g_icmp_lt (hx : p.tables.exec = Jvm.exec) (hb : c.code = cc) {a b : Int32} {off : Int} {tgt : Nat} (hd : decode cc pc = .ok (.if_icmp .lt off, 3)) (ht : (pc : Int) + off = (tgt : Int)) (kt : a < b → m_go p l e R s m args below meth c Q P cl D cA A xa nL c0 s0 tgt ls st h) (kf : ¬ (a < b) → m_go p l e R s m args below meth c Q P cl D cA A xa nL c0 s0 (pc + 3) ls st h) : m_go p l e R s m args below meth c Q P cl D cA A xa nL c0 s0 pc ls (.int b :: .int a :: st) h :=
  fun H locs ad la hr hl hs => lv_icmp_lt hx hb hd ht (fun z => kt (by exact z) H locs ad la hr hl (g_tl (g_tl hs))) (fun z => kf (by first | exact z | exact fun y => y z) H locs ad la hr hl (g_tl (g_tl hs)))
theorem g_icmp_ge (hx : p.tables.exec = Jvm.exec) (hb : c.code = cc) {a b : Int32} {off : Int} {tgt : Nat} (hd : decode cc pc = .ok (.if_icmp .ge off, 3)) (ht : (pc : Int) + off = (tgt : Int)) (kt : b ≤ a → m_go p l e R s m args below meth c Q P cl D cA A xa nL c0 s0 tgt ls st h) (kf : ¬ (b ≤ a) → m_go p l e R s m args below meth c Q P cl D cA A xa nL c0 s0 (pc + 3) ls st h) : m_go p l e R s m args below meth c Q P cl D cA A xa nL c0 s0 pc ls (.int b :: .int a :: st) h :=
  fun H locs ad la hr hl hs => lv_icmp_ge hx hb hd ht (fun z => kt (by exact z) H locs ad la hr hl (g_tl (g_tl hs))) (fun z => kf (by first | exact z | exact fun y => y z) H locs ad la hr hl (g_tl (g_tl hs)))
theorem g_icmp_gt (hx : p.tables.exec = Jvm.exec) (hb : c.code = cc) {a b : Int32} {off : Int} {tgt : Nat} (hd : decode cc pc = .ok (.if_icmp .gt off, 3)) (ht : (pc : Int) + off = (tgt : Int)) (kt : b < a → m_go p l e R s m args below meth c Q P cl D cA A xa nL c0 s0 tgt ls st h) (kf : ¬ (b < a) → m_go p l e R s m args below meth c Q P cl D cA A xa nL c0 s0 (pc + 3) ls st h) : m_go p l e R s m args below meth c Q P cl D cA A xa nL c0 s0 pc ls (.int b :: .int a :: st) h :=
  fun H locs ad la hr hl hs => lv_icmp_gt hx hb hd ht (fun z => kt (by exact z) H locs ad la hr hl (g_tl (g_tl hs))) (fun z => kf (by first | exact z | exact fun y => y z) H locs ad la hr hl (g_tl (g_tl hs)))
theorem g_icmp_le (hx : p.tables.exec = Jvm.exec) (hb : c.code = cc) {a b : Int32} {off : Int} {tgt : Nat} (hd : decode cc pc = .ok (.if_icmp .le off, 3)) (ht : (pc : Int) + off = (tgt : Int)) (kt : a ≤ b → m_go p l e R s m args below meth c Q P cl D cA A xa nL c0 s0 tgt ls st h) (kf : ¬ (a ≤ b) → m_go p l e R s m args below meth c Q P cl D cA A xa nL c0 s0 (pc + 3) ls st h) : m_go p l e R s m args below meth c Q P cl D cA A xa nL c0 s0 pc ls (.int b :: .int a :: st) h :=
  fun H locs ad la hr hl hs => lv_icmp_le hx hb hd ht (fun z => kt (by exact z) H locs ad la hr hl (g_tl (g_tl hs))) (fun z => kf (by first | exact z | exact fun y => y z) H locs ad la hr hl (g_tl (g_tl hs)))
theorem g_ifnull (hx : p.tables.exec = Jvm.exec) (hb : c.code = cc) {x : Nat} {off : Int} (hd : decode cc pc = .ok (.ifnull off, 3)) (k : m_go p l e R s m args below meth c Q P cl D cA A xa nL c0 s0 (pc + 3) ls st h) : m_go p l e R s m args below meth c Q P cl D cA A xa nL c0 s0 pc ls (.ref x :: st) h :=
  fun H locs ad la hr hl hs => lv_ifnull hx hb hd (k H locs ad la hr hl (g_tl hs))
theorem g_ifnullN (hx : p.tables.exec = Jvm.exec) (hb : c.code = cc) {off : Int} {tgt : Nat} (hd : decode cc pc = .ok (.ifnull off, 3)) (ht : (pc : Int) + off = (tgt : Int)) (k : m_go p l e R s m args below meth c Q P cl D cA A xa nL c0 s0 tgt ls st h) : m_go p l e R s m args below meth c Q P cl D cA A xa nL c0 s0 pc ls (.null :: st) h :=
  fun H locs ad la hr hl hs => lv_ifnullN hx hb hd ht (k H locs ad la hr hl (g_tl hs))
theorem g_ifnonnull (hx : p.tables.exec = Jvm.exec) (hb : c.code = cc) {x : Nat} {off : Int} {tgt : Nat} (hd : decode cc pc = .ok (.ifnonnull off, 3)) (ht : (pc : Int) + off = (tgt : Int)) (k : m_go p l e R s m args below meth c Q P cl D cA A xa nL c0 s0 tgt ls st h) : m_go p l e R s m args below meth c Q P cl D cA A xa nL c0 s0 pc ls (.ref x :: st) h :=
  fun H locs ad la hr hl hs => lv_ifnonnull hx hb hd ht (k H locs ad la hr hl (g_tl hs))
theorem g_ifnonnullN (hx : p.tables.exec = Jvm.exec) (hb : c.code = cc) {off : Int} (hd : decode cc pc = .ok (.ifnonnull off, 3)) (k : m_go p l e R s m args below meth c Q P cl D cA A xa nL c0 s0 (pc + 3) ls st h) : m_go p l e R s m args below meth c Q P cl D cA A xa nL c0 s0 pc ls (.null :: st) h :=
  fun H locs ad la hr hl hs => lv_ifnonnullN hx hb hd (k H locs ad la hr hl (g_tl hs))
theorem g_tableIn (hx : p.tables.exec = Jvm.exec) (hb : c.code = cc) {dflt lo hi : Int} {offs : Array Int} {len : Nat} {x : Int32} {off : Int} {tgt : Nat} (hd : decode cc pc = .ok (.tableswitch dflt lo hi offs, len)) (h1 : ¬ x.toInt < lo) (h2 : ¬ hi < x.toInt) (ho : offs[(x.toInt - lo).toNat]? = some off) (ht : (pc : Int) + off = (tgt : Int)) (k : m_go p l e R s m args below meth c Q P cl D cA A xa nL c0 s0 tgt ls st h) : m_go p l e R s m args below meth c Q P cl D cA A xa nL c0 s0 pc ls (.int x :: st) h :=
  fun H locs ad la hr hl hs => lv_tableIn hx hb hd h1 h2 ho ht (k H locs ad la hr hl (g_tl hs))
theorem g_tableOut (hx : p.tables.exec = Jvm.exec) (hb : c.code = cc) {dflt lo hi : Int} {offs : Array Int} {len : Nat} {x : Int32} {tgt : Nat} (hd : decode cc pc = .ok (.tableswitch dflt lo hi offs, len)) (h1 : x.toInt < lo ∨ hi < x.toInt) (ht : (pc : Int) + dflt = (tgt : Int)) (k : m_go p l e R s m args below meth c Q P cl D cA A xa nL c0 s0 tgt ls st h) : m_go p l e R s m args below meth c Q P cl D cA A xa nL c0 s0 pc ls (.int x :: st) h :=
  fun H locs ad la hr hl hs => lv_tableOut hx hb hd h1 ht (k H locs ad la hr hl (g_tl hs))
end GOA
end
section
/-! fields and rows -/
theorem m_upne {α : Type} {f : Nat → Nat → α} {a b k : Nat} {v : α} (hb : b ≠ a) : m_up f a k v b = f b := by
  funext y
  simp [m_up, hb]
theorem m_upeq {α : Type} {f : Nat → Nat → α} {a k j : Nat} {v : α} : m_up f a k v a j = if j = k then v else f a j := by simp [m_up]
theorem m_upI {f : Nat → Nat → Int32} {a k : Nat} {v : Int32} : m_up f a k v a = upd (f a) k v := by
  funext y
  simp [m_up, upd]
theorem m_upL {f : Nat → Nat → Int64} {a k : Nat} {v : Int64} : m_up f a k v a = vp_updL (f a) k v := by
  funext y
  simp [m_up, vp_updL]
theorem m_upD {f : Nat → Nat → UInt64} {a k : Nat} {v : UInt64} : m_up f a k v a = vf_upd (f a) k v := by
  funext y
  simp [m_up, vf_upd]
theorem m_I_setI (h : m_H) (a k : Nat) (v : Int32) : m_I (m_setI h a k v) = m_up (m_I h) a k v := rfl
theorem m_L_setL (h : m_H) (a k : Nat) (v : Int64) : m_L (m_setL h a k v) = m_up (m_L h) a k v := rfl
theorem m_D_setD (h : m_H) (a k : Nat) (v : UInt64) : m_D (m_setD h a k v) = m_up (m_D h) a k v := rfl
theorem m_R_setR (h : m_H) (a k : Nat) (v : Option Nat) : m_R (m_setR h a k v) = m_up (m_R h) a k v := rfl
section CELLS
variable {P : m_P} {cA : Nat → ClassId} {ad : Nat → Nat} {h : m_H} {a b k : Nat}
theorem m_cI_ne {v : Int32} (hb : b ≠ a) : m_cell P cA ad (m_setI h a k v) b = m_cell P cA ad h b := by
  have e1 : m_I (m_setI h a k v) b = m_I h b := m_upne hb
  unfold m_cell m_fv
  rw [e1]
  rfl
theorem m_cL_ne {v : Int64} (hb : b ≠ a) : m_cell P cA ad (m_setL h a k v) b = m_cell P cA ad h b := by
  have e1 : m_L (m_setL h a k v) b = m_L h b := m_upne hb
  unfold m_cell m_fv
  rw [e1]
  rfl
theorem m_cD_ne {v : UInt64} (hb : b ≠ a) : m_cell P cA ad (m_setD h a k v) b = m_cell P cA ad h b := by
  have e1 : m_D (m_setD h a k v) b = m_D h b := m_upne hb
  unfold m_cell m_fv
  rw [e1]
  rfl
theorem m_cR_ne {v : Option Nat} (hb : b ≠ a) : m_cell P cA ad (m_setR h a k v) b = m_cell P cA ad h b := by
  have e1 : m_R (m_setR h a k v) b = m_R h b := m_upne hb
  unfold m_cell m_fv
  rw [e1]
  rfl
theorem m_cell_obj {ci : Nat} (hk : m_k h a = ci) (hc : ci < 100) : m_cell P cA ad h a = .inr (ci, (List.range (m_nf P ci)).map (fun k => m_fv P ad h a ci k)) := by
  unfold m_cell
  rw [hk, if_pos hc]
theorem m_cell_I {ci : Nat} (hk : m_k h a = ci) (h1 : 100 ≤ ci) (h2 : ci ≠ 102) (h3 : ci ≠ 103) (h4 : ci < 200) : m_cell P cA ad h a = .inl (cA ci, m_l h a, .inl (m_I h a)) := by
  unfold m_cell
  rw [hk, if_neg (by omega), if_neg h2, if_neg h3, if_pos h4]
theorem m_cell_L (hk : m_k h a = 102) : m_cell P cA ad h a = .inl (cA 102, m_l h a, .inr (.inl (m_L h a))) := by
  unfold m_cell
  rw [hk]
  rfl
theorem m_cell_D (hk : m_k h a = 103) : m_cell P cA ad h a = .inl (cA 103, m_l h a, .inr (.inr (.inr (.inl (m_D h a))))) := by
  unfold m_cell
  rw [hk]
  rfl
theorem m_cell_R {ci : Nat} (hk : m_k h a = ci) (h1 : 200 ≤ ci) : m_cell P cA ad h a = .inl (cA ci, m_l h a, .inr (.inr (.inr (.inr (fun i => (m_R h a i).map ad))))) := by
  unfold m_cell
  rw [hk, if_neg (by omega), if_neg (by omega), if_neg (by omega), if_neg (by omega)]
end CELLS
/-- a field as the small machine reads it -/
def m_gv (P : m_P) (h : m_H) (a ci k : Nat) : Value := if m_fk P ci k = 1 then m_rv (m_R h a k) else if m_fk P ci k = 2 then .long (m_L h a k) else .int (m_I h a k)
theorem m_gv_cv {P : m_P} {ad : Nat → Nat} {h : m_H} {a ci k : Nat} : m_cv ad (m_gv P h a ci k) = m_fv P ad h a ci k := by
  unfold m_gv m_fv
  split
  · exact m_rv_cv ad _
  · split <;> rfl
theorem m_rv_in {h : m_H} (hw : m_wf h) {a k : Nat} (ha : a < m_n h) : m_in (m_n h) (m_rv (m_R h a k)) := by
  cases hr : m_R h a k with
  | none => trivial
  | some j => exact hw.2 a k j ha hr
theorem m_gv_in {P : m_P} {h : m_H} {a ci k : Nat} (hw : m_wf h) (ha : a < m_n h) : m_in (m_n h) (m_gv P h a ci k) := by
  unfold m_gv
  split
  · exact m_rv_in hw ha
  · split <;> trivial
theorem m_wf_I {h : m_H} {a k : Nat} {v : Int32} (hw : m_wf h) : m_wf (m_setI h a k v) := hw
theorem m_wf_L {h : m_H} {a k : Nat} {v : Int64} (hw : m_wf h) : m_wf (m_setL h a k v) := hw
theorem m_wf_D {h : m_H} {a k : Nat} {v : UInt64} (hw : m_wf h) : m_wf (m_setD h a k v) := hw
theorem m_wf_R {h : m_H} {a k : Nat} {v : Option Nat} (hw : m_wf h) (hv : ∀ j, v = some j → j < m_n h ∨ m_X ≤ j) : m_wf (m_setR h a k v) := by
  refine ⟨hw.1, fun b i j hb hj => ?_⟩
  rw [m_R_setR] at hj
  unfold m_up at hj
  split at hj
  · exact hv j hj
  · exact hw.2 b i j hb hj
/-- what is known of a class: its row, its words, its fields' kinds -/
def m_tyok (z : Nat) (ty : FieldType) : Prop := (z = 0 ∧ ty = .int) ∨ (z = 1 ∧ ((∃ n, ty = .object n) ∨ ∃ t, ty = .array t)) ∨ (z = 2 ∧ ty = .long) ∨ (z = 3 ∧ ty = .boolean)
def m_cok (P : m_P) (cl : List vw_C) (G : List Cond) (ci : Nat) (C : String) (T : u_T) : Prop :=
  ci < 100 ∧ cl[ci]? = some (C, T, m_nf P ci) ∧ (∀ w ∈ u_ws C T (m_nf P ci), w ∈ G) ∧ (∀ a, a < m_nf P ci → ∀ b, b < m_nf P ci → a ≠ b → (T a).2.1 ≠ (T b).2.1) ∧ ∃ ty : Nat → FieldType, (∀ k, k < m_nf P ci → parseFieldDescriptor (T k).2.2.1 = some (ty k)) ∧ ∀ k, k < m_nf P ci → m_tyok (m_fk P ci k) (ty k)
section GOH
variable {p : Program} {l : Launch} {e : Env} {R : Room} {s : State} {m : MethodId} {args : Array Value} {below : List Frame} {meth : Method} {c : Code} {Q : State → Prop} {P : m_P} {cl : List vw_C} {D : va_G} {cA : Nat → ClassId} {A : Nat → Prop} {xa : Nat × (Nat → Nat)} {nL c0 s0 : Nat} {pc : Nat} {ls : m_F} {st : List Value} {h : m_H} {cc : ByteArray} {tys : List (ClassId × FieldType)} {G : List Cond} {own : String}
theorem g_get (hx : p.tables.exec = Jvm.exec) (hb : c.code = cc) (hts : ∀ w ∈ G, w.before args s = true) (hown : s.vm.findClass own = some m.cls) (hK : va_K D cl tys s) {ci : Nat} {C : String} {T : u_T} (hc : m_cok P cl G ci C T) {k index a : Nat} (hlink : Cond.fieldLink own index (T k).1 (T k).2.1 (T k).2.2.1 ∈ G) (ha : a < m_n h) (hk : m_k h a = ci) (hkN : k < m_nf P ci) (hd : decode cc pc = .ok (.getfield index, 3))
    (kk : m_go p l e R s m args below meth c Q P cl D cA A xa nL c0 s0 (pc + 3) ls (m_gv P h a ci k :: st) h) : m_go p l e R s m args below meth c Q P cl D cA A xa nL c0 s0 pc ls (.ref a :: st) h := by
  intro H locs ad la hr hl hs
  obtain ⟨hP, hD, hS, hw, hX⟩ := id hr
  obtain ⟨h0, h1, h2, h3, h4⟩ := hc
  have he := m_ws_at (P := P) (cA := cA) (ad := ad) ha
  rw [m_cell_obj hk h0] at he
  refine va_get hx hb hts h2 hown hK hP a he h1 k hkN (hts _ hlink) (fun _ z => z) (v := m_cv ad (m_gv P h a ci k)) ?_ hd (kk H locs ad la hr hl (g_cs (m_gv_in hw ha) (g_tl hs)))
  rw [List.getElem?_map, List.getElem?_range hkN, m_gv_cv]
  rfl
/-- an object's cell with one field changed -/
theorem m_obj_set {P : m_P} {cA : Nat → ClassId} {ad : Nat → Nat} {h h' : m_H} {a ci k : Nat} {v : Value} (hk : m_k h a = ci) (hk' : m_k h' a = ci) (hc : ci < 100) (hkN : k < m_nf P ci) (hv : m_fv P ad h' a ci k = v) (ho : ∀ j, j ≠ k → m_fv P ad h' a ci j = m_fv P ad h a ci j) :
    m_cell P cA ad h' a = .inr (ci, ((List.range (m_nf P ci)).map (fun k => m_fv P ad h a ci k)).set k v) := by
  rw [m_cell_obj hk' hc, ← hv, m_map_set (f := fun k => m_fv P ad h a ci k) (g := fun k => m_fv P ad h' a ci k) hkN ho]
theorem g_put (hx : p.tables.exec = Jvm.exec) (hb : c.code = cc) (hts : ∀ w ∈ G, w.before args s = true) (hown : s.vm.findClass own = some m.cls) (hK : va_K D cl tys s) {ci : Nat} {C : String} {T : u_T} (hc : m_cok P cl G ci C T) {k index a : Nat} (hlink : Cond.fieldLink own index (T k).1 (T k).2.1 (T k).2.2.1 ∈ G) (hfin : (T k).2.2.2 = false ∨ ((T k).2.2.2 = true ∧ meth.name = "<init>" ∧ (T k).1 = own)) (ha : a < m_n h) (hk : m_k h a = ci) (hkN : k < m_nf P ci) (hd : decode cc pc = .ok (.putfield index, 3))
    {v : Value} {h' : m_H} (hn : m_n h' = m_n h) (hcs : m_c h' = m_c h) (hss : m_s h' = m_s h) (hk' : m_k h' a = ci) (hw' : m_wf h → m_wf h') (hty : ∀ (ad : Nat → Nat) (ty : FieldType), m_tyok (m_fk P ci k) ty → narrow ty (m_cv ad v) = m_cv ad v ∧ fits ty (m_cv ad v) = true)
    (hv : ∀ ad, m_fv P ad h' a ci k = m_cv ad v) (ho : ∀ ad j, j ≠ k → m_fv P ad h' a ci j = m_fv P ad h a ci j) (hob : ∀ ad b, b ≠ a → m_cell P cA ad h' b = m_cell P cA ad h b)
    (kk : m_go p l e R s m args below meth c Q P cl D cA A xa nL c0 s0 (pc + 3) ls st h') : m_go p l e R s m args below meth c Q P cl D cA A xa nL c0 s0 pc ls (v :: .ref a :: st) h := by
  intro H locs ad la hr hl hs
  obtain ⟨hP, hD, hS, hw, hX⟩ := id hr
  obtain ⟨h0, h1, h2, h3, ty, h4, h5⟩ := hc
  have he := m_ws_at (P := P) (cA := cA) (ad := ad) ha
  rw [m_cell_obj hk h0] at he
  obtain ⟨q1, q2⟩ := hty ad (ty k) (h5 k hkN)
  have hnew := m_obj_set (P := P) (cA := cA) (ad := ad) hk hk' h0 hkN (hv ad) (ho ad)
  have hset : (m_ws P cA ad h).set a (ad a, .inr (ci, ((List.range (m_nf P ci)).map (fun k => m_fv P ad h a ci k)).set k (m_cv ad v))) = m_ws P cA ad h' := by
    rw [← hnew]
    exact m_ws_set ha hn (hob ad)
  have fin : ∀ (H1 : Heap) (locs1 : List Loc), va_P D cl (m_ws P cA ad h') H1 → va_D A (m_ws P cA ad h') → va_S A s.heap H1 locs1 → W p l e R s m args below meth c H1 locs1 (m_c h - c0) (m_s h - s0) Q (F0 m (pc + 3) la (st.map (m_cv ad))) := by
    intro H1 locs1 a1 a2 a3
    have := kk H1 locs1 ad la ⟨a1, a2, a3, hw' hw, by rw [hn]; exact hX⟩ (hn ▸ hl) (by rw [hn]; exact g_tl (g_tl hs))
    rw [hcs, hss] at this
    exact this
  rcases hfin with hfin | ⟨hfin, hin, hdc⟩
  · refine va_put hx hb hts h2 ty h4 h3 hown hK hP hD hS a he h1 k hkN (hts _ hlink) (fun _ z => z) hfin (h4 k hkN) q1 q2 (by simpa using hkN) hd (fun H1 locs1 a1 a2 a3 => ?_)
    rw [hset] at a1 a2
    exact fin H1 locs1 a1 a2 a3
  · refine va_putF hx hb hts h2 ty h4 h3 hown hK hP hD hS a he h1 k hkN (hts _ hlink) (fun _ z => z) hfin hin hdc (h4 k hkN) q1 q2 (by simpa using hkN) hd (fun H1 locs1 a1 a2 a3 => ?_)
    rw [hset] at a1 a2
    exact fin H1 locs1 a1 a2 a3
end GOH
end
section
/-! rows and new cells -/
/-- the class of a kind of rows is in the list -/
def m_aok (tys : List (ClassId × FieldType)) (cA : Nat → ClassId) (z : Nat) (ty : FieldType) : Prop := ∃ t0 : Nat, tys[t0]? = some (cA z, ty)
section GOR
variable {p : Program} {l : Launch} {e : Env} {R : Room} {s : State} {m : MethodId} {args : Array Value} {below : List Frame} {meth : Method} {c : Code} {Q : State → Prop} {P : m_P} {cl : List vw_C} {D : va_G} {cA : Nat → ClassId} {A : Nat → Prop} {xa : Nat × (Nat → Nat)} {nL c0 s0 : Nat} {pc : Nat} {ls : m_F} {st : List Value} {h : m_H} {cc : ByteArray} {tys : List (ClassId × FieldType)} {G : List Cond} {own : String} {a : Nat} {i : Int32}
theorem g_iald (hx : p.tables.exec = Jvm.exec) (hb : c.code = cc) (hK : va_K D cl tys s) (ht : m_aok tys cA 100 .int) (ha : a < m_n h) (hk : m_k h a = 100) (hi : ¬ (i < 0 ∨ m_l h a ≤ i.toNatClampNeg)) (hd : decode cc pc = .ok (.iaload, 1)) (kk : m_go p l e R s m args below meth c Q P cl D cA A xa nL c0 s0 (pc + 1) ls (.int (m_I h a i.toNatClampNeg) :: st) h) : m_go p l e R s m args below meth c Q P cl D cA A xa nL c0 s0 pc ls (.int i :: .ref a :: st) h := by
  intro H locs ad la hr hl hs
  obtain ⟨t0, ht⟩ := ht
  have he := m_ws_at (P := P) (cA := cA) (ad := ad) ha
  rw [m_cell_I (ci := 100) hk (by decide) (by decide) (by decide) (by decide)] at he
  exact va_iald hx hb hK hr.1 a t0 he ht hi hd (kk H locs ad la hr hl (g_cs trivial (g_tl (g_tl hs))))
theorem g_iast (hx : p.tables.exec = Jvm.exec) (hb : c.code = cc) (hK : va_K D cl tys s) (ht : m_aok tys cA 100 .int) {v : Int32} (ha : a < m_n h) (hk : m_k h a = 100) (hi : ¬ (i < 0 ∨ m_l h a ≤ i.toNatClampNeg)) (hd : decode cc pc = .ok (.iastore, 1)) (kk : m_go p l e R s m args below meth c Q P cl D cA A xa nL c0 s0 (pc + 1) ls st (m_setI h a i.toNatClampNeg v)) : m_go p l e R s m args below meth c Q P cl D cA A xa nL c0 s0 pc ls (.int v :: .int i :: .ref a :: st) h := by
  intro H locs ad la hr hl hs
  obtain ⟨hP, hD, hS, hw, hX⟩ := id hr
  obtain ⟨t0, ht⟩ := ht
  have he := m_ws_at (P := P) (cA := cA) (ad := ad) ha
  rw [m_cell_I (ci := 100) hk (by decide) (by decide) (by decide) (by decide)] at he
  have hset := m_ws_set (P := P) (cA := cA) (ad := ad) (h' := m_setI h a i.toNatClampNeg v) ha rfl (fun b hb => m_cI_ne hb)
  rw [m_cell_I (ci := 100) (show m_k (m_setI h a i.toNatClampNeg v) a = 100 from hk) (by decide) (by decide) (by decide) (by decide), m_I_setI, m_upI] at hset
  refine va_iast hx hb hK hP hD hS a t0 he ht hi hd (fun H1 locs1 a1 a2 a3 => ?_)
  · have a1 : va_P D cl (m_ws P cA ad (m_setI h a i.toNatClampNeg v)) H1 := by rw [← hset]; exact a1
    have a2 : va_D A (m_ws P cA ad (m_setI h a i.toNatClampNeg v)) := by rw [← hset]; exact a2
    exact kk H1 locs1 ad la ⟨a1, a2, a3, hw, hX⟩ hl (g_tl (g_tl (g_tl hs)))
theorem g_bald (hx : p.tables.exec = Jvm.exec) (hb : c.code = cc) (hK : va_K D cl tys s) (ht : m_aok tys cA 101 .byte) (ha : a < m_n h) (hk : m_k h a = 101) (hi : ¬ (i < 0 ∨ m_l h a ≤ i.toNatClampNeg)) (hd : decode cc pc = .ok (.baload, 1)) (kk : m_go p l e R s m args below meth c Q P cl D cA A xa nL c0 s0 (pc + 1) ls (.int (m_I h a i.toNatClampNeg) :: st) h) : m_go p l e R s m args below meth c Q P cl D cA A xa nL c0 s0 pc ls (.int i :: .ref a :: st) h := by
  intro H locs ad la hr hl hs
  obtain ⟨t0, ht⟩ := ht
  have he := m_ws_at (P := P) (cA := cA) (ad := ad) ha
  rw [m_cell_I (ci := 101) hk (by decide) (by decide) (by decide) (by decide)] at he
  exact va_bald hx hb hK hr.1 a t0 he ht hi hd (kk H locs ad la hr hl (g_cs trivial (g_tl (g_tl hs))))
theorem g_bast (hx : p.tables.exec = Jvm.exec) (hb : c.code = cc) (hK : va_K D cl tys s) (ht : m_aok tys cA 101 .byte) {v : Int32} (ha : a < m_n h) (hk : m_k h a = 101) (hi : ¬ (i < 0 ∨ m_l h a ≤ i.toNatClampNeg)) (hd : decode cc pc = .ok (.bastore, 1)) (kk : m_go p l e R s m args below meth c Q P cl D cA A xa nL c0 s0 (pc + 1) ls st (m_setI h a i.toNatClampNeg v.toInt8.toInt32)) : m_go p l e R s m args below meth c Q P cl D cA A xa nL c0 s0 pc ls (.int v :: .int i :: .ref a :: st) h := by
  intro H locs ad la hr hl hs
  obtain ⟨hP, hD, hS, hw, hX⟩ := id hr
  obtain ⟨t0, ht⟩ := ht
  have he := m_ws_at (P := P) (cA := cA) (ad := ad) ha
  rw [m_cell_I (ci := 101) hk (by decide) (by decide) (by decide) (by decide)] at he
  have hset := m_ws_set (P := P) (cA := cA) (ad := ad) (h' := m_setI h a i.toNatClampNeg v.toInt8.toInt32) ha rfl (fun b hb => m_cI_ne hb)
  rw [m_cell_I (ci := 101) (show m_k (m_setI h a i.toNatClampNeg v.toInt8.toInt32) a = 101 from hk) (by decide) (by decide) (by decide) (by decide), m_I_setI, m_upI] at hset
  refine va_bast hx hb hK hP hD hS a t0 he ht hi hd (fun H1 locs1 a1 a2 a3 => ?_)
  · rw [vp_nar_byte] at a1 a2
    have a1 : va_P D cl (m_ws P cA ad (m_setI h a i.toNatClampNeg v.toInt8.toInt32)) H1 := by rw [← hset]; exact a1
    have a2 : va_D A (m_ws P cA ad (m_setI h a i.toNatClampNeg v.toInt8.toInt32)) := by rw [← hset]; exact a2
    exact kk H1 locs1 ad la ⟨a1, a2, a3, hw, hX⟩ hl (g_tl (g_tl (g_tl hs)))
theorem g_lald (hx : p.tables.exec = Jvm.exec) (hb : c.code = cc) (hK : va_K D cl tys s) (ht : m_aok tys cA 102 .long) (ha : a < m_n h) (hk : m_k h a = 102) (hi : ¬ (i < 0 ∨ m_l h a ≤ i.toNatClampNeg)) (hd : decode cc pc = .ok (.laload, 1)) (kk : m_go p l e R s m args below meth c Q P cl D cA A xa nL c0 s0 (pc + 1) ls (.long (m_L h a i.toNatClampNeg) :: st) h) : m_go p l e R s m args below meth c Q P cl D cA A xa nL c0 s0 pc ls (.int i :: .ref a :: st) h := by
  intro H locs ad la hr hl hs
  obtain ⟨t0, ht⟩ := ht
  have he := m_ws_at (P := P) (cA := cA) (ad := ad) ha
  rw [m_cell_L hk] at he
  exact va_lald hx hb hK hr.1 a t0 he ht hi hd (kk H locs ad la hr hl (g_cs trivial (g_tl (g_tl hs))))
theorem g_last (hx : p.tables.exec = Jvm.exec) (hb : c.code = cc) (hK : va_K D cl tys s) (ht : m_aok tys cA 102 .long) {v : Int64} (ha : a < m_n h) (hk : m_k h a = 102) (hi : ¬ (i < 0 ∨ m_l h a ≤ i.toNatClampNeg)) (hd : decode cc pc = .ok (.lastore, 1)) (kk : m_go p l e R s m args below meth c Q P cl D cA A xa nL c0 s0 (pc + 1) ls st (m_setL h a i.toNatClampNeg v)) : m_go p l e R s m args below meth c Q P cl D cA A xa nL c0 s0 pc ls (.long v :: .int i :: .ref a :: st) h := by
  intro H locs ad la hr hl hs
  obtain ⟨hP, hD, hS, hw, hX⟩ := id hr
  obtain ⟨t0, ht⟩ := ht
  have he := m_ws_at (P := P) (cA := cA) (ad := ad) ha
  rw [m_cell_L hk] at he
  have hset := m_ws_set (P := P) (cA := cA) (ad := ad) (h' := m_setL h a i.toNatClampNeg v) ha rfl (fun b hb => m_cL_ne hb)
  rw [m_cell_L (show m_k (m_setL h a i.toNatClampNeg v) a = 102 from hk), m_L_setL, m_upL] at hset
  refine va_last hx hb hK hP hD hS a t0 he ht hi hd (fun H1 locs1 a1 a2 a3 => ?_)
  · have a1 : va_P D cl (m_ws P cA ad (m_setL h a i.toNatClampNeg v)) H1 := by rw [← hset]; exact a1
    have a2 : va_D A (m_ws P cA ad (m_setL h a i.toNatClampNeg v)) := by rw [← hset]; exact a2
    exact kk H1 locs1 ad la ⟨a1, a2, a3, hw, hX⟩ hl (g_tl (g_tl (g_tl hs)))
theorem g_dald (hx : p.tables.exec = Jvm.exec) (hb : c.code = cc) (hK : va_K D cl tys s) (ht : m_aok tys cA 103 .double) (ha : a < m_n h) (hk : m_k h a = 103) (hi : ¬ (i < 0 ∨ m_l h a ≤ i.toNatClampNeg)) (hd : decode cc pc = .ok (.daload, 1)) (kk : m_go p l e R s m args below meth c Q P cl D cA A xa nL c0 s0 (pc + 1) ls (.double (m_D h a i.toNatClampNeg) :: st) h) : m_go p l e R s m args below meth c Q P cl D cA A xa nL c0 s0 pc ls (.int i :: .ref a :: st) h := by
  intro H locs ad la hr hl hs
  obtain ⟨t0, ht⟩ := ht
  have he := m_ws_at (P := P) (cA := cA) (ad := ad) ha
  rw [m_cell_D hk] at he
  exact va_dald hx hb hK hr.1 a t0 he ht hi hd (kk H locs ad la hr hl (g_cs trivial (g_tl (g_tl hs))))
theorem g_dast (hx : p.tables.exec = Jvm.exec) (hb : c.code = cc) (hK : va_K D cl tys s) (ht : m_aok tys cA 103 .double) {v : UInt64} (ha : a < m_n h) (hk : m_k h a = 103) (hi : ¬ (i < 0 ∨ m_l h a ≤ i.toNatClampNeg)) (hd : decode cc pc = .ok (.dastore, 1)) (kk : m_go p l e R s m args below meth c Q P cl D cA A xa nL c0 s0 (pc + 1) ls st (m_setD h a i.toNatClampNeg v)) : m_go p l e R s m args below meth c Q P cl D cA A xa nL c0 s0 pc ls (.double v :: .int i :: .ref a :: st) h := by
  intro H locs ad la hr hl hs
  obtain ⟨hP, hD, hS, hw, hX⟩ := id hr
  obtain ⟨t0, ht⟩ := ht
  have he := m_ws_at (P := P) (cA := cA) (ad := ad) ha
  rw [m_cell_D hk] at he
  have hset := m_ws_set (P := P) (cA := cA) (ad := ad) (h' := m_setD h a i.toNatClampNeg v) ha rfl (fun b hb => m_cD_ne hb)
  rw [m_cell_D (show m_k (m_setD h a i.toNatClampNeg v) a = 103 from hk), m_D_setD, m_upD] at hset
  refine va_dast hx hb hK hP hD hS a t0 he ht hi hd (fun H1 locs1 a1 a2 a3 => ?_)
  · have a1 : va_P D cl (m_ws P cA ad (m_setD h a i.toNatClampNeg v)) H1 := by rw [← hset]; exact a1
    have a2 : va_D A (m_ws P cA ad (m_setD h a i.toNatClampNeg v)) := by rw [← hset]; exact a2
    exact kk H1 locs1 ad la ⟨a1, a2, a3, hw, hX⟩ hl (g_tl (g_tl (g_tl hs)))
theorem g_aald (hx : p.tables.exec = Jvm.exec) (hb : c.code = cc) (hK : va_K D cl tys s) {z : Nat} {C : String} (ht : m_aok tys cA z (.object C)) (hz : 200 ≤ z) (ha : a < m_n h) (hk : m_k h a = z) (hi : ¬ (i < 0 ∨ m_l h a ≤ i.toNatClampNeg)) (hd : decode cc pc = .ok (.aaload, 1)) (kk : m_go p l e R s m args below meth c Q P cl D cA A xa nL c0 s0 (pc + 1) ls (m_rv (m_R h a i.toNatClampNeg) :: st) h) : m_go p l e R s m args below meth c Q P cl D cA A xa nL c0 s0 pc ls (.int i :: .ref a :: st) h := by
  intro H locs ad la hr hl hs
  obtain ⟨t0, ht⟩ := ht
  have he := m_ws_at (P := P) (cA := cA) (ad := ad) ha
  rw [m_cell_R hk hz] at he
  refine va_aldq hx hb hK hr.1 a t0 he ht hi hd ?_
  have := kk H locs ad la hr hl (g_cs (m_rv_in hr.2.2.2.1 ha) (g_tl (g_tl hs)))
  rw [List.map_cons, m_rv_cv] at this
  exact this
theorem g_aast (hx : p.tables.exec = Jvm.exec) (hb : c.code = cc) (hK : va_K D cl tys s) {z v ci : Nat} {r : vw_C} (hc : cl[ci]? = some r) (ht : m_aok tys cA z (.object r.1)) (hz : 200 ≤ z) (ha : a < m_n h) (hk : m_k h a = z) (hv : v < m_n h) (hkv : m_k h v = ci) (hci : ci < 100) (hi : ¬ (i < 0 ∨ m_l h a ≤ i.toNatClampNeg)) (hd : decode cc pc = .ok (.aastore, 1)) (kk : m_go p l e R s m args below meth c Q P cl D cA A xa nL c0 s0 (pc + 1) ls st (m_setR h a i.toNatClampNeg (some v))) : m_go p l e R s m args below meth c Q P cl D cA A xa nL c0 s0 pc ls (.ref v :: .int i :: .ref a :: st) h := by
  intro H locs ad la hr hl hs
  obtain ⟨hP, hD, hS, hw, hX⟩ := id hr
  obtain ⟨t0, ht⟩ := ht
  have he := m_ws_at (P := P) (cA := cA) (ad := ad) ha
  rw [m_cell_R hk hz] at he
  have hev := m_ws_at (P := P) (cA := cA) (ad := ad) hv
  rw [m_cell_obj hkv hci] at hev
  have hset := m_ws_set (P := P) (cA := cA) (ad := ad) (h' := m_setR h a i.toNatClampNeg (some v)) ha rfl (fun b hb => m_cR_ne hb)
  rw [m_cell_R (show m_k (m_setR h a i.toNatClampNeg (some v)) a = z from hk) hz] at hset
  have hf : (fun j => (m_R (m_setR h a i.toNatClampNeg (some v)) a j).map ad) = va_up (fun j => (m_R h a j).map ad) i.toNatClampNeg (some (ad v)) := by
    funext j
    rw [m_R_setR, m_upeq]
    unfold va_up
    split <;> rfl
  rw [hf] at hset
  refine va_astq hx hb hK hP hD hS a t0 v ci he ht hev hc hi hd (fun H1 locs1 a1 a2 a3 => ?_)
  have a1 : va_P D cl (m_ws P cA ad (m_setR h a i.toNatClampNeg (some v))) H1 := by rw [← hset]; exact a1
  have a2 : va_D A (m_ws P cA ad (m_setR h a i.toNatClampNeg (some v))) := by rw [← hset]; exact a2
  exact kk H1 locs1 ad la ⟨a1, a2, a3, m_wf_R hw (fun j hj => by cases hj; exact Or.inl hv), hX⟩ hl (g_tl (g_tl (g_tl hs)))
theorem g_alen (hx : p.tables.exec = Jvm.exec) (hb : c.code = cc) (hK : va_K D cl tys s) {z : Nat} {ty : FieldType} (ht : m_aok tys cA z ty) (hz : 100 ≤ z) (ha : a < m_n h) (hk : m_k h a = z) (hd : decode cc pc = .ok (.arraylength, 1)) (kk : m_go p l e R s m args below meth c Q P cl D cA A xa nL c0 s0 (pc + 1) ls (.int (Int32.ofNat (m_l h a)) :: st) h) : m_go p l e R s m args below meth c Q P cl D cA A xa nL c0 s0 pc ls (.ref a :: st) h := by
  intro H locs ad la hr hl hs
  obtain ⟨t0, ht⟩ := ht
  have he := m_ws_at (P := P) (cA := cA) (ad := ad) ha
  have hq : ∃ x : vp_A, m_cell P cA ad h a = .inl (cA z, x) ∧ x.1 = m_l h a := by
    by_cases h2 : z = 102
    · subst h2; exact ⟨_, m_cell_L hk, rfl⟩
    by_cases h3 : z = 103
    · subst h3; exact ⟨_, m_cell_D hk, rfl⟩
    by_cases h4 : z < 200
    · exact ⟨_, m_cell_I hk hz h2 h3 h4, rfl⟩
    · exact ⟨_, m_cell_R hk (by omega), rfl⟩
  obtain ⟨x, hx1, hx2⟩ := hq
  rw [hx1] at he
  exact va_alen hx hb hK hr.1 a t0 he ht (by rw [hx2]) hd (kk H locs ad la hr hl (g_cs trivial (g_tl hs)))
theorem m_mk_ne {kd len z b : Nat} {ad : Nat → Nat} (hb : b ≠ m_n h) : m_cell P cA ad (m_mk h kd len z) b = m_cell P cA ad h b := by
  have e1 : m_k (m_mk h kd len z) b = m_k h b := by show m_u1 (m_k h) (m_n h) kd b = m_k h b; unfold m_u1; rw [if_neg hb]
  have e2 : m_l (m_mk h kd len z) b = m_l h b := by show m_u1 (m_l h) (m_n h) len b = m_l h b; unfold m_u1; rw [if_neg hb]
  have e3 : m_I (m_mk h kd len z) b = m_I h b := by funext y; show m_zr (m_I h) (m_n h) 0 b y = m_I h b y; unfold m_zr; rw [if_neg hb]
  have e4 : m_L (m_mk h kd len z) b = m_L h b := by funext y; show m_zr (m_L h) (m_n h) 0 b y = m_L h b y; unfold m_zr; rw [if_neg hb]
  have e5 : m_D (m_mk h kd len z) b = m_D h b := by funext y; show m_zr (m_D h) (m_n h) 0 b y = m_D h b y; unfold m_zr; rw [if_neg hb]
  have e6 : m_R (m_mk h kd len z) b = m_R h b := by funext y; show m_zr (m_R h) (m_n h) none b y = m_R h b y; unfold m_zr; rw [if_neg hb]
  unfold m_cell m_fv
  rw [e1, e2, e3, e4, e5, e6]
theorem m_ws_push {kd len z q : Nat} {ad : Nat → Nat} {ev : va_E} (hw : m_wf h) (hn : m_n h < m_X) (hc : m_cell P cA (m_u1 ad (m_n h) q) (m_mk h kd len z) (m_n h) = ev) : m_ws P cA ad h ++ [(q, ev)] = m_ws P cA (m_u1 ad (m_n h) q) (m_mk h kd len z) := by
  have hd : ∀ j, j < m_n h ∨ m_X ≤ j → m_u1 ad (m_n h) q j = ad j := fun j hj => by unfold m_u1; rw [if_neg (by omega)]
  unfold m_ws
  rw [show m_n (m_mk h kd len z) = m_n h + 1 from rfl, List.range_succ, List.map_append]
  congr 1
  · refine List.map_congr_left (fun b hb => ?_)
    have hb := List.mem_range.mp hb
    rw [m_mk_ne (Nat.ne_of_lt hb), m_cell_ad hw hb hd, hd b (Or.inl hb)]
  · rw [List.map_cons, List.map_nil, hc]
    unfold m_u1
    rw [if_pos rfl]
theorem m_wf_mk {kd len z : Nat} (hw : m_wf h) (hn : m_n h < m_X) : m_wf (m_mk h kd len z) := by
  refine ⟨hn, fun b k j hb hj => ?_⟩
  have hj : m_zr (m_R h) (m_n h) none b k = some j := hj
  unfold m_zr at hj
  split at hj
  · cases hj
  · next hne =>
    have hb : b < m_n h + 1 := hb
    rcases hw.2 b k j (by omega) hj with q | q
    · exact Or.inl (Nat.lt_succ_of_lt q)
    · exact Or.inr q
theorem m_mk_k {kd len z : Nat} : m_k (m_mk h kd len z) (m_n h) = kd := by show m_u1 (m_k h) (m_n h) kd (m_n h) = kd; simp [m_u1]
theorem m_mk_l {kd len z : Nat} : m_l (m_mk h kd len z) (m_n h) = len := by show m_u1 (m_l h) (m_n h) len (m_n h) = len; simp [m_u1]
theorem m_mk_I {kd len z : Nat} : m_I (m_mk h kd len z) (m_n h) = fun _ => 0 := by funext y; show m_zr (m_I h) (m_n h) 0 (m_n h) y = 0; simp [m_zr]
theorem m_mk_L {kd len z : Nat} : m_L (m_mk h kd len z) (m_n h) = fun _ => 0 := by funext y; show m_zr (m_L h) (m_n h) 0 (m_n h) y = 0; simp [m_zr]
theorem m_mk_D {kd len z : Nat} : m_D (m_mk h kd len z) (m_n h) = fun _ => 0 := by funext y; show m_zr (m_D h) (m_n h) 0 (m_n h) y = 0; simp [m_zr]
theorem m_mk_R {kd len z : Nat} : m_R (m_mk h kd len z) (m_n h) = fun _ => none := by funext y; show m_zr (m_R h) (m_n h) none (m_n h) y = none; simp [m_zr]
theorem m_go_mk {kd len z : Nat} {pc' : Nat} {H1 : Heap} {locs : List Loc} {ad : Nat → Nat} {la : Array Slot} {q : Nat} {H : Heap} {ev : va_E} (hr : m_rel s P cl D cA A xa ad H locs h) (hl : m_lR ad (m_n h) ls la nL) (hs : ∀ v ∈ st, m_in (m_n h) v) (hn : m_n h < m_X) (h0 : c0 ≤ m_c h) (h1 : s0 ≤ m_s h) (hc : m_cell P cA (m_u1 ad (m_n h) q) (m_mk h kd len z) (m_n h) = ev) (a1 : va_P D cl (m_ws P cA ad h ++ [(q, ev)]) H1) (a2 : va_D A (m_ws P cA ad h ++ [(q, ev)])) (a3 : va_S A s.heap H1 locs)
    (kk : m_go p l e R s m args below meth c Q P cl D cA A xa nL c0 s0 pc' ls (.ref (m_n h) :: st) (m_mk h kd len z)) : W p l e R s m args below meth c H1 locs (m_c h - c0 + 1) (m_s h - s0 + z) Q (F0 m pc' la (.ref q :: st.map (m_cv ad))) := by
  obtain ⟨hP, hD, hS, hw, hX⟩ := hr
  rw [m_ws_push hw hn hc] at a1 a2
  have hd : ∀ j, j < m_n h ∨ m_X ≤ j → m_u1 ad (m_n h) q j = ad j := fun j hj => by unfold m_u1; rw [if_neg (by omega)]
  have := kk H1 locs (m_u1 ad (m_n h) q) la ⟨a1, a2, a3, m_wf_mk hw hn, Nat.le_succ_of_le hX.1, fun j hj => by rw [hd j (hj.imp (fun z => Nat.lt_of_lt_of_le z hX.1) id)]; exact hX.2 j hj⟩ (m_lR_ad hl (Nat.le_succ _) hd) (g_cs (Or.inl (Nat.lt_succ_self _)) (fun v hv => m_in_mono (hs v hv) (Nat.le_succ _)))
  rw [List.map_cons, m_cv_map hs hd, show m_cv (m_u1 ad (m_n h) q) (.ref (m_n h)) = .ref q by simp [m_cv, m_u1], show m_c (m_mk h kd len z) - c0 = m_c h - c0 + 1 by show m_c h + 1 - c0 = _; omega, show m_s (m_mk h kd len z) - s0 = m_s h - s0 + z by show m_s h + z - s0 = _; omega] at this
  exact this
theorem m_RA_eq {z : Nat} {ty : FieldType} {cB : ClassId} (hK : va_K D cl (tys ++ [(cB, ty)]) s) (ht : m_aok tys cA z ty) : cB = cA z := by
  obtain ⟨t0, ht⟩ := ht
  have q1 := (hK.2 t0 _ (by rw [List.getElem?_append_left (List.getElem?_eq_some_iff.mp ht).1]; exact ht)).2
  have q2 := (hK.2 tys.length (cB, ty) (by rw [List.getElem?_append_right (Nat.le_refl _), Nat.sub_self]; rfl)).2
  cases ty with
  | object C =>
    obtain ⟨_, _, _, _, _, g1⟩ := q1
    obtain ⟨_, _, _, _, _, g2⟩ := q2
    exact Option.some.inj (g2.symm.trans g1)
  | _ => exact Option.some.inj (q2.symm.trans q1)
theorem g_new_i (hx : p.tables.exec = Jvm.exec) (hb : c.code = cc) (hK : va_K D cl tys s) (hA : ∀ q, s.heap.size ≤ q → A q) (ht : m_aok tys cA 100 .int) (harr : (Cond.arrayClass .int).before args s = true) (hn : m_n h < m_X) (h0 : c0 ≤ m_c h) (h1 : s0 ≤ m_s h) (hi : ¬ i < 0) (hz : i.toNatClampNeg ≤ 60000000) (hc1 : m_c h - c0 + 1 ≤ R.cells) (hc2 : m_s h - s0 + i.toNatClampNeg ≤ R.slots) (hd : decode cc pc = .ok (.newarray .int, 2)) (kk : m_go p l e R s m args below meth c Q P cl D cA A xa nL c0 s0 (pc + 2) ls (.ref (m_n h) :: st) (m_mk h 100 i.toNatClampNeg i.toNatClampNeg)) : m_go p l e R s m args below meth c Q P cl D cA A xa nL c0 s0 pc ls (.int i :: st) h := by
  intro H locs ad la hr hl hs
  refine va_newa (atype := .int) (ty := .int) (a0 := (i.toNatClampNeg, .inl (fun _ => 0))) hx hb harr rfl hK hr.1 hr.2.1 hr.2.2.1 hA (fun _ => rfl) hi rfl (by show i.toNatClampNeg * 4 ≤ 536870912; omega) hc1 hc2 hd (fun q cB H1 hK' a1 a2 a3 => ?_)
  have hcB := m_RA_eq hK' ht
  subst hcB
  refine m_go_mk hr hl (g_tl hs) hn h0 h1 ?_ a1 a2 a3 kk
  show m_cell P cA (m_u1 ad (m_n h) q) (m_mk h 100 i.toNatClampNeg i.toNatClampNeg) (m_n h) = _
  rw [m_cell_I (ci := 100) m_mk_k (by decide) (by decide) (by decide) (by decide), m_mk_l, m_mk_I]
theorem g_new_b (hx : p.tables.exec = Jvm.exec) (hb : c.code = cc) (hK : va_K D cl tys s) (hA : ∀ q, s.heap.size ≤ q → A q) (ht : m_aok tys cA 101 .byte) (harr : (Cond.arrayClass .byte).before args s = true) (hn : m_n h < m_X) (h0 : c0 ≤ m_c h) (h1 : s0 ≤ m_s h) (hi : ¬ i < 0) (hz : i.toNatClampNeg ≤ 60000000) (hc1 : m_c h - c0 + 1 ≤ R.cells) (hc2 : m_s h - s0 + i.toNatClampNeg ≤ R.slots) (hd : decode cc pc = .ok (.newarray .byte, 2)) (kk : m_go p l e R s m args below meth c Q P cl D cA A xa nL c0 s0 (pc + 2) ls (.ref (m_n h) :: st) (m_mk h 101 i.toNatClampNeg i.toNatClampNeg)) : m_go p l e R s m args below meth c Q P cl D cA A xa nL c0 s0 pc ls (.int i :: st) h := by
  intro H locs ad la hr hl hs
  refine va_newa (atype := .byte) (ty := .byte) (a0 := (i.toNatClampNeg, .inl (fun _ => 0))) hx hb harr rfl hK hr.1 hr.2.1 hr.2.2.1 hA (fun _ => rfl) hi rfl (by show i.toNatClampNeg * 1 ≤ 536870912; omega) hc1 hc2 hd (fun q cB H1 hK' a1 a2 a3 => ?_)
  have hcB := m_RA_eq hK' ht
  subst hcB
  refine m_go_mk hr hl (g_tl hs) hn h0 h1 ?_ a1 a2 a3 kk
  show m_cell P cA (m_u1 ad (m_n h) q) (m_mk h 101 i.toNatClampNeg i.toNatClampNeg) (m_n h) = _
  rw [m_cell_I (ci := 101) m_mk_k (by decide) (by decide) (by decide) (by decide), m_mk_l, m_mk_I]
theorem g_new_l (hx : p.tables.exec = Jvm.exec) (hb : c.code = cc) (hK : va_K D cl tys s) (hA : ∀ q, s.heap.size ≤ q → A q) (ht : m_aok tys cA 102 .long) (harr : (Cond.arrayClass .long).before args s = true) (hn : m_n h < m_X) (h0 : c0 ≤ m_c h) (h1 : s0 ≤ m_s h) (hi : ¬ i < 0) (hz : i.toNatClampNeg ≤ 60000000) (hc1 : m_c h - c0 + 1 ≤ R.cells) (hc2 : m_s h - s0 + i.toNatClampNeg ≤ R.slots) (hd : decode cc pc = .ok (.newarray .long, 2)) (kk : m_go p l e R s m args below meth c Q P cl D cA A xa nL c0 s0 (pc + 2) ls (.ref (m_n h) :: st) (m_mk h 102 i.toNatClampNeg i.toNatClampNeg)) : m_go p l e R s m args below meth c Q P cl D cA A xa nL c0 s0 pc ls (.int i :: st) h := by
  intro H locs ad la hr hl hs
  refine va_newa (atype := .long) (ty := .long) (a0 := (i.toNatClampNeg, .inr (.inl (fun _ => 0)))) hx hb harr rfl hK hr.1 hr.2.1 hr.2.2.1 hA (fun _ => rfl) hi rfl (by show i.toNatClampNeg * 8 ≤ 536870912; omega) hc1 hc2 hd (fun q cB H1 hK' a1 a2 a3 => ?_)
  have hcB := m_RA_eq hK' ht
  subst hcB
  refine m_go_mk hr hl (g_tl hs) hn h0 h1 ?_ a1 a2 a3 kk
  show m_cell P cA (m_u1 ad (m_n h) q) (m_mk h 102 i.toNatClampNeg i.toNatClampNeg) (m_n h) = _
  rw [m_cell_L m_mk_k, m_mk_l, m_mk_L]
theorem g_new_d (hx : p.tables.exec = Jvm.exec) (hb : c.code = cc) (hK : va_K D cl tys s) (hA : ∀ q, s.heap.size ≤ q → A q) (ht : m_aok tys cA 103 .double) (harr : (Cond.arrayClass .double).before args s = true) (hn : m_n h < m_X) (h0 : c0 ≤ m_c h) (h1 : s0 ≤ m_s h) (hi : ¬ i < 0) (hz : i.toNatClampNeg ≤ 60000000) (hc1 : m_c h - c0 + 1 ≤ R.cells) (hc2 : m_s h - s0 + i.toNatClampNeg ≤ R.slots) (hd : decode cc pc = .ok (.newarray .double, 2)) (kk : m_go p l e R s m args below meth c Q P cl D cA A xa nL c0 s0 (pc + 2) ls (.ref (m_n h) :: st) (m_mk h 103 i.toNatClampNeg i.toNatClampNeg)) : m_go p l e R s m args below meth c Q P cl D cA A xa nL c0 s0 pc ls (.int i :: st) h := by
  intro H locs ad la hr hl hs
  refine va_newa (atype := .double) (ty := .double) (a0 := (i.toNatClampNeg, .inr (.inr (.inr (.inl (fun _ => 0)))))) hx hb harr rfl hK hr.1 hr.2.1 hr.2.2.1 hA (fun _ => rfl) hi rfl (by show i.toNatClampNeg * 8 ≤ 536870912; omega) hc1 hc2 hd (fun q cB H1 hK' a1 a2 a3 => ?_)
  have hcB := m_RA_eq hK' ht
  subst hcB
  refine m_go_mk hr hl (g_tl hs) hn h0 h1 ?_ a1 a2 a3 kk
  show m_cell P cA (m_u1 ad (m_n h) q) (m_mk h 103 i.toNatClampNeg i.toNatClampNeg) (m_n h) = _
  rw [m_cell_D m_mk_k, m_mk_l, m_mk_D]
theorem g_new_q (hx : p.tables.exec = Jvm.exec) (hb : c.code = cc) (hown : s.vm.findClass own = some m.cls) (hK : va_K D cl tys s) (hA : ∀ q, s.heap.size ≤ q → A q) {z index : Nat} {C : String} (hz2 : 200 ≤ z) (ht : m_aok tys cA z (.object C)) (hlink : (Cond.classLink own index C).before args s = true) (hov : va_AO C s) (hn : m_n h < m_X) (h0 : c0 ≤ m_c h) (h1 : s0 ≤ m_s h) (hi : ¬ i < 0) (hz : i.toNatClampNeg ≤ 60000000) (hc1 : m_c h - c0 + 1 ≤ R.cells) (hc2 : m_s h - s0 + i.toNatClampNeg ≤ R.slots) (hd : decode cc pc = .ok (.anewarray index, 3)) (kk : m_go p l e R s m args below meth c Q P cl D cA A xa nL c0 s0 (pc + 3) ls (.ref (m_n h) :: st) (m_mk h z i.toNatClampNeg i.toNatClampNeg)) : m_go p l e R s m args below meth c Q P cl D cA A xa nL c0 s0 pc ls (.int i :: st) h := by
  intro H locs ad la hr hl hs
  refine va_newq hx hb hown hlink hov hK hr.1 hr.2.1 hr.2.2.1 hA hi rfl (by omega) hc1 hc2 hd (fun q cB H1 hK' a1 a2 a3 => ?_)
  have hcB := m_RA_eq hK' ht
  subst hcB
  refine m_go_mk hr hl (g_tl hs) hn h0 h1 ?_ a1 a2 a3 kk
  rw [m_cell_R m_mk_k hz2, m_mk_l, m_mk_R]
  rfl
theorem g_new (hx : p.tables.exec = Jvm.exec) (hb : c.code = cc) (hts : ∀ w ∈ G, w.before args s = true) (hown : s.vm.findClass own = some m.cls) (hK : va_K D cl tys s) (hA : ∀ q, s.heap.size ≤ q → A q) {ci index : Nat} {C : String} {T : u_T} (hc : m_cok P cl G ci C T) (hlink : (Cond.classLink own index C).before args s = true) (hinst : (Cond.instantiable C (m_nf P ci)).before args s = true) (hini : (Cond.initialized C).before args s = true) (hn : m_n h < m_X) (h0 : c0 ≤ m_c h) (h1 : s0 ≤ m_s h) (hc1 : m_c h - c0 + 1 ≤ R.cells) (hc2 : m_s h - s0 + m_nf P ci ≤ R.slots) (hd : decode cc pc = .ok (.new index, 3)) (kk : m_go p l e R s m args below meth c Q P cl D cA A xa nL c0 s0 (pc + 3) ls (.ref (m_n h) :: st) (m_mk h ci 0 (m_nf P ci))) : m_go p l e R s m args below meth c Q P cl D cA A xa nL c0 s0 pc ls st h := by
  intro H locs ad la hr hl hs
  obtain ⟨q0, q1, q2, q3, ty, q4, q5⟩ := hc
  refine va_new (fs := (List.range (m_nf P ci)).map (fun k => m_fv P (m_u1 ad (m_n h) 0) (m_mk h ci 0 (m_nf P ci)) (m_n h) ci k)) hx hb hts q2 ty q4 hown hlink hinst hini hK hr.1 hr.2.1 hr.2.2.1 hA q1 (fun j hj => ?_) hc1 hc2 hd (fun q H1 a1 a2 a3 => ?_)
  · have ev : vp_V ((List.range (m_nf P ci)).map (fun k => m_fv P (m_u1 ad (m_n h) 0) (m_mk h ci 0 (m_nf P ci)) (m_n h) ci k)) j = m_fv P (m_u1 ad (m_n h) 0) (m_mk h ci 0 (m_nf P ci)) (m_n h) ci j := by
      unfold vp_V
      simp [hj]
    rw [ev]
    unfold m_fv
    rw [m_mk_I, m_mk_L, m_mk_R]
    rcases q5 j hj with ⟨z1, z2⟩ | ⟨z1, ⟨n, z2⟩ | ⟨t, z2⟩⟩ | ⟨z1, z2⟩ | ⟨z1, z2⟩ <;> rw [z1, z2] <;> rfl
  · refine m_go_mk hr hl hs hn h0 h1 ?_ a1 a2 a3 kk
    rw [m_cell_obj m_mk_k q0]
    congr 2
    refine List.map_congr_left (fun k _ => ?_)
    unfold m_fv
    rw [m_mk_R]
    rfl
end GOR
end
section
/-! the library's own: Math.min, Math.max, arraycopy, Object's constructor; comparisons of longs; floats -/
/-- the room of a method from which calls go d deep -/
def m_rm (d cs ss : Nat) : Room := { frames := d + 8, cells := cs, slots := ss, locals := 40 * d + 200 }
section GON
variable {p : Program} {l : Launch} {e : Env} {R : Room} {s : State} {m : MethodId} {args : Array Value} {below : List Frame} {meth : Method} {c : Code} {Q : State → Prop} {P : m_P} {cl : List vw_C} {D : va_G} {cA : Nat → ClassId} {A : Nat → Prop} {xa : Nat × (Nat → Nat)} {nL c0 s0 : Nat} {pc : Nat} {ls : m_F} {st : List Value} {h : m_H} {cc : ByteArray} {tys : List (ClassId × FieldType)} {G : List Cond} {own : String} {index : Nat}
theorem g_lcmp (hx : p.tables.exec = Jvm.exec) (hb : c.code = cc) {a b : Int64} (hd : decode cc pc = .ok (.lcmp, 1)) (k : m_go p l e R s m args below meth c Q P cl D cA A xa nL c0 s0 (pc + 1) ls (.int (lg_cmp a b) :: st) h) : m_go p l e R s m args below meth c Q P cl D cA A xa nL c0 s0 pc ls (.long b :: .long a :: st) h :=
  fun H locs ad la hr hl hs => W.lcmp hx hb hd (k H locs ad la hr hl (g_cs trivial (g_tl (g_tl hs))))
theorem m_n64 {r : UInt64} (h : isNaN64 r = false) : vf_n64 r := by
  unfold isNaN64 at h
  exact UInt64.not_lt.mp (of_decide_eq_false h)
theorem m_n32 {r : UInt32} (h : isNaN32 r = false) : vf_n32 r := by
  unfold isNaN32 at h
  exact UInt32.not_lt.mp (of_decide_eq_false h)
theorem g_ddiv (hx : p.tables.exec = Jvm.exec) (hb : c.code = cc) {a b : UInt64} (hn : isNaN64 (FP.ddiv a b) = false) (hd : decode cc pc = .ok (.ddiv, 1)) (k : m_go p l e R s m args below meth c Q P cl D cA A xa nL c0 s0 (pc + 1) ls (.double (FP.ddiv a b) :: st) h) : m_go p l e R s m args below meth c Q P cl D cA A xa nL c0 s0 pc ls (.double b :: .double a :: st) h :=
  fun H locs ad la hr hl hs => lv_ddiv hx hb hd (m_n64 hn) (k H locs ad la hr hl (g_cs trivial (g_tl (g_tl hs))))
theorem g_fdiv (hx : p.tables.exec = Jvm.exec) (hb : c.code = cc) {a b : UInt32} (hn : isNaN32 (FP.fdiv a b) = false) (hd : decode cc pc = .ok (.fdiv, 1)) (k : m_go p l e R s m args below meth c Q P cl D cA A xa nL c0 s0 (pc + 1) ls (.float (FP.fdiv a b) :: st) h) : m_go p l e R s m args below meth c Q P cl D cA A xa nL c0 s0 pc ls (.float b :: .float a :: st) h :=
  fun H locs ad la hr hl hs => lv_fdiv hx hb hd (m_n32 hn) (k H locs ad la hr hl (g_cs trivial (g_tl (g_tl hs))))
theorem g_f2d (hx : p.tables.exec = Jvm.exec) (hb : c.code = cc) {a : UInt32} (hn : isNaN64 (FP.f2d a) = false) (hd : decode cc pc = .ok (.f2d, 1)) (k : m_go p l e R s m args below meth c Q P cl D cA A xa nL c0 s0 (pc + 1) ls (.double (FP.f2d a) :: st) h) : m_go p l e R s m args below meth c Q P cl D cA A xa nL c0 s0 pc ls (.float a :: st) h :=
  fun H locs ad la hr hl hs => lv_f2d hx hb hd (m_n64 hn) (k H locs ad la hr hl (g_cs trivial (g_tl hs)))
theorem g_d2f (hx : p.tables.exec = Jvm.exec) (hb : c.code = cc) {a : UInt64} (hn : isNaN32 (FP.d2f a) = false) (hd : decode cc pc = .ok (.d2f, 1)) (k : m_go p l e R s m args below meth c Q P cl D cA A xa nL c0 s0 (pc + 1) ls (.float (FP.d2f a) :: st) h) : m_go p l e R s m args below meth c Q P cl D cA A xa nL c0 s0 pc ls (.double a :: st) h :=
  fun H locs ad la hr hl hs => lv_d2f hx hb hd (m_n32 hn) (k H locs ad la hr hl (g_cs trivial (g_tl hs)))
theorem g_dcmp (hx : p.tables.exec = Jvm.exec) (hb : c.code = cc) {a b : UInt64} {op : CmpOp} (hd : decode cc pc = .ok (.dcmp op, 1)) (k : m_go p l e R s m args below meth c Q P cl D cA A xa nL c0 s0 (pc + 1) ls (.int (Op.cmpValue (FP.dcmp a b) op) :: st) h) : m_go p l e R s m args below meth c Q P cl D cA A xa nL c0 s0 pc ls (.double b :: .double a :: st) h :=
  fun H locs ad la hr hl hs => lv_dcmp hx hb hd (k H locs ad la hr hl (g_cs trivial (g_tl (g_tl hs))))
theorem g_fcmp (hx : p.tables.exec = Jvm.exec) (hb : c.code = cc) {a b : UInt32} {op : CmpOp} (hd : decode cc pc = .ok (.fcmp op, 1)) (k : m_go p l e R s m args below meth c Q P cl D cA A xa nL c0 s0 (pc + 1) ls (.int (Op.cmpValue (FP.fcmp a b) op) :: st) h) : m_go p l e R s m args below meth c Q P cl D cA A xa nL c0 s0 pc ls (.float b :: .float a :: st) h :=
  fun H locs ad la hr hl hs => lv_fcmp hx hb hd (k H locs ad la hr hl (g_cs trivial (g_tl (g_tl hs))))
theorem g_min (hx : p.tables.exec = Jvm.exec) (hb : c.code = cc) (hml : c.maxLocals = nL) (hown : s.vm.findClass own = some m.cls) (hlink : (Cond.methodLink own index Lib.Math.min.name).before args s = true) (hstat : (Cond.static Lib.Math.min.name).before args s = true) (hini : (Cond.initialized "java/lang/Math").before args s = true) (hcode : (Cond.code Lib.Math.min.name Lib.Math.min.code 2 (some .int)).before args s = true) (hf : 1 ≤ R.frames) (hlo : m_cat st + 13 ≤ R.locals) (hc : m_c h - c0 ≤ R.cells) (hsl : m_s h - s0 ≤ R.slots) {a b : Int32} (hd : decode cc pc = .ok (.invokestatic index, 3)) (k : m_go p l e R s m args below meth c Q P cl D cA A xa nL c0 s0 (pc + 3) ls (.int (if b < a then b else a) :: st) h) : m_go p l e R s m args below meth c Q P cl D cA A xa nL c0 s0 pc ls (.int b :: .int a :: st) h :=
  fun H locs ad la hr hl hs => va_mmin hx hb (hml.trans hl.1.symm) hown hlink hstat hini hcode hf (by rw [m_cat_map]; exact hlo) hc hsl hd (k H locs ad la hr hl (g_cs trivial (g_tl (g_tl hs))))
theorem g_max (hx : p.tables.exec = Jvm.exec) (hb : c.code = cc) (hml : c.maxLocals = nL) (hown : s.vm.findClass own = some m.cls) (hlink : (Cond.methodLink own index Lib.Math.max.name).before args s = true) (hstat : (Cond.static Lib.Math.max.name).before args s = true) (hini : (Cond.initialized "java/lang/Math").before args s = true) (hcode : (Cond.code Lib.Math.max.name Lib.Math.max.code 2 (some .int)).before args s = true) (hf : 1 ≤ R.frames) (hlo : m_cat st + 13 ≤ R.locals) (hc : m_c h - c0 ≤ R.cells) (hsl : m_s h - s0 ≤ R.slots) {a b : Int32} (hd : decode cc pc = .ok (.invokestatic index, 3)) (k : m_go p l e R s m args below meth c Q P cl D cA A xa nL c0 s0 (pc + 3) ls (.int (if a < b then b else a) :: st) h) : m_go p l e R s m args below meth c Q P cl D cA A xa nL c0 s0 pc ls (.int b :: .int a :: st) h :=
  fun H locs ad la hr hl hs => va_mmax hx hb (hml.trans hl.1.symm) hown hlink hstat hini hcode hf (by rw [m_cat_map]; exact hlo) hc hsl hd (k H locs ad la hr hl (g_cs trivial (g_tl (g_tl hs))))
theorem g_objInit (hx : p.tables.exec = Jvm.exec) (hb : c.code = cc) (hml : c.maxLocals = nL) (hown : s.vm.findClass own = some m.cls) (hlink : (Cond.methodLink own index Lib.objectInit).before args s = true) (hinst : (Cond.instanceMethod Lib.objectInit).before args s = true) (hcode : (Cond.code Lib.objectInit ⟨#[0xb1]⟩ 1 none).before args s = true) (hf : 1 ≤ R.frames) (hlo : m_cat st + 12 ≤ R.locals) {a : Nat} (hd : decode cc pc = .ok (.invokespecial index, 3)) (k : m_go p l e R s m args below meth c Q P cl D cA A xa nL c0 s0 (pc + 3) ls st h) : m_go p l e R s m args below meth c Q P cl D cA A xa nL c0 s0 pc ls (.ref a :: st) h := by
  intro H locs ad la hr hl hs
  refine W.objInit hx hb hown hlink hinst hcode rfl (by rw [hml]; exact hl.1) rfl hd hf ?_ (k H locs ad la hr hl (g_tl hs))
  show 2 * 0 + _ + 12 ≤ _
  rw [m_cat_map]
  omega
theorem m_cpy_I (h : m_H) (a i b j n : Nat) : m_I (m_cpy h a i b j n) b = va_cpy (m_I h a) (m_I h b) i j n := by
  funext y
  show (if b = b ∧ j ≤ y ∧ y < j + n then m_I h a (i + (y - j)) else m_I h b y) = _
  unfold va_cpy
  simp
theorem m_cpy_ne {a i b j n z : Nat} {ad : Nat → Nat} (hz : z ≠ b) : m_cell P cA ad (m_cpy h a i b j n) z = m_cell P cA ad h z := by
  have e1 : m_I (m_cpy h a i b j n) z = m_I h z := by
    funext y
    show (if z = b ∧ j ≤ y ∧ y < j + n then m_I h a (i + (y - j)) else m_I h z y) = _
    rw [if_neg (fun q => hz q.1)]
  unfold m_cell m_fv
  rw [e1]
  rfl
theorem g_copy (hx : p.tables.exec = Jvm.exec) (hb : c.code = cc) (hml : c.maxLocals = nL) (hown : s.vm.findClass own = some m.cls) (hlink : (Cond.methodLink own index arraycopyName).before args s = true) (hnat : (Cond.native arraycopyName).before args s = true) (hstat : (Cond.static arraycopyName).before args s = true) (hini : (Cond.initialized "java/lang/System").before args s = true) (hK : va_K D cl tys s) (ht : m_aok tys cA 100 .int) (hf : 1 ≤ R.frames) (hlo : m_cat st + (nativeFrameWords "java/lang/System" "arraycopy" 5 + 11) ≤ R.locals) {a b : Nat} {i j n : Int32} (ha : a < m_n h) (hka : m_k h a = 100) (hbn : b < m_n h) (hkb : m_k h b = 100) (h1 : ¬ i < 0) (h2 : ¬ j < 0) (h3 : ¬ n < 0) (h4 : i.toNatClampNeg + n.toNatClampNeg ≤ m_l h a) (h5 : j.toNatClampNeg + n.toNatClampNeg ≤ m_l h b) (hd : decode cc pc = .ok (.invokestatic index, 3)) (kk : m_go p l e R s m args below meth c Q P cl D cA A xa nL c0 s0 (pc + 3) ls st (m_cpy h a i.toNatClampNeg b j.toNatClampNeg n.toNatClampNeg)) : m_go p l e R s m args below meth c Q P cl D cA A xa nL c0 s0 pc ls (.int n :: .int j :: .ref b :: .int i :: .ref a :: st) h := by
  intro H locs ad la hr hl hs
  obtain ⟨hP, hD, hS, hw, hX⟩ := id hr
  obtain ⟨t0, ht⟩ := ht
  have he := m_ws_at (P := P) (cA := cA) (ad := ad) ha
  rw [m_cell_I (ci := 100) hka (by decide) (by decide) (by decide) (by decide)] at he
  have he2 := m_ws_at (P := P) (cA := cA) (ad := ad) hbn
  rw [m_cell_I (ci := 100) hkb (by decide) (by decide) (by decide) (by decide)] at he2
  have hset := m_ws_set (P := P) (cA := cA) (ad := ad) (h' := m_cpy h a i.toNatClampNeg b j.toNatClampNeg n.toNatClampNeg) hbn rfl (fun z hz => m_cpy_ne hz)
  rw [m_cell_I (ci := 100) (show m_k (m_cpy h a i.toNatClampNeg b j.toNatClampNeg n.toNatClampNeg) b = 100 from hkb) (by decide) (by decide) (by decide) (by decide), m_cpy_I] at hset
  refine va_copyi hx hb (hml.trans hl.1.symm) hown hlink hnat hstat hini hK hP hD hS a b t0 t0 he he2 ht ht rfl h1 h2 h3 h4 h5 (fun _ _ => rfl) hf (by rw [m_cat_map]; exact hlo) hd (fun H1 locs1 a1 a2 a3 => ?_)
  have a1 : va_P D cl (m_ws P cA ad (m_cpy h a i.toNatClampNeg b j.toNatClampNeg n.toNatClampNeg)) H1 := by rw [← hset]; exact a1
  have a2 : va_D A (m_ws P cA ad (m_cpy h a i.toNatClampNeg b j.toNatClampNeg n.toNatClampNeg)) := by rw [← hset]; exact a2
  exact kk H1 locs1 ad la ⟨a1, a2, a3, hw, hX⟩ hl (g_tl (g_tl (g_tl (g_tl (g_tl hs)))))
end GON
end
section
/-! CALLS: what a method of the small machine owes, and what its caller has behind the call -/
/-- the exceptions, by number -/
def m_en (x : Nat) : String := if x = 0 then "java/util/NoSuchElementException" else "java/lang/IllegalArgumentException"
def m_Pc (P : m_P) (cl : List vw_C) (D : va_G) (cA : Nat → ClassId) (tys : List (ClassId × FieldType)) (XT : (Nat → Prop) → State → Heap → Prop) (ad : Nat → Nat) (h : m_H) (as : List Value) (sz : Nat) : Array Value → State → Prop := fun v U =>
  v = (as.map (m_cv ad)).toArray ∧ U.heap.size = sz ∧ va_P D cl (m_ws P cA ad h) U.heap ∧ va_K D cl tys U ∧ va_D (fun _ => True) (m_ws P cA ad h) ∧ XT (va_A (m_ws P cA ad h) sz) U U.heap
/-- the world behind a method -/
def m_Bh (P : m_P) (cl : List vw_C) (D : va_G) (cA : Nat → ClassId) (A : Nat → Prop) (xa : Nat × (Nat → Nat)) (h' : m_H) (ad' : Nat → Nat) (st t : State) : Prop :=
  va_P D cl (m_ws P cA ad' h') t.heap ∧ va_D A (m_ws P cA ad' h') ∧ m_wf h' ∧ xa.1 ≤ m_n h' ∧ (∀ j, j < xa.1 ∨ m_X ≤ j → ad' j = xa.2 j) ∧ va_F A st t
def m_Qc (P : m_P) (cl : List vw_C) (D : va_G) (cA : Nat → ClassId) (A : Nat → Prop) (xa : Nat × (Nat → Nat)) (o : Option Value ⊕ Nat) (h' : m_H) : Array Value → State → Outcome → State → Prop := fun _ st oc t =>
  ∃ (v : Option Value) (ad' : Nat → Nat), o = .inl v ∧ oc = .returned (v.map (m_cv ad')) ∧ (∀ w, v = some w → m_in (m_n h') w) ∧ m_Bh P cl D cA A xa h' ad' st t
def m_XC (P : m_P) (cl : List vw_C) (D : va_G) (cA : Nat → ClassId) (A : Nat → Prop) (xa : Nat × (Nat → Nat)) (o : Option Value ⊕ Nat) (h' : m_H) : String → State → State → Prop := fun E st t =>
  ∃ (x : Nat) (ad' : Nat → Nat), o = .inr x ∧ E = m_en x ∧ m_Bh P cl D cA A xa h' ad' st t
/-- what is said of the things outside stays -/
def m_XTok (XT : (Nat → Prop) → State → Heap → Prop) : Prop :=
  (∀ (A : Nat → Prop) (u U : State) (H : Heap), u.WarmedH U.vm → XT A u H → XT A U H) ∧ (∀ (A : Nat → Prop) (U : State) (H H1 : Heap), H.size ≤ H1.size → (∀ a : Nat, a < H.size → ¬ A a → H1[a]? = H[a]?) → XT A U H → XT A U H1) ∧ ∀ (A B : Nat → Prop) (U : State) (H : Heap), (∀ q, B q → A q) → XT A U H → XT B U H
theorem m_Pc_blind {P : m_P} {cl : List vw_C} {D : va_G} {cA : Nat → ClassId} {tys : List (ClassId × FieldType)} {XT : (Nat → Prop) → State → Heap → Prop} {ad : Nat → Nat} {h : m_H} {as : List Value} {sz : Nat} (hXT : m_XTok XT) : FrameBlind (m_Pc P cl D cA tys XT ad h as sz) := by
  intro a U g mk q
  obtain ⟨q0, q1, q2, q3, q4, q5⟩ := q
  exact ⟨q0, q1, q2, va_K.moved (u := U) (U := U.calling g mk a) (Vm.Alike.refl U.vm) q3, q4, hXT.1 _ U _ _ (State.WarmedH.refl U) q5⟩
section GOC
variable {p : Program} {l : Launch} {e : Env} {R : Room} {s : State} {m : MethodId} {args : Array Value} {below : List Frame} {meth : Method} {c : Code} {Q : State → Prop} {P : m_P} {cl : List vw_C} {D : va_G} {cA : Nat → ClassId} {A : Nat → Prop} {xa : Nat × (Nat → Nat)} {nL c0 s0 : Nat} {pc : Nat} {ls : m_F} {st : List Value} {h : m_H} {cc : ByteArray} {tys : List (ClassId × FieldType)} {G : List Cond} {own : String} {index : Nat} {XT : (Nat → Prop) → State → Heap → Prop} {ad : Nat → Nat} {H : Heap} {locs : List Loc}
/-- the callee's cells are the caller's, or new -/
theorem m_sub (hr : m_rel s P cl D cA A xa ad H locs h) (hA : ∀ q, s.heap.size ≤ q → A q) : ∀ q, va_A (m_ws P cA ad h) H.size q → A q := by
  intro q hq
  rcases hq with ⟨k, ev, hk⟩ | hq
  · exact hr.2.1.2 k (q, ev) hk
  · exact hA q (Nat.le_trans hr.2.2.1.1 hq)
theorem m_pre (hr : m_rel s P cl D cA A xa ad H locs h) (hA : ∀ q, s.heap.size ≤ q → A q) (hK : va_K D cl tys s) (hXT : m_XTok XT) (hX : XT A s s.heap) {as : List Value} (U : State) (hU : U.heap = H) (hW : s.WarmedH U.vm) : m_Pc P cl D cA tys XT ad h as H.size (as.map (m_cv ad)).toArray U :=
  ⟨rfl, by rw [hU], by rw [hU]; exact hr.1, va_K.moved hW.alike hK, hr.2.1.weaken (fun _ _ _ _ => trivial), by
    rw [hU]
    exact hXT.2.2 _ _ _ _ (m_sub hr hA) (hXT.1 _ _ _ _ hW (hXT.2.1 _ _ _ _ hr.2.2.1.1 hr.2.2.1.2.1 hX))⟩
/-- behind a call -/
theorem m_back (hr : m_rel s P cl D cA A xa ad H locs h) (hA : ∀ q, s.heap.size ≤ q → A q) {h' : m_H} {ad' : Nat → Nat} {st0 t T' : State} {L : List Loc} (h0 : st0.heap = H) (e1 : T'.heap = t.heap) (hL : ∀ q ∈ L, va_A (m_ws P cA ad h) H.size q.base) (hB : m_Bh P cl D cA (va_A (m_ws P cA ad h) H.size) (m_n h, ad) h' ad' st0 t) : m_rel s P cl D cA A xa ad' T'.heap (locs ++ L) h' ∧ m_n h ≤ m_n h' ∧ ∀ j, j < m_n h ∨ m_X ≤ j → ad' j = ad j := by
  obtain ⟨b1, b2, b3, b4, b5, b6⟩ := hB
  obtain ⟨r1, r2, r3, r4, r5, r6⟩ := id hr
  obtain ⟨k1, k2, k3⟩ := vx_keep (A0 := A) (A1 := va_A (m_ws P cA ad h) H.size) (free := va_A (m_ws P cA ad h) H.size) h0 e1 r3 (fun q _ z => m_sub hr hA q z) (fun q z => m_sub hr hA q z) hL b6
  exact ⟨⟨by rw [e1]; exact b1, b2.weaken (fun _ _ _ z => m_sub hr hA _ z), k3, b3, Nat.le_trans r5 b4, fun j hj => (b5 j (hj.imp (fun z => Nat.lt_of_lt_of_le z r5) id)).trans (r6 j hj)⟩, b4, b5⟩
/-- a call, as it came back: it goes on behind it, or is thrown over its frame -/
theorem m_call (hr : m_rel s P cl D cA A xa ad H locs h) (hA : ∀ q, s.heap.size ≤ q → A q) {la : Array Slot} (hl : m_lR ad (m_n h) ls la nL) (hs : ∀ v ∈ st, m_in (m_n h) v) {o : Option Value ⊕ Nat} {h' : m_H} {a : Array Value} {st0 : List Value} (h0 : c0 ≤ m_c h) (h1 : s0 ≤ m_s h) (g0 : m_c h ≤ m_c h') (g1 : m_s h ≤ m_s h')
    (hrun : vx_Run p l e R s m args below meth c H locs (m_c h - c0) (m_s h - s0) (m_c h' - m_c h) (m_s h' - m_s h) (F0 m pc la st0) (st.map (m_cv ad)) (m_Qc P cl D cA (va_A (m_ws P cA ad h) H.size) (m_n h, ad) o h' a) (m_XC P cl D cA (va_A (m_ws P cA ad h) H.size) (m_n h, ad) o h') (va_A (m_ws P cA ad h) H.size))
    (kk : ∀ v, o = .inl v → m_go p l e R s m args below meth c Q P cl D cA A xa nL c0 s0 (pc + 3) ls (v.toList ++ st) h')
    (kx : ∀ x, o = .inr x → ∀ (H1 : Heap) (locs1 : List Loc) (ad' : Nat → Nat) (q : Addr) (ce : Cell), m_rel s P cl D cA A xa ad' H1 locs1 h' → m_lR ad' (m_n h') ls la nL → H1[q]? = some ce → ce.vm = .none → s.vm.findClass (m_en x) = some ce.cls → vx_W p l e R s m args below meth c H1 locs1 (m_c h' - c0) (m_s h' - s0) Q (F0 m pc la (st.map (m_cv ad))) q) :
    W p l e R s m args below meth c H locs (m_c h - c0) (m_s h - s0) Q (F0 m pc la st0) := by
  have n1 : m_c h - c0 + (m_c h' - m_c h) = m_c h' - c0 := by omega
  have n2 : m_s h - s0 + (m_s h' - m_s h) = m_s h' - s0 := by omega
  intro T hT X
  rcases hrun T hT X with ⟨v, st₀, t, T', L, q0, X', hL, e1, e2, ⟨w, ad', ho, hv, hin, hB⟩, stp⟩ | ⟨q, st₀, t, T', L, E, ce, q0, X', hL, e1, e2, ⟨x, ad', ho, hE, hB⟩, hce, hcv, hcl, stp⟩
  · obtain ⟨r', hn, hd⟩ := m_back hr hA q0 e1 hL hB
    cases hv
    rw [n1, n2] at X'
    have := kk w ho T'.heap (locs ++ L) ad' la r' (m_lR_ad hl hn hd) (fun z hz => by
      rcases List.mem_append.mp hz with q | q
      · exact hin z (by simpa using q)
      · exact m_in_mono (hs z q) hn) T' rfl X'
    obtain ⟨t2, a1, b1⟩ := this
    refine ⟨t2, stp t2 ?_, b1⟩
    rw [List.map_append, m_cv_map hs hd] at a1
    have ew : (w.toList).map (m_cv ad') = (w.map (m_cv ad')).toList := by cases w <;> rfl
    rw [ew] at a1
    exact a1
  · obtain ⟨r', hn, hd⟩ := m_back hr hA q0 e1 hL hB
    subst hE
    rw [n1, n2] at X'
    obtain ⟨t2, a1, b1⟩ := kx x ho T'.heap (locs ++ L) ad' q ce r' (m_lR_ad hl hn hd) (by rw [e1]; exact hce) hcv hcl T' rfl X'
    exact ⟨t2, stp.trans a1, b1⟩
end GOC
end
section
/-! WHICH INSTRUCTION STANDS FOR WHICH, and each step of the small machine as one of the machine -/
/-- what holds all through a method's body -/
def m_env (p : Program) (s : State) (m : MethodId) (args : Array Value) (meth : Method) (c : Code) (R : Room) (P : m_P) (cl : List vw_C) (D : va_G) (cA : Nat → ClassId) (A : Nat → Prop) (tys : List (ClassId × FieldType)) (G : List Cond) (own : String) (ini : Bool) (nL : Nat) (cc : ByteArray) : Prop :=
  p.tables.exec = Jvm.exec ∧ c.code = cc ∧ c.maxLocals = nL ∧ s.vm.findClass own = some m.cls ∧ (∀ w ∈ G, w.before args s = true) ∧ va_K D cl tys s ∧ (∀ q, s.heap.size ≤ q → A q) ∧ (m_aok tys cA 100 .int ∧ m_aok tys cA 101 .byte ∧ m_aok tys cA 102 .long ∧ m_aok tys cA 103 .double) ∧ (ini = true → meth.name = "<init>") ∧ 8 ≤ R.frames ∧ 200 ≤ R.locals
/-- what must be so for a word of the library to be called -/
def m_lib (G : List Cond) (own : String) (ix z : Nat) : Prop :=
  (z = 9001 ∧ Cond.methodLink own ix Lib.Math.min.name ∈ G ∧ Cond.static Lib.Math.min.name ∈ G ∧ Cond.initialized "java/lang/Math" ∈ G ∧ Cond.code Lib.Math.min.name Lib.Math.min.code 2 (some .int) ∈ G) ∨
  (z = 9002 ∧ Cond.methodLink own ix Lib.Math.max.name ∈ G ∧ Cond.static Lib.Math.max.name ∈ G ∧ Cond.initialized "java/lang/Math" ∈ G ∧ Cond.code Lib.Math.max.name Lib.Math.max.code 2 (some .int) ∈ G) ∨
  (z = 9003 ∧ Cond.methodLink own ix arraycopyName ∈ G ∧ Cond.native arraycopyName ∈ G ∧ Cond.static arraycopyName ∈ G ∧ Cond.initialized "java/lang/System" ∈ G)
def m_sim (P : m_P) (cl : List vw_C) (G : List Cond) (own : String) (ini : Bool) (TG : Nat → Prop) (cc : ByteArray) (pc len : Nat) (i : Instr) : Prop := match i with
  | .aconst_null => len = 1 ∧ decode cc pc = .ok (.aconst_null, 1)
  | .iadd => len = 1 ∧ decode cc pc = .ok (.iadd, 1)
  | .isub => len = 1 ∧ decode cc pc = .ok (.isub, 1)
  | .imul => len = 1 ∧ decode cc pc = .ok (.imul, 1)
  | .iand => len = 1 ∧ decode cc pc = .ok (.iand, 1)
  | .ior => len = 1 ∧ decode cc pc = .ok (.ior, 1)
  | .ishr => len = 1 ∧ decode cc pc = .ok (.ishr, 1)
  | .idiv => len = 1 ∧ decode cc pc = .ok (.idiv, 1)
  | .irem => len = 1 ∧ decode cc pc = .ok (.irem, 1)
  | .i2b => len = 1 ∧ decode cc pc = .ok (.i2b, 1)
  | .i2l => len = 1 ∧ decode cc pc = .ok (.i2l, 1)
  | .i2d => len = 1 ∧ decode cc pc = .ok (.i2d, 1)
  | .i2f => len = 1 ∧ decode cc pc = .ok (.i2f, 1)
  | .ladd => len = 1 ∧ decode cc pc = .ok (.ladd, 1)
  | .lsub => len = 1 ∧ decode cc pc = .ok (.lsub, 1)
  | .lmul => len = 1 ∧ decode cc pc = .ok (.lmul, 1)
  | .lcmp => len = 1 ∧ decode cc pc = .ok (.lcmp, 1)
  | .ddiv => len = 1 ∧ decode cc pc = .ok (.ddiv, 1)
  | .fdiv => len = 1 ∧ decode cc pc = .ok (.fdiv, 1)
  | .f2d => len = 1 ∧ decode cc pc = .ok (.f2d, 1)
  | .d2f => len = 1 ∧ decode cc pc = .ok (.d2f, 1)
  | .dup => len = 1 ∧ decode cc pc = .ok (.dup, 1)
  | .pop => len = 1 ∧ decode cc pc = .ok (.pop, 1)
  | .dup2 => len = 1 ∧ decode cc pc = .ok (.dup2, 1)
  | .iaload => len = 1 ∧ decode cc pc = .ok (.iaload, 1)
  | .baload => len = 1 ∧ decode cc pc = .ok (.baload, 1)
  | .laload => len = 1 ∧ decode cc pc = .ok (.laload, 1)
  | .daload => len = 1 ∧ decode cc pc = .ok (.daload, 1)
  | .iastore => len = 1 ∧ decode cc pc = .ok (.iastore, 1)
  | .bastore => len = 1 ∧ decode cc pc = .ok (.bastore, 1)
  | .lastore => len = 1 ∧ decode cc pc = .ok (.lastore, 1)
  | .dastore => len = 1 ∧ decode cc pc = .ok (.dastore, 1)
  | .ireturn => len = 1 ∧ decode cc pc = .ok (.ireturn, 1)
  | .areturn => len = 1 ∧ decode cc pc = .ok (.areturn, 1)
  | .freturn => len = 1 ∧ decode cc pc = .ok (.freturn, 1)
  | .dreturn => len = 1 ∧ decode cc pc = .ok (.dreturn, 1)
  | .return_ => len = 1 ∧ decode cc pc = .ok (.return_, 1)
  | .ret _ => len = 1 ∧ decode cc pc = .ok (.ireturn, 1)
  | .dcmp op => len = 1 ∧ decode cc pc = .ok (.dcmp op, 1)
  | .fcmp op => len = 1 ∧ decode cc pc = .ok (.fcmp op, 1)
  | .fconst k => len = 1 ∧ k = 0 ∧ decode cc pc = .ok (.fconst 0, 1)
  | .dconst k => len = 1 ∧ (k = 0 ∧ decode cc pc = .ok (.dconst 0, 1) ∨ k = 1 ∧ decode cc pc = .ok (.dconst 1, 1))
  | .iconst v => (len = 1 ∧ ∃ n : Int, Int32.ofInt n = Int32.ofInt v ∧ decode cc pc = .ok (.iconst n, 1)) ∨ (len = 2 ∧ ∃ n : Int, (Int8.ofInt n).toInt32 = Int32.ofInt v ∧ decode cc pc = .ok (.bipush n, 2)) ∨ (len = 3 ∧ ∃ n : Int, (Int16.ofInt n).toInt32 = Int32.ofInt v ∧ decode cc pc = .ok (.sipush n, 3)) ∨ (len = 2 ∧ ∃ ix : Nat, Jvm.Cond.constant own ix (Int32.ofInt v) ∈ G ∧ decode cc pc = .ok (.ldc ix, 2)) ∨ (len = 3 ∧ ∃ ix : Nat, Jvm.Cond.constant own ix (Int32.ofInt v) ∈ G ∧ decode cc pc = .ok (.ldc_w ix, 3))
  | .ldc2_w v => (len = 1 ∧ ∃ n : Fin 2, Int64.ofNat (n : Nat) = Int64.ofNat v ∧ decode cc pc = .ok (.lconst n, 1)) ∨ (len = 3 ∧ ∃ ix : Nat, Jvm.Cond.constantLong own ix (Int64.ofNat v) ∈ G ∧ decode cc pc = .ok (.ldc2_w ix, 3))
  | .iload k => (len = 2 ∧ decode cc pc = .ok (.iload k, 2)) ∨ (len = 1 ∧ ∃ j : Fin 4, (j : Nat) = k ∧ decode cc pc = .ok (.iload_n j, 1))
  | .lload k => (len = 2 ∧ decode cc pc = .ok (.lload k, 2)) ∨ (len = 1 ∧ ∃ j : Fin 4, (j : Nat) = k ∧ decode cc pc = .ok (.lload_n j, 1))
  | .aload k => (len = 2 ∧ decode cc pc = .ok (.aload k, 2)) ∨ (len = 1 ∧ ∃ j : Fin 4, (j : Nat) = k ∧ decode cc pc = .ok (.aload_n j, 1))
  | .istore k => (len = 2 ∧ decode cc pc = .ok (.istore k, 2)) ∨ (len = 1 ∧ ∃ j : Fin 4, (j : Nat) = k ∧ decode cc pc = .ok (.istore_n j, 1))
  | .astore k => (len = 2 ∧ decode cc pc = .ok (.astore k, 2)) ∨ (len = 1 ∧ ∃ j : Fin 4, (j : Nat) = k ∧ decode cc pc = .ok (.astore_n j, 1))
  | .fload k => len = 2 ∧ decode cc pc = .ok (.fload k, 2)
  | .dload k => len = 2 ∧ decode cc pc = .ok (.dload k, 2)
  | .fstore k => len = 2 ∧ decode cc pc = .ok (.fstore k, 2)
  | .dstore k => len = 2 ∧ decode cc pc = .ok (.dstore k, 2)
  | .iinc k v => len = 3 ∧ decode cc pc = .ok (.iinc k v, 3)
  | .goto t => len = 3 ∧ (∃ off : Int, (pc : Int) + off = (t.toNat : Int) ∧ decode cc pc = .ok (.goto off, 3)) ∧ TG t.toNat
  | .ifnull t => len = 3 ∧ (∃ off : Int, (pc : Int) + off = (t.toNat : Int) ∧ decode cc pc = .ok (.ifnull off, 3)) ∧ TG t.toNat
  | .ifnonnull t => len = 3 ∧ (∃ off : Int, (pc : Int) + off = (t.toNat : Int) ∧ decode cc pc = .ok (.ifnonnull off, 3)) ∧ TG t.toNat
  | .ifCond z t => len = 3 ∧ (∃ off : Int, (pc : Int) + off = (t.toNat : Int) ∧ decode cc pc = .ok (.ifCond z off, 3)) ∧ TG t.toNat
  | .if_icmp z t => len = 3 ∧ (∃ off : Int, (pc : Int) + off = (t.toNat : Int) ∧ decode cc pc = .ok (.if_icmp z off, 3)) ∧ TG t.toNat
  | .tableswitch d lo hi ts => (∃ (dflt : Int) (offs : Array Int), (pc : Int) + dflt = (d.toNat : Int) ∧ TG d.toNat ∧ (∀ (k : Nat) (t : Int), ts[k]? = some t → TG t.toNat ∧ ∃ off : Int, offs[k]? = some off ∧ (pc : Int) + off = (t.toNat : Int)) ∧ decode cc pc = .ok (.tableswitch dflt lo hi offs, len))
  | .getfield x => len = 3 ∧ ∃ (ix : Nat) (C : String) (T : u_T), m_cok P cl G (x / 64) C T ∧ Cond.fieldLink own ix (T (x % 64)).1 (T (x % 64)).2.1 (T (x % 64)).2.2.1 ∈ G ∧ decode cc pc = .ok (.getfield ix, 3)
  | .putfield x => len = 3 ∧ ∃ (ix : Nat) (C : String) (T : u_T), m_cok P cl G (x / 64) C T ∧ Cond.fieldLink own ix (T (x % 64)).1 (T (x % 64)).2.1 (T (x % 64)).2.2.1 ∈ G ∧ ((T (x % 64)).2.2.2 = false ∨ ((T (x % 64)).2.2.2 = true ∧ ini = true ∧ (T (x % 64)).1 = own)) ∧ decode cc pc = .ok (.putfield ix, 3)
  | .nop => True
  | .newarray .int => len = 2 ∧ Cond.arrayClass .int ∈ G ∧ decode cc pc = .ok (.newarray .int, 2)
  | .newarray .byte => len = 2 ∧ Cond.arrayClass .byte ∈ G ∧ decode cc pc = .ok (.newarray .byte, 2)
  | .newarray .long => len = 2 ∧ Cond.arrayClass .long ∈ G ∧ decode cc pc = .ok (.newarray .long, 2)
  | .newarray .double => len = 2 ∧ Cond.arrayClass .double ∈ G ∧ decode cc pc = .ok (.newarray .double, 2)
  | .new ci => len = 3 ∧ ∃ (ix : Nat) (C : String) (T : u_T), m_cok P cl G ci C T ∧ Cond.classLink own ix C ∈ G ∧ Cond.instantiable C (m_nf P ci) ∈ G ∧ Cond.initialized C ∈ G ∧ decode cc pc = .ok (.new ix, 3)
  | .invokestatic z => len = 3 ∧ ∃ ix : Nat, m_lib G own ix z ∧ decode cc pc = .ok (.invokestatic ix, 3)
  | .invokespecial z => len = 3 ∧ z = 9000 ∧ ∃ ix : Nat, Cond.methodLink own ix Lib.objectInit ∈ G ∧ Cond.instanceMethod Lib.objectInit ∈ G ∧ Cond.code Lib.objectInit ⟨#[0xb1]⟩ 1 none ∈ G ∧ decode cc pc = .ok (.invokespecial ix, 3)
  | _ => False
section STEP
variable {p : Program} {l : Launch} {e : Env} {R : Room} {s : State} {m : MethodId} {args : Array Value} {below : List Frame} {meth : Method} {c : Code} {Q : State → Prop} {P : m_P} {cl : List vw_C} {D : va_G} {cA : Nat → ClassId} {A : Nat → Prop} {xa : Nat × (Nat → Nat)} {nL c0 s0 : Nat} {pc len y : Nat} {is : List Instr} {ls : m_F} {st : List Value} {h : m_H} {cc : ByteArray} {tys : List (ClassId × FieldType)} {G : List Cond} {own : String} {ini : Bool} {TG : Nat → Prop} {AT : Nat → List Instr → Prop} {q : List Instr × m_F × List Value × m_H}
theorem s_iadd (E : m_env p s m args meth c R P cl D cA A tys G own ini nL cc) (hq : m_st P y (.iadd) is ls st h = some (.inl q)) (hm : m_sim P cl G own ini TG cc pc len (.iadd)) (hn : AT (pc + len) is) (k : ∀ pc', AT pc' q.1 → m_go p l e R s m args below meth c Q P cl D cA A xa nL c0 s0 pc' q.2.1 q.2.2.1 q.2.2.2) : m_go p l e R s m args below meth c Q P cl D cA A xa nL c0 s0 pc ls st h := by
  obtain ⟨hx, hb, hml, hown, hts, hK, hA, ⟨hAI, hAB, hAL, hAD⟩, hini, hfr, hlo⟩ := E
  obtain ⟨rfl, hd⟩ := hm
  simp only [m_st, m_nx] at hq
  split at hq
  · cases hq
    exact g_iadd hx hb hd (k _ hn)
  · cases hq
theorem s_isub (E : m_env p s m args meth c R P cl D cA A tys G own ini nL cc) (hq : m_st P y (.isub) is ls st h = some (.inl q)) (hm : m_sim P cl G own ini TG cc pc len (.isub)) (hn : AT (pc + len) is) (k : ∀ pc', AT pc' q.1 → m_go p l e R s m args below meth c Q P cl D cA A xa nL c0 s0 pc' q.2.1 q.2.2.1 q.2.2.2) : m_go p l e R s m args below meth c Q P cl D cA A xa nL c0 s0 pc ls st h := by
  obtain ⟨hx, hb, hml, hown, hts, hK, hA, ⟨hAI, hAB, hAL, hAD⟩, hini, hfr, hlo⟩ := E
  obtain ⟨rfl, hd⟩ := hm
  simp only [m_st, m_nx] at hq
  split at hq
  · cases hq
    exact g_isub hx hb hd (k _ hn)
  · cases hq
theorem s_imul (E : m_env p s m args meth c R P cl D cA A tys G own ini nL cc) (hq : m_st P y (.imul) is ls st h = some (.inl q)) (hm : m_sim P cl G own ini TG cc pc len (.imul)) (hn : AT (pc + len) is) (k : ∀ pc', AT pc' q.1 → m_go p l e R s m args below meth c Q P cl D cA A xa nL c0 s0 pc' q.2.1 q.2.2.1 q.2.2.2) : m_go p l e R s m args below meth c Q P cl D cA A xa nL c0 s0 pc ls st h := by
  obtain ⟨hx, hb, hml, hown, hts, hK, hA, ⟨hAI, hAB, hAL, hAD⟩, hini, hfr, hlo⟩ := E
  obtain ⟨rfl, hd⟩ := hm
  simp only [m_st, m_nx] at hq
  split at hq
  · cases hq
    exact g_imul hx hb hd (k _ hn)
  · cases hq
theorem s_iand (E : m_env p s m args meth c R P cl D cA A tys G own ini nL cc) (hq : m_st P y (.iand) is ls st h = some (.inl q)) (hm : m_sim P cl G own ini TG cc pc len (.iand)) (hn : AT (pc + len) is) (k : ∀ pc', AT pc' q.1 → m_go p l e R s m args below meth c Q P cl D cA A xa nL c0 s0 pc' q.2.1 q.2.2.1 q.2.2.2) : m_go p l e R s m args below meth c Q P cl D cA A xa nL c0 s0 pc ls st h := by
  obtain ⟨hx, hb, hml, hown, hts, hK, hA, ⟨hAI, hAB, hAL, hAD⟩, hini, hfr, hlo⟩ := E
  obtain ⟨rfl, hd⟩ := hm
  simp only [m_st, m_nx] at hq
  split at hq
  · cases hq
    exact g_iand hx hb hd (k _ hn)
  · cases hq
theorem s_ior (E : m_env p s m args meth c R P cl D cA A tys G own ini nL cc) (hq : m_st P y (.ior) is ls st h = some (.inl q)) (hm : m_sim P cl G own ini TG cc pc len (.ior)) (hn : AT (pc + len) is) (k : ∀ pc', AT pc' q.1 → m_go p l e R s m args below meth c Q P cl D cA A xa nL c0 s0 pc' q.2.1 q.2.2.1 q.2.2.2) : m_go p l e R s m args below meth c Q P cl D cA A xa nL c0 s0 pc ls st h := by
  obtain ⟨hx, hb, hml, hown, hts, hK, hA, ⟨hAI, hAB, hAL, hAD⟩, hini, hfr, hlo⟩ := E
  obtain ⟨rfl, hd⟩ := hm
  simp only [m_st, m_nx] at hq
  split at hq
  · cases hq
    exact g_ior hx hb hd (k _ hn)
  · cases hq
theorem s_ishr (E : m_env p s m args meth c R P cl D cA A tys G own ini nL cc) (hq : m_st P y (.ishr) is ls st h = some (.inl q)) (hm : m_sim P cl G own ini TG cc pc len (.ishr)) (hn : AT (pc + len) is) (k : ∀ pc', AT pc' q.1 → m_go p l e R s m args below meth c Q P cl D cA A xa nL c0 s0 pc' q.2.1 q.2.2.1 q.2.2.2) : m_go p l e R s m args below meth c Q P cl D cA A xa nL c0 s0 pc ls st h := by
  obtain ⟨hx, hb, hml, hown, hts, hK, hA, ⟨hAI, hAB, hAL, hAD⟩, hini, hfr, hlo⟩ := E
  obtain ⟨rfl, hd⟩ := hm
  simp only [m_st, m_nx] at hq
  split at hq
  · cases hq
    exact g_ishr hx hb hd (k _ hn)
  · cases hq
theorem s_ladd (E : m_env p s m args meth c R P cl D cA A tys G own ini nL cc) (hq : m_st P y (.ladd) is ls st h = some (.inl q)) (hm : m_sim P cl G own ini TG cc pc len (.ladd)) (hn : AT (pc + len) is) (k : ∀ pc', AT pc' q.1 → m_go p l e R s m args below meth c Q P cl D cA A xa nL c0 s0 pc' q.2.1 q.2.2.1 q.2.2.2) : m_go p l e R s m args below meth c Q P cl D cA A xa nL c0 s0 pc ls st h := by
  obtain ⟨hx, hb, hml, hown, hts, hK, hA, ⟨hAI, hAB, hAL, hAD⟩, hini, hfr, hlo⟩ := E
  obtain ⟨rfl, hd⟩ := hm
  simp only [m_st, m_nx] at hq
  split at hq
  · cases hq
    exact g_ladd hx hb hd (k _ hn)
  · cases hq
theorem s_lsub (E : m_env p s m args meth c R P cl D cA A tys G own ini nL cc) (hq : m_st P y (.lsub) is ls st h = some (.inl q)) (hm : m_sim P cl G own ini TG cc pc len (.lsub)) (hn : AT (pc + len) is) (k : ∀ pc', AT pc' q.1 → m_go p l e R s m args below meth c Q P cl D cA A xa nL c0 s0 pc' q.2.1 q.2.2.1 q.2.2.2) : m_go p l e R s m args below meth c Q P cl D cA A xa nL c0 s0 pc ls st h := by
  obtain ⟨hx, hb, hml, hown, hts, hK, hA, ⟨hAI, hAB, hAL, hAD⟩, hini, hfr, hlo⟩ := E
  obtain ⟨rfl, hd⟩ := hm
  simp only [m_st, m_nx] at hq
  split at hq
  · cases hq
    exact g_lsub hx hb hd (k _ hn)
  · cases hq
theorem s_lmul (E : m_env p s m args meth c R P cl D cA A tys G own ini nL cc) (hq : m_st P y (.lmul) is ls st h = some (.inl q)) (hm : m_sim P cl G own ini TG cc pc len (.lmul)) (hn : AT (pc + len) is) (k : ∀ pc', AT pc' q.1 → m_go p l e R s m args below meth c Q P cl D cA A xa nL c0 s0 pc' q.2.1 q.2.2.1 q.2.2.2) : m_go p l e R s m args below meth c Q P cl D cA A xa nL c0 s0 pc ls st h := by
  obtain ⟨hx, hb, hml, hown, hts, hK, hA, ⟨hAI, hAB, hAL, hAD⟩, hini, hfr, hlo⟩ := E
  obtain ⟨rfl, hd⟩ := hm
  simp only [m_st, m_nx] at hq
  split at hq
  · cases hq
    exact g_lmul hx hb hd (k _ hn)
  · cases hq
theorem s_lcmp (E : m_env p s m args meth c R P cl D cA A tys G own ini nL cc) (hq : m_st P y (.lcmp) is ls st h = some (.inl q)) (hm : m_sim P cl G own ini TG cc pc len (.lcmp)) (hn : AT (pc + len) is) (k : ∀ pc', AT pc' q.1 → m_go p l e R s m args below meth c Q P cl D cA A xa nL c0 s0 pc' q.2.1 q.2.2.1 q.2.2.2) : m_go p l e R s m args below meth c Q P cl D cA A xa nL c0 s0 pc ls st h := by
  obtain ⟨hx, hb, hml, hown, hts, hK, hA, ⟨hAI, hAB, hAL, hAD⟩, hini, hfr, hlo⟩ := E
  obtain ⟨rfl, hd⟩ := hm
  simp only [m_st, m_nx] at hq
  split at hq
  · cases hq
    exact g_lcmp hx hb hd (k _ hn)
  · cases hq
theorem s_i2b (E : m_env p s m args meth c R P cl D cA A tys G own ini nL cc) (hq : m_st P y (.i2b) is ls st h = some (.inl q)) (hm : m_sim P cl G own ini TG cc pc len (.i2b)) (hn : AT (pc + len) is) (k : ∀ pc', AT pc' q.1 → m_go p l e R s m args below meth c Q P cl D cA A xa nL c0 s0 pc' q.2.1 q.2.2.1 q.2.2.2) : m_go p l e R s m args below meth c Q P cl D cA A xa nL c0 s0 pc ls st h := by
  obtain ⟨hx, hb, hml, hown, hts, hK, hA, ⟨hAI, hAB, hAL, hAD⟩, hini, hfr, hlo⟩ := E
  obtain ⟨rfl, hd⟩ := hm
  simp only [m_st, m_nx] at hq
  split at hq
  · cases hq
    exact g_i2b hx hb hd (k _ hn)
  · cases hq
theorem s_i2l (E : m_env p s m args meth c R P cl D cA A tys G own ini nL cc) (hq : m_st P y (.i2l) is ls st h = some (.inl q)) (hm : m_sim P cl G own ini TG cc pc len (.i2l)) (hn : AT (pc + len) is) (k : ∀ pc', AT pc' q.1 → m_go p l e R s m args below meth c Q P cl D cA A xa nL c0 s0 pc' q.2.1 q.2.2.1 q.2.2.2) : m_go p l e R s m args below meth c Q P cl D cA A xa nL c0 s0 pc ls st h := by
  obtain ⟨hx, hb, hml, hown, hts, hK, hA, ⟨hAI, hAB, hAL, hAD⟩, hini, hfr, hlo⟩ := E
  obtain ⟨rfl, hd⟩ := hm
  simp only [m_st, m_nx] at hq
  split at hq
  · cases hq
    exact g_i2l hx hb hd (k _ hn)
  · cases hq
theorem s_i2d (E : m_env p s m args meth c R P cl D cA A tys G own ini nL cc) (hq : m_st P y (.i2d) is ls st h = some (.inl q)) (hm : m_sim P cl G own ini TG cc pc len (.i2d)) (hn : AT (pc + len) is) (k : ∀ pc', AT pc' q.1 → m_go p l e R s m args below meth c Q P cl D cA A xa nL c0 s0 pc' q.2.1 q.2.2.1 q.2.2.2) : m_go p l e R s m args below meth c Q P cl D cA A xa nL c0 s0 pc ls st h := by
  obtain ⟨hx, hb, hml, hown, hts, hK, hA, ⟨hAI, hAB, hAL, hAD⟩, hini, hfr, hlo⟩ := E
  obtain ⟨rfl, hd⟩ := hm
  simp only [m_st, m_nx] at hq
  split at hq
  · cases hq
    exact g_i2d hx hb hd (k _ hn)
  · cases hq
theorem s_i2f (E : m_env p s m args meth c R P cl D cA A tys G own ini nL cc) (hq : m_st P y (.i2f) is ls st h = some (.inl q)) (hm : m_sim P cl G own ini TG cc pc len (.i2f)) (hn : AT (pc + len) is) (k : ∀ pc', AT pc' q.1 → m_go p l e R s m args below meth c Q P cl D cA A xa nL c0 s0 pc' q.2.1 q.2.2.1 q.2.2.2) : m_go p l e R s m args below meth c Q P cl D cA A xa nL c0 s0 pc ls st h := by
  obtain ⟨hx, hb, hml, hown, hts, hK, hA, ⟨hAI, hAB, hAL, hAD⟩, hini, hfr, hlo⟩ := E
  obtain ⟨rfl, hd⟩ := hm
  simp only [m_st, m_nx] at hq
  split at hq
  · cases hq
    exact g_i2f hx hb hd (k _ hn)
  · cases hq
theorem s_aconst_null (E : m_env p s m args meth c R P cl D cA A tys G own ini nL cc) (hq : m_st P y (.aconst_null) is ls st h = some (.inl q)) (hm : m_sim P cl G own ini TG cc pc len (.aconst_null)) (hn : AT (pc + len) is) (k : ∀ pc', AT pc' q.1 → m_go p l e R s m args below meth c Q P cl D cA A xa nL c0 s0 pc' q.2.1 q.2.2.1 q.2.2.2) : m_go p l e R s m args below meth c Q P cl D cA A xa nL c0 s0 pc ls st h := by
  obtain ⟨hx, hb, hml, hown, hts, hK, hA, ⟨hAI, hAB, hAL, hAD⟩, hini, hfr, hlo⟩ := E
  obtain ⟨rfl, hd⟩ := hm
  cases hq
  exact g_null hx hb hd (k _ hn)
theorem s_idiv (E : m_env p s m args meth c R P cl D cA A tys G own ini nL cc) (hq : m_st P y (.idiv) is ls st h = some (.inl q)) (hm : m_sim P cl G own ini TG cc pc len (.idiv)) (hn : AT (pc + len) is) (k : ∀ pc', AT pc' q.1 → m_go p l e R s m args below meth c Q P cl D cA A xa nL c0 s0 pc' q.2.1 q.2.2.1 q.2.2.2) : m_go p l e R s m args below meth c Q P cl D cA A xa nL c0 s0 pc ls st h := by
  obtain ⟨hx, hb, hml, hown, hts, hK, hA, ⟨hAI, hAB, hAL, hAD⟩, hini, hfr, hlo⟩ := E
  obtain ⟨rfl, hd⟩ := hm
  simp only [m_st, m_nx] at hq
  split at hq
  · split at hq
    · first | (cases hq; done) | (next z => cases hq; exact g_idiv hx hb z hd (k _ hn))
    · first | (cases hq; done) | (next z => cases hq; exact g_idiv hx hb z hd (k _ hn))
  · cases hq
theorem s_irem (E : m_env p s m args meth c R P cl D cA A tys G own ini nL cc) (hq : m_st P y (.irem) is ls st h = some (.inl q)) (hm : m_sim P cl G own ini TG cc pc len (.irem)) (hn : AT (pc + len) is) (k : ∀ pc', AT pc' q.1 → m_go p l e R s m args below meth c Q P cl D cA A xa nL c0 s0 pc' q.2.1 q.2.2.1 q.2.2.2) : m_go p l e R s m args below meth c Q P cl D cA A xa nL c0 s0 pc ls st h := by
  obtain ⟨hx, hb, hml, hown, hts, hK, hA, ⟨hAI, hAB, hAL, hAD⟩, hini, hfr, hlo⟩ := E
  obtain ⟨rfl, hd⟩ := hm
  simp only [m_st, m_nx] at hq
  split at hq
  · split at hq
    · first | (cases hq; done) | (next z => cases hq; exact g_irem hx hb z hd (k _ hn))
    · first | (cases hq; done) | (next z => cases hq; exact g_irem hx hb z hd (k _ hn))
  · cases hq
theorem s_ddiv (E : m_env p s m args meth c R P cl D cA A tys G own ini nL cc) (hq : m_st P y (.ddiv) is ls st h = some (.inl q)) (hm : m_sim P cl G own ini TG cc pc len (.ddiv)) (hn : AT (pc + len) is) (k : ∀ pc', AT pc' q.1 → m_go p l e R s m args below meth c Q P cl D cA A xa nL c0 s0 pc' q.2.1 q.2.2.1 q.2.2.2) : m_go p l e R s m args below meth c Q P cl D cA A xa nL c0 s0 pc ls st h := by
  obtain ⟨hx, hb, hml, hown, hts, hK, hA, ⟨hAI, hAB, hAL, hAD⟩, hini, hfr, hlo⟩ := E
  obtain ⟨rfl, hd⟩ := hm
  simp only [m_st, m_nx] at hq
  split at hq
  · split at hq
    · first | (cases hq; done) | (next z => cases hq; exact g_ddiv hx hb z hd (k _ hn))
    · first | (cases hq; done) | (next z => cases hq; exact g_ddiv hx hb z hd (k _ hn))
  · cases hq
theorem s_fdiv (E : m_env p s m args meth c R P cl D cA A tys G own ini nL cc) (hq : m_st P y (.fdiv) is ls st h = some (.inl q)) (hm : m_sim P cl G own ini TG cc pc len (.fdiv)) (hn : AT (pc + len) is) (k : ∀ pc', AT pc' q.1 → m_go p l e R s m args below meth c Q P cl D cA A xa nL c0 s0 pc' q.2.1 q.2.2.1 q.2.2.2) : m_go p l e R s m args below meth c Q P cl D cA A xa nL c0 s0 pc ls st h := by
  obtain ⟨hx, hb, hml, hown, hts, hK, hA, ⟨hAI, hAB, hAL, hAD⟩, hini, hfr, hlo⟩ := E
  obtain ⟨rfl, hd⟩ := hm
  simp only [m_st, m_nx] at hq
  split at hq
  · split at hq
    · first | (cases hq; done) | (next z => cases hq; exact g_fdiv hx hb z hd (k _ hn))
    · first | (cases hq; done) | (next z => cases hq; exact g_fdiv hx hb z hd (k _ hn))
  · cases hq
theorem s_f2d (E : m_env p s m args meth c R P cl D cA A tys G own ini nL cc) (hq : m_st P y (.f2d) is ls st h = some (.inl q)) (hm : m_sim P cl G own ini TG cc pc len (.f2d)) (hn : AT (pc + len) is) (k : ∀ pc', AT pc' q.1 → m_go p l e R s m args below meth c Q P cl D cA A xa nL c0 s0 pc' q.2.1 q.2.2.1 q.2.2.2) : m_go p l e R s m args below meth c Q P cl D cA A xa nL c0 s0 pc ls st h := by
  obtain ⟨hx, hb, hml, hown, hts, hK, hA, ⟨hAI, hAB, hAL, hAD⟩, hini, hfr, hlo⟩ := E
  obtain ⟨rfl, hd⟩ := hm
  simp only [m_st, m_nx] at hq
  split at hq
  · split at hq
    · first | (cases hq; done) | (next z => cases hq; exact g_f2d hx hb z hd (k _ hn))
    · first | (cases hq; done) | (next z => cases hq; exact g_f2d hx hb z hd (k _ hn))
  · cases hq
theorem s_d2f (E : m_env p s m args meth c R P cl D cA A tys G own ini nL cc) (hq : m_st P y (.d2f) is ls st h = some (.inl q)) (hm : m_sim P cl G own ini TG cc pc len (.d2f)) (hn : AT (pc + len) is) (k : ∀ pc', AT pc' q.1 → m_go p l e R s m args below meth c Q P cl D cA A xa nL c0 s0 pc' q.2.1 q.2.2.1 q.2.2.2) : m_go p l e R s m args below meth c Q P cl D cA A xa nL c0 s0 pc ls st h := by
  obtain ⟨hx, hb, hml, hown, hts, hK, hA, ⟨hAI, hAB, hAL, hAD⟩, hini, hfr, hlo⟩ := E
  obtain ⟨rfl, hd⟩ := hm
  simp only [m_st, m_nx] at hq
  split at hq
  · split at hq
    · first | (cases hq; done) | (next z => cases hq; exact g_d2f hx hb z hd (k _ hn))
    · first | (cases hq; done) | (next z => cases hq; exact g_d2f hx hb z hd (k _ hn))
  · cases hq
theorem s_dup (E : m_env p s m args meth c R P cl D cA A tys G own ini nL cc) (hq : m_st P y (.dup) is ls st h = some (.inl q)) (hm : m_sim P cl G own ini TG cc pc len (.dup)) (hn : AT (pc + len) is) (k : ∀ pc', AT pc' q.1 → m_go p l e R s m args below meth c Q P cl D cA A xa nL c0 s0 pc' q.2.1 q.2.2.1 q.2.2.2) : m_go p l e R s m args below meth c Q P cl D cA A xa nL c0 s0 pc ls st h := by
  obtain ⟨hx, hb, hml, hown, hts, hK, hA, ⟨hAI, hAB, hAL, hAD⟩, hini, hfr, hlo⟩ := E
  obtain ⟨rfl, hd⟩ := hm
  simp only [m_st, m_nx] at hq
  split at hq
  · split at hq
    · first | (cases hq; done) | (next z => cases hq; exact g_dup hx hb z hd (k _ hn))
    · first | (cases hq; done) | (next z => cases hq; exact g_dup hx hb z hd (k _ hn))
  · cases hq
theorem s_pop (E : m_env p s m args meth c R P cl D cA A tys G own ini nL cc) (hq : m_st P y (.pop) is ls st h = some (.inl q)) (hm : m_sim P cl G own ini TG cc pc len (.pop)) (hn : AT (pc + len) is) (k : ∀ pc', AT pc' q.1 → m_go p l e R s m args below meth c Q P cl D cA A xa nL c0 s0 pc' q.2.1 q.2.2.1 q.2.2.2) : m_go p l e R s m args below meth c Q P cl D cA A xa nL c0 s0 pc ls st h := by
  obtain ⟨hx, hb, hml, hown, hts, hK, hA, ⟨hAI, hAB, hAL, hAD⟩, hini, hfr, hlo⟩ := E
  obtain ⟨rfl, hd⟩ := hm
  simp only [m_st, m_nx] at hq
  split at hq
  · split at hq
    · first | (cases hq; done) | (next z => cases hq; exact g_pop hx hb z hd (k _ hn))
    · first | (cases hq; done) | (next z => cases hq; exact g_pop hx hb z hd (k _ hn))
  · cases hq
theorem s_dup2 (E : m_env p s m args meth c R P cl D cA A tys G own ini nL cc) (hq : m_st P y (.dup2) is ls st h = some (.inl q)) (hm : m_sim P cl G own ini TG cc pc len (.dup2)) (hn : AT (pc + len) is) (k : ∀ pc', AT pc' q.1 → m_go p l e R s m args below meth c Q P cl D cA A xa nL c0 s0 pc' q.2.1 q.2.2.1 q.2.2.2) : m_go p l e R s m args below meth c Q P cl D cA A xa nL c0 s0 pc ls st h := by
  obtain ⟨hx, hb, hml, hown, hts, hK, hA, ⟨hAI, hAB, hAL, hAD⟩, hini, hfr, hlo⟩ := E
  obtain ⟨rfl, hd⟩ := hm
  simp only [m_st, m_nx] at hq
  split at hq
  · split at hq
    · next z => cases hq; exact g_dup2 hx hb z.1 z.2 hd (k _ hn)
    · cases hq
  · cases hq
theorem s_dcmp {op : CmpOp} (E : m_env p s m args meth c R P cl D cA A tys G own ini nL cc) (hq : m_st P y (.dcmp op) is ls st h = some (.inl q)) (hm : m_sim P cl G own ini TG cc pc len (.dcmp op)) (hn : AT (pc + len) is) (k : ∀ pc', AT pc' q.1 → m_go p l e R s m args below meth c Q P cl D cA A xa nL c0 s0 pc' q.2.1 q.2.2.1 q.2.2.2) : m_go p l e R s m args below meth c Q P cl D cA A xa nL c0 s0 pc ls st h := by
  obtain ⟨hx, hb, -⟩ := E
  obtain ⟨rfl, hd⟩ := hm
  simp only [m_st, m_nx] at hq
  split at hq
  · cases hq
    exact g_dcmp hx hb hd (k _ hn)
  · cases hq
theorem s_fcmp {op : CmpOp} (E : m_env p s m args meth c R P cl D cA A tys G own ini nL cc) (hq : m_st P y (.fcmp op) is ls st h = some (.inl q)) (hm : m_sim P cl G own ini TG cc pc len (.fcmp op)) (hn : AT (pc + len) is) (k : ∀ pc', AT pc' q.1 → m_go p l e R s m args below meth c Q P cl D cA A xa nL c0 s0 pc' q.2.1 q.2.2.1 q.2.2.2) : m_go p l e R s m args below meth c Q P cl D cA A xa nL c0 s0 pc ls st h := by
  obtain ⟨hx, hb, -⟩ := E
  obtain ⟨rfl, hd⟩ := hm
  simp only [m_st, m_nx] at hq
  split at hq
  · cases hq
    exact g_fcmp hx hb hd (k _ hn)
  · cases hq
theorem s_fconst {z : Fin 3} (E : m_env p s m args meth c R P cl D cA A tys G own ini nL cc) (hq : m_st P y (.fconst z) is ls st h = some (.inl q)) (hm : m_sim P cl G own ini TG cc pc len (.fconst z)) (hT : ∀ t, TG t → AT t (m_tg P y t)) (hn : AT (pc + len) is) (k : ∀ pc', AT pc' q.1 → m_go p l e R s m args below meth c Q P cl D cA A xa nL c0 s0 pc' q.2.1 q.2.2.1 q.2.2.2) : m_go p l e R s m args below meth c Q P cl D cA A xa nL c0 s0 pc ls st h := by
  obtain ⟨hx, hb, hml, hown, hts, hK, hA, ⟨hAI, hAB, hAL, hAD⟩, hini, hfr, hlo⟩ := E
  obtain ⟨rfl, rfl, hd⟩ := hm
  cases hq
  exact g_fconst hx hb hd (k _ hn)
theorem s_dconst {z : Fin 2} (E : m_env p s m args meth c R P cl D cA A tys G own ini nL cc) (hq : m_st P y (.dconst z) is ls st h = some (.inl q)) (hm : m_sim P cl G own ini TG cc pc len (.dconst z)) (hT : ∀ t, TG t → AT t (m_tg P y t)) (hn : AT (pc + len) is) (k : ∀ pc', AT pc' q.1 → m_go p l e R s m args below meth c Q P cl D cA A xa nL c0 s0 pc' q.2.1 q.2.2.1 q.2.2.2) : m_go p l e R s m args below meth c Q P cl D cA A xa nL c0 s0 pc ls st h := by
  obtain ⟨hx, hb, hml, hown, hts, hK, hA, ⟨hAI, hAB, hAL, hAD⟩, hini, hfr, hlo⟩ := E
  obtain ⟨rfl, ⟨rfl, hd⟩ | ⟨rfl, hd⟩⟩ := hm
  · cases hq
    exact g_dconst0 hx hb hd (k _ hn)
  · cases hq
    exact g_dconst1 hx hb hd (k _ hn)
theorem s_iconst {v : Int} (E : m_env p s m args meth c R P cl D cA A tys G own ini nL cc) (hq : m_st P y (.iconst v) is ls st h = some (.inl q)) (hm : m_sim P cl G own ini TG cc pc len (.iconst v)) (hT : ∀ t, TG t → AT t (m_tg P y t)) (hn : AT (pc + len) is) (k : ∀ pc', AT pc' q.1 → m_go p l e R s m args below meth c Q P cl D cA A xa nL c0 s0 pc' q.2.1 q.2.2.1 q.2.2.2) : m_go p l e R s m args below meth c Q P cl D cA A xa nL c0 s0 pc ls st h := by
  obtain ⟨hx, hb, hml, hown, hts, hK, hA, ⟨hAI, hAB, hAL, hAD⟩, hini, hfr, hlo⟩ := E
  cases hq
  rcases hm with ⟨rfl, n, hv, hd⟩ | ⟨rfl, n, hv, hd⟩ | ⟨rfl, n, hv, hd⟩ | ⟨rfl, n, hv, hd⟩ | ⟨rfl, n, hv, hd⟩
  · exact g_iconst hx hb hv hd (k _ hn)
  · exact g_bipush hx hb hv hd (k _ hn)
  · exact g_sipush hx hb hv hd (k _ hn)
  · exact g_ldc hx hb hown (hts _ hv) hd (k _ hn)
  · exact g_ldcw hx hb hown (hts _ hv) hd (k _ hn)
theorem s_ldc2_w {v : Nat} (E : m_env p s m args meth c R P cl D cA A tys G own ini nL cc) (hq : m_st P y (.ldc2_w v) is ls st h = some (.inl q)) (hm : m_sim P cl G own ini TG cc pc len (.ldc2_w v)) (hT : ∀ t, TG t → AT t (m_tg P y t)) (hn : AT (pc + len) is) (k : ∀ pc', AT pc' q.1 → m_go p l e R s m args below meth c Q P cl D cA A xa nL c0 s0 pc' q.2.1 q.2.2.1 q.2.2.2) : m_go p l e R s m args below meth c Q P cl D cA A xa nL c0 s0 pc ls st h := by
  obtain ⟨hx, hb, hml, hown, hts, hK, hA, ⟨hAI, hAB, hAL, hAD⟩, hini, hfr, hlo⟩ := E
  cases hq
  rcases hm with ⟨rfl, n, hv, hd⟩ | ⟨rfl, n, hv, hd⟩
  · exact g_lconst hx hb hv hd (k _ hn)
  · exact g_ldc2 hx hb hown (hts _ hv) hd (k _ hn)
theorem s_iload {v : Nat} (E : m_env p s m args meth c R P cl D cA A tys G own ini nL cc) (hq : m_st P y (.iload v) is ls st h = some (.inl q)) (hm : m_sim P cl G own ini TG cc pc len (.iload v)) (hT : ∀ t, TG t → AT t (m_tg P y t)) (hn : AT (pc + len) is) (k : ∀ pc', AT pc' q.1 → m_go p l e R s m args below meth c Q P cl D cA A xa nL c0 s0 pc' q.2.1 q.2.2.1 q.2.2.2) : m_go p l e R s m args below meth c Q P cl D cA A xa nL c0 s0 pc ls st h := by
  obtain ⟨hx, hb, hml, hown, hts, hK, hA, ⟨hAI, hAB, hAL, hAD⟩, hini, hfr, hlo⟩ := E
  simp only [m_st, m_nx] at hq
  split at hq
  · next x hv =>
    cases hq
    rcases hm with ⟨rfl, hd⟩ | ⟨rfl, j, rfl, hd⟩
    · exact g_iload hx hb hv hd (k _ hn)
    · exact g_iload_n hx hb hv hd (k _ hn)
  · cases hq
theorem s_lload {v : Nat} (E : m_env p s m args meth c R P cl D cA A tys G own ini nL cc) (hq : m_st P y (.lload v) is ls st h = some (.inl q)) (hm : m_sim P cl G own ini TG cc pc len (.lload v)) (hT : ∀ t, TG t → AT t (m_tg P y t)) (hn : AT (pc + len) is) (k : ∀ pc', AT pc' q.1 → m_go p l e R s m args below meth c Q P cl D cA A xa nL c0 s0 pc' q.2.1 q.2.2.1 q.2.2.2) : m_go p l e R s m args below meth c Q P cl D cA A xa nL c0 s0 pc ls st h := by
  obtain ⟨hx, hb, hml, hown, hts, hK, hA, ⟨hAI, hAB, hAL, hAD⟩, hini, hfr, hlo⟩ := E
  simp only [m_st, m_nx] at hq
  split at hq
  · next x hv =>
    cases hq
    rcases hm with ⟨rfl, hd⟩ | ⟨rfl, j, rfl, hd⟩
    · exact g_lload hx hb hv hd (k _ hn)
    · exact g_lload_n hx hb hv hd (k _ hn)
  · cases hq
theorem s_fload {v : Nat} (E : m_env p s m args meth c R P cl D cA A tys G own ini nL cc) (hq : m_st P y (.fload v) is ls st h = some (.inl q)) (hm : m_sim P cl G own ini TG cc pc len (.fload v)) (hT : ∀ t, TG t → AT t (m_tg P y t)) (hn : AT (pc + len) is) (k : ∀ pc', AT pc' q.1 → m_go p l e R s m args below meth c Q P cl D cA A xa nL c0 s0 pc' q.2.1 q.2.2.1 q.2.2.2) : m_go p l e R s m args below meth c Q P cl D cA A xa nL c0 s0 pc ls st h := by
  obtain ⟨hx, hb, hml, hown, hts, hK, hA, ⟨hAI, hAB, hAL, hAD⟩, hini, hfr, hlo⟩ := E
  obtain ⟨rfl, hd⟩ := hm
  simp only [m_st, m_nx] at hq
  split at hq
  · next x hv =>
    cases hq
    exact g_fload hx hb hv hd (k _ hn)
  · cases hq
theorem s_dload {v : Nat} (E : m_env p s m args meth c R P cl D cA A tys G own ini nL cc) (hq : m_st P y (.dload v) is ls st h = some (.inl q)) (hm : m_sim P cl G own ini TG cc pc len (.dload v)) (hT : ∀ t, TG t → AT t (m_tg P y t)) (hn : AT (pc + len) is) (k : ∀ pc', AT pc' q.1 → m_go p l e R s m args below meth c Q P cl D cA A xa nL c0 s0 pc' q.2.1 q.2.2.1 q.2.2.2) : m_go p l e R s m args below meth c Q P cl D cA A xa nL c0 s0 pc ls st h := by
  obtain ⟨hx, hb, hml, hown, hts, hK, hA, ⟨hAI, hAB, hAL, hAD⟩, hini, hfr, hlo⟩ := E
  obtain ⟨rfl, hd⟩ := hm
  simp only [m_st, m_nx] at hq
  split at hq
  · next x hv =>
    cases hq
    exact g_dload hx hb hv hd (k _ hn)
  · cases hq
theorem s_aload {v : Nat} (E : m_env p s m args meth c R P cl D cA A tys G own ini nL cc) (hq : m_st P y (.aload v) is ls st h = some (.inl q)) (hm : m_sim P cl G own ini TG cc pc len (.aload v)) (hT : ∀ t, TG t → AT t (m_tg P y t)) (hn : AT (pc + len) is) (k : ∀ pc', AT pc' q.1 → m_go p l e R s m args below meth c Q P cl D cA A xa nL c0 s0 pc' q.2.1 q.2.2.1 q.2.2.2) : m_go p l e R s m args below meth c Q P cl D cA A xa nL c0 s0 pc ls st h := by
  obtain ⟨hx, hb, hml, hown, hts, hK, hA, ⟨hAI, hAB, hAL, hAD⟩, hini, hfr, hlo⟩ := E
  simp only [m_st, m_nx] at hq
  split at hq
  · next x hv =>
    cases hq
    rcases hm with ⟨rfl, hd⟩ | ⟨rfl, j, rfl, hd⟩
    · exact g_aload hx hb hv hd (k _ hn)
    · exact g_aload_n hx hb hv hd (k _ hn)
  · next hv =>
    cases hq
    rcases hm with ⟨rfl, hd⟩ | ⟨rfl, j, rfl, hd⟩
    · exact g_aloadN hx hb hv hd (k _ hn)
    · exact g_aload_nN hx hb hv hd (k _ hn)
  · cases hq
theorem s_istore {v : Nat} (E : m_env p s m args meth c R P cl D cA A tys G own ini nL cc) (hq : m_st P y (.istore v) is ls st h = some (.inl q)) (hm : m_sim P cl G own ini TG cc pc len (.istore v)) (hT : ∀ t, TG t → AT t (m_tg P y t)) (hn : AT (pc + len) is) (k : ∀ pc', AT pc' q.1 → m_go p l e R s m args below meth c Q P cl D cA A xa nL c0 s0 pc' q.2.1 q.2.2.1 q.2.2.2) : m_go p l e R s m args below meth c Q P cl D cA A xa nL c0 s0 pc ls st h := by
  obtain ⟨hx, hb, hml, hown, hts, hK, hA, ⟨hAI, hAB, hAL, hAD⟩, hini, hfr, hlo⟩ := E
  simp only [m_st, m_nx] at hq
  split at hq
  · split at hq
    · next z =>
      cases hq
      rcases hm with ⟨rfl, hd⟩ | ⟨rfl, j, rfl, hd⟩
      · exact g_istore hx hb z.1 z.2 hd (k _ hn)
      · exact g_istore_n hx hb z.1 z.2 hd (k _ hn)
    · cases hq
  · cases hq
theorem s_fstore {v : Nat} (E : m_env p s m args meth c R P cl D cA A tys G own ini nL cc) (hq : m_st P y (.fstore v) is ls st h = some (.inl q)) (hm : m_sim P cl G own ini TG cc pc len (.fstore v)) (hT : ∀ t, TG t → AT t (m_tg P y t)) (hn : AT (pc + len) is) (k : ∀ pc', AT pc' q.1 → m_go p l e R s m args below meth c Q P cl D cA A xa nL c0 s0 pc' q.2.1 q.2.2.1 q.2.2.2) : m_go p l e R s m args below meth c Q P cl D cA A xa nL c0 s0 pc ls st h := by
  obtain ⟨hx, hb, hml, hown, hts, hK, hA, ⟨hAI, hAB, hAL, hAD⟩, hini, hfr, hlo⟩ := E
  obtain ⟨rfl, hd⟩ := hm
  simp only [m_st, m_nx] at hq
  split at hq
  · split at hq
    · next z =>
      cases hq
      exact g_fstore hx hb z.1 z.2 hd (k _ hn)
    · cases hq
  · cases hq
theorem s_dstore {v : Nat} (E : m_env p s m args meth c R P cl D cA A tys G own ini nL cc) (hq : m_st P y (.dstore v) is ls st h = some (.inl q)) (hm : m_sim P cl G own ini TG cc pc len (.dstore v)) (hT : ∀ t, TG t → AT t (m_tg P y t)) (hn : AT (pc + len) is) (k : ∀ pc', AT pc' q.1 → m_go p l e R s m args below meth c Q P cl D cA A xa nL c0 s0 pc' q.2.1 q.2.2.1 q.2.2.2) : m_go p l e R s m args below meth c Q P cl D cA A xa nL c0 s0 pc ls st h := by
  obtain ⟨hx, hb, hml, hown, hts, hK, hA, ⟨hAI, hAB, hAL, hAD⟩, hini, hfr, hlo⟩ := E
  obtain ⟨rfl, hd⟩ := hm
  simp only [m_st, m_nx] at hq
  split at hq
  · split at hq
    · next z =>
      cases hq
      exact g_dstore hx hb z.1 z.2 hd (k _ hn)
    · cases hq
  · cases hq
theorem s_astore {v : Nat} (E : m_env p s m args meth c R P cl D cA A tys G own ini nL cc) (hq : m_st P y (.astore v) is ls st h = some (.inl q)) (hm : m_sim P cl G own ini TG cc pc len (.astore v)) (hT : ∀ t, TG t → AT t (m_tg P y t)) (hn : AT (pc + len) is) (k : ∀ pc', AT pc' q.1 → m_go p l e R s m args below meth c Q P cl D cA A xa nL c0 s0 pc' q.2.1 q.2.2.1 q.2.2.2) : m_go p l e R s m args below meth c Q P cl D cA A xa nL c0 s0 pc ls st h := by
  obtain ⟨hx, hb, hml, hown, hts, hK, hA, ⟨hAI, hAB, hAL, hAD⟩, hini, hfr, hlo⟩ := E
  simp only [m_st, m_nx] at hq
  split at hq
  · split at hq
    · next z =>
      cases hq
      rcases hm with ⟨rfl, hd⟩ | ⟨rfl, j, rfl, hd⟩
      · exact g_astore hx hb z.1 z.2 hd (k _ hn)
      · exact g_astore_n hx hb z.1 z.2 hd (k _ hn)
    · cases hq
  · split at hq
    · next z =>
      cases hq
      rcases hm with ⟨rfl, hd⟩ | ⟨rfl, j, rfl, hd⟩
      · exact g_astoreN hx hb z.1 z.2 hd (k _ hn)
      · exact g_astore_nN hx hb z.1 z.2 hd (k _ hn)
    · cases hq
  · cases hq
theorem s_iinc {v : Nat} {w : Int} (E : m_env p s m args meth c R P cl D cA A tys G own ini nL cc) (hq : m_st P y (.iinc v w) is ls st h = some (.inl q)) (hm : m_sim P cl G own ini TG cc pc len (.iinc v w)) (hT : ∀ t, TG t → AT t (m_tg P y t)) (hn : AT (pc + len) is) (k : ∀ pc', AT pc' q.1 → m_go p l e R s m args below meth c Q P cl D cA A xa nL c0 s0 pc' q.2.1 q.2.2.1 q.2.2.2) : m_go p l e R s m args below meth c Q P cl D cA A xa nL c0 s0 pc ls st h := by
  obtain ⟨hx, hb, hml, hown, hts, hK, hA, ⟨hAI, hAB, hAL, hAD⟩, hini, hfr, hlo⟩ := E
  obtain ⟨rfl, hd⟩ := hm
  simp only [m_st, m_nx] at hq
  split at hq
  · next x hv =>
    split at hq
    · next z =>
      cases hq
      exact g_iinc hx hb z hv hd (k _ hn)
    · cases hq
  · cases hq
theorem s_goto {t : Int} (E : m_env p s m args meth c R P cl D cA A tys G own ini nL cc) (hq : m_st P y (.goto t) is ls st h = some (.inl q)) (hm : m_sim P cl G own ini TG cc pc len (.goto t)) (hT : ∀ t, TG t → AT t (m_tg P y t)) (hn : AT (pc + len) is) (k : ∀ pc', AT pc' q.1 → m_go p l e R s m args below meth c Q P cl D cA A xa nL c0 s0 pc' q.2.1 q.2.2.1 q.2.2.2) : m_go p l e R s m args below meth c Q P cl D cA A xa nL c0 s0 pc ls st h := by
  obtain ⟨hx, hb, hml, hown, hts, hK, hA, ⟨hAI, hAB, hAL, hAD⟩, hini, hfr, hlo⟩ := E
  obtain ⟨rfl, ⟨off, ht, hd⟩, htg⟩ := hm
  cases hq
  exact g_goto hx hb hd ht (k _ (hT _ htg))
theorem s_ifCond {z : Jvm.ClassFile.Cond} {t : Int} (E : m_env p s m args meth c R P cl D cA A tys G own ini nL cc) (hq : m_st P y (.ifCond z t) is ls st h = some (.inl q)) (hm : m_sim P cl G own ini TG cc pc len (.ifCond z t)) (hT : ∀ t, TG t → AT t (m_tg P y t)) (hn : AT (pc + len) is) (k : ∀ pc', AT pc' q.1 → m_go p l e R s m args below meth c Q P cl D cA A xa nL c0 s0 pc' q.2.1 q.2.2.1 q.2.2.2) : m_go p l e R s m args below meth c Q P cl D cA A xa nL c0 s0 pc ls st h := by
  obtain ⟨hx, hb, hml, hown, hts, hK, hA, ⟨hAI, hAB, hAL, hAD⟩, hini, hfr, hlo⟩ := E
  obtain ⟨rfl, ⟨off, ht, hd⟩, htg⟩ := hm
  simp only [m_st, m_nx] at hq
  split at hq
  · cases z
    · refine g_if_eq hx hb hd ht (fun u => ?_) (fun u => ?_)
      · rw [if_pos (by simpa [m_icond] using u)] at hq
        cases hq
        exact k _ (hT _ htg)
      · rw [if_neg (by simpa [m_icond] using u)] at hq
        cases hq
        exact k _ hn
    · refine g_if_ne hx hb hd ht (fun u => ?_) (fun u => ?_)
      · rw [if_pos (by simpa [m_icond] using u)] at hq
        cases hq
        exact k _ (hT _ htg)
      · rw [if_neg (by simpa [m_icond] using u)] at hq
        cases hq
        exact k _ hn
    · refine g_if_lt hx hb hd ht (fun u => ?_) (fun u => ?_)
      · rw [if_pos (by simpa [m_icond] using u)] at hq
        cases hq
        exact k _ (hT _ htg)
      · rw [if_neg (by simpa [m_icond] using u)] at hq
        cases hq
        exact k _ hn
    · refine g_if_ge hx hb hd ht (fun u => ?_) (fun u => ?_)
      · rw [if_pos (by simpa [m_icond] using u)] at hq
        cases hq
        exact k _ (hT _ htg)
      · rw [if_neg (by simpa [m_icond] using u)] at hq
        cases hq
        exact k _ hn
    · refine g_if_gt hx hb hd ht (fun u => ?_) (fun u => ?_)
      · rw [if_pos (by simpa [m_icond] using u)] at hq
        cases hq
        exact k _ (hT _ htg)
      · rw [if_neg (by simpa [m_icond] using u)] at hq
        cases hq
        exact k _ hn
    · refine g_if_le hx hb hd ht (fun u => ?_) (fun u => ?_)
      · rw [if_pos (by simpa [m_icond] using u)] at hq
        cases hq
        exact k _ (hT _ htg)
      · rw [if_neg (by simpa [m_icond] using u)] at hq
        cases hq
        exact k _ hn
  · cases hq
theorem s_if_icmp {z : Jvm.ClassFile.Cond} {t : Int} (E : m_env p s m args meth c R P cl D cA A tys G own ini nL cc) (hq : m_st P y (.if_icmp z t) is ls st h = some (.inl q)) (hm : m_sim P cl G own ini TG cc pc len (.if_icmp z t)) (hT : ∀ t, TG t → AT t (m_tg P y t)) (hn : AT (pc + len) is) (k : ∀ pc', AT pc' q.1 → m_go p l e R s m args below meth c Q P cl D cA A xa nL c0 s0 pc' q.2.1 q.2.2.1 q.2.2.2) : m_go p l e R s m args below meth c Q P cl D cA A xa nL c0 s0 pc ls st h := by
  obtain ⟨hx, hb, hml, hown, hts, hK, hA, ⟨hAI, hAB, hAL, hAD⟩, hini, hfr, hlo⟩ := E
  obtain ⟨rfl, ⟨off, ht, hd⟩, htg⟩ := hm
  simp only [m_st, m_nx] at hq
  split at hq
  · cases z
    · refine g_icmp_eq hx hb hd ht (fun u => ?_) (fun u => ?_)
      · rw [if_pos (by simpa [m_icond] using u)] at hq
        cases hq
        exact k _ (hT _ htg)
      · rw [if_neg (by simpa [m_icond] using u)] at hq
        cases hq
        exact k _ hn
    · refine g_icmp_ne hx hb hd ht (fun u => ?_) (fun u => ?_)
      · rw [if_pos (by simpa [m_icond] using u)] at hq
        cases hq
        exact k _ (hT _ htg)
      · rw [if_neg (by simpa [m_icond] using u)] at hq
        cases hq
        exact k _ hn
    · refine g_icmp_lt hx hb hd ht (fun u => ?_) (fun u => ?_)
      · rw [if_pos (by simpa [m_icond] using u)] at hq
        cases hq
        exact k _ (hT _ htg)
      · rw [if_neg (by simpa [m_icond] using u)] at hq
        cases hq
        exact k _ hn
    · refine g_icmp_ge hx hb hd ht (fun u => ?_) (fun u => ?_)
      · rw [if_pos (by simpa [m_icond] using u)] at hq
        cases hq
        exact k _ (hT _ htg)
      · rw [if_neg (by simpa [m_icond] using u)] at hq
        cases hq
        exact k _ hn
    · refine g_icmp_gt hx hb hd ht (fun u => ?_) (fun u => ?_)
      · rw [if_pos (by simpa [m_icond] using u)] at hq
        cases hq
        exact k _ (hT _ htg)
      · rw [if_neg (by simpa [m_icond] using u)] at hq
        cases hq
        exact k _ hn
    · refine g_icmp_le hx hb hd ht (fun u => ?_) (fun u => ?_)
      · rw [if_pos (by simpa [m_icond] using u)] at hq
        cases hq
        exact k _ (hT _ htg)
      · rw [if_neg (by simpa [m_icond] using u)] at hq
        cases hq
        exact k _ hn
  · cases hq
theorem s_ifnull {t : Int} (E : m_env p s m args meth c R P cl D cA A tys G own ini nL cc) (hq : m_st P y (.ifnull t) is ls st h = some (.inl q)) (hm : m_sim P cl G own ini TG cc pc len (.ifnull t)) (hT : ∀ t, TG t → AT t (m_tg P y t)) (hn : AT (pc + len) is) (k : ∀ pc', AT pc' q.1 → m_go p l e R s m args below meth c Q P cl D cA A xa nL c0 s0 pc' q.2.1 q.2.2.1 q.2.2.2) : m_go p l e R s m args below meth c Q P cl D cA A xa nL c0 s0 pc ls st h := by
  obtain ⟨hx, hb, hml, hown, hts, hK, hA, ⟨hAI, hAB, hAL, hAD⟩, hini, hfr, hlo⟩ := E
  obtain ⟨rfl, ⟨off, ht, hd⟩, htg⟩ := hm
  simp only [m_st, m_nx] at hq
  split at hq
  · cases hq
    exact g_ifnullN hx hb hd ht (k _ (hT _ htg))
  · cases hq
    exact g_ifnull hx hb hd (k _ hn)
  · cases hq
theorem s_ifnonnull {t : Int} (E : m_env p s m args meth c R P cl D cA A tys G own ini nL cc) (hq : m_st P y (.ifnonnull t) is ls st h = some (.inl q)) (hm : m_sim P cl G own ini TG cc pc len (.ifnonnull t)) (hT : ∀ t, TG t → AT t (m_tg P y t)) (hn : AT (pc + len) is) (k : ∀ pc', AT pc' q.1 → m_go p l e R s m args below meth c Q P cl D cA A xa nL c0 s0 pc' q.2.1 q.2.2.1 q.2.2.2) : m_go p l e R s m args below meth c Q P cl D cA A xa nL c0 s0 pc ls st h := by
  obtain ⟨hx, hb, hml, hown, hts, hK, hA, ⟨hAI, hAB, hAL, hAD⟩, hini, hfr, hlo⟩ := E
  obtain ⟨rfl, ⟨off, ht, hd⟩, htg⟩ := hm
  simp only [m_st, m_nx] at hq
  split at hq
  · cases hq
    exact g_ifnonnull hx hb hd ht (k _ (hT _ htg))
  · cases hq
    exact g_ifnonnullN hx hb hd (k _ hn)
  · cases hq
theorem s_tableswitch {d lo hi : Int} {ts : Array Int} (E : m_env p s m args meth c R P cl D cA A tys G own ini nL cc) (hq : m_st P y (.tableswitch d lo hi ts) is ls st h = some (.inl q)) (hm : m_sim P cl G own ini TG cc pc len (.tableswitch d lo hi ts)) (hT : ∀ t, TG t → AT t (m_tg P y t)) (hn : AT (pc + len) is) (k : ∀ pc', AT pc' q.1 → m_go p l e R s m args below meth c Q P cl D cA A xa nL c0 s0 pc' q.2.1 q.2.2.1 q.2.2.2) : m_go p l e R s m args below meth c Q P cl D cA A xa nL c0 s0 pc ls st h := by
  obtain ⟨hx, hb, hml, hown, hts, hK, hA, ⟨hAI, hAB, hAL, hAD⟩, hini, hfr, hlo⟩ := E
  obtain ⟨dflt, offs, h1, h2, h3, hd⟩ := hm
  simp only [m_st, m_nx] at hq
  split at hq
  · split at hq
    · next z =>
      cases hq
      exact g_tableOut hx hb hd z h1 (k _ (hT _ h2))
    · next z =>
      split at hq
      · next t ht =>
        cases hq
        obtain ⟨g1, off, g2, g3⟩ := h3 _ _ ht
        exact g_tableIn hx hb hd (fun w => z (Or.inl w)) (fun w => z (Or.inr w)) g2 g3 (k _ (hT _ g1))
      · cases hq
  · cases hq
theorem s_getfield {x : Nat} (E : m_env p s m args meth c R P cl D cA A tys G own ini nL cc) (hq : m_st P y (.getfield x) is ls st h = some (.inl q)) (hm : m_sim P cl G own ini TG cc pc len (.getfield x)) (hT : ∀ t, TG t → AT t (m_tg P y t)) (hn : AT (pc + len) is) (k : ∀ pc', AT pc' q.1 → m_go p l e R s m args below meth c Q P cl D cA A xa nL c0 s0 pc' q.2.1 q.2.2.1 q.2.2.2) : m_go p l e R s m args below meth c Q P cl D cA A xa nL c0 s0 pc ls st h := by
  obtain ⟨hx, hb, hml, hown, hts, hK, hA, ⟨hAI, hAB, hAL, hAD⟩, hini, hfr, hlo⟩ := E
  obtain ⟨rfl, ix, C, T, hc, hlink, hd⟩ := hm
  simp only [m_st, m_nx] at hq
  split at hq
  · next a st' =>
    split at hq
    · next z =>
      refine g_get hx hb hts hown hK hc hlink z.1 z.2.1 z.2.2.1 hd ?_
      unfold m_gv
      split at hq
      · next z2 =>
        cases hq
        rw [if_pos z2]
        exact k _ hn
      · next z2 =>
        rw [if_neg z2]
        split at hq
        · next z3 =>
          cases hq
          rw [if_pos z3]
          exact k _ hn
        · next z3 =>
          cases hq
          rw [if_neg z3]
          exact k _ hn
    · cases hq
  · cases hq
theorem s_putfield {x : Nat} (E : m_env p s m args meth c R P cl D cA A tys G own ini nL cc) (hq : m_st P y (.putfield x) is ls st h = some (.inl q)) (hm : m_sim P cl G own ini TG cc pc len (.putfield x)) (hT : ∀ t, TG t → AT t (m_tg P y t)) (hn : AT (pc + len) is) (k : ∀ pc', AT pc' q.1 → m_go p l e R s m args below meth c Q P cl D cA A xa nL c0 s0 pc' q.2.1 q.2.2.1 q.2.2.2) : m_go p l e R s m args below meth c Q P cl D cA A xa nL c0 s0 pc ls st h := by
  obtain ⟨hx, hb, hml, hown, hts, hK, hA, ⟨hAI, hAB, hAL, hAD⟩, hini, hfr, hlo⟩ := E
  obtain ⟨rfl, ix, C, T, hc, hlink, hf, hd⟩ := hm
  simp only [m_st, m_nx] at hq
  split at hq
  · next v a st' =>
    split at hq
    · next z =>
      cases hq
      have hne1 : ¬ m_fk P (x / 64) (x % 64) = 1 := by rcases z.2.2.2.2 with w | w <;> omega
      have hne2 : ¬ m_fk P (x / 64) (x % 64) = 2 := by rcases z.2.2.2.2 with w | w <;> omega
      refine g_put (v := .int v) (h' := m_setI h a (x % 64) v) hx hb hts hown hK hc hlink (hf.imp id (fun w => ⟨w.1, hini w.2.1, w.2.2⟩)) z.1 z.2.1 z.2.2.1 hd rfl rfl rfl z.2.1 (fun w => w) ?_ ?_ ?_ (fun ad b hb => m_cI_ne hb) (k _ hn)
      · intro ad ty ht
        rcases ht with ⟨t1, rfl⟩ | ⟨t1, _⟩ | ⟨t1, _⟩ | ⟨t1, rfl⟩
        · exact ⟨rfl, rfl⟩
        · exact absurd t1 hne1
        · exact absurd t1 hne2
        · rcases z.2.2.2.2 with w | ⟨_, rfl | rfl⟩
          · omega
          · exact ⟨rfl, rfl⟩
          · exact ⟨rfl, rfl⟩
      · intro ad
        unfold m_fv
        rw [if_neg hne1, if_neg hne2, m_I_setI, m_upeq, if_pos rfl]
        rfl
      · intro ad j hj
        unfold m_fv
        rw [m_I_setI, m_upeq, if_neg hj]
        rfl
    · cases hq
  · next v a st' =>
    split at hq
    · next z =>
      cases hq
      refine g_put (v := .long v) (h' := m_setL h a (x % 64) v) hx hb hts hown hK hc hlink (hf.imp id (fun w => ⟨w.1, hini w.2.1, w.2.2⟩)) z.1 z.2.1 z.2.2.1 hd rfl rfl rfl z.2.1 (fun w => w) ?_ ?_ ?_ (fun ad b hb => m_cL_ne hb) (k _ hn)
      · intro ad ty ht
        rcases ht with ⟨t1, rfl⟩ | ⟨t1, _⟩ | ⟨t1, rfl⟩ | ⟨t1, rfl⟩
        · omega
        · omega
        · exact ⟨rfl, rfl⟩
        · omega
      · intro ad
        unfold m_fv
        rw [if_neg (by omega), if_pos z.2.2.2.2, m_L_setL, m_upeq, if_pos rfl]
        rfl
      · intro ad j hj
        unfold m_fv
        rw [m_L_setL, m_upeq, if_neg hj]
        rfl
    · cases hq
  · next v a st' =>
    split at hq
    · next z =>
      cases hq
      intro H locs ad la hr hl hs
      refine g_put (v := .ref v) (h' := m_setR h a (x % 64) (some v)) hx hb hts hown hK hc hlink (hf.imp id (fun w => ⟨w.1, hini w.2.1, w.2.2⟩)) z.1 z.2.1 z.2.2.1 hd rfl rfl rfl z.2.1 (fun w => m_wf_R w (fun j hj => by cases hj; exact g_hd hs)) ?_ ?_ ?_ (fun ad b hb => m_cR_ne hb) (k _ hn) H locs ad la hr hl hs
      · intro ad ty ht
        rcases ht with ⟨t1, rfl⟩ | ⟨t1, ⟨n, rfl⟩ | ⟨n, rfl⟩⟩ | ⟨t1, rfl⟩ | ⟨t1, rfl⟩
        · omega
        · exact ⟨rfl, rfl⟩
        · exact ⟨rfl, rfl⟩
        · omega
        · omega
      · intro ad
        unfold m_fv
        rw [if_pos z.2.2.2.2, m_R_setR, m_upeq, if_pos rfl]
        rfl
      · intro ad j hj
        unfold m_fv
        rw [m_R_setR, m_upeq, if_neg hj]
        rfl
    · cases hq
  · next a st' =>
    split at hq
    · next z =>
      cases hq
      refine g_put (v := .null) (h' := m_setR h a (x % 64) none) hx hb hts hown hK hc hlink (hf.imp id (fun w => ⟨w.1, hini w.2.1, w.2.2⟩)) z.1 z.2.1 z.2.2.1 hd rfl rfl rfl z.2.1 (fun w => m_wf_R w (fun j hj => by cases hj)) ?_ ?_ ?_ (fun ad b hb => m_cR_ne hb) (k _ hn)
      · intro ad ty ht
        rcases ht with ⟨t1, rfl⟩ | ⟨t1, ⟨n, rfl⟩ | ⟨n, rfl⟩⟩ | ⟨t1, rfl⟩ | ⟨t1, rfl⟩
        · omega
        · exact ⟨rfl, rfl⟩
        · exact ⟨rfl, rfl⟩
        · omega
        · omega
      · intro ad
        unfold m_fv
        rw [if_pos z.2.2.2.2, m_R_setR, m_upeq, if_pos rfl]
        rfl
      · intro ad j hj
        unfold m_fv
        rw [m_R_setR, m_upeq, if_neg hj]
        rfl
    · cases hq
  · cases hq
theorem s_baload (E : m_env p s m args meth c R P cl D cA A tys G own ini nL cc) (hq : m_st P y (.baload) is ls st h = some (.inl q)) (hm : m_sim P cl G own ini TG cc pc len (.baload)) (hn : AT (pc + len) is) (k : ∀ pc', AT pc' q.1 → m_go p l e R s m args below meth c Q P cl D cA A xa nL c0 s0 pc' q.2.1 q.2.2.1 q.2.2.2) : m_go p l e R s m args below meth c Q P cl D cA A xa nL c0 s0 pc ls st h := by
  obtain ⟨hx, hb, hml, hown, hts, hK, hA, ⟨hAI, hAB, hAL, hAD⟩, hini, hfr, hlo⟩ := E
  obtain ⟨rfl, hd⟩ := hm
  simp only [m_st, m_nx] at hq
  split at hq
  · split at hq
    · next z =>
      cases hq
      exact g_bald hx hb hK hAB z.1 z.2.1 z.2.2 hd (k _ hn)
    · cases hq
  · cases hq
theorem s_laload (E : m_env p s m args meth c R P cl D cA A tys G own ini nL cc) (hq : m_st P y (.laload) is ls st h = some (.inl q)) (hm : m_sim P cl G own ini TG cc pc len (.laload)) (hn : AT (pc + len) is) (k : ∀ pc', AT pc' q.1 → m_go p l e R s m args below meth c Q P cl D cA A xa nL c0 s0 pc' q.2.1 q.2.2.1 q.2.2.2) : m_go p l e R s m args below meth c Q P cl D cA A xa nL c0 s0 pc ls st h := by
  obtain ⟨hx, hb, hml, hown, hts, hK, hA, ⟨hAI, hAB, hAL, hAD⟩, hini, hfr, hlo⟩ := E
  obtain ⟨rfl, hd⟩ := hm
  simp only [m_st, m_nx] at hq
  split at hq
  · split at hq
    · next z =>
      cases hq
      exact g_lald hx hb hK hAL z.1 z.2.1 z.2.2 hd (k _ hn)
    · cases hq
  · cases hq
theorem s_daload (E : m_env p s m args meth c R P cl D cA A tys G own ini nL cc) (hq : m_st P y (.daload) is ls st h = some (.inl q)) (hm : m_sim P cl G own ini TG cc pc len (.daload)) (hn : AT (pc + len) is) (k : ∀ pc', AT pc' q.1 → m_go p l e R s m args below meth c Q P cl D cA A xa nL c0 s0 pc' q.2.1 q.2.2.1 q.2.2.2) : m_go p l e R s m args below meth c Q P cl D cA A xa nL c0 s0 pc ls st h := by
  obtain ⟨hx, hb, hml, hown, hts, hK, hA, ⟨hAI, hAB, hAL, hAD⟩, hini, hfr, hlo⟩ := E
  obtain ⟨rfl, hd⟩ := hm
  simp only [m_st, m_nx] at hq
  split at hq
  · split at hq
    · next z =>
      cases hq
      exact g_dald hx hb hK hAD z.1 z.2.1 z.2.2 hd (k _ hn)
    · cases hq
  · cases hq
theorem s_iastore (E : m_env p s m args meth c R P cl D cA A tys G own ini nL cc) (hq : m_st P y (.iastore) is ls st h = some (.inl q)) (hm : m_sim P cl G own ini TG cc pc len (.iastore)) (hn : AT (pc + len) is) (k : ∀ pc', AT pc' q.1 → m_go p l e R s m args below meth c Q P cl D cA A xa nL c0 s0 pc' q.2.1 q.2.2.1 q.2.2.2) : m_go p l e R s m args below meth c Q P cl D cA A xa nL c0 s0 pc ls st h := by
  obtain ⟨hx, hb, hml, hown, hts, hK, hA, ⟨hAI, hAB, hAL, hAD⟩, hini, hfr, hlo⟩ := E
  obtain ⟨rfl, hd⟩ := hm
  simp only [m_st, m_nx] at hq
  split at hq
  · split at hq
    · next z =>
      cases hq
      exact g_iast hx hb hK hAI z.1 z.2.1 z.2.2 hd (k _ hn)
    · cases hq
  · cases hq
theorem s_bastore (E : m_env p s m args meth c R P cl D cA A tys G own ini nL cc) (hq : m_st P y (.bastore) is ls st h = some (.inl q)) (hm : m_sim P cl G own ini TG cc pc len (.bastore)) (hn : AT (pc + len) is) (k : ∀ pc', AT pc' q.1 → m_go p l e R s m args below meth c Q P cl D cA A xa nL c0 s0 pc' q.2.1 q.2.2.1 q.2.2.2) : m_go p l e R s m args below meth c Q P cl D cA A xa nL c0 s0 pc ls st h := by
  obtain ⟨hx, hb, hml, hown, hts, hK, hA, ⟨hAI, hAB, hAL, hAD⟩, hini, hfr, hlo⟩ := E
  obtain ⟨rfl, hd⟩ := hm
  simp only [m_st, m_nx] at hq
  split at hq
  · split at hq
    · next z =>
      cases hq
      exact g_bast hx hb hK hAB z.1 z.2.1 z.2.2 hd (k _ hn)
    · cases hq
  · cases hq
theorem s_lastore (E : m_env p s m args meth c R P cl D cA A tys G own ini nL cc) (hq : m_st P y (.lastore) is ls st h = some (.inl q)) (hm : m_sim P cl G own ini TG cc pc len (.lastore)) (hn : AT (pc + len) is) (k : ∀ pc', AT pc' q.1 → m_go p l e R s m args below meth c Q P cl D cA A xa nL c0 s0 pc' q.2.1 q.2.2.1 q.2.2.2) : m_go p l e R s m args below meth c Q P cl D cA A xa nL c0 s0 pc ls st h := by
  obtain ⟨hx, hb, hml, hown, hts, hK, hA, ⟨hAI, hAB, hAL, hAD⟩, hini, hfr, hlo⟩ := E
  obtain ⟨rfl, hd⟩ := hm
  simp only [m_st, m_nx] at hq
  split at hq
  · split at hq
    · next z =>
      cases hq
      exact g_last hx hb hK hAL z.1 z.2.1 z.2.2 hd (k _ hn)
    · cases hq
  · cases hq
theorem s_dastore (E : m_env p s m args meth c R P cl D cA A tys G own ini nL cc) (hq : m_st P y (.dastore) is ls st h = some (.inl q)) (hm : m_sim P cl G own ini TG cc pc len (.dastore)) (hn : AT (pc + len) is) (k : ∀ pc', AT pc' q.1 → m_go p l e R s m args below meth c Q P cl D cA A xa nL c0 s0 pc' q.2.1 q.2.2.1 q.2.2.2) : m_go p l e R s m args below meth c Q P cl D cA A xa nL c0 s0 pc ls st h := by
  obtain ⟨hx, hb, hml, hown, hts, hK, hA, ⟨hAI, hAB, hAL, hAD⟩, hini, hfr, hlo⟩ := E
  obtain ⟨rfl, hd⟩ := hm
  simp only [m_st, m_nx] at hq
  split at hq
  · split at hq
    · next z =>
      cases hq
      exact g_dast hx hb hK hAD z.1 z.2.1 z.2.2 hd (k _ hn)
    · cases hq
  · cases hq
theorem s_new_i  (E : m_env p s m args meth c R P cl D cA A tys G own ini nL cc) (h0 : c0 ≤ m_c h) (h1 : s0 ≤ m_s h) (g0 : m_c q.2.2.2 - c0 ≤ R.cells) (g1 : m_s q.2.2.2 - s0 ≤ R.slots) (hq : m_st P y (.newarray .int) is ls st h = some (.inl q)) (hm : m_sim P cl G own ini TG cc pc len (.newarray .int)) (hT : ∀ t, TG t → AT t (m_tg P y t)) (hn : AT (pc + len) is) (k : ∀ pc', AT pc' q.1 → m_go p l e R s m args below meth c Q P cl D cA A xa nL c0 s0 pc' q.2.1 q.2.2.1 q.2.2.2) : m_go p l e R s m args below meth c Q P cl D cA A xa nL c0 s0 pc ls st h := by
  obtain ⟨hx, hb, hml, hown, hts, hK, hA, ⟨hAI, hAB, hAL, hAD⟩, hini, hfr, hlo⟩ := E
  obtain ⟨rfl, harr, hd⟩ := hm
  simp only [m_st, m_nx] at hq
  split at hq
  · split at hq
    · cases hq
    · next i st' z =>
      cases hq
      have g0 : m_c h + 1 - c0 ≤ R.cells := g0
      have g1 : m_s h + i.toNatClampNeg - s0 ≤ R.slots := g1
      exact g_new_i hx hb hK hA hAI (hts _ harr) (by omega) h0 h1 (fun w => z (Or.inl w)) (by omega) (by omega) (by omega) hd (k _ hn)
  · cases hq
theorem s_new_b  (E : m_env p s m args meth c R P cl D cA A tys G own ini nL cc) (h0 : c0 ≤ m_c h) (h1 : s0 ≤ m_s h) (g0 : m_c q.2.2.2 - c0 ≤ R.cells) (g1 : m_s q.2.2.2 - s0 ≤ R.slots) (hq : m_st P y (.newarray .byte) is ls st h = some (.inl q)) (hm : m_sim P cl G own ini TG cc pc len (.newarray .byte)) (hT : ∀ t, TG t → AT t (m_tg P y t)) (hn : AT (pc + len) is) (k : ∀ pc', AT pc' q.1 → m_go p l e R s m args below meth c Q P cl D cA A xa nL c0 s0 pc' q.2.1 q.2.2.1 q.2.2.2) : m_go p l e R s m args below meth c Q P cl D cA A xa nL c0 s0 pc ls st h := by
  obtain ⟨hx, hb, hml, hown, hts, hK, hA, ⟨hAI, hAB, hAL, hAD⟩, hini, hfr, hlo⟩ := E
  obtain ⟨rfl, harr, hd⟩ := hm
  simp only [m_st, m_nx] at hq
  split at hq
  · split at hq
    · cases hq
    · next i st' z =>
      cases hq
      have g0 : m_c h + 1 - c0 ≤ R.cells := g0
      have g1 : m_s h + i.toNatClampNeg - s0 ≤ R.slots := g1
      exact g_new_b hx hb hK hA hAB (hts _ harr) (by omega) h0 h1 (fun w => z (Or.inl w)) (by omega) (by omega) (by omega) hd (k _ hn)
  · cases hq
theorem s_new_l  (E : m_env p s m args meth c R P cl D cA A tys G own ini nL cc) (h0 : c0 ≤ m_c h) (h1 : s0 ≤ m_s h) (g0 : m_c q.2.2.2 - c0 ≤ R.cells) (g1 : m_s q.2.2.2 - s0 ≤ R.slots) (hq : m_st P y (.newarray .long) is ls st h = some (.inl q)) (hm : m_sim P cl G own ini TG cc pc len (.newarray .long)) (hT : ∀ t, TG t → AT t (m_tg P y t)) (hn : AT (pc + len) is) (k : ∀ pc', AT pc' q.1 → m_go p l e R s m args below meth c Q P cl D cA A xa nL c0 s0 pc' q.2.1 q.2.2.1 q.2.2.2) : m_go p l e R s m args below meth c Q P cl D cA A xa nL c0 s0 pc ls st h := by
  obtain ⟨hx, hb, hml, hown, hts, hK, hA, ⟨hAI, hAB, hAL, hAD⟩, hini, hfr, hlo⟩ := E
  obtain ⟨rfl, harr, hd⟩ := hm
  simp only [m_st, m_nx] at hq
  split at hq
  · split at hq
    · cases hq
    · next i st' z =>
      cases hq
      have g0 : m_c h + 1 - c0 ≤ R.cells := g0
      have g1 : m_s h + i.toNatClampNeg - s0 ≤ R.slots := g1
      exact g_new_l hx hb hK hA hAL (hts _ harr) (by omega) h0 h1 (fun w => z (Or.inl w)) (by omega) (by omega) (by omega) hd (k _ hn)
  · cases hq
theorem s_new_d  (E : m_env p s m args meth c R P cl D cA A tys G own ini nL cc) (h0 : c0 ≤ m_c h) (h1 : s0 ≤ m_s h) (g0 : m_c q.2.2.2 - c0 ≤ R.cells) (g1 : m_s q.2.2.2 - s0 ≤ R.slots) (hq : m_st P y (.newarray .double) is ls st h = some (.inl q)) (hm : m_sim P cl G own ini TG cc pc len (.newarray .double)) (hT : ∀ t, TG t → AT t (m_tg P y t)) (hn : AT (pc + len) is) (k : ∀ pc', AT pc' q.1 → m_go p l e R s m args below meth c Q P cl D cA A xa nL c0 s0 pc' q.2.1 q.2.2.1 q.2.2.2) : m_go p l e R s m args below meth c Q P cl D cA A xa nL c0 s0 pc ls st h := by
  obtain ⟨hx, hb, hml, hown, hts, hK, hA, ⟨hAI, hAB, hAL, hAD⟩, hini, hfr, hlo⟩ := E
  obtain ⟨rfl, harr, hd⟩ := hm
  simp only [m_st, m_nx] at hq
  split at hq
  · split at hq
    · cases hq
    · next i st' z =>
      cases hq
      have g0 : m_c h + 1 - c0 ≤ R.cells := g0
      have g1 : m_s h + i.toNatClampNeg - s0 ≤ R.slots := g1
      exact g_new_d hx hb hK hA hAD (hts _ harr) (by omega) h0 h1 (fun w => z (Or.inl w)) (by omega) (by omega) (by omega) hd (k _ hn)
  · cases hq
theorem s_new {ci : Nat} (E : m_env p s m args meth c R P cl D cA A tys G own ini nL cc) (h0 : c0 ≤ m_c h) (h1 : s0 ≤ m_s h) (g0 : m_c q.2.2.2 - c0 ≤ R.cells) (g1 : m_s q.2.2.2 - s0 ≤ R.slots) (hq : m_st P y (.new ci) is ls st h = some (.inl q)) (hm : m_sim P cl G own ini TG cc pc len (.new ci)) (hT : ∀ t, TG t → AT t (m_tg P y t)) (hn : AT (pc + len) is) (k : ∀ pc', AT pc' q.1 → m_go p l e R s m args below meth c Q P cl D cA A xa nL c0 s0 pc' q.2.1 q.2.2.1 q.2.2.2) : m_go p l e R s m args below meth c Q P cl D cA A xa nL c0 s0 pc ls st h := by
  obtain ⟨hx, hb, hml, hown, hts, hK, hA, ⟨hAI, hAB, hAL, hAD⟩, hini, hfr, hlo⟩ := E
  obtain ⟨rfl, ix, C, T, hc, hlink, hinst, hi, hd⟩ := hm
  simp only [m_st, m_nx] at hq
  split at hq
  · next z =>
    cases hq
    have g0 : m_c h + 1 - c0 ≤ R.cells := g0
    have g1 : m_s h + m_nf P ci - s0 ≤ R.slots := g1
    exact g_new hx hb hts hown hK hA hc (hts _ hlink) (hts _ hinst) (hts _ hi) z.2 h0 h1 (by omega) (by omega) hd (k _ hn)
  · cases hq
end STEP
end
section
/-! things outside: the script, rows of references, throws -/
def m_nms : List String := ["java/lang/RuntimeException", "java/lang/Exception"]
/-- what is said of the things outside: rows of references, the script, what a throw needs, constants -/
def m_XT (P : m_P) (xc : Nat → Nat) (AOL : List String × List (Nat × String)) (TL : List (String × Nat × Nat × Nat × String)) (NL : List (String × Nat × MethodName × String)) (A : Nat → Prop) (U : State) (H : Heap) : Prop :=
  (∀ C ∈ AOL.1, va_AO C U) ∧ (va_X (xc m_X) (m_xl P) (m_xs P) U H ∧ xc m_X < H.size ∧ ¬ A (xc m_X)) ∧ (vx_Zq Bundle.tN "UNASSIGNED_STACK" Bundle.steD A U H ∧ vx_Zq Bundle.tN "SUPPRESSED_SENTINEL" Bundle.listD A U H) ∧
    (∀ q ∈ TL, ∃ sa, vk_R q.1 q.2.1 q.2.2.2.2 sa U) ∧ (∀ q ∈ NL, va_Nw (.methodLinkNest q.1 q.2.1 q.2.2.1 q.2.2.2) U) ∧ ((∀ x, x ≤ 1 → va_Nw (.castable (m_en x) (m_en x)) U) ∧ va_Nc (m_en 1) (m_en 0) U) ∧ ∀ q ∈ AOL.2, va_Z "DriverHost$Word" q.2 "LDriverHost$Word;" (.ref (xc q.1)) A U H
def m_XU (XT : (Nat → Prop) → State → Heap → Prop) (P : m_P) (xc : Nat → Nat) (AOL : List String × List (Nat × String)) (TL : List (String × Nat × Nat × Nat × String)) (NL : List (String × Nat × MethodName × String)) : Prop :=
  ∀ (A : Nat → Prop) (U : State) (H : Heap), XT A U H → m_XT P xc AOL TL NL A U H
theorem m_XT_ok (P : m_P) (xc : Nat → Nat) (AOL : List String × List (Nat × String)) (TL : List (String × Nat × Nat × Nat × String)) (NL : List (String × Nat × MethodName × String)) : m_XTok (m_XT P xc AOL TL NL) := by
  refine ⟨fun A u U H hW h => ?_, fun A U H H1 hz hk h => ?_, fun A B U H hAB h => ?_⟩
  · obtain ⟨h1, ⟨h2, h3, h4⟩, ⟨h5, h6⟩, h7, h8, ⟨h9, h10⟩, h11⟩ := h
    exact ⟨fun C hC => (h1 C hC).moved hW.alike, ⟨h2.moved hW.alike, h3, h4⟩, ⟨h5.moved hW.alike, h6.moved hW.alike⟩, fun q hq => by obtain ⟨sa, z⟩ := h7 q hq; exact ⟨sa, vk_R.warm hW z⟩, fun q hq => va_Nw.warmM hW (h8 q hq), ⟨fun x hx => va_Nw.warmC hW (h9 x hx), h10.moved hW.alike⟩, fun q hq => (h11 q hq).moved hW.alike⟩
  · obtain ⟨h1, ⟨h2, h3, h4⟩, ⟨h5, h6⟩, h7, h8, h9, h11⟩ := h
    exact ⟨h1, ⟨h2.kept (hk _ h3 h4), Nat.lt_of_lt_of_le h3 hz, h4⟩, ⟨h5.kept hk, h6.kept hk⟩, h7, h8, h9, fun q hq => (h11 q hq).kept hk⟩
  · obtain ⟨h1, ⟨h2, h3, h4⟩, ⟨h5, h6⟩, h7, h8, h9, h11⟩ := h
    exact ⟨h1, ⟨h2, h3, fun z => h4 (hAB _ z)⟩, ⟨h5.narrow hAB, h6.narrow hAB⟩, h7, h8, h9, fun q hq => (h11 q hq).narrow hAB⟩
def m_ext (s : State) (A : Nat → Prop) (xa : Nat × (Nat → Nat)) (XT : (Nat → Prop) → State → Heap → Prop) (P : m_P) (xc : Nat → Nat) (AOL : List String × List (Nat × String)) (TL : List (String × Nat × Nat × Nat × String)) (NL : List (String × Nat × MethodName × String)) : Prop :=
  m_XTok XT ∧ m_XU XT P xc AOL TL NL ∧ XT A s s.heap ∧ ∀ j, m_X ≤ j → xa.2 j = xc j
def m_sim2 (P : m_P) (cl : List vw_C) (G : List Cond) (AOL : List String × List (Nat × String)) (TL : List (String × Nat × Nat × Nat × String)) (tys : List (ClassId × FieldType)) (cA : Nat → ClassId) (own : String) (TG : Nat → Prop) (cc : ByteArray) (pc len : Nat) (i : Instr) : Prop := match i with
  | .iaload => len = 1 ∧ decode cc pc = .ok (.iaload, 1)
  | .ldc_w z => len = 1 ∧ (∃ ty, m_aok tys cA z ty) ∧ decode cc pc = .ok (.arraylength, 1)
  | .checkcast ci => len = 1 ∧ (∃ C, m_aok tys cA (200 + ci) (.object C)) ∧ decode cc pc = .ok (.aaload, 1)
  | .instanceof ci => len = 1 ∧ (∃ r : vw_C, cl[ci]? = some r ∧ m_aok tys cA (200 + ci) (.object r.1)) ∧ decode cc pc = .ok (.aastore, 1)
  | .anewarray ci => len = 3 ∧ ∃ (ix : Nat) (C : String), C ∈ AOL.1 ∧ m_aok tys cA (200 + ci) (.object C) ∧ Cond.classLink own ix C ∈ G ∧ decode cc pc = .ok (.anewarray ix, 3)
  | .getstatic k => len = 3 ∧ m_X ≤ k ∧ ∃ (ix : Nat) (nm : String), (k, nm) ∈ AOL.2 ∧ Cond.fieldLink own ix "DriverHost$Word" nm "LDriverHost$Word;" ∈ G ∧ decode cc pc = .ok (.getstatic ix, 3)
  | _ => False
section STEPX
variable {p : Program} {l : Launch} {e : Env} {R : Room} {s : State} {m : MethodId} {args : Array Value} {below : List Frame} {meth : Method} {c : Code} {Q : State → Prop} {P : m_P} {cl : List vw_C} {D : va_G} {cA : Nat → ClassId} {A : Nat → Prop} {xa : Nat × (Nat → Nat)} {nL c0 s0 : Nat} {pc len y : Nat} {is : List Instr} {ls : m_F} {st : List Value} {h : m_H} {cc : ByteArray} {tys : List (ClassId × FieldType)} {G : List Cond} {own : String} {ini : Bool} {TG : Nat → Prop} {AT : Nat → List Instr → Prop} {q : List Instr × m_F × List Value × m_H} {XT : (Nat → Prop) → State → Heap → Prop} {xc : Nat → Nat} {AOL : List String × List (Nat × String)} {TL : List (String × Nat × Nat × Nat × String)} {NL : List (String × Nat × MethodName × String)}
theorem g_sld (hx : p.tables.exec = Jvm.exec) (hb : c.code = cc) (X : m_ext s A xa XT P xc AOL TL NL) {i : Int32} (hi : ¬ (i < 0 ∨ m_xl P ≤ i.toNatClampNeg)) (hd : decode cc pc = .ok (.iaload, 1)) (k : m_go p l e R s m args below meth c Q P cl D cA A xa nL c0 s0 (pc + 1) ls (.int (m_xs P i.toNatClampNeg) :: st) h) : m_go p l e R s m args below meth c Q P cl D cA A xa nL c0 s0 pc ls (.int i :: .ref m_X :: st) h := by
  intro H locs ad la hr hl hs
  obtain ⟨-, X2, X3, X4⟩ := X
  obtain ⟨-, ⟨x1, x2, x3⟩, -⟩ := X2 _ _ _ X3
  have he : ad m_X = xc m_X := (hr.2.2.2.2.2 m_X (Or.inr (Nat.le_refl _))).trans (X4 _ (Nat.le_refl _))
  show W p l e R s m args below meth c H locs (m_c h - c0) (m_s h - s0) Q (F0 m pc la (.int i :: .ref (ad m_X) :: st.map (m_cv ad)))
  rw [he]
  exact va_sld hx hb x1 x2 x3 hr.2.2.1 hi hd (k H locs ad la hr hl (g_cs trivial (g_tl (g_tl hs))))
theorem g_slen (hx : p.tables.exec = Jvm.exec) (hb : c.code = cc) (X : m_ext s A xa XT P xc AOL TL NL) (hd : decode cc pc = .ok (.arraylength, 1)) (k : m_go p l e R s m args below meth c Q P cl D cA A xa nL c0 s0 (pc + 1) ls (.int (Int32.ofNat (m_xl P)) :: st) h) : m_go p l e R s m args below meth c Q P cl D cA A xa nL c0 s0 pc ls (.ref m_X :: st) h := by
  intro H locs ad la hr hl hs
  obtain ⟨-, X2, X3, X4⟩ := X
  obtain ⟨-, ⟨x1, x2, x3⟩, -⟩ := X2 _ _ _ X3
  have he : ad m_X = xc m_X := (hr.2.2.2.2.2 m_X (Or.inr (Nat.le_refl _))).trans (X4 _ (Nat.le_refl _))
  show W p l e R s m args below meth c H locs (m_c h - c0) (m_s h - s0) Q (F0 m pc la (.ref (ad m_X) :: st.map (m_cv ad)))
  rw [he]
  exact va_slen hx hb x1 x2 x3 hr.2.2.1 hd (k H locs ad la hr hl (g_cs trivial (g_tl hs)))
theorem s_iaload  (E : m_env p s m args meth c R P cl D cA A tys G own ini nL cc) (X : m_ext s A xa XT P xc AOL TL NL) (hq : m_st P y (.iaload) is ls st h = some (.inl q)) (hm : m_sim2 P cl G AOL TL tys cA own TG cc pc len (.iaload)) (hn : AT (pc + len) is) (k : ∀ pc', AT pc' q.1 → m_go p l e R s m args below meth c Q P cl D cA A xa nL c0 s0 pc' q.2.1 q.2.2.1 q.2.2.2) : m_go p l e R s m args below meth c Q P cl D cA A xa nL c0 s0 pc ls st h := by
  obtain ⟨hx, hb, hml, hown, hts, hK, hA, ⟨hAI, hAB, hAL, hAD⟩, hini, hfr, hlo⟩ := E
  obtain ⟨rfl, hd⟩ := hm
  simp only [m_st, m_nx] at hq
  split at hq
  · split at hq
    · next ea =>
      split at hq
      · cases hq
      · next z =>
        cases hq
        subst ea
        exact g_sld hx hb X z hd (k _ hn)
    · split at hq
      · next z =>
        cases hq
        exact g_iald hx hb hK hAI z.1 z.2.1 z.2.2 hd (k _ hn)
      · cases hq
  · cases hq
theorem s_alen {z : Nat} (E : m_env p s m args meth c R P cl D cA A tys G own ini nL cc) (X : m_ext s A xa XT P xc AOL TL NL) (hq : m_st P y (.ldc_w z) is ls st h = some (.inl q)) (hm : m_sim2 P cl G AOL TL tys cA own TG cc pc len (.ldc_w z)) (hn : AT (pc + len) is) (k : ∀ pc', AT pc' q.1 → m_go p l e R s m args below meth c Q P cl D cA A xa nL c0 s0 pc' q.2.1 q.2.2.1 q.2.2.2) : m_go p l e R s m args below meth c Q P cl D cA A xa nL c0 s0 pc ls st h := by
  obtain ⟨hx, hb, hml, hown, hts, hK, hA, ⟨hAI, hAB, hAL, hAD⟩, hini, hfr, hlo⟩ := E
  obtain ⟨rfl, ⟨ty, ht⟩, hd⟩ := hm
  simp only [m_st, m_nx] at hq
  split at hq
  · split at hq
    · next ea =>
      cases hq
      subst ea
      exact g_slen hx hb X hd (k _ hn)
    · split at hq
      · next w =>
        cases hq
        exact g_alen hx hb hK ht w.2.2 w.1 w.2.1 hd (k _ hn)
      · cases hq
  · cases hq
theorem s_aaload {ci : Nat} (E : m_env p s m args meth c R P cl D cA A tys G own ini nL cc) (X : m_ext s A xa XT P xc AOL TL NL) (hq : m_st P y (.checkcast ci) is ls st h = some (.inl q)) (hm : m_sim2 P cl G AOL TL tys cA own TG cc pc len (.checkcast ci)) (hn : AT (pc + len) is) (k : ∀ pc', AT pc' q.1 → m_go p l e R s m args below meth c Q P cl D cA A xa nL c0 s0 pc' q.2.1 q.2.2.1 q.2.2.2) : m_go p l e R s m args below meth c Q P cl D cA A xa nL c0 s0 pc ls st h := by
  obtain ⟨hx, hb, hml, hown, hts, hK, hA, ⟨hAI, hAB, hAL, hAD⟩, hini, hfr, hlo⟩ := E
  obtain ⟨rfl, ⟨C, ht⟩, hd⟩ := hm
  simp only [m_st, m_nx] at hq
  split at hq
  · split at hq
    · next w =>
      cases hq
      exact g_aald hx hb hK ht (Nat.le_add_right _ _) w.1 w.2.1 w.2.2 hd (k _ hn)
    · cases hq
  · cases hq
theorem s_aastore {ci : Nat} (E : m_env p s m args meth c R P cl D cA A tys G own ini nL cc) (X : m_ext s A xa XT P xc AOL TL NL) (hq : m_st P y (.instanceof ci) is ls st h = some (.inl q)) (hm : m_sim2 P cl G AOL TL tys cA own TG cc pc len (.instanceof ci)) (hn : AT (pc + len) is) (k : ∀ pc', AT pc' q.1 → m_go p l e R s m args below meth c Q P cl D cA A xa nL c0 s0 pc' q.2.1 q.2.2.1 q.2.2.2) : m_go p l e R s m args below meth c Q P cl D cA A xa nL c0 s0 pc ls st h := by
  obtain ⟨hx, hb, hml, hown, hts, hK, hA, ⟨hAI, hAB, hAL, hAD⟩, hini, hfr, hlo⟩ := E
  obtain ⟨rfl, ⟨r, hc, ht⟩, hd⟩ := hm
  simp only [m_st, m_nx] at hq
  split at hq
  · split at hq
    · next w =>
      cases hq
      exact g_aast hx hb hK hc ht (Nat.le_add_right _ _) w.1 w.2.1 w.2.2.1 w.2.2.2.1 w.2.2.2.2.1 w.2.2.2.2.2 hd (k _ hn)
    · cases hq
  · cases hq
theorem s_anewarray {ci : Nat} (E : m_env p s m args meth c R P cl D cA A tys G own ini nL cc) (X : m_ext s A xa XT P xc AOL TL NL) (h0 : c0 ≤ m_c h) (h1 : s0 ≤ m_s h) (g0 : m_c q.2.2.2 - c0 ≤ R.cells) (g1 : m_s q.2.2.2 - s0 ≤ R.slots) (hq : m_st P y (.anewarray ci) is ls st h = some (.inl q)) (hm : m_sim2 P cl G AOL TL tys cA own TG cc pc len (.anewarray ci)) (hn : AT (pc + len) is) (k : ∀ pc', AT pc' q.1 → m_go p l e R s m args below meth c Q P cl D cA A xa nL c0 s0 pc' q.2.1 q.2.2.1 q.2.2.2) : m_go p l e R s m args below meth c Q P cl D cA A xa nL c0 s0 pc ls st h := by
  obtain ⟨hx, hb, hml, hown, hts, hK, hA, ⟨hAI, hAB, hAL, hAD⟩, hini, hfr, hlo⟩ := E
  obtain ⟨rfl, ix, C, hC, ht, hlink, hd⟩ := hm
  simp only [m_st, m_nx] at hq
  split at hq
  · split at hq
    · cases hq
    · next i st' z =>
      cases hq
      have g0 : m_c h + 1 - c0 ≤ R.cells := g0
      have g1 : m_s h + i.toNatClampNeg - s0 ≤ R.slots := g1
      exact g_new_q hx hb hown hK hA (Nat.le_add_right _ _) ht (hts _ hlink) ((X.2.1 _ _ _ X.2.2.1).1 C hC) (by omega) h0 h1 (fun w => z (Or.inl w)) (by omega) (by omega) (by omega) hd (k _ hn)
  · cases hq
theorem s_getstatic {z : Nat} (E : m_env p s m args meth c R P cl D cA A tys G own ini nL cc) (X : m_ext s A xa XT P xc AOL TL NL) (hq : m_st P y (.getstatic z) is ls st h = some (.inl q)) (hm : m_sim2 P cl G AOL TL tys cA own TG cc pc len (.getstatic z)) (hn : AT (pc + len) is) (k : ∀ pc', AT pc' q.1 → m_go p l e R s m args below meth c Q P cl D cA A xa nL c0 s0 pc' q.2.1 q.2.2.1 q.2.2.2) : m_go p l e R s m args below meth c Q P cl D cA A xa nL c0 s0 pc ls st h := by
  obtain ⟨hx, hb, hml, hown, hts, hK, hA, ⟨hAI, hAB, hAL, hAD⟩, hini, hfr, hlo⟩ := E
  obtain ⟨rfl, hz, ix, nm, hC, hlink, hd⟩ := hm
  have hq2 : m_nx is ls (.ref z :: st) h = some (.inl q) := by
    simp only [m_st] at hq
    rw [if_pos hz] at hq
    exact hq
  cases hq2
  intro H locs ad la hr hl hs
  have hZ := (X.2.1 _ _ _ X.2.2.1).2.2.2.2.2.2 _ hC
  have he : ad z = xc z := (hr.2.2.2.2.2 z (Or.inr hz)).trans (X.2.2.2 z hz)
  have kk := k _ hn H locs ad la hr hl (g_cs (Or.inr hz) hs)
  rw [List.map_cons, show m_cv ad (.ref z) = .ref (ad z) from rfl, he] at kk
  exact va_gets hx hb hZ hr.2.2.1 hown (hts _ hlink) (fun _ w => w) hd kk
theorem s_objInit  (E : m_env p s m args meth c R P cl D cA A tys G own ini nL cc) (X : m_ext s A xa XT P xc AOL TL NL) (hq : m_st P y (.invokespecial 9000) is ls st h = some (.inl q)) (hm : m_sim P cl G own ini TG cc pc len (.invokespecial 9000)) (hn : AT (pc + len) is) (k : ∀ pc', AT pc' q.1 → m_go p l e R s m args below meth c Q P cl D cA A xa nL c0 s0 pc' q.2.1 q.2.2.1 q.2.2.2) : m_go p l e R s m args below meth c Q P cl D cA A xa nL c0 s0 pc ls st h := by
  obtain ⟨hx, hb, hml, hown, hts, hK, hA, ⟨hAI, hAB, hAL, hAD⟩, hini, hfr, hlo⟩ := E
  obtain ⟨rfl, -, ix, l1, l2, l3, hd⟩ := hm
  simp only [m_st, m_nx, if_true] at hq
  split at hq
  · split at hq
    · next w =>
      cases hq
      exact g_objInit hx hb hml hown (hts _ l1) (hts _ l2) (hts _ l3) (by omega) (by omega) hd (k _ hn)
    · cases hq
  · cases hq
theorem s_lib {z : Nat} (E : m_env p s m args meth c R P cl D cA A tys G own ini nL cc) (X : m_ext s A xa XT P xc AOL TL NL) (g0 : m_c q.2.2.2 - c0 ≤ R.cells) (g1 : m_s q.2.2.2 - s0 ≤ R.slots) (hq : m_st P y (.invokestatic z) is ls st h = some (.inl q)) (hm : m_sim P cl G own ini TG cc pc len (.invokestatic z)) (hn : AT (pc + len) is) (k : ∀ pc', AT pc' q.1 → m_go p l e R s m args below meth c Q P cl D cA A xa nL c0 s0 pc' q.2.1 q.2.2.1 q.2.2.2) : m_go p l e R s m args below meth c Q P cl D cA A xa nL c0 s0 pc ls st h := by
  obtain ⟨hx, hb, hml, hown, hts, hK, hA, ⟨hAI, hAB, hAL, hAD⟩, hini, hfr, hlo⟩ := E
  obtain ⟨rfl, ix, hlib, hd⟩ := hm
  rcases hlib with ⟨rfl, l1, l2, l3, l4⟩ | ⟨rfl, l1, l2, l3, l4⟩ | ⟨rfl, l1, l2, l3, l4⟩
  · simp only [m_st, m_nx, if_true] at hq
    split at hq
    · split at hq
      · next w =>
        cases hq
        exact g_min hx hb hml hown (hts _ l1) (hts _ l2) (hts _ l3) (hts _ l4) (by omega) (by omega) g0 g1 hd (k _ hn)
      · cases hq
    · cases hq
  · simp only [m_st, m_nx, ↓reduceIte, Nat.reduceEqDiff] at hq
    split at hq
    · split at hq
      · next w =>
        cases hq
        exact g_max hx hb hml hown (hts _ l1) (hts _ l2) (hts _ l3) (hts _ l4) (by omega) (by omega) g0 g1 hd (k _ hn)
      · cases hq
    · cases hq
  · simp only [m_st, m_nx, ↓reduceIte, Nat.reduceEqDiff] at hq
    split at hq
    · split at hq
      · next w =>
        cases hq
        obtain ⟨w1, w2, w3, w4, w5, w6, w7, w8, w9, w10⟩ := w
        have hnw : nativeFrameWords "java/lang/System" "arraycopy" 5 + 11 ≤ 100 := by decide +kernel
        exact g_copy hx hb hml hown (hts _ l1) (hts _ l2) (hts _ l3) (hts _ l4) hK hAI (by omega) (by omega) w1 w2 w3 w4 w5 w6 w7 w8 w9 hd (k _ hn)
      · cases hq
    · cases hq
end STEPX
end
section
/-! one step in all; the counts only grow; a method's entry and end -/
theorem m_st_mono {P : m_P} {y : Nat} {i : Instr} {is : List Instr} {ls : m_F} {st : List Value} {h : m_H} {q : List Instr × m_F × List Value × m_H} (hq : m_st P y i is ls st h = some (.inl q)) : m_c h ≤ m_c q.2.2.2 ∧ m_s h ≤ m_s q.2.2.2 ∧ m_n h ≤ m_n q.2.2.2 := by
  have key : ∀ (a : List Instr) (b : m_F) (d : List Value) (g : m_H), (m_c h ≤ m_c g ∧ m_s h ≤ m_s g ∧ m_n h ≤ m_n g) → m_nx a b d g = some (.inl q) → m_c h ≤ m_c q.2.2.2 ∧ m_s h ≤ m_s q.2.2.2 ∧ m_n h ≤ m_n q.2.2.2 := by
    intro a b d g hg e
    cases e
    exact hg
  have same : m_c h ≤ m_c h ∧ m_s h ≤ m_s h ∧ m_n h ≤ m_n h := ⟨Nat.le_refl _, Nat.le_refl _, Nat.le_refl _⟩
  have mk : ∀ kd len z, m_c h ≤ m_c (m_mk h kd len z) ∧ m_s h ≤ m_s (m_mk h kd len z) ∧ m_n h ≤ m_n (m_mk h kd len z) := fun kd len z => ⟨Nat.le_succ _, Nat.le_add_right _ _, Nat.le_succ _⟩
  cases i <;> simp only [m_st] at hq
  all_goals first
    | (refine key _ _ _ _ ?_ hq; exact same)
    | (cases hq; done)
    | ((repeat' split at hq) <;> first | (refine key _ _ _ _ ?_ hq; exact same) | (refine key _ _ _ _ ?_ hq; exact mk _ _ _) | (cases hq; done))
theorem m_ex_mono {P : m_P} : ∀ (n d y : Nat) (is : List Instr) (ls : m_F) (st : List Value) (h : m_H) (o : Option Value ⊕ Nat) (h' : m_H), m_ex P n d y is ls st h = some (o, h') → m_c h ≤ m_c h' ∧ m_s h ≤ m_s h' := by
  intro n
  induction n with
  | zero => intro d y is ls st h o h' he; simp [m_ex] at he
  | succ n ih =>
    intro d y is ls st h o h' he
    cases is with
    | nil => simp [m_ex] at he
    | cons i is =>
      rw [m_ex] at he
      split at he
      · cases he
      · next q hq =>
        have h1 := m_st_mono hq
        have h2 := ih _ _ _ _ _ _ _ _ he
        omega
      · next q hq =>
        split at he
        · cases he
        · next d' =>
          split at he
          · cases he
          · next v g hg =>
            have h1 := ih _ _ _ _ _ _ _ _ hg
            have h2 := ih _ _ _ _ _ _ _ _ he
            omega
          · next x g hg =>
            have h1 := ih _ _ _ _ _ _ _ _ hg
            split at he
            · cases he
            split at he
            · split at he
              · cases he
              · cases he
                exact h1
            · split at he
              · have h2 := ih _ _ _ _ _ _ _ _ he
                omega
              · cases he
      · cases he
        exact ⟨Nat.le_refl _, Nat.le_refl _⟩
      · cases he
        exact ⟨Nat.le_succ _, Nat.le_add_right _ _⟩
theorem m_sl_args {ad : Nat → Nat} : ∀ (as : List Value) (off i : Nat) (v : Value), (m_sl as)[i]? = some (some v) → (off + i, m_cv ad v) ∈ lv_args off (as.map (m_cv ad))
  | [], off, i, v, h => by simp [m_sl] at h
  | a :: as, off, i, v, h => by
    unfold m_sl at h
    rw [List.map_cons]
    unfold lv_args
    rw [m_cat_cv]
    by_cases hc : a.category = 2
    · rw [if_pos hc] at h ⊢
      match i, h with
      | 0, h => simp at h; subst h; exact List.mem_cons_self
      | 1, h => simp at h
      | i + 2, h =>
        simp only [List.getElem?_cons_succ] at h
        have := m_sl_args (ad := ad) as (off + 2) i v h
        rw [show off + (i + 2) = off + 2 + i by omega]
        exact List.mem_cons_of_mem _ this
    · rw [if_neg hc] at h ⊢
      match i, h with
      | 0, h => simp at h; subst h; exact List.mem_cons_self
      | i + 1, h =>
        simp only [List.getElem?_cons_succ] at h
        have := m_sl_args (ad := ad) as (off + 1) i v h
        rw [show off + (i + 1) = off + 1 + i by omega]
        exact List.mem_cons_of_mem _ this
theorem m_sl_mem : ∀ (as : List Value) (i : Nat) (v : Value), (m_sl as)[i]? = some (some v) → v ∈ as
  | [], i, v, h => by simp [m_sl] at h
  | a :: as, i, v, h => by
    unfold m_sl at h
    by_cases hc : a.category = 2
    · rw [if_pos hc] at h
      match i, h with
      | 0, h => simp at h; subst h; exact List.mem_cons_self
      | 1, h => simp at h
      | i + 2, h => simp only [List.getElem?_cons_succ] at h; exact List.mem_cons_of_mem _ (m_sl_mem as i v h)
    · rw [if_neg hc] at h
      match i, h with
      | 0, h => simp at h; subst h; exact List.mem_cons_self
      | i + 1, h => simp only [List.getElem?_cons_succ] at h; exact List.mem_cons_of_mem _ (m_sl_mem as i v h)
theorem m_sl_cons (a : Value) (as : List Value) : m_sl (a :: as) = if a.category = 2 then some a :: none :: m_sl as else some a :: m_sl as := rfl
theorem m_sl_len {ad : Nat → Nat} : ∀ (as : List Value), (lg_sl (as.map (m_cv ad))).length = (m_sl as).length
  | [] => rfl
  | a :: as => by
    have ih := m_sl_len (ad := ad) as
    unfold lg_sl at ih ⊢
    rw [List.map_cons, List.flatMap_cons, List.length_append, ih, m_cat_cv, m_sl_cons]
    by_cases hc : a.category = 2
    · rw [if_pos hc, if_pos hc]
      simp only [List.length_cons, List.length_nil]
      omega
    · rw [if_neg hc, if_neg hc]
      simp only [List.length_cons, List.length_nil]
      omega
theorem m_entry {ad : Nat → Nat} {n nl : Nat} {as : List Value} (hl : (m_sl as).length ≤ nl) (hin : ∀ v ∈ as, m_in n v) : m_lR ad n (m_ent nl as) ((lg_sl (as.map (m_cv ad)) ++ List.replicate (nl - (lg_sl (as.map (m_cv ad))).length) Slot.unset).toArray) nl := by
  obtain ⟨e1, e2, e3⟩ := lv_entry (as.map (m_cv ad)) (n := nl) (by rw [m_sl_len]; exact hl)
  refine ⟨e1, ?_, e2, fun i v hi => ?_⟩
  · unfold m_ent
    simp
    omega
  · unfold m_ent at hi
    by_cases hlt : i < (m_sl as).length
    · rw [List.getElem?_append_left hlt] at hi
      have h1 := m_sl_args (ad := ad) as 0 i v hi
      rw [Nat.zero_add] at h1
      exact ⟨e3 _ h1, hin v (m_sl_mem as i v hi)⟩
    · rw [List.getElem?_append_right (by omega)] at hi
      rw [List.getElem?_replicate] at hi
      split at hi
      · cases hi
      · cases hi
section DISPATCH
variable {p : Program} {l : Launch} {e : Env} {R : Room} {s : State} {m : MethodId} {args : Array Value} {below : List Frame} {meth : Method} {c : Code} {Q : State → Prop} {P : m_P} {cl : List vw_C} {D : va_G} {cA : Nat → ClassId} {A : Nat → Prop} {xa : Nat × (Nat → Nat)} {nL c0 s0 : Nat} {pc len y : Nat} {is : List Instr} {ls : m_F} {st : List Value} {h : m_H} {cc : ByteArray} {tys : List (ClassId × FieldType)} {G : List Cond} {own : String} {ini : Bool} {TG : Nat → Prop} {AT : Nat → List Instr → Prop} {q : List Instr × m_F × List Value × m_H} {XT : (Nat → Prop) → State → Heap → Prop} {xc : Nat → Nat} {AOL : List String × List (Nat × String)} {TL : List (String × Nat × Nat × Nat × String)} {NL : List (String × Nat × MethodName × String)}
theorem m_step1 {i : Instr} (E : m_env p s m args meth c R P cl D cA A tys G own ini nL cc) (X : m_ext s A xa XT P xc AOL TL NL) (h0 : c0 ≤ m_c h) (h1 : s0 ≤ m_s h) (g0 : m_c q.2.2.2 - c0 ≤ R.cells) (g1 : m_s q.2.2.2 - s0 ≤ R.slots) (hq : m_st P y i is ls st h = some (.inl q)) (hm : m_sim P cl G own ini TG cc pc len i ∨ m_sim2 P cl G AOL TL tys cA own TG cc pc len i) (hT : ∀ t, TG t → AT t (m_tg P y t)) (hn : AT (pc + len) is) (k : ∀ pc', AT pc' q.1 → m_go p l e R s m args below meth c Q P cl D cA A xa nL c0 s0 pc' q.2.1 q.2.2.1 q.2.2.2) : m_go p l e R s m args below meth c Q P cl D cA A xa nL c0 s0 pc ls st h := by
  rcases hm with hm | hm
  · cases i
    case iadd => exact s_iadd E hq hm hn k
    case isub => exact s_isub E hq hm hn k
    case imul => exact s_imul E hq hm hn k
    case iand => exact s_iand E hq hm hn k
    case ior => exact s_ior E hq hm hn k
    case ishr => exact s_ishr E hq hm hn k
    case ladd => exact s_ladd E hq hm hn k
    case lsub => exact s_lsub E hq hm hn k
    case lmul => exact s_lmul E hq hm hn k
    case lcmp => exact s_lcmp E hq hm hn k
    case i2b => exact s_i2b E hq hm hn k
    case i2l => exact s_i2l E hq hm hn k
    case i2d => exact s_i2d E hq hm hn k
    case i2f => exact s_i2f E hq hm hn k
    case aconst_null => exact s_aconst_null E hq hm hn k
    case idiv => exact s_idiv E hq hm hn k
    case irem => exact s_irem E hq hm hn k
    case ddiv => exact s_ddiv E hq hm hn k
    case fdiv => exact s_fdiv E hq hm hn k
    case f2d => exact s_f2d E hq hm hn k
    case d2f => exact s_d2f E hq hm hn k
    case dup => exact s_dup E hq hm hn k
    case pop => exact s_pop E hq hm hn k
    case dup2 => exact s_dup2 E hq hm hn k
    case dcmp => exact s_dcmp E hq hm hn k
    case fcmp => exact s_fcmp E hq hm hn k
    case baload => exact s_baload E hq hm hn k
    case laload => exact s_laload E hq hm hn k
    case daload => exact s_daload E hq hm hn k
    case iastore => exact s_iastore E hq hm hn k
    case bastore => exact s_bastore E hq hm hn k
    case lastore => exact s_lastore E hq hm hn k
    case dastore => exact s_dastore E hq hm hn k
    case fconst => exact s_fconst E hq hm hT hn k
    case dconst => exact s_dconst E hq hm hT hn k
    case iconst => exact s_iconst E hq hm hT hn k
    case ldc2_w => exact s_ldc2_w E hq hm hT hn k
    case iload => exact s_iload E hq hm hT hn k
    case lload => exact s_lload E hq hm hT hn k
    case fload => exact s_fload E hq hm hT hn k
    case dload => exact s_dload E hq hm hT hn k
    case aload => exact s_aload E hq hm hT hn k
    case istore => exact s_istore E hq hm hT hn k
    case fstore => exact s_fstore E hq hm hT hn k
    case dstore => exact s_dstore E hq hm hT hn k
    case astore => exact s_astore E hq hm hT hn k
    case iinc => exact s_iinc E hq hm hT hn k
    case goto => exact s_goto E hq hm hT hn k
    case ifCond => exact s_ifCond E hq hm hT hn k
    case if_icmp => exact s_if_icmp E hq hm hT hn k
    case ifnull => exact s_ifnull E hq hm hT hn k
    case ifnonnull => exact s_ifnonnull E hq hm hT hn k
    case tableswitch => exact s_tableswitch E hq hm hT hn k
    case getfield => exact s_getfield E hq hm hT hn k
    case putfield => exact s_putfield E hq hm hT hn k
    case newarray t =>
      cases t
      case int => exact s_new_i E h0 h1 g0 g1 hq hm hT hn k
      case byte => exact s_new_b E h0 h1 g0 g1 hq hm hT hn k
      case long => exact s_new_l E h0 h1 g0 g1 hq hm hT hn k
      case double => exact s_new_d E h0 h1 g0 g1 hq hm hT hn k
      all_goals exact False.elim hm
    case new ci => exact s_new E h0 h1 g0 g1 hq hm hT hn k
    case invokespecial z =>
      obtain rfl : z = 9000 := hm.2.1
      exact s_objInit E X hq hm hn k
    case invokestatic z => exact s_lib E X g0 g1 hq hm hn k
    case iaload => exact s_iaload (TG := TG) E X hq hm hn k
    all_goals first
      | exact False.elim hm
      | (simp only [m_st] at hq; (repeat' split at hq) <;> cases hq)
  · cases i
    case iaload => exact s_iaload E X hq hm hn k
    case ldc_w z => exact s_alen E X hq hm hn k
    case checkcast ci => exact s_aaload E X hq hm hn k
    case instanceof ci => exact s_aastore E X hq hm hn k
    case anewarray ci => exact s_anewarray E X h0 h1 g0 g1 hq hm hn k
    case getstatic z => exact s_getstatic E X hq hm hn k
    all_goals exact False.elim hm
end DISPATCH
end
section
/-! THE SMALL MACHINE'S RUNS ARE THE MACHINE'S -/
def m_ret (ty : Option FieldType) (i : Instr) : Prop := match i with
  | .ireturn => ty = some .int
  | .ret _ => ty = some .boolean
  | .areturn => ∃ t, ty = some t ∧ ((∃ n, t = .object n) ∨ ∃ u, t = .array u)
  | .freturn => ty = some .float
  | .dreturn => ty = some .double
  | .return_ => ty = none
  | _ => False
/-- calls and throws -/
def m_simC (P : m_P) (cl : List vw_C) (G : List Cond) (TL : List (String × Nat × Nat × Nat × String)) (NL : List (String × Nat × MethodName × String)) (Y : Nat → MethodName) (TT : Nat → Option FieldType) (INI : Nat → Bool) (NM : Nat) (y : Nat) (own : String) (cc : ByteArray) (pc len : Nat) (i : Instr) : Prop := match i with
  | .invokevirtual z => len = 3 ∧ z < NM ∧ m_hh P z = false ∧ ∃ ix : Nat, Cond.methodLink own ix (Y z) ∈ G ∧ Cond.instanceMethod (Y z) ∈ G ∧ Cond.selects (Y z).cls (Y z) (Y z) ∈ G ∧ (parseMethodDescriptor (Y z).desc).map (fun d => d.parameters.length + 1) = some (m_na P z) ∧ (∃ r : vw_C, cl[m_rc P z]? = some r ∧ r.1 = (Y z).cls ∧ m_rc P z < 100) ∧ decode cc pc = .ok (.invokevirtual ix, 3)
  | .invokestatic z => len = 3 ∧ z < NM ∧ ∃ ix : Nat, Cond.methodLink own ix (Y z) ∈ G ∧ Cond.static (Y z) ∈ G ∧ (parseMethodDescriptor (Y z).desc).map (fun d => d.parameters.length) = some (m_na P z) ∧ decode cc pc = .ok (.invokestatic ix, 3)
  | .invokespecial z => len = 3 ∧ z < NM ∧ m_hh P z = false ∧ INI z = true ∧ TT z = none ∧ ∃ ix : Nat, (Cond.methodLink own ix (Y z) ∈ G ∨ ∃ host, (own, ix, Y z, host) ∈ NL) ∧ Cond.instanceMethod (Y z) ∈ G ∧ (parseMethodDescriptor (Y z).desc).map (fun d => d.parameters.length + 1) = some (m_na P z) ∧ decode cc pc = .ok (.invokespecial ix, 3)
  | .invokedynamic x => len = 10 ∧ x ≤ 1 ∧ m_hh P y = false ∧ ∃ (ik is ic : Nat) (text : String), (own, is, 0, 0, text) ∈ TL ∧ Cond.classLink own ik (m_en x) ∈ G ∧ Cond.initialized (m_en x) ∈ G ∧ Bundle.fit (m_en x) = true ∧ (∀ n ∈ m_nms, Bundle.fit n = true) ∧ (∀ w ∈ Cond.classLink own ik (m_en x) :: Cond.initialized (m_en x) :: vx_atS own ic (m_en x) m_nms, vx_ot w = true) ∧ (∀ w ∈ (vx_atS own ic (m_en x) m_nms).filter goodWord, w ∈ G) ∧ (∀ w ∈ (vx_atS own ic (m_en x) m_nms).filter (fun w => !goodWord w), w ∈ [Cond.castable (m_en x) (m_en x)]) ∧ decode cc pc = .ok (.new ik, 3) ∧ decode cc (pc + 3) = .ok (.dup, 1) ∧ decode cc (pc + 4) = .ok (.ldc is, 2) ∧ decode cc (pc + 6) = .ok (.invokespecial ic, 3) ∧ decode cc (pc + 9) = .ok (.athrow, 1)
  | _ => False
/-- where a method has handlers, a call stands under the right one; its first instruction puts the exception away -/
def m_cov (P : m_P) (G : List Cond) (Y : Nat → MethodName) (B : Nat → ByteArray) (HH : Nat → List (Nat × Nat × Nat × Nat)) (z pc : Nat) (i : Instr) : Prop :=
  m_hh P z = true → ∀ x r, m_hd P z x = some r → x ≤ 1 ∧ r.1 < m_nl P z ∧ ∃ (pre : List ExceptionTableEntry) (x0 : ExceptionTableEntry) (suf : List ExceptionTableEntry), tableOf (HH z) = pre ++ x0 :: suf ∧ (∀ y ∈ pre, covers y pc = false ∨ (x = 1 ∧ y.catchType ≠ 0 ∧ Cond.classLink (Y z).cls y.catchType (m_en 0) ∈ G)) ∧ covers x0 pc = true ∧ x0.catchType ≠ 0 ∧ Cond.classLink (Y z).cls x0.catchType (m_en x) ∈ G ∧ ((∃ j : Fin 4, (j : Nat) = r.1 ∧ decode (B z) x0.handlerPc = .ok (.astore_n j, 1) ∧ r.2 = x0.handlerPc + 1) ∨ (decode (B z) x0.handlerPc = .ok (.astore r.1, 2) ∧ r.2 = x0.handlerPc + 2))
/-- the word of a method's code -/
def m_cw (P : m_P) (Y : Nat → MethodName) (B : Nat → ByteArray) (TT : Nat → Option FieldType) (HH : Nat → List (Nat × Nat × Nat × Nat)) (z : Nat) : Cond := if m_hh P z = true then Cond.codeWith (Y z) (B z) (m_nl P z) (TT z) (HH z) else Cond.code (Y z) (B z) (m_nl P z) (TT z)
def m_simA (P : m_P) (cl : List vw_C) (G : List Cond) (AOL : List String × List (Nat × String)) (TL : List (String × Nat × Nat × Nat × String)) (NL : List (String × Nat × MethodName × String)) (tys : List (ClassId × FieldType)) (cA : Nat → ClassId) (Y : Nat → MethodName) (B : Nat → ByteArray) (TT : Nat → Option FieldType) (INI : Nat → Bool) (TGz : Nat → Nat → Prop) (NM : Nat) (HH : Nat → List (Nat × Nat × Nat × Nat)) (z pc len : Nat) (i : Instr) : Prop :=
  (m_sim P cl G (Y z).cls (INI z) (TGz z) (B z) pc len i ∨ m_sim2 P cl G AOL TL tys cA (Y z).cls (TGz z) (B z) pc len i) ∨ m_simC P cl G TL NL Y TT INI NM z (Y z).cls (B z) pc len i ∧ m_cov P G Y B HH z pc i
def m_at (P : m_P) (cl : List vw_C) (G : List Cond) (AOL : List String × List (Nat × String)) (TL : List (String × Nat × Nat × Nat × String)) (NL : List (String × Nat × MethodName × String)) (tys : List (ClassId × FieldType)) (cA : Nat → ClassId) (Y : Nat → MethodName) (B : Nat → ByteArray) (TT : Nat → Option FieldType) (INI : Nat → Bool) (TGz : Nat → Nat → Prop) (NM : Nat) (HH : Nat → List (Nat × Nat × Nat × Nat)) (z : Nat) : List Instr → Nat → Prop
  | [], _ => True
  | i :: is, pc => ∃ len, m_simA P cl G AOL TL NL tys cA Y B TT INI TGz NM HH z pc len i ∧ (m_ret (TT z) i ∨ ¬ (∃ t, m_ret t i)) ∧ m_at P cl G AOL TL NL tys cA Y B TT INI TGz NM HH z is (pc + len)
/-- a method as the tables have it, and its code as the small machine's -/
def m_mok (P : m_P) (cl : List vw_C) (G : List Cond) (AOL : List String × List (Nat × String)) (TL : List (String × Nat × Nat × Nat × String)) (NL : List (String × Nat × MethodName × String)) (tys : List (ClassId × FieldType)) (cA : Nat → ClassId) (Y : Nat → MethodName) (B : Nat → ByteArray) (TT : Nat → Option FieldType) (INI : Nat → Bool) (TGz : Nat → Nat → Prop) (NM : Nat) (HH : Nat → List (Nat × Nat × Nat × Nat)) (z : Nat) : Prop :=
  plainName (Y z).cls = true ∧ m_cw P Y B TT HH z ∈ G ∧ Cond.initialized (Y z).cls ∈ G ∧ ((Y z).cls ≠ "java/lang/invoke/MethodHandle" ∧ (Y z).cls ≠ "java/lang/invoke/VarHandle") ∧ m_nl P z ≤ 21 ∧ (∀ t, TGz z t → m_at P cl G AOL TL NL tys cA Y B TT INI TGz NM HH z (m_tg P z t) t) ∧ m_at P cl G AOL TL NL tys cA Y B TT INI TGz NM HH z (m_tg P z 0) 0 ∧ (INI z = true → (Y z).name = "<init>") ∧ (m_hh P z = false → HH z = [] ∧ ∀ x, m_hd P z x = none) ∧ ∀ x r, m_hd P z x = some r → m_at P cl G AOL TL NL tys cA Y B TT INI TGz NM HH z (m_tg P z r.2) r.2
def m_stat (l : Launch) (P : m_P) (cl : List vw_C) (G : List Cond) (AOL : List String × List (Nat × String)) (TL : List (String × Nat × Nat × Nat × String)) (NL : List (String × Nat × MethodName × String)) (tys : List (ClassId × FieldType)) (cA : Nat → ClassId) (Y : Nat → MethodName) (B : Nat → ByteArray) (TT : Nat → Option FieldType) (INI : Nat → Bool) (TGz : Nat → Nat → Prop) (NM : Nat) (HH : Nat → List (Nat × Nat × Nat × Nat)) (XT : (Nat → Prop) → State → Heap → Prop) (xc : Nat → Nat) : Prop :=
  l.stackTraces = false ∧ NM ≤ 9000 ∧ (∀ w ∈ G, goodWord w = true) ∧ (m_aok tys cA 100 .int ∧ m_aok tys cA 101 .byte ∧ m_aok tys cA 102 .long ∧ m_aok tys cA 103 .double) ∧ m_XTok XT ∧ m_XU XT P xc AOL TL NL ∧ ∀ z, z < NM → m_mok P cl G AOL TL NL tys cA Y B TT INI TGz NM HH z
theorem m_met {l : Launch} {y : MethodName} {ws : List Cond} {rm : Room} {Pc : Array Value → State → Prop} {Qc : Array Value → State → Outcome → State → Prop} {XC : String → State → State → Prop} {mc ms : Nat} {free : Addr → Prop} (hM : vx_Met l y ws rm Pc Qc XC mc ms free) (hX : ∀ E st t, ¬ XC E st t) : Met l y ws rm Pc Qc mc ms free := by
  intro p e h1 h2 h3 s m args below h4 h5 h6 h7
  obtain ⟨n, o, a1, a2, a3, a4⟩ := hM p e h1 h2 h3 s m args below h4 h5 h6 h7
  refine ⟨n, o, a1, a2, a3, ?_⟩
  rcases a4 with h | ⟨q, ho, E, ce, L, hx, -⟩
  · exact h
  · exact absurd hx (hX _ _ _)
theorem m_pop_eq {k : Nat} {st as st' : List Value} (h : m_pop k st = some (as, st')) : st = as.reverse ++ st' ∧ as.length = k := by
  unfold m_pop at h
  split at h
  · next hk =>
    cases h
    rw [List.reverse_reverse, List.take_append_drop]
    exact ⟨rfl, by simp; omega⟩
  · cases h
theorem m_good {G : List Cond} {c0 : Cond} {ws : List Cond} (hG : ∀ w ∈ G, goodWord w = true) (hc : c0 ∈ G) (hw : ∀ w ∈ ws, w ∈ G) : GoodIn G (ws ++ c0 :: G) := by
  intro w h
  rcases List.mem_append.mp h with h | h
  · exact ⟨hw w h, good_of_word (hG w (hw w h))⟩
  · rcases List.mem_cons.mp h with rfl | h
    · exact ⟨hc, good_of_word (hG _ hc)⟩
    · exact ⟨h, good_of_word (hG w h)⟩
section MAIN
variable {l : Launch} {P : m_P} {cl : List vw_C} {D : va_G} {cA : Nat → ClassId} {tys : List (ClassId × FieldType)} {G : List Cond} {XT : (Nat → Prop) → State → Heap → Prop} {xc : Nat → Nat} {AOL : List String × List (Nat × String)} {TL : List (String × Nat × Nat × Nat × String)} {NL : List (String × Nat × MethodName × String)} {Y : Nat → MethodName} {B : Nat → ByteArray} {TT : Nat → Option FieldType} {INI : Nat → Bool} {TGz : Nat → Nat → Prop} {NM : Nat} {HH : Nat → List (Nat × Nat × Nat × Nat)}
/-- what a method of the small machine owes, out of its runs as the machine's -/
theorem m_contract (S : m_stat l P cl G AOL TL NL tys cA Y B TT INI TGz NM HH XT xc) {n d z : Nat} (hz : z < NM)
    (ih : ∀ (is : List Instr) (ls : m_F) (st : List Value) (h : m_H) (o : Option Value ⊕ Nat) (h' : m_H), m_ex P n d z is ls st h = some (o, h') → ∀ (p : Program) (e : Env) (R : Room) (s : State) (m : MethodId) (args : Array Value) (below : List Frame) (meth : Method) (c : Code) (A : Nat → Prop) (xa : Nat × (Nat → Nat)) (c0 s0 pc : Nat), m_env p s m args meth c R P cl D cA A tys G (Y z).cls (INI z) (m_nl P z) (B z) → m_ext s A xa XT P xc AOL TL NL → d + 8 ≤ R.frames ∧ 40 * d + 200 ≤ R.locals → meth.locks = false → meth.sig.returnType = TT z → c.exceptionTable.toList = tableOf (HH z) → c0 ≤ m_c h → s0 ≤ m_s h → m_c h' - c0 ≤ R.cells → m_s h' - s0 ≤ R.slots → m_at P cl G AOL TL NL tys cA Y B TT INI TGz NM HH z is pc → m_go p l e R s m args below meth c (vx_MQ below (m_Qc P cl D cA A xa o h') (m_XC P cl D cA A xa o h') args s (m_c h' - c0) (m_s h' - s0) A) P cl D cA A xa (m_nl P z) c0 s0 pc ls st h)
    {as : List Value} {h h' : m_H} {o : Option Value ⊕ Nat} (he : m_ex P n d z (m_tg P z 0) (m_ent (m_nl P z) as) [] h = some (o, h')) (hlen : (m_sl as).length ≤ m_nl P z) (ad : Nat → Nat) (sz : Nat) (hw : m_wf h) (hin : ∀ v ∈ as, m_in (m_n h) v) (had : ∀ j, m_X ≤ j → ad j = xc j) :
    vx_Met l (Y z) (m_cw P Y B TT HH z :: G) (m_rm d (m_c h' - m_c h) (m_s h' - m_s h)) (m_Pc P cl D cA tys XT ad h as sz) (m_Qc P cl D cA (va_A (m_ws P cA ad h) sz) (m_n h, ad) o h') (m_XC P cl D cA (va_A (m_ws P cA ad h) sz) (m_n h, ad) o h') (m_c h' - m_c h) (m_s h' - m_s h) (va_A (m_ws P cA ad h) sz) := by
  obtain ⟨hl, hNM, hG, hAk, hXT, hXU, hM⟩ := id S
  obtain ⟨k1, k2, k3, k4, k5, k6, k7, k8, k9, k10⟩ := hM z hz
  have body : ∀ p e s m args below meth c s₁, BodyLoose p l (Y z) (headSpec (m_cw P Y B TT HH z :: G) (m_rm d (m_c h' - m_c h) (m_s h' - m_s h))) (B z) (m_nl P z) (TT z) e s m args below meth c s₁ → c.maxLocals = m_nl P z → c.exceptionTable.toList = tableOf (HH z) → m_Pc P cl D cA tys XT ad h as sz args s →
      W p l e (headSpec (m_cw P Y B TT HH z :: G) (m_rm d (m_c h' - m_c h) (m_s h' - m_s h))).room s m args below meth c s.heap [] 0 0 (vx_MQ below (m_Qc P cl D cA (va_A (m_ws P cA ad h) sz) (m_n h, ad) o h') (m_XC P cl D cA (va_A (m_ws P cA ad h) sz) (m_n h, ad) o h') args s (m_c h' - m_c h) (m_s h' - m_s h) (va_A (m_ws P cA ad h) sz)) (entryFrame m args (m_nl P z)) := by
    intro p e s m args below meth c s₁ BB hml htab hv
    obtain ⟨ha, hsz, hP, hK, hD, hX⟩ := hv
    subst hsz
    have hts := atoms_spec (ws := m_cw P Y B TT HH z :: G) BB.pre
    have hE : m_env p s m args meth c (headSpec (m_cw P Y B TT HH z :: G) (m_rm d (m_c h' - m_c h) (m_s h' - m_s h))).room P cl D cA (va_A (m_ws P cA ad h) s.heap.size) tys G (Y z).cls (INI z) (m_nl P z) (B z) :=
      ⟨BB.exec, BB.bytes, hml, findClass_of_methodNamed BB.named, fun w hw => hts w (List.mem_cons_of_mem _ hw), hK, fun q hq => Or.inr hq, hAk, fun hi => (name_of_methodNamed BB.named BB.method).1.trans (k8 hi), Nat.le_add_left 8 d, Nat.le_add_left 200 (40 * d)⟩
    have hgo := ih _ _ _ _ _ _ he p e _ s m args below meth c (va_A (m_ws P cA ad h) s.heap.size) (m_n h, ad) (m_c h) (m_s h) 0 hE ⟨hXT, hXU, hX, had⟩ ⟨Nat.le_refl _, Nat.le_refl _⟩ BB.notSynchronized BB.returns htab (Nat.le_refl _) (Nat.le_refl _) (Nat.le_refl _) (Nat.le_refl _) k7
    have hW := hgo s.heap [] ad _ ⟨hP, hD.self, va_S.rf, hw, Nat.le_refl _, fun _ _ => rfl⟩ (m_entry hlen hin) (fun v hv => nomatch hv)
    rw [Nat.sub_self, Nat.sub_self] at hW
    rw [ha, lg_entry_eq]
    subst ha
    exact hW
  by_cases hh : m_hh P z = true
  · have hcw : m_cw P Y B TT HH z = Cond.codeWith (Y z) (B z) (m_nl P z) (TT z) (HH z) := by unfold m_cw; rw [if_pos hh]
    refine vx_ofWH (cc := B z) (maxL := m_nl P z) (ret := TT z) (hh := HH z) (ws' := G) k1 (by rw [hcw]) ?_
    intro p e s m args below meth c s₁ BB hml hv
    exact body p e s m args below meth c s₁ BB hml (vx_table (x := Y z) BB (by rw [← hcw]; exact atoms_spec (ws := m_cw P Y B TT HH z :: G) BB.pre _ List.mem_cons_self)) hv
  · have hcw : m_cw P Y B TT HH z = Cond.code (Y z) (B z) (m_nl P z) (TT z) := by unfold m_cw; rw [if_neg hh]
    refine vx_ofW (cc := B z) (maxL := m_nl P z) (ret := TT z) (ws' := G) k1 (by rw [hcw]) ?_
    intro p e s m args below meth c s₁ BB hml htab hv
    refine body p e s m args below meth c s₁ BB hml ?_ hv
    rw [(k9 (Bool.eq_false_iff.mpr hh)).1]
    cases ht : c.exceptionTable.toList with
    | nil => rfl
    | cons x t => exact (htab x (by rw [ht]; exact List.mem_cons_self)).elim
end MAIN
end
section
section MAIN2
variable {l : Launch} {P : m_P} {cl : List vw_C} {D : va_G} {cA : Nat → ClassId} {tys : List (ClassId × FieldType)} {G : List Cond} {XT : (Nat → Prop) → State → Heap → Prop} {xc : Nat → Nat} {AOL : List String × List (Nat × String)} {TL : List (String × Nat × Nat × Nat × String)} {NL : List (String × Nat × MethodName × String)} {Y : Nat → MethodName} {B : Nat → ByteArray} {TT : Nat → Option FieldType} {INI : Nat → Bool} {TGz : Nat → Nat → Prop} {NM : Nat} {HH : Nat → List (Nat × Nat × Nat × Nat)}
/-- a method's end -/
theorem m_end (S : m_stat l P cl G AOL TL NL tys cA Y B TT INI TGz NM HH XT xc) {z : Nat} {i : Instr} {is : List Instr} {ls : m_F} {st : List Value} {h : m_H} {v : Option Value} {p : Program} {e : Env} {R : Room} {s : State} {m : MethodId} {args : Array Value} {below : List Frame} {meth : Method} {c : Code} {A : Nat → Prop} {xa : Nat × (Nat → Nat)} {c0 s0 pc len : Nat} (E : m_env p s m args meth c R P cl D cA A tys G (Y z).cls (INI z) (m_nl P z) (B z)) (hlocks : meth.locks = false) (hr : meth.sig.returnType = TT z)
    (hq : m_st P z i is ls st h = some (.inr (.inr (.inl v)))) (hm : m_simA P cl G AOL TL NL tys cA Y B TT INI TGz NM HH z pc len i) (ht : m_ret (TT z) i ∨ ¬ (∃ t, m_ret t i)) :
    m_go p l e R s m args below meth c (vx_MQ below (m_Qc P cl D cA A xa (.inl v) h) (m_XC P cl D cA A xa (.inl v) h) args s (m_c h - c0) (m_s h - s0) A) P cl D cA A xa (m_nl P z) c0 s0 pc ls st h := by
  obtain ⟨hx, hb, -⟩ := E
  intro H locs ad la rel hl hs
  have hQ : ∀ (w : Option Value), v = w → (∀ u, w = some u → m_in (m_n h) u) → ∀ t : State, t.heap = H → s.WarmedH t.vm → m_Qc P cl D cA A xa (.inl v) h args s (.returned (w.map (m_cv ad))) t := by
    intro w hw hin t ht _
    subst hw
    exact ⟨v, ad, rfl, rfl, hin, by rw [ht]; exact rel.1, rel.2.1, rel.2.2.2.1, rel.2.2.2.2.1, rel.2.2.2.2.2, rel.2.2.1.F ht⟩
  have hf : ∀ q ∈ locs, A q.base := rel.2.2.1.2.2
  refine vx_ret ?_
  cases i
  case ireturn =>
    have hd : decode (B z) pc = .ok (.ireturn, 1) := by
      rcases hm with (hm | hm) | hm
      · exact hm.2
      · exact hm.elim
      · exact hm.1.elim
    have ht : TT z = some .int := ht.elim id (fun w => absurd ⟨some .int, rfl⟩ w)
    simp only [m_st] at hq
    split at hq
    · cases hq
      exact W.iret hx hb (hr.trans ht) (hQ _ rfl (fun u hu => by cases hu; trivial)) hf hd hlocks
    · cases hq
  case ret k =>
    have hd : decode (B z) pc = .ok (.ireturn, 1) := by
      rcases hm with (hm | hm) | hm
      · exact hm.2
      · exact hm.elim
      · exact hm.1.elim
    have ht : TT z = some .boolean := ht.elim id (fun w => absurd ⟨some .boolean, rfl⟩ w)
    simp only [m_st] at hq
    split at hq
    · split at hq
      · next w =>
        cases hq
        refine W.zret hx hb (hr.trans ht) ?_ (hQ _ rfl (fun u hu => by cases hu; trivial)) hf hd hlocks
        rcases w with rfl | rfl <;> rfl
      · cases hq
    · cases hq
  case areturn =>
    have hd : decode (B z) pc = .ok (.areturn, 1) := by
      rcases hm with (hm | hm) | hm
      · exact hm.2
      · exact hm.elim
      · exact hm.1.elim
    have ht : ∃ t, TT z = some t ∧ ((∃ n, t = .object n) ∨ ∃ u, t = .array u) := ht.elim id (fun w => absurd ⟨some (.object ""), ⟨_, rfl, Or.inl ⟨_, rfl⟩⟩⟩ w)
    obtain ⟨t, ht, ht2⟩ := ht
    simp only [m_st] at hq
    split at hq
    · cases hq
      exact W.aret hx hb (hr.trans ht) ht2 (Or.inr ⟨_, rfl⟩) (hQ _ rfl (fun u hu => by cases hu; exact g_hd hs)) hf hd hlocks
    · cases hq
      exact W.aret hx hb (hr.trans ht) ht2 (Or.inl rfl) (hQ _ rfl (fun u hu => by cases hu; trivial)) hf hd hlocks
    · cases hq
  case freturn =>
    have hd : decode (B z) pc = .ok (.freturn, 1) := by
      rcases hm with (hm | hm) | hm
      · exact hm.2
      · exact hm.elim
      · exact hm.1.elim
    have ht : TT z = some .float := ht.elim id (fun w => absurd ⟨some .float, rfl⟩ w)
    simp only [m_st] at hq
    split at hq
    · cases hq
      exact W.fret hx hb (hr.trans ht) (hQ _ rfl (fun u hu => by cases hu; trivial)) hf hd hlocks
    · cases hq
  case dreturn =>
    have hd : decode (B z) pc = .ok (.dreturn, 1) := by
      rcases hm with (hm | hm) | hm
      · exact hm.2
      · exact hm.elim
      · exact hm.1.elim
    have ht : TT z = some .double := ht.elim id (fun w => absurd ⟨some .double, rfl⟩ w)
    simp only [m_st] at hq
    split at hq
    · cases hq
      exact W.dret hx hb (hr.trans ht) (hQ _ rfl (fun u hu => by cases hu; trivial)) hf hd hlocks
    · cases hq
  case return_ =>
    have hd : decode (B z) pc = .ok (.return_, 1) := by
      rcases hm with (hm | hm) | hm
      · exact hm.2
      · exact hm.elim
      · exact hm.1.elim
    have ht : TT z = none := ht.elim id (fun w => absurd ⟨none, rfl⟩ w)
    simp only [m_st] at hq
    split at hq
    · cases hq
      exact W.vret hx hb (hr.trans ht) (hQ _ rfl (fun u hu => by cases hu)) hf hd hlocks
    · cases hq
  case newarray t =>
    exfalso
    cases t <;> simp only [m_st, m_nx] at hq <;> first | (cases hq; done) | ((repeat' split at hq) <;> (cases hq; done))
  all_goals
    exfalso
    simp only [m_st, m_nx] at hq
    first
      | (cases hq; done)
      | ((repeat' split at hq) <;> (cases hq; done))
/-- a throw -/
theorem m_thr (S : m_stat l P cl G AOL TL NL tys cA Y B TT INI TGz NM HH XT xc) {d z : Nat} {i : Instr} {is : List Instr} {ls : m_F} {st : List Value} {h : m_H} {x : Nat} {p : Program} {e : Env} {R : Room} {s : State} {m : MethodId} {args : Array Value} {below : List Frame} {meth : Method} {c : Code} {A : Nat → Prop} {xa : Nat × (Nat → Nat)} {c0 s0 pc len : Nat} (E : m_env p s m args meth c R P cl D cA A tys G (Y z).cls (INI z) (m_nl P z) (B z)) (X : m_ext s A xa XT P xc AOL TL NL) (hR : d + 8 ≤ R.frames ∧ 40 * d + 200 ≤ R.locals) (hlocks : meth.locks = false) (htab : c.exceptionTable.toList = tableOf (HH z)) (hhz : m_hh P z = false → HH z = []) (h0 : c0 ≤ m_c h) (h1 : s0 ≤ m_s h) (g0 : m_c (m_bump h) - c0 ≤ R.cells) (g1 : m_s (m_bump h) - s0 ≤ R.slots)
    (hq : m_st P z i is ls st h = some (.inr (.inr (.inr x)))) (hm : m_simA P cl G AOL TL NL tys cA Y B TT INI TGz NM HH z pc len i) :
    m_go p l e R s m args below meth c (vx_MQ below (m_Qc P cl D cA A xa (.inr x) (m_bump h)) (m_XC P cl D cA A xa (.inr x) (m_bump h)) args s (m_c (m_bump h) - c0) (m_s (m_bump h) - s0) A) P cl D cA A xa (m_nl P z) c0 s0 pc ls st h := by
  obtain ⟨hx, hb, hml, hown, hts, -⟩ := E
  intro H locs ad la rel hl hs
  cases i
  case invokedynamic k =>
    simp only [m_st] at hq
    split at hq
    · split at hq
      · next w =>
        cases hq
        rcases hm with (hm | hm) | hm
        · exact hm.elim
        · exact hm.elim
        · obtain ⟨⟨-, hx1, hnh, ik, is, ic, text, ht, l1, l2, l3, l4, l5, l6, l7, d0, d3, d4, d6, d9⟩, -⟩ := hm
          obtain ⟨-, -, ⟨z1, z2⟩, z3, -, ⟨z6, -⟩, -⟩ := X.2.1 _ _ _ X.2.2.1
          obtain ⟨sa, z4⟩ := z3 _ ht
          have z5 : ∀ w ∈ vx_atS (Y z).cls ic (m_en x) m_nms, w.before args s = true := vx_hat (fun w hw => hts _ (l6 w hw)) l7 (vx_c (va_Nw.use rfl (z6 _ hx1)) vx_n)
          have g0 : m_c h + 1 - c0 ≤ R.cells := g0
          have g1 : m_s h + 6 - s0 ≤ R.slots := g1
          have e0 : m_c (m_bump h) - c0 = m_c h - c0 + 1 := by show m_c h + 1 - c0 = _; omega
          have e1 : m_s (m_bump h) - s0 = m_s h - s0 + 6 := by show m_s h + 6 - s0 = _; omega
          have hfr : m_nms.length + 3 < R.frames := by have := hR.1; show 2 + 3 < _; omega
          have hlo : ((st.map (m_cv ad)).map fun v => v.category).sum + (13 * (m_nms.length + 1) + 43) ≤ R.locals := by have := hR.2; rw [m_cat_map]; show _ + (13 * (2 + 1) + 43) ≤ _; omega
          refine vx_throwS hx hb S.1 hown l3 l4 (hts _ l1) (hts _ l2) z4 z5 l5 z1 z2 rel.2.2.1 (hl.1.trans hml.symm) d0 d3 d4 d6 d9 (fun x hx => by rw [htab, hhz hnh] at hx; cases hx) hfr hlo (by omega) (by omega) hlocks ?_ rel.2.2.1.2.2 (by omega) (by omega)
          intro t ha hz hk
          exact ⟨_, ad, rfl, rfl, rel.1.kept (fun j q hj => hk q.1 ((rel.1 j q hj).lt)), rel.2.1, rel.2.2.2.1, rel.2.2.2.2.1, rel.2.2.2.2.2, Nat.le_trans rel.2.2.1.1 hz, fun q q1 q2 => (hk q (Nat.lt_of_lt_of_le q1 rel.2.2.1.1)).trans (rel.2.2.1.2.1 q q1 q2)⟩
      · cases hq
    · cases hq
  case newarray t =>
    exfalso
    cases t <;> simp only [m_st, m_nx] at hq <;> first | (cases hq; done) | ((repeat' split at hq) <;> (cases hq; done))
  all_goals
    exfalso
    simp only [m_st, m_nx] at hq
    first
      | (cases hq; done)
      | ((repeat' split at hq) <;> (cases hq; done))
end MAIN2
end
section
section MAIN3
variable {l : Launch} {P : m_P} {cl : List vw_C} {D : va_G} {cA : Nat → ClassId} {tys : List (ClassId × FieldType)} {G : List Cond} {XT : (Nat → Prop) → State → Heap → Prop} {xc : Nat → Nat} {AOL : List String × List (Nat × String)} {TL : List (String × Nat × Nat × Nat × String)} {NL : List (String × Nat × MethodName × String)} {Y : Nat → MethodName} {B : Nat → ByteArray} {TT : Nat → Option FieldType} {INI : Nat → Bool} {TGz : Nat → Nat → Prop} {NM : Nat} {HH : Nat → List (Nat × Nat × Nat × Nat)}
/-- a call of the small machine is one of the machine -/
theorem m_runs (S : m_stat l P cl G AOL TL NL tys cA Y B TT INI TGz NM HH XT xc) {d z zz : Nat} {i : Instr} {is : List Instr} {ls : m_F} {st as st' : List Value} {h : m_H} {p : Program} {e : Env} {R : Room} {s : State} {m : MethodId} {args : Array Value} {below : List Frame} {meth : Method} {c : Code} {A : Nat → Prop} {xa : Nat × (Nat → Nat)} {pc len cells slots mc ms : Nat} {H : Heap} {locs : List Loc} {ad : Nat → Nat} {la : Array Slot} {Qc : Array Value → State → Outcome → State → Prop} {XC : String → State → State → Prop} {free : Addr → Prop} (E : m_env p s m args meth c R P cl D cA A tys G (Y z).cls (INI z) (m_nl P z) (B z)) (X : m_ext s A xa XT P xc AOL TL NL) (hR : d + 1 + 8 ≤ R.frames ∧ 40 * (d + 1) + 200 ≤ R.locals) (rel : m_rel s P cl D cA A xa ad H locs h) (hl : m_lR ad (m_n h) ls la (m_nl P z))
    (hq : m_st P z i is ls st h = some (.inr (.inl (zz, as, st')))) (hm : m_simA P cl G AOL TL NL tys cA Y B TT INI TGz NM HH z pc len i) (hroom : cells + mc ≤ R.cells ∧ slots + ms ≤ R.slots) :
    zz < NM ∧ len = 3 ∧ st = as.reverse ++ st' ∧ (m_sl as).length ≤ m_nl P zz ∧ (vx_Met l (Y zz) (m_cw P Y B TT HH zz :: G) (m_rm d mc ms) (m_Pc P cl D cA tys XT ad h as H.size) Qc XC mc ms free → (m_isp i = true → ∀ E st t, ¬ XC E st t) →
      vx_Run p l e R s m args below meth c H locs cells slots mc ms (F0 m pc la (st.map (m_cv ad))) (st'.map (m_cv ad)) (Qc (as.map (m_cv ad)).toArray) XC free) := by
  obtain ⟨hx, hb, hml, hown, hts, hK, hA, -, -, -, -⟩ := E
  obtain ⟨-, hNM, hG, -, hXT, hXU, hM⟩ := S
  cases i
  case invokevirtual z1 =>
    simp only [m_st] at hq
    split at hq
    · next a as1 st1 hpop =>
      split at hq
      · next w =>
        cases hq
        obtain ⟨w1, w2, w3, w4⟩ := w
        obtain ⟨e1, e2⟩ := m_pop_eq hpop
        rcases hm with (hm | hm) | hm
        · exact hm.elim
        · exact hm.elim
        obtain ⟨⟨rfl, hzz, hnh, ix, l1, l2, l3, l4, ⟨r, r1, r2, r3⟩, hd⟩, -⟩ := hm
        have hcw : m_cw P Y B TT HH zz = Cond.code (Y zz) (B zz) (m_nl P zz) (TT zz) := by unfold m_cw; rw [hnh]; rfl
        obtain ⟨k1, k2, k3, k4, k5, -⟩ := hM _ hzz
        refine ⟨hzz, rfl, e1, w4, fun hC _ => ?_⟩
        rw [hcw] at hC k2
        have hpar : (parseMethodDescriptor (Y zz).desc).map (fun d => d.parameters.length) = some as1.length := by
          cases hpd : parseMethodDescriptor (Y zz).desc with
          | none => rw [hpd] at l4; cases l4
          | some md =>
            rw [hpd] at l4
            have l5 : md.parameters.length + 1 = m_na P zz := Option.some.inj l4
            simp only [Option.map_some, Option.some.injEq]
            simp only [List.length_cons] at e2
            omega
        have he := m_ws_at (P := P) (cA := cA) (ad := ad) w1
        rw [m_cell_obj w2 r3] at he
        have hcl := va_recv hK rel.1 r1 he
        rw [r2] at hcl
        refine vx_runV (C := (Y zz).cls) (b := ad a) (As := as1.map (m_cv ad)) (index := ix) ⟨hx, hb, hml, hown, hts⟩ hC (cwV as1.length hts (m_good hG k2 (fun w hw => ?_)) rfl rfl rfl ⟨rfl, k4.1, k4.2, hpar⟩ ⟨by have := hR.1; show d + 8 + 1 ≤ _; omega, by have := hR.2; show 8 + (m_nl P zz + 11) + (40 * d + 200) ≤ _; omega⟩) ⟨m_Pc_blind hXT, hcl, fun U hU hW => m_pre rel hA hK hXT X.2.2.1 U hU hW⟩ rfl (by simp) hl.1 ?_ (lv_room (by rw [m_cat_map]; exact w3)) hd hroom
        · rcases List.mem_cons.mp hw with rfl | hw
          · exact l1
          rcases List.mem_cons.mp hw with rfl | hw
          · exact l2
          rcases List.mem_cons.mp hw with rfl | hw
          · exact l3
          rcases List.mem_cons.mp hw with rfl | hw
          · exact k3
          · cases hw
        · show st.map (m_cv ad) = _
          rw [e1]
          simp [m_cv, List.map_reverse]
      · cases hq
    · cases hq
  case invokestatic z1 =>
    rcases hm with (hm | hm) | hm
    · exfalso
      obtain ⟨-, ix, hlib, -⟩ := hm
      rcases hlib with ⟨rfl, -⟩ | ⟨rfl, -⟩ | ⟨rfl, -⟩ <;> simp only [m_st, m_nx, ↓reduceIte, Nat.reduceEqDiff] at hq <;> (repeat' split at hq) <;> cases hq
    · exact hm.elim
    obtain ⟨⟨rfl, hzz, ix, l1, l2, l4, hd⟩, -⟩ := hm
    simp only [m_st] at hq
    rw [if_neg (by omega), if_neg (by omega), if_neg (by omega)] at hq
    split at hq
    · next as1 st1 hpop =>
      split at hq
      · next w =>
        cases hq
        obtain ⟨w3, w4⟩ := w
        obtain ⟨e1, e2⟩ := m_pop_eq hpop
        obtain ⟨k1, k2, k3, k4, k5, -⟩ := hM _ hzz
        refine ⟨hzz, rfl, e1, w4, fun hC _ => ?_⟩
        have hgd := m_good (ws := [.methodLink (Y z).cls ix (Y zz), .static (Y zz), .initialized (Y zz).cls]) hG k2 (fun w hw => by
          rcases List.mem_cons.mp hw with rfl | hw
          · exact l1
          rcases List.mem_cons.mp hw with rfl | hw
          · exact l2
          rcases List.mem_cons.mp hw with rfl | hw
          · exact k3
          · cases hw)
        have hrm : (m_rm d mc ms).frames + 1 ≤ R.frames ∧ 8 + (m_nl P zz + 11) + (m_rm d mc ms).locals ≤ R.locals := ⟨by have := hR.1; show d + 8 + 1 ≤ _; omega, by have := hR.2; show 8 + (m_nl P zz + 11) + (40 * d + 200) ≤ _; omega⟩
        have hstk : st.map (m_cv ad) = (as.map (m_cv ad)).reverse ++ st'.map (m_cv ad) := by
          rw [e1]
          simp [List.map_reverse]
        by_cases hh : m_hh P zz = true
        · have hcw : m_cw P Y B TT HH zz = Cond.codeWith (Y zz) (B zz) (m_nl P zz) (TT zz) (HH zz) := by unfold m_cw; rw [if_pos hh]
          rw [hcw] at hC hgd
          exact vx_runSX (As := as.map (m_cv ad)) (index := ix) ⟨hx, hb, hml, hown, hts⟩ hC (vx_cwSW as.length hts hgd rfl rfl rfl ⟨k4.1, k4.2, by rw [e2]; exact l4⟩ hrm) ⟨m_Pc_blind hXT, fun U hU hW => m_pre rel hA hK hXT X.2.2.1 U hU hW⟩ rfl (by simp) hl.1 hstk (lv_room (by rw [m_cat_map]; exact w3)) hd hroom
        · have hcw : m_cw P Y B TT HH zz = Cond.code (Y zz) (B zz) (m_nl P zz) (TT zz) := by unfold m_cw; rw [if_neg hh]
          rw [hcw] at hC hgd
          exact vx_runS (As := as.map (m_cv ad)) (index := ix) ⟨hx, hb, hml, hown, hts⟩ hC (va_cwS as.length hts hgd rfl rfl rfl ⟨k4.1, k4.2, by rw [e2]; exact l4⟩ hrm) ⟨m_Pc_blind hXT, fun U hU hW => m_pre rel hA hK hXT X.2.2.1 U hU hW⟩ rfl (by simp) hl.1 hstk (lv_room (by rw [m_cat_map]; exact w3)) hd hroom
      · cases hq
    · cases hq
  case invokespecial z1 =>
    rcases hm with (hm | hm) | hm
    · exfalso
      obtain ⟨-, rfl, -⟩ := hm
      simp only [m_st, m_nx, ↓reduceIte] at hq
      (repeat' split at hq) <;> cases hq
    · exact hm.elim
    obtain ⟨⟨rfl, hzz, hnh, hini, htt, ix, l1, l2, l4, hd⟩, -⟩ := hm
    have hcw : m_cw P Y B TT HH z1 = Cond.code (Y z1) (B z1) (m_nl P z1) (TT z1) := by unfold m_cw; rw [hnh]; rfl
    simp only [m_st] at hq
    rw [if_neg (by omega)] at hq
    split at hq
    · next a as1 st1 hpop =>
      split at hq
      · next w =>
        cases hq
        obtain ⟨w1, w2, w3, w4⟩ := w
        obtain ⟨e1, e2⟩ := m_pop_eq hpop
        obtain ⟨k1, k2, k3, k4, k5, k6, k7, k8, -⟩ := hM _ hzz
        refine ⟨hzz, rfl, e1, w4, fun hC hno => ?_⟩
        have hC := m_met hC (hno rfl)
        rw [hcw, htt] at hC k2
        have hpar : (parseMethodDescriptor (Y zz).desc).map (fun d => d.parameters.length) = some as1.length := by
          cases hpd : parseMethodDescriptor (Y zz).desc with
          | none => rw [hpd] at l4; cases l4
          | some md =>
            rw [hpd] at l4
            have l5 : md.parameters.length + 1 = m_na P zz := Option.some.inj l4
            simp only [Option.map_some, Option.some.injEq]
            simp only [List.length_cons] at e2
            omega
        have hgood : GoodIn G (Cond.code (Y zz) (B zz) (m_nl P zz) none :: G) := m_good (ws := []) hG k2 (fun w hw => nomatch hw)
        have hrm : (m_rm d mc ms).frames + 1 ≤ R.frames ∧ 8 + (m_nl P zz + 11) + (m_rm d mc ms).locals ≤ R.locals := ⟨by have := hR.1; show d + 8 + 1 ≤ _; omega, by have := hR.2; show 8 + (m_nl P zz + 11) + (40 * d + 200) ≤ _; omega⟩
        have hstk : st.map (m_cv ad) = (as1.map (m_cv ad)).reverse ++ Value.ref (ad a) :: st'.map (m_cv ad) := by
          rw [e1]
          simp [m_cv, List.map_reverse]
        have hpre : PreS s H (m_Pc P cl D cA tys XT ad h (.ref a :: as1) H.size) (.ref (ad a) :: as1.map (m_cv ad)) := ⟨m_Pc_blind hXT, fun U hU hW => m_pre rel hA hK hXT X.2.2.1 U hU hW⟩
        have conv : va_Run p l e R s m args below meth c H locs cells slots mc ms (F0 m pc la (st.map (m_cv ad))) (st'.map (m_cv ad)) (Qc (Value.ref (ad a) :: as1.map (m_cv ad)).toArray) free → vx_Run p l e R s m args below meth c H locs cells slots mc ms (F0 m pc la (st.map (m_cv ad))) (st'.map (m_cv ad)) (Qc ((Value.ref a :: as1).map (m_cv ad)).toArray) XC free := fun hv T hT Z => Or.inl (hv T hT Z)
        rcases l1 with l1 | ⟨host, l1⟩
        · exact conv (va_runI (index := ix) ⟨hx, hb, hml, hown, hts⟩ hC (cwI as1.length hts hgood rfl rfl rfl (hts _ k3) (hts _ l1) (hts _ l2) (k8 hini) ⟨k4.1, k4.2, hpar⟩ hrm) hpre rfl (by simp) hl.1 hstk (lv_room (by rw [m_cat_map]; exact w3)) hd hroom)
        · have hnl := (X.2.1 _ _ _ X.2.2.1).2.2.2.2.1 _ l1
          exact conv (va_runIN (index := ix) ⟨hx, hb, hml, hown, hts⟩ hC ⟨va_cnB as1.length hts hgood rfl rfl rfl hnl (hts _ k3) ⟨k4.1, k4.2, hpar⟩ hrm, k8 hini, hts _ l2⟩ hpre rfl (by simp) hl.1 hstk (lv_room (by rw [m_cat_map]; exact w3)) hd hroom)
      · cases hq
    · cases hq
  case newarray t =>
    exfalso
    cases t <;> simp only [m_st, m_nx] at hq <;> first | (cases hq; done) | ((repeat' split at hq) <;> (cases hq; done))
  all_goals
    exfalso
    simp only [m_st, m_nx] at hq
    first
      | (cases hq; done)
      | ((repeat' split at hq) <;> (cases hq; done))
end MAIN3
end
section
section MAIN4
variable {l : Launch} {P : m_P} {cl : List vw_C} {D : va_G} {cA : Nat → ClassId} {tys : List (ClassId × FieldType)} {G : List Cond} {XT : (Nat → Prop) → State → Heap → Prop} {xc : Nat → Nat} {AOL : List String × List (Nat × String)} {TL : List (String × Nat × Nat × Nat × String)} {NL : List (String × Nat × MethodName × String)} {Y : Nat → MethodName} {B : Nat → ByteArray} {TT : Nat → Option FieldType} {INI : Nat → Bool} {TGz : Nat → Nat → Prop} {NM : Nat} {HH : Nat → List (Nat × Nat × Nat × Nat)}
set_option maxHeartbeats 4000000 in
/-- THE RUNS OF THE SMALL MACHINE ARE THE MACHINE'S -/
theorem m_main (S : m_stat l P cl G AOL TL NL tys cA Y B TT INI TGz NM HH XT xc) : ∀ (n d z : Nat) (is : List Instr) (ls : m_F) (st : List Value) (h : m_H) (o : Option Value ⊕ Nat) (h' : m_H), z < NM → m_ex P n d z is ls st h = some (o, h') → ∀ (p : Program) (e : Env) (R : Room) (s : State) (m : MethodId) (args : Array Value) (below : List Frame) (meth : Method) (c : Code) (A : Nat → Prop) (xa : Nat × (Nat → Nat)) (c0 s0 pc : Nat), m_env p s m args meth c R P cl D cA A tys G (Y z).cls (INI z) (m_nl P z) (B z) → m_ext s A xa XT P xc AOL TL NL → d + 8 ≤ R.frames ∧ 40 * d + 200 ≤ R.locals → meth.locks = false → meth.sig.returnType = TT z → c.exceptionTable.toList = tableOf (HH z) → c0 ≤ m_c h → s0 ≤ m_s h → m_c h' - c0 ≤ R.cells → m_s h' - s0 ≤ R.slots → m_at P cl G AOL TL NL tys cA Y B TT INI TGz NM HH z is pc → m_go p l e R s m args below meth c (vx_MQ below (m_Qc P cl D cA A xa o h') (m_XC P cl D cA A xa o h') args s (m_c h' - c0) (m_s h' - s0) A) P cl D cA A xa (m_nl P z) c0 s0 pc ls st h := by
  intro n
  induction n with
  | zero =>
    intro d z is ls st h o h' hz he
    simp [m_ex] at he
  | succ n ih =>
    intro d z is ls st h o h' hz he p e R s m args below meth c A xa c0 s0 pc E X hR hlocks hr htab h0 h1 g0 g1 hat
    obtain ⟨-, hNM, hG, -, hXT, hXU, hM⟩ := id S
    cases is with
    | nil => simp [m_ex] at he
    | cons i is =>
      obtain ⟨len, hm, hret, hrest⟩ := hat
      rw [m_ex] at he
      split at he
      · cases he
      · next q hq =>
        have mono := m_st_mono hq
        have mono2 := m_ex_mono _ _ _ _ _ _ _ _ _ he
        refine m_step1 (AT := fun pc is => m_at P cl G AOL TL NL tys cA Y B TT INI TGz NM HH z is pc) (TG := TGz z) (len := len) E X h0 h1 (by omega) (by omega) hq ?_ (hM z hz).2.2.2.2.2.1 hrest (fun pc' hat' => ih d z _ _ _ _ _ _ hz he p e R s m args below meth c A xa c0 s0 pc' E X hR hlocks hr htab (by omega) (by omega) g0 g1 hat')
        rcases hm with hm | hm
        · exact hm
        · exfalso
          cases i
          case invokevirtual zz =>
            simp only [m_st] at hq
            (repeat' split at hq) <;> cases hq
          case invokestatic zz =>
            obtain ⟨⟨-, hzz, -⟩, -⟩ := hm
            simp only [m_st] at hq
            rw [if_neg (by omega), if_neg (by omega), if_neg (by omega)] at hq
            (repeat' split at hq) <;> cases hq
          case invokespecial zz =>
            obtain ⟨⟨-, hzz, -⟩, -⟩ := hm
            simp only [m_st] at hq
            rw [if_neg (by omega)] at hq
            (repeat' split at hq) <;> cases hq
          case invokedynamic zz =>
            simp only [m_st] at hq
            (repeat' split at hq) <;> cases hq
          all_goals exact hm.1
      · next q hq =>
        obtain ⟨zz, as, st'⟩ := q
        cases d with
        | zero => simp at he
        | succ d =>
          simp only at he
          split at he
          · cases he
          · next v g hg =>
            have mono1 := m_ex_mono _ _ _ _ _ _ _ _ _ hg
            have mono2 := m_ex_mono _ _ _ _ _ _ _ _ _ he
            intro H locs ad la rel hl hs
            have hA := E.2.2.2.2.2.2.1
            obtain ⟨hzz, hlen, hst, hsl, hrun⟩ := m_runs (d := d) (cells := m_c h - c0) (slots := m_s h - s0) (mc := m_c g - m_c h) (ms := m_s g - m_s h) (below := below) (Qc := m_Qc P cl D cA (va_A (m_ws P cA ad h) H.size) (m_n h, ad) (.inl v) g) (XC := m_XC P cl D cA (va_A (m_ws P cA ad h) H.size) (m_n h, ad) (.inl v) g) (free := va_A (m_ws P cA ad h) H.size) (e := e) (locs := locs) S E X hR rel hl hq hm ⟨by omega, by omega⟩
            have hin : ∀ w ∈ as, m_in (m_n h) w := fun w hw => hs w (by rw [hst]; exact List.mem_append_left _ (List.mem_reverse.mpr hw))
            have had : ∀ j, m_X ≤ j → ad j = xc j := fun j hj => (rel.2.2.2.2.2 j (Or.inr hj)).trans (X.2.2.2 j hj)
            have hC := m_contract S hzz (fun is ls st h o h' he => ih d zz is ls st h o h' hzz he) hg hsl ad H.size rel.2.2.2.1 hin had
            have hrun := hrun hC (fun _ _ _ _ hx => by obtain ⟨x, ad', ho, -⟩ := hx; cases ho)
            subst hlen
            refine m_call rel hA hl (st := st') (fun w hw => hs w (by rw [hst]; exact List.mem_append_right _ hw)) h0 h1 mono1.1 mono1.2 hrun (fun w hw => ?_) (fun x hx => by cases hx)
            cases hw
            exact ih (d + 1) z _ _ _ _ _ _ hz he p e R s m args below meth c A xa c0 s0 (pc + 3) E X hR hlocks hr htab (by omega) (by omega) g0 g1 hrest
          · next x g hg =>
            split at he
            · cases he
            · next hisp =>
              have mono1 := m_ex_mono _ _ _ _ _ _ _ _ _ hg
              have hA := E.2.2.2.2.2.2.1
              obtain ⟨-, -, -, -, -, -, -, -, k9, k10⟩ := hM z hz
              split at he
              · split at he
                · cases he
                · next hnh =>
                  cases he
                  intro H locs ad la rel hl hs
                  obtain ⟨hzz, hlen, hst, hsl, hrun⟩ := m_runs (d := d) (cells := m_c h - c0) (slots := m_s h - s0) (mc := m_c h' - m_c h) (ms := m_s h' - m_s h) (below := below) (Qc := m_Qc P cl D cA (va_A (m_ws P cA ad h) H.size) (m_n h, ad) (.inr x) h') (XC := m_XC P cl D cA (va_A (m_ws P cA ad h) H.size) (m_n h, ad) (.inr x) h') (free := va_A (m_ws P cA ad h) H.size) (e := e) (locs := locs) S E X hR rel hl hq hm ⟨by omega, by omega⟩
                  have hin : ∀ w ∈ as, m_in (m_n h) w := fun w hw => hs w (by rw [hst]; exact List.mem_append_left _ (List.mem_reverse.mpr hw))
                  have had : ∀ j, m_X ≤ j → ad j = xc j := fun j hj => (rel.2.2.2.2.2 j (Or.inr hj)).trans (X.2.2.2 j hj)
                  have hC := m_contract S hzz (fun is ls st h o h' he => ih d zz is ls st h o h' hzz he) hg hsl ad H.size rel.2.2.2.1 hin had
                  have hrun := hrun hC (fun hi => absurd hi hisp)
                  refine m_call rel hA hl (st := st') (fun w hw => hs w (by rw [hst]; exact List.mem_append_right _ hw)) h0 h1 mono1.1 mono1.2 hrun (fun w hw => by cases hw) (fun y hy H1 locs1 ad' q ce rel' hl' hce hcv hcl => ?_)
                  cases hy
                  refine vx_out (fun x hx => by rw [htab, (k9 (Bool.eq_false_iff.mpr hnh)).1] at hx; cases hx) hlocks hce hcv hcl (fun t ht ha => ?_) rel'.2.2.1.2.2 (Nat.le_refl _) (Nat.le_refl _)
                  exact ⟨x, ad', rfl, rfl, by rw [ht]; exact rel'.1, rel'.2.1, rel'.2.2.2.1, rel'.2.2.2.2.1, rel'.2.2.2.2.2, rel'.2.2.1.F ht⟩
              · next r hhd =>
                have hok : m_ok1 ls r.1 = true := by
                  by_cases w : m_ok1 ls r.1 = true
                  · exact w
                  · rw [if_neg w] at he
                    cases he
                rw [if_pos hok] at he
                have mono2 := m_ex_mono _ _ _ _ _ _ _ _ _ he
                have hhh : m_hh P z = true := by
                  cases hb : m_hh P z with
                  | true => rfl
                  | false => rw [(k9 hb).2 x] at hhd; cases hhd
                have hcov : m_cov P G Y B HH z pc i := by
                  rcases hm with (hm | hm) | hm
                  · exfalso
                    cases i
                    case invokestatic zz =>
                      obtain ⟨-, ix, hlib, -⟩ := hm
                      rcases hlib with ⟨rfl, -⟩ | ⟨rfl, -⟩ | ⟨rfl, -⟩ <;> simp only [m_st, m_nx, ↓reduceIte, Nat.reduceEqDiff] at hq <;> (repeat' split at hq) <;> cases hq
                    case invokespecial zz =>
                      obtain ⟨-, rfl, -⟩ := hm
                      simp only [m_st, m_nx, ↓reduceIte] at hq
                      (repeat' split at hq) <;> cases hq
                    case newarray t =>
                      cases t <;> simp only [m_st, m_nx] at hq <;> first | (cases hq; done) | ((repeat' split at hq) <;> (cases hq; done))
                    all_goals first
                      | exact hm.elim
                      | (simp only [m_st, m_nx] at hq; first | (cases hq; done) | ((repeat' split at hq) <;> (cases hq; done)))
                  · exfalso
                    cases i
                    all_goals first
                      | exact hm.elim
                      | (simp only [m_st, m_nx] at hq; first | (cases hq; done) | ((repeat' split at hq) <;> (cases hq; done)))
                  · exact hm.2
                obtain ⟨hx1, hrl, pre, x0, suf, c1, c2, c3, c4, c5, c6⟩ := hcov hhh x r hhd
                obtain ⟨-, -, -, -, -, ⟨hcst, hncs⟩, -⟩ := X.2.1 _ _ _ X.2.2.1
                obtain ⟨ex, eb, eml, eown, ets, -⟩ := id E
                intro H locs ad la rel hl hs
                obtain ⟨hzz, hlen, hst, hsl, hrun⟩ := m_runs (d := d) (cells := m_c h - c0) (slots := m_s h - s0) (mc := m_c g - m_c h) (ms := m_s g - m_s h) (below := below) (Qc := m_Qc P cl D cA (va_A (m_ws P cA ad h) H.size) (m_n h, ad) (.inr x) g) (XC := m_XC P cl D cA (va_A (m_ws P cA ad h) H.size) (m_n h, ad) (.inr x) g) (free := va_A (m_ws P cA ad h) H.size) (e := e) (locs := locs) S E X hR rel hl hq hm ⟨by omega, by omega⟩
                have hin : ∀ w ∈ as, m_in (m_n h) w := fun w hw => hs w (by rw [hst]; exact List.mem_append_left _ (List.mem_reverse.mpr hw))
                have had : ∀ j, m_X ≤ j → ad j = xc j := fun j hj => (rel.2.2.2.2.2 j (Or.inr hj)).trans (X.2.2.2 j hj)
                have hC := m_contract S hzz (fun is ls st h o h' he => ih d zz is ls st h o h' hzz he) hg hsl ad H.size rel.2.2.2.1 hin had
                have hrun := hrun hC (fun hi => absurd hi hisp)
                refine m_call rel hA hl (st := st') (fun w hw => hs w (by rw [hst]; exact List.mem_append_right _ hw)) h0 h1 mono1.1 mono1.2 hrun (fun w hw => by cases hw) (fun y hy H1 locs1 ad' q ce rel' hl' hce hcv hcl => ?_)
                cases hy
                have hgo := fun la' (hla : m_lR ad' (m_n g) (ls.set r.1 none) la' (m_nl P z)) => ih (d + 1) z _ _ _ _ _ _ hz he p e R s m args below meth c A xa c0 s0 r.2 E X hR hlocks hr htab (by omega) (by omega) g0 g1 (k10 x r hhd) H1 locs1 ad' la' rel' hla (fun v hv => nomatch hv)
                refine vx_catch eown pre x0 suf (htab.trans c1) (fun y hy => ?_) c3 c4 (ets _ c5) (va_Nw.use rfl (hcst x hx1)) hce hcv hcl ?_
                · rcases c2 y hy with w | ⟨rfl, w2, w3⟩
                  · exact Or.inl w
                  · exact Or.inr ⟨w2, _, ets _ w3, hncs⟩
                · have hset : ∀ la', lv_has la' (m_nl P z) ((r.1, Value.ref q) :: (m_ll ad' ls).filter (fun q => !(q.1 == r.1) && !(q.1 + 1 == r.1 && q.2.category == 2))) → m_lR ad' (m_n g) (ls.set r.1 none) la' (m_nl P z) := by
                    intro la' hla
                    exact m_lR_stN hl' hok hla
                  rcases c6 with ⟨j, j1, j2, j3⟩ | ⟨j2, j3⟩
                  · rw [j3] at hgo
                    exact lv_astore_n ex eb j2 j1 (m_lR_has hl') hrl rfl (fun la' hla => hgo la' (hset la' hla))
                  · rw [j3] at hgo
                    exact lv_astore ex eb j2 (m_lR_has hl') hrl rfl (fun la' hla => hgo la' (hset la' hla))
      · next v hq =>
        cases he
        exact m_end S E hlocks hr hq hm hret
      · next x hq =>
        cases he
        exact m_thr (d := d) S E X hR hlocks htab (fun w => ((hM z hz).2.2.2.2.2.2.2.2.1 w).1) h0 h1 g0 g1 hq hm
end MAIN4
end
section
/-! A PROGRAM THAT LOOKS WHETHER THE SMALL CODE IS THE MACHINE'S: by instructions, and by a table of what the pool's entries are -/
def m_one (i : Instr) : Bool := match i with
  | .aconst_null => true
  | .iadd => true
  | .isub => true
  | .imul => true
  | .iand => true
  | .ior => true
  | .ishr => true
  | .idiv => true
  | .irem => true
  | .i2b => true
  | .i2l => true
  | .i2d => true
  | .i2f => true
  | .ladd => true
  | .lsub => true
  | .lmul => true
  | .lcmp => true
  | .ddiv => true
  | .fdiv => true
  | .f2d => true
  | .d2f => true
  | .dup => true
  | .pop => true
  | .dup2 => true
  | .iaload => true
  | .baload => true
  | .laload => true
  | .daload => true
  | .iastore => true
  | .bastore => true
  | .lastore => true
  | .dastore => true
  | .ireturn => true
  | .areturn => true
  | .freturn => true
  | .dreturn => true
  | .return_ => true
  | _ => false
/-- what an entry of the pool is: field (class*64+field, final); method; new class; row; constants; a constant object; a throw's two -/
def m_lkok (P : m_P) (cl : List vw_C) (G : List Cond) (AOL : List String × List (Nat × String)) (TL : List (String × Nat × Nat × Nat × String)) (NL : List (String × Nat × MethodName × String)) (tys : List (ClassId × FieldType)) (cA : Nat → ClassId) (Y : Nat → MethodName) (TT : Nat → Option FieldType) (INI : Nat → Bool) (NM : Nat) (own : String) (ix : Nat) (q : Nat × Nat × Nat) : Prop := match q.1 with
  | 0 => ∃ (C : String) (T : u_T), m_cok P cl G (q.2.1 / 64) C T ∧ Cond.fieldLink own ix (T (q.2.1 % 64)).1 (T (q.2.1 % 64)).2.1 (T (q.2.1 % 64)).2.2.1 ∈ G ∧ ((q.2.2 = 0 ∧ (T (q.2.1 % 64)).2.2.2 = false) ∨ (q.2.2 = 1 ∧ (T (q.2.1 % 64)).2.2.2 = true ∧ (T (q.2.1 % 64)).1 = own) ∨ q.2.2 = 2)
  | 1 => q.2.1 < NM ∧ m_hh P q.2.1 = false ∧ Cond.methodLink own ix (Y q.2.1) ∈ G ∧ Cond.instanceMethod (Y q.2.1) ∈ G ∧ Cond.selects (Y q.2.1).cls (Y q.2.1) (Y q.2.1) ∈ G ∧ (parseMethodDescriptor (Y q.2.1).desc).map (fun d => d.parameters.length + 1) = some (m_na P q.2.1) ∧ (∃ r : vw_C, cl[m_rc P q.2.1]? = some r ∧ r.1 = (Y q.2.1).cls ∧ m_rc P q.2.1 < 100)
  | 2 => q.2.1 < NM ∧ Cond.methodLink own ix (Y q.2.1) ∈ G ∧ Cond.static (Y q.2.1) ∈ G ∧ (parseMethodDescriptor (Y q.2.1).desc).map (fun d => d.parameters.length) = some (m_na P q.2.1)
  | 3 => q.2.1 < NM ∧ m_hh P q.2.1 = false ∧ INI q.2.1 = true ∧ TT q.2.1 = none ∧ (Cond.methodLink own ix (Y q.2.1) ∈ G ∨ ∃ host, (own, ix, Y q.2.1, host) ∈ NL) ∧ Cond.instanceMethod (Y q.2.1) ∈ G ∧ (parseMethodDescriptor (Y q.2.1).desc).map (fun d => d.parameters.length + 1) = some (m_na P q.2.1)
  | 4 => m_lib G own ix q.2.1
  | 5 => Cond.methodLink own ix Lib.objectInit ∈ G ∧ Cond.instanceMethod Lib.objectInit ∈ G ∧ Cond.code Lib.objectInit ⟨#[0xb1]⟩ 1 none ∈ G
  | 6 => (∃ (C : String) (T : u_T), m_cok P cl G q.2.1 C T ∧ Cond.classLink own ix C ∈ G ∧ Cond.instantiable C (m_nf P q.2.1) ∈ G ∧ Cond.initialized C ∈ G) ∧ (q.2.2 = 7 → ∃ (C : String), C ∈ AOL.1 ∧ m_aok tys cA (200 + q.2.1) (.object C) ∧ Cond.classLink own ix C ∈ G)
  | 7 => ∃ (C : String), C ∈ AOL.1 ∧ m_aok tys cA (200 + q.2.1) (.object C) ∧ Cond.classLink own ix C ∈ G
  | 8 => Jvm.Cond.constant own ix (Int32.ofNat q.2.1) ∈ G
  | 9 => Jvm.Cond.constantLong own ix (Int64.ofNat q.2.1) ∈ G
  | 10 => m_X ≤ q.2.1 ∧ ∃ nm : String, (q.2.1, nm) ∈ AOL.2 ∧ Cond.fieldLink own ix "DriverHost$Word" nm "LDriverHost$Word;" ∈ G
  | 11 => q.2.1 ≤ 1 ∧ Cond.classLink own ix (m_en q.2.1) ∈ G ∧ Cond.initialized (m_en q.2.1) ∈ G ∧ Bundle.fit (m_en q.2.1) = true ∧ (∀ n ∈ m_nms, Bundle.fit n = true) ∧ vx_ot (Cond.classLink own ix (m_en q.2.1)) = true ∧ vx_ot (Cond.initialized (m_en q.2.1)) = true
  | 13 => ∃ text, (own, ix, 0, 0, text) ∈ TL
  | 12 => (∀ w ∈ vx_atS own ix (m_en q.2.1) m_nms, vx_ot w = true) ∧ (∀ w ∈ (vx_atS own ix (m_en q.2.1) m_nms).filter goodWord, w ∈ G) ∧ (∀ w ∈ (vx_atS own ix (m_en q.2.1) m_nms).filter (fun w => !goodWord w), w ∈ [Cond.castable (m_en q.2.1) (m_en q.2.1)])
  | _ => False
def m_ckI (lk : Nat → Option (Nat × Nat × Nat)) (ini : Bool) (tg ra : Nat → Bool) (pc : Nat) (r : Instr) (n : Nat) (i : Instr) : Bool :=
  if m_one i = true then decide (r = i) && decide (n = 1) else match i with
  | .nop => true
  | .ret _ => decide (r = .ireturn) && decide (n = 1)
  | .dcmp op => decide (r = .dcmp op) && decide (n = 1)
  | .fcmp op => decide (r = .fcmp op) && decide (n = 1)
  | .fconst k => decide (k = 0) && (decide (r = .fconst 0) && decide (n = 1))
  | .dconst k => ((decide (k = 0) && decide (r = .dconst 0)) || (decide (k = 1) && decide (r = .dconst 1))) && decide (n = 1)
  | .iconst v => match r with
    | .iconst k => decide (Int32.ofInt k = Int32.ofInt v) && decide (n = 1)
    | .bipush k => decide ((Int8.ofInt k).toInt32 = Int32.ofInt v) && decide (n = 2)
    | .sipush k => decide ((Int16.ofInt k).toInt32 = Int32.ofInt v) && decide (n = 3)
    | .ldc ix => (match lk ix with | some (8, a, _) => decide (Int32.ofNat a = Int32.ofInt v) | _ => false) && decide (n = 2)
    | .ldc_w ix => (match lk ix with | some (8, a, _) => decide (Int32.ofNat a = Int32.ofInt v) | _ => false) && decide (n = 3)
    | _ => false
  | .ldc2_w v => match r with
    | .lconst k => decide (Int64.ofNat (k : Nat) = Int64.ofNat v) && decide (n = 1)
    | .ldc2_w ix => (match lk ix with | some (9, a, _) => decide (Int64.ofNat a = Int64.ofNat v) | _ => false) && decide (n = 3)
    | _ => false
  | .iload k => match r with
    | .iload j => decide (j = k) && decide (n = 2)
    | .iload_n j => decide ((j : Nat) = k) && decide (n = 1)
    | _ => false
  | .lload k => match r with
    | .lload j => decide (j = k) && decide (n = 2)
    | .lload_n j => decide ((j : Nat) = k) && decide (n = 1)
    | _ => false
  | .aload k => match r with
    | .aload j => decide (j = k) && decide (n = 2)
    | .aload_n j => decide ((j : Nat) = k) && decide (n = 1)
    | _ => false
  | .istore k => match r with
    | .istore j => decide (j = k) && decide (n = 2)
    | .istore_n j => decide ((j : Nat) = k) && decide (n = 1)
    | _ => false
  | .astore k => match r with
    | .astore j => decide (j = k) && decide (n = 2)
    | .astore_n j => decide ((j : Nat) = k) && decide (n = 1)
    | _ => false
  | .fload k => decide (r = .fload k) && decide (n = 2)
  | .dload k => decide (r = .dload k) && decide (n = 2)
  | .fstore k => decide (r = .fstore k) && decide (n = 2)
  | .dstore k => decide (r = .dstore k) && decide (n = 2)
  | .iinc k v => decide (r = .iinc k v) && decide (n = 3)
  | .goto t => match r with
    | .goto off => decide ((pc : Int) + off = (t.toNat : Int)) && tg t.toNat && decide (n = 3)
    | _ => false
  | .ifnull t => match r with
    | .ifnull off => decide ((pc : Int) + off = (t.toNat : Int)) && tg t.toNat && decide (n = 3)
    | _ => false
  | .ifnonnull t => match r with
    | .ifnonnull off => decide ((pc : Int) + off = (t.toNat : Int)) && tg t.toNat && decide (n = 3)
    | _ => false
  | .ifCond z t => match r with
    | .ifCond y off => decide (y = z) && decide ((pc : Int) + off = (t.toNat : Int)) && tg t.toNat && decide (n = 3)
    | _ => false
  | .if_icmp z t => match r with
    | .if_icmp y off => decide (y = z) && decide ((pc : Int) + off = (t.toNat : Int)) && tg t.toNat && decide (n = 3)
    | _ => false
  | .tableswitch d lo hi ts => match r with
    | .tableswitch dflt lo' hi' offs => decide (lo' = lo) && decide (hi' = hi) && decide ((pc : Int) + dflt = (d.toNat : Int)) && tg d.toNat && decide (offs.size = ts.size) && (List.range ts.size).all (fun k => match ts[k]?, offs[k]? with | some t, some off => decide ((pc : Int) + off = (t.toNat : Int)) && tg t.toNat | _, _ => false)
    | _ => false
  | .getfield x => match r with
    | .getfield ix => (match lk ix with | some (0, a, _) => decide (a = x) | _ => false) && decide (n = 3)
    | _ => false
  | .putfield x => match r with
    | .putfield ix => (match lk ix with | some (0, a, f) => decide (a = x) && (decide (f = 0) || (ini && decide (f = 1))) | _ => false) && decide (n = 3)
    | _ => false
  | .newarray t => decide (r = .newarray t) && decide (n = 2) && (decide (t = .int) || decide (t = .byte) || decide (t = .long) || decide (t = .double))
  | .new ci => match r with
    | .new ix => (match lk ix with | some (6, a, _) => decide (a = ci) | _ => false) && decide (n = 3)
    | _ => false
  | .anewarray ci => match r with
    | .anewarray ix => (match lk ix with | some (6, a, 7) => decide (a = ci) | some (7, a, _) => decide (a = ci) | _ => false) && decide (n = 3)
    | _ => false
  | .getstatic k => match r with
    | .getstatic ix => (match lk ix with | some (10, a, _) => decide (a = k) | _ => false) && decide (n = 3)
    | _ => false
  | .invokevirtual z => match r with
    | .invokevirtual ix => (match lk ix with | some (1, a, _) => decide (a = z) | _ => false) && decide (n = 3)
    | _ => false
  | .invokestatic z => match r with
    | .invokestatic ix => (match lk ix with | some (2, a, _) => decide (a = z) | some (4, a, _) => decide (a = z) | _ => false) && decide (n = 3)
    | _ => false
  | .invokespecial z => match r with
    | .invokespecial ix => (match lk ix with | some (3, a, _) => decide (a = z) | some (5, _, _) => decide (z = 9000) | _ => false) && decide (n = 3)
    | _ => false
  | .ldc_w z => decide (r = .arraylength) && decide (n = 1) && (decide (z = 100) || decide (z = 101) || decide (z = 102) || decide (z = 103) || (decide (200 ≤ z) && ra (z - 200)))
  | .checkcast ci => decide (r = .aaload) && decide (n = 1) && ra ci
  | .instanceof ci => decide (r = .aastore) && decide (n = 1) && ra ci
  | _ => false
/-- the length of the instruction at pc, if it is the one of the small machine; 0: it isn't -/
def m_ck (lk : Nat → Option (Nat × Nat × Nat)) (ini hh : Bool) (tg : Nat → Bool) (ra : Nat → Bool) (cc : ByteArray) (pc : Nat) (i : Instr) : Nat :=
  match i with
  | .invokedynamic x => match decode cc pc, decode cc (pc + 3), decode cc (pc + 4), decode cc (pc + 6), decode cc (pc + 9) with
    | .ok (.new ik, 3), .ok (.dup, 1), .ok (.ldc is, 2), .ok (.invokespecial ic, 3), .ok (.athrow, 1) => match lk ik, lk is, lk ic with
      | some (11, a, _), some (13, _, _), some (12, b, _) => if a = x ∧ b = x ∧ hh = false then 10 else 0
      | _, _, _ => 0
    | _, _, _, _, _ => 0
  | i => match decode cc pc with
    | .ok (r, n) => if m_ckI lk ini tg ra pc r n i = true then n else 0
    | .error _ => 0
def m_rck (tt : Option FieldType) (i : Instr) : Bool := match i with
  | .ireturn => decide (tt = some .int)
  | .ret _ => decide (tt = some .boolean)
  | .areturn => match tt with
    | some (.object _) => true
    | some (.array _) => true
    | _ => false
  | .freturn => decide (tt = some .float)
  | .dreturn => decide (tt = some .double)
  | .return_ => decide (tt = none)
  | _ => true
def m_isc (i : Instr) : Bool := match i with
  | .invokevirtual _ => true
  | .invokestatic _ => true
  | .invokespecial _ => true
  | .invokedynamic _ => true
  | _ => false
/-- a stretch of code, up to the place where the next begins -/
def m_seg (lk : Nat → Option (Nat × Nat × Nat)) (tt : Option FieldType) (ini hh : Bool) (tg : Nat → Bool) (ra : Nat → Bool) (cv : Nat → Bool) (cc : ByteArray) : List Instr → Nat → Option Nat
  | [], pc => some pc
  | i :: is, pc => match m_rck tt i && (!hh || !m_isc i || cv pc), m_ck lk ini hh tg ra cc pc i with
    | true, k + 1 => m_seg lk tt ini hh tg ra cv cc is (pc + (k + 1))
    | _, _ => none
section CHK
variable {l : Launch} {P : m_P} {cl : List vw_C} {D : va_G} {cA : Nat → ClassId} {tys : List (ClassId × FieldType)} {G : List Cond} {XT : (Nat → Prop) → State → Heap → Prop} {xc : Nat → Nat} {AOL : List String × List (Nat × String)} {TL : List (String × Nat × Nat × Nat × String)} {NL : List (String × Nat × MethodName × String)} {Y : Nat → MethodName} {B : Nat → ByteArray} {TT : Nat → Option FieldType} {INI : Nat → Bool} {TGz : Nat → Nat → Prop} {NM : Nat} {HH : Nat → List (Nat × Nat × Nat × Nat)} {lk : Nat → Option (Nat × Nat × Nat)} {ini hh : Bool} {tg ra : Nat → Bool} {TG : Nat → Prop} {cc : ByteArray} {pc : Nat} {own : String} {y : Nat}
theorem m_and {a b : Bool} (h : (a && b) = true) : a = true ∧ b = true := by simpa using h
set_option maxHeartbeats 4000000 in
theorem m_ckI_ok (hlk : ∀ ix q, lk ix = some q → m_lkok P cl G AOL TL NL tys cA Y TT INI NM own ix q) (htg : ∀ t, tg t = true → TG t) (hra : ∀ ci, ra ci = true → ∃ r : vw_C, cl[ci]? = some r ∧ m_aok tys cA (200 + ci) (.object r.1)) (hAk : m_aok tys cA 100 .int ∧ m_aok tys cA 101 .byte ∧ m_aok tys cA 102 .long ∧ m_aok tys cA 103 .double) (harr : Cond.arrayClass .int ∈ G ∧ Cond.arrayClass .byte ∈ G ∧ Cond.arrayClass .long ∈ G ∧ Cond.arrayClass .double ∈ G) {r i : Instr} {n : Nat} (hd : decode cc pc = .ok (r, n)) (h : m_ckI lk ini tg ra pc r n i = true) : (m_sim P cl G own ini TG cc pc n i ∨ m_sim2 P cl G AOL TL tys cA own TG cc pc n i) ∨ m_simC P cl G TL NL Y TT INI NM y own cc pc n i := by
  unfold m_ckI at h
  split at h
  · next h1 =>
    obtain ⟨e1, e2⟩ := m_and h
    have e1 := of_decide_eq_true e1
    have e2 := of_decide_eq_true e2
    subst e1 e2
    cases r <;> first | (cases h1; done) | exact Or.inl (Or.inl ⟨rfl, hd⟩)
  · rename_i hne
    clear hne
    cases i
    case nop => exact Or.inl (Or.inl trivial)
    case ret k =>
      obtain ⟨e1, e2⟩ := m_and h
      have e1 := of_decide_eq_true e1
      have e2 := of_decide_eq_true e2
      subst e1 e2
      exact Or.inl (Or.inl ⟨rfl, hd⟩)
    case dcmp op =>
      obtain ⟨e1, e2⟩ := m_and h
      have e1 := of_decide_eq_true e1
      have e2 := of_decide_eq_true e2
      subst e1 e2
      exact Or.inl (Or.inl ⟨rfl, hd⟩)
    case fcmp op =>
      obtain ⟨e1, e2⟩ := m_and h
      have e1 := of_decide_eq_true e1
      have e2 := of_decide_eq_true e2
      subst e1 e2
      exact Or.inl (Or.inl ⟨rfl, hd⟩)
    case fload k =>
      obtain ⟨e1, e2⟩ := m_and h
      have e1 := of_decide_eq_true e1
      have e2 := of_decide_eq_true e2
      subst e1 e2
      exact Or.inl (Or.inl ⟨rfl, hd⟩)
    case dload k =>
      obtain ⟨e1, e2⟩ := m_and h
      have e1 := of_decide_eq_true e1
      have e2 := of_decide_eq_true e2
      subst e1 e2
      exact Or.inl (Or.inl ⟨rfl, hd⟩)
    case fstore k =>
      obtain ⟨e1, e2⟩ := m_and h
      have e1 := of_decide_eq_true e1
      have e2 := of_decide_eq_true e2
      subst e1 e2
      exact Or.inl (Or.inl ⟨rfl, hd⟩)
    case dstore k =>
      obtain ⟨e1, e2⟩ := m_and h
      have e1 := of_decide_eq_true e1
      have e2 := of_decide_eq_true e2
      subst e1 e2
      exact Or.inl (Or.inl ⟨rfl, hd⟩)
    case iinc k v =>
      obtain ⟨e1, e2⟩ := m_and h
      have e1 := of_decide_eq_true e1
      have e2 := of_decide_eq_true e2
      subst e1 e2
      exact Or.inl (Or.inl ⟨rfl, hd⟩)
    case fconst k =>
      obtain ⟨e0, e⟩ := m_and h
      obtain ⟨e1, e2⟩ := m_and e
      have e0 := of_decide_eq_true e0
      have e1 := of_decide_eq_true e1
      have e2 := of_decide_eq_true e2
      subst e0 e1 e2
      exact Or.inl (Or.inl ⟨rfl, rfl, hd⟩)
    case dconst k =>
      obtain ⟨e0, e2⟩ := m_and h
      have e2 := of_decide_eq_true e2
      subst e2
      rcases (Bool.or_eq_true _ _).mp e0 with e | e
      · obtain ⟨e0, e1⟩ := m_and e
        have e0 := of_decide_eq_true e0
        have e1 := of_decide_eq_true e1
        subst e0 e1
        exact Or.inl (Or.inl ⟨rfl, Or.inl ⟨rfl, hd⟩⟩)
      · obtain ⟨e0, e1⟩ := m_and e
        have e0 := of_decide_eq_true e0
        have e1 := of_decide_eq_true e1
        subst e0 e1
        exact Or.inl (Or.inl ⟨rfl, Or.inr ⟨rfl, hd⟩⟩)
    case iconst v =>
      dsimp only at h
      split at h
      · obtain ⟨e0, e2⟩ := m_and h
        have e2 := of_decide_eq_true e2
        subst e2
        exact Or.inl (Or.inl (Or.inl ⟨rfl, _, of_decide_eq_true e0, hd⟩))
      · obtain ⟨e0, e2⟩ := m_and h
        have e2 := of_decide_eq_true e2
        subst e2
        exact Or.inl (Or.inl (Or.inr (Or.inl ⟨rfl, _, of_decide_eq_true e0, hd⟩)))
      · obtain ⟨e0, e2⟩ := m_and h
        have e2 := of_decide_eq_true e2
        subst e2
        exact Or.inl (Or.inl (Or.inr (Or.inr (Or.inl ⟨rfl, _, of_decide_eq_true e0, hd⟩))))
      · next ix =>
        obtain ⟨e0, e2⟩ := m_and h
        have e2 := of_decide_eq_true e2
        subst e2
        split at e0
        · next a b hl =>
          have e0 := of_decide_eq_true e0
          have hk := hlk _ _ hl
          have hk : Jvm.Cond.constant own ix (Int32.ofNat a) ∈ G := hk
          rw [e0] at hk
          exact Or.inl (Or.inl (Or.inr (Or.inr (Or.inr (Or.inl ⟨rfl, _, hk, hd⟩)))))
        · cases e0
      · next ix =>
        obtain ⟨e0, e2⟩ := m_and h
        have e2 := of_decide_eq_true e2
        subst e2
        split at e0
        · next a b hl =>
          have e0 := of_decide_eq_true e0
          have hk := hlk _ _ hl
          have hk : Jvm.Cond.constant own ix (Int32.ofNat a) ∈ G := hk
          rw [e0] at hk
          exact Or.inl (Or.inl (Or.inr (Or.inr (Or.inr (Or.inr ⟨rfl, _, hk, hd⟩)))))
        · cases e0
      · cases h
    case ldc2_w v =>
      dsimp only at h
      split at h
      · obtain ⟨e0, e2⟩ := m_and h
        have e2 := of_decide_eq_true e2
        subst e2
        exact Or.inl (Or.inl (Or.inl ⟨rfl, _, of_decide_eq_true e0, hd⟩))
      · next ix =>
        obtain ⟨e0, e2⟩ := m_and h
        have e2 := of_decide_eq_true e2
        subst e2
        split at e0
        · next a b hl =>
          have e0 := of_decide_eq_true e0
          have hk := hlk _ _ hl
          have hk : Jvm.Cond.constantLong own ix (Int64.ofNat a) ∈ G := hk
          rw [e0] at hk
          exact Or.inl (Or.inl (Or.inr ⟨rfl, _, hk, hd⟩))
        · cases e0
      · cases h
    case iload k =>
      dsimp only at h
      split at h
      · obtain ⟨e0, e2⟩ := m_and h
        have e0 := of_decide_eq_true e0
        have e2 := of_decide_eq_true e2
        subst e0 e2
        exact Or.inl (Or.inl (Or.inl ⟨rfl, hd⟩))
      · obtain ⟨e0, e2⟩ := m_and h
        have e2 := of_decide_eq_true e2
        subst e2
        exact Or.inl (Or.inl (Or.inr ⟨rfl, _, of_decide_eq_true e0, hd⟩))
      · cases h
    case lload k =>
      dsimp only at h
      split at h
      · obtain ⟨e0, e2⟩ := m_and h
        have e0 := of_decide_eq_true e0
        have e2 := of_decide_eq_true e2
        subst e0 e2
        exact Or.inl (Or.inl (Or.inl ⟨rfl, hd⟩))
      · obtain ⟨e0, e2⟩ := m_and h
        have e2 := of_decide_eq_true e2
        subst e2
        exact Or.inl (Or.inl (Or.inr ⟨rfl, _, of_decide_eq_true e0, hd⟩))
      · cases h
    case aload k =>
      dsimp only at h
      split at h
      · obtain ⟨e0, e2⟩ := m_and h
        have e0 := of_decide_eq_true e0
        have e2 := of_decide_eq_true e2
        subst e0 e2
        exact Or.inl (Or.inl (Or.inl ⟨rfl, hd⟩))
      · obtain ⟨e0, e2⟩ := m_and h
        have e2 := of_decide_eq_true e2
        subst e2
        exact Or.inl (Or.inl (Or.inr ⟨rfl, _, of_decide_eq_true e0, hd⟩))
      · cases h
    case istore k =>
      dsimp only at h
      split at h
      · obtain ⟨e0, e2⟩ := m_and h
        have e0 := of_decide_eq_true e0
        have e2 := of_decide_eq_true e2
        subst e0 e2
        exact Or.inl (Or.inl (Or.inl ⟨rfl, hd⟩))
      · obtain ⟨e0, e2⟩ := m_and h
        have e2 := of_decide_eq_true e2
        subst e2
        exact Or.inl (Or.inl (Or.inr ⟨rfl, _, of_decide_eq_true e0, hd⟩))
      · cases h
    case astore k =>
      dsimp only at h
      split at h
      · obtain ⟨e0, e2⟩ := m_and h
        have e0 := of_decide_eq_true e0
        have e2 := of_decide_eq_true e2
        subst e0 e2
        exact Or.inl (Or.inl (Or.inl ⟨rfl, hd⟩))
      · obtain ⟨e0, e2⟩ := m_and h
        have e2 := of_decide_eq_true e2
        subst e2
        exact Or.inl (Or.inl (Or.inr ⟨rfl, _, of_decide_eq_true e0, hd⟩))
      · cases h
    case goto t =>
      dsimp only at h
      split at h
      · obtain ⟨e, e2⟩ := m_and h
        obtain ⟨e0, e1⟩ := m_and e
        have e2 := of_decide_eq_true e2
        subst e2
        exact Or.inl (Or.inl ⟨rfl, ⟨_, of_decide_eq_true e0, hd⟩, htg _ e1⟩)
      · cases h
    case ifnull t =>
      dsimp only at h
      split at h
      · obtain ⟨e, e2⟩ := m_and h
        obtain ⟨e0, e1⟩ := m_and e
        have e2 := of_decide_eq_true e2
        subst e2
        exact Or.inl (Or.inl ⟨rfl, ⟨_, of_decide_eq_true e0, hd⟩, htg _ e1⟩)
      · cases h
    case ifnonnull t =>
      dsimp only at h
      split at h
      · obtain ⟨e, e2⟩ := m_and h
        obtain ⟨e0, e1⟩ := m_and e
        have e2 := of_decide_eq_true e2
        subst e2
        exact Or.inl (Or.inl ⟨rfl, ⟨_, of_decide_eq_true e0, hd⟩, htg _ e1⟩)
      · cases h
    case ifCond z t =>
      dsimp only at h
      split at h
      · obtain ⟨e, e2⟩ := m_and h
        obtain ⟨e, e1⟩ := m_and e
        obtain ⟨e3, e0⟩ := m_and e
        have e2 := of_decide_eq_true e2
        have e3 := of_decide_eq_true e3
        subst e2 e3
        exact Or.inl (Or.inl ⟨rfl, ⟨_, of_decide_eq_true e0, hd⟩, htg _ e1⟩)
      · cases h
    case if_icmp z t =>
      dsimp only at h
      split at h
      · obtain ⟨e, e2⟩ := m_and h
        obtain ⟨e, e1⟩ := m_and e
        obtain ⟨e3, e0⟩ := m_and e
        have e2 := of_decide_eq_true e2
        have e3 := of_decide_eq_true e3
        subst e2 e3
        exact Or.inl (Or.inl ⟨rfl, ⟨_, of_decide_eq_true e0, hd⟩, htg _ e1⟩)
      · cases h
    case tableswitch d lo hi ts =>
      dsimp only at h
      split at h
      · next dflt lo' hi' offs =>
        obtain ⟨h, e6⟩ := m_and h
        obtain ⟨h, e5⟩ := m_and h
        obtain ⟨h, e4⟩ := m_and h
        obtain ⟨h, e3⟩ := m_and h
        obtain ⟨e1, e2⟩ := m_and h
        have e1 := of_decide_eq_true e1
        have e2 := of_decide_eq_true e2
        subst e1 e2
        refine Or.inl (Or.inl ⟨dflt, offs, of_decide_eq_true e3, htg _ e4, fun k t hk => ?_, hd⟩)
        have hlt : k < ts.size := (Array.getElem?_eq_some_iff.mp hk).1
        have e7 := List.all_eq_true.mp e6 k (List.mem_range.mpr hlt)
        rw [hk] at e7
        split at e7
        · next t' off ht ho =>
          cases ht
          obtain ⟨f1, f2⟩ := m_and e7
          exact ⟨htg _ f2, off, ho, of_decide_eq_true f1⟩
        · cases e7
      · cases h
    case getfield x =>
      dsimp only at h
      split at h
      · next ix =>
        obtain ⟨e0, e2⟩ := m_and h
        have e2 := of_decide_eq_true e2
        subst e2
        split at e0
        · next a b hl =>
          have e0 := of_decide_eq_true e0
          have hk := hlk _ _ hl
          subst e0
          obtain ⟨C, T, k1, k2, -⟩ := hk
          exact Or.inl (Or.inl ⟨rfl, ix, C, T, k1, k2, hd⟩)
        · cases e0
      · cases h
    case putfield x =>
      dsimp only at h
      split at h
      · next ix =>
        obtain ⟨e0, e2⟩ := m_and h
        have e2 := of_decide_eq_true e2
        subst e2
        split at e0
        · next a b hl =>
          obtain ⟨e0, e1⟩ := m_and e0
          have e0 := of_decide_eq_true e0
          have hk := hlk _ _ hl
          subst e0
          obtain ⟨C, T, k1, k2, k3⟩ := hk
          refine Or.inl (Or.inl ⟨rfl, ix, C, T, k1, k2, ?_, hd⟩)
          rcases k3 with ⟨-, k3⟩ | ⟨k4, k3, k5⟩ | k4
          · exact Or.inl k3
          · refine Or.inr ⟨k3, ?_, k5⟩
            rcases (Bool.or_eq_true _ _).mp e1 with w | w
            · have w := of_decide_eq_true w
              have k4 : b = 1 := k4
              omega
            · exact (m_and w).1
          · exfalso
            have k4 : b = 2 := k4
            rcases (Bool.or_eq_true _ _).mp e1 with w | w
            · have w := of_decide_eq_true w
              omega
            · have w := of_decide_eq_true (m_and w).2
              omega
        · cases e0
      · cases h
    case newarray t =>
      obtain ⟨e, e0⟩ := m_and h
      obtain ⟨e1, e2⟩ := m_and e
      have e1 := of_decide_eq_true e1
      have e2 := of_decide_eq_true e2
      subst e1 e2
      cases t
      case int => exact Or.inl (Or.inl ⟨rfl, harr.1, hd⟩)
      case byte => exact Or.inl (Or.inl ⟨rfl, harr.2.1, hd⟩)
      case long => exact Or.inl (Or.inl ⟨rfl, harr.2.2.1, hd⟩)
      case double => exact Or.inl (Or.inl ⟨rfl, harr.2.2.2, hd⟩)
      all_goals cases e0
    case new ci =>
      dsimp only at h
      split at h
      · next ix =>
        obtain ⟨e0, e2⟩ := m_and h
        have e2 := of_decide_eq_true e2
        subst e2
        split at e0
        · next a b hl =>
          have e0 := of_decide_eq_true e0
          have hk := hlk _ _ hl
          subst e0
          obtain ⟨⟨C, T, k1, k2, k3, k4⟩, -⟩ := hk
          exact Or.inl (Or.inl ⟨rfl, ix, C, T, k1, k2, k3, k4, hd⟩)
        · cases e0
      · cases h
    case anewarray ci =>
      dsimp only at h
      split at h
      · next ix =>
        obtain ⟨e0, e2⟩ := m_and h
        have e2 := of_decide_eq_true e2
        subst e2
        split at e0
        · next a hl =>
          have e0 := of_decide_eq_true e0
          have hk := hlk _ _ hl
          subst e0
          obtain ⟨-, hk⟩ := hk
          obtain ⟨C, k1, k2, k3⟩ := hk rfl
          exact Or.inl (Or.inr ⟨rfl, ix, C, k1, k2, k3, hd⟩)
        · next a b hl =>
          have e0 := of_decide_eq_true e0
          have hk := hlk _ _ hl
          subst e0
          obtain ⟨C, k1, k2, k3⟩ := hk
          exact Or.inl (Or.inr ⟨rfl, ix, C, k1, k2, k3, hd⟩)
        · cases e0
      · cases h
    case getstatic k =>
      dsimp only at h
      split at h
      · next ix =>
        obtain ⟨e0, e2⟩ := m_and h
        have e2 := of_decide_eq_true e2
        subst e2
        split at e0
        · next a b hl =>
          have e0 := of_decide_eq_true e0
          have hk := hlk _ _ hl
          subst e0
          obtain ⟨k1, nm, k2, k3⟩ := hk
          exact Or.inl (Or.inr ⟨rfl, k1, ix, nm, k2, k3, hd⟩)
        · cases e0
      · cases h
    case invokevirtual z =>
      dsimp only at h
      split at h
      · next ix =>
        obtain ⟨e0, e2⟩ := m_and h
        have e2 := of_decide_eq_true e2
        subst e2
        split at e0
        · next a b hl =>
          have e0 := of_decide_eq_true e0
          have hk := hlk _ _ hl
          subst e0
          obtain ⟨k1, k2, k3, k4, k5, k6, k7⟩ := hk
          exact Or.inr ⟨rfl, k1, k2, ix, k3, k4, k5, k6, k7, hd⟩
        · cases e0
      · cases h
    case invokestatic z =>
      dsimp only at h
      split at h
      · next ix =>
        obtain ⟨e0, e2⟩ := m_and h
        have e2 := of_decide_eq_true e2
        subst e2
        split at e0
        · next a b hl =>
          have e0 := of_decide_eq_true e0
          have hk := hlk _ _ hl
          subst e0
          obtain ⟨k1, k3, k4, k5⟩ := hk
          exact Or.inr ⟨rfl, k1, ix, k3, k4, k5, hd⟩
        · next a b hl =>
          have e0 := of_decide_eq_true e0
          have hk := hlk _ _ hl
          subst e0
          exact Or.inl (Or.inl ⟨rfl, ix, hk, hd⟩)
        · cases e0
      · cases h
    case invokespecial z =>
      dsimp only at h
      split at h
      · next ix =>
        obtain ⟨e0, e2⟩ := m_and h
        have e2 := of_decide_eq_true e2
        subst e2
        split at e0
        · next a b hl =>
          have e0 := of_decide_eq_true e0
          have hk := hlk _ _ hl
          subst e0
          obtain ⟨k1, k2, k3, k4, k5, k6, k7⟩ := hk
          exact Or.inr ⟨rfl, k1, k2, k3, k4, ix, k5, k6, k7, hd⟩
        · next a b hl =>
          have e0 := of_decide_eq_true e0
          have hk := hlk _ _ hl
          subst e0
          obtain ⟨k1, k2, k3⟩ := hk
          exact Or.inl (Or.inl ⟨rfl, rfl, ix, k1, k2, k3, hd⟩)
        · cases e0
      · cases h
    case ldc_w z =>
      obtain ⟨e, e0⟩ := m_and h
      obtain ⟨e1, e2⟩ := m_and e
      have e1 := of_decide_eq_true e1
      have e2 := of_decide_eq_true e2
      subst e1 e2
      refine Or.inl (Or.inr ⟨rfl, ?_, hd⟩)
      simp only [Bool.or_eq_true, Bool.and_eq_true, decide_eq_true_eq] at e0
      rcases e0 with (((rfl | rfl) | rfl) | rfl) | ⟨w, w2⟩
      · exact ⟨_, hAk.1⟩
      · exact ⟨_, hAk.2.1⟩
      · exact ⟨_, hAk.2.2.1⟩
      · exact ⟨_, hAk.2.2.2⟩
      · obtain ⟨r, -, k2⟩ := hra _ w2
        rw [show 200 + (z - 200) = z by omega] at k2
        exact ⟨_, k2⟩
    case checkcast ci =>
      obtain ⟨e, e0⟩ := m_and h
      obtain ⟨e1, e2⟩ := m_and e
      have e1 := of_decide_eq_true e1
      have e2 := of_decide_eq_true e2
      subst e1 e2
      obtain ⟨r, -, k2⟩ := hra _ e0
      exact Or.inl (Or.inr ⟨rfl, ⟨_, k2⟩, hd⟩)
    case instanceof ci =>
      obtain ⟨e, e0⟩ := m_and h
      obtain ⟨e1, e2⟩ := m_and e
      have e1 := of_decide_eq_true e1
      have e2 := of_decide_eq_true e2
      subst e1 e2
      obtain ⟨r, k1, k2⟩ := hra _ e0
      exact Or.inl (Or.inr ⟨rfl, ⟨r, k1, k2⟩, hd⟩)
    all_goals (exfalso; cases h; done)
theorem m_rck_ok {tt : Option FieldType} {i : Instr} (h : m_rck tt i = true) : m_ret tt i ∨ ¬ (∃ t, m_ret t i) := by
  cases i
  case ireturn => exact Or.inl (show tt = some .int from of_decide_eq_true h)
  case ret k => exact Or.inl (show tt = some .boolean from of_decide_eq_true h)
  case areturn =>
    simp only [m_rck] at h
    split at h
    · exact Or.inl ⟨_, rfl, Or.inl ⟨_, rfl⟩⟩
    · exact Or.inl ⟨_, rfl, Or.inr ⟨_, rfl⟩⟩
    · cases h
  case freturn => exact Or.inl (show tt = some .float from of_decide_eq_true h)
  case dreturn => exact Or.inl (show tt = some .double from of_decide_eq_true h)
  case return_ => exact Or.inl (show tt = none from of_decide_eq_true h)
  all_goals exact Or.inr (fun ⟨_, z⟩ => z)
theorem m_ck_ok (hlk : ∀ ix q, lk ix = some q → m_lkok P cl G AOL TL NL tys cA Y TT INI NM own ix q) (htg : ∀ t, tg t = true → TG t) (hra : ∀ ci, ra ci = true → ∃ r : vw_C, cl[ci]? = some r ∧ m_aok tys cA (200 + ci) (.object r.1)) (hAk : m_aok tys cA 100 .int ∧ m_aok tys cA 101 .byte ∧ m_aok tys cA 102 .long ∧ m_aok tys cA 103 .double) (harr : Cond.arrayClass .int ∈ G ∧ Cond.arrayClass .byte ∈ G ∧ Cond.arrayClass .long ∈ G ∧ Cond.arrayClass .double ∈ G) (hhy : m_hh P y = hh) {i : Instr} {k : Nat} (h : m_ck lk ini hh tg ra cc pc i = k + 1) : (m_sim P cl G own ini TG cc pc (k + 1) i ∨ m_sim2 P cl G AOL TL tys cA own TG cc pc (k + 1) i) ∨ m_simC P cl G TL NL Y TT INI NM y own cc pc (k + 1) i := by
  unfold m_ck at h
  split at h
  · next x =>
    split at h
    · next ik is ic d0 d3 d4 d6 d9 =>
      split at h
      · next a b1 b2 b3 b b4 h1 h3 h2 =>
        split at h
        · next w =>
          obtain ⟨rfl, rfl, w4⟩ := w
          obtain ⟨q1, q2, q3, q4, q5, q6, q7⟩ := hlk _ _ h1
          obtain ⟨text, p1⟩ := hlk _ _ h3
          obtain ⟨p2, p3, p4⟩ := hlk _ _ h2
          have hk : k + 1 = 10 := h.symm
          rw [hk]
          exact Or.inr ⟨rfl, q1, hhy.trans w4, ik, _, ic, text, p1, q2, q3, q4, q5, List.forall_mem_cons.mpr ⟨q6, List.forall_mem_cons.mpr ⟨q7, p2⟩⟩, p3, p4, d0, d3, d4, d6, d9⟩
        · cases h
      · cases h
    · cases h
  · split at h
    · next r n hd =>
      split at h
      · next w =>
        subst h
        exact m_ckI_ok hlk htg hra hAk harr hd w
      · cases h
    · cases h
theorem m_seg_at {B : Nat → ByteArray} {INI : Nat → Bool} {TGz : Nat → Nat → Prop} {HH : Nat → List (Nat × Nat × Nat × Nat)} {z : Nat} (hlk : ∀ ix q, lk ix = some q → m_lkok P cl G AOL TL NL tys cA Y TT INI NM (Y z).cls ix q) (htg : ∀ t, tg t = true → TGz z t) (hra : ∀ ci, ra ci = true → ∃ r : vw_C, cl[ci]? = some r ∧ m_aok tys cA (200 + ci) (.object r.1)) (hAk : m_aok tys cA 100 .int ∧ m_aok tys cA 101 .byte ∧ m_aok tys cA 102 .long ∧ m_aok tys cA 103 .double) (harr : Cond.arrayClass .int ∈ G ∧ Cond.arrayClass .byte ∈ G ∧ Cond.arrayClass .long ∈ G ∧ Cond.arrayClass .double ∈ G) (hhy : m_hh P z = hh) {cv : Nat → Bool} (hcov : hh = true → ∀ pc i, cv pc = true → m_cov P G Y B HH z pc i) : ∀ (seg tail : List Instr) (pc pc' : Nat), m_seg lk (TT z) (INI z) hh tg ra cv (B z) seg pc = some pc' → m_at P cl G AOL TL NL tys cA Y B TT INI TGz NM HH z tail pc' → m_at P cl G AOL TL NL tys cA Y B TT INI TGz NM HH z (seg ++ tail) pc
  | [], tail, pc, pc', h, ht => by
    cases h
    exact ht
  | i :: is, tail, pc, pc', h, ht => by
    unfold m_seg at h
    split at h
    · next k h1 h2 =>
      obtain ⟨h1, h3⟩ := m_and h1
      refine ⟨k + 1, ?_, m_rck_ok h1, m_seg_at hlk htg hra hAk harr hhy hcov is tail _ pc' h ht⟩
      rcases m_ck_ok (y := z) hlk htg hra hAk harr hhy h2 with w | w
      · exact Or.inl w
      · refine Or.inr ⟨w, ?_⟩
        have hi : m_isc i = true := by cases i <;> first | rfl | exact w.elim
        rw [hi] at h3
        cases hb : hh with
        | false => exact fun z1 => by rw [hhy, hb] at z1; cases z1
        | true =>
          rw [hb] at h3
          exact hcov hb pc i (by simpa using h3)
    · cases h
end CHK
end
section
/-! a method's code in stretches, and its check in one -/
def m_fl : List (Nat × List Instr) → List Instr
  | [] => []
  | q :: S => q.2 ++ m_fl S
def m_tgl : List (Nat × List Instr) → Nat → List Instr
  | [], _ => []
  | q :: S, t => if t = q.1 then q.2 ++ m_fl S else m_tgl S t
def m_tgb (S : List (Nat × List Instr)) (t : Nat) : Bool := S.any (fun q => q.1 == t)
def m_ckS (lk : Nat → Option (Nat × Nat × Nat)) (tt : Option FieldType) (ini hh : Bool) (tg : Nat → Bool) (ra : Nat → Bool) (cv : Nat → Bool) (cc : ByteArray) : List (Nat × List Instr) → Bool
  | [] => true
  | q :: S => match m_seg lk tt ini hh tg ra cv cc q.2 q.1 with
    | none => false
    | some pc' => (match S with | [] => true | q' :: _ => q'.1 == pc') && m_ckS lk tt ini hh tg ra cv cc S
section SEGS
variable {l : Launch} {P : m_P} {cl : List vw_C} {D : va_G} {cA : Nat → ClassId} {tys : List (ClassId × FieldType)} {G : List Cond} {AOL : List String × List (Nat × String)} {TL : List (String × Nat × Nat × Nat × String)} {NL : List (String × Nat × MethodName × String)} {Y : Nat → MethodName} {B : Nat → ByteArray} {TT : Nat → Option FieldType} {INI : Nat → Bool} {TGz : Nat → Nat → Prop} {NM : Nat} {HH : Nat → List (Nat × Nat × Nat × Nat)} {lk : Nat → Option (Nat × Nat × Nat)} {hh : Bool} {tg ra cv : Nat → Bool} {z : Nat}
theorem m_ckS_at (hlk : ∀ ix q, lk ix = some q → m_lkok P cl G AOL TL NL tys cA Y TT INI NM (Y z).cls ix q) (htg : ∀ t, tg t = true → TGz z t) (hra : ∀ ci, ra ci = true → ∃ r : vw_C, cl[ci]? = some r ∧ m_aok tys cA (200 + ci) (.object r.1)) (hAk : m_aok tys cA 100 .int ∧ m_aok tys cA 101 .byte ∧ m_aok tys cA 102 .long ∧ m_aok tys cA 103 .double) (harr : Cond.arrayClass .int ∈ G ∧ Cond.arrayClass .byte ∈ G ∧ Cond.arrayClass .long ∈ G ∧ Cond.arrayClass .double ∈ G) (hhy : m_hh P z = hh) (hcov : hh = true → ∀ pc i, cv pc = true → m_cov P G Y B HH z pc i) :
    ∀ (S : List (Nat × List Instr)), m_ckS lk (TT z) (INI z) hh tg ra cv (B z) S = true → (∀ q S', S = q :: S' → m_at P cl G AOL TL NL tys cA Y B TT INI TGz NM HH z (m_fl S) q.1) ∧ ∀ t, m_tgb S t = true → m_at P cl G AOL TL NL tys cA Y B TT INI TGz NM HH z (m_tgl S t) t
  | [], _ => ⟨(fun _ _ h => by cases h), (fun t h => by cases (show false = true from h))⟩
  | q :: S, h => by
    unfold m_ckS at h
    split at h
    · cases h
    · next pc' hs =>
      obtain ⟨h1, h2⟩ := m_and h
      obtain ⟨i1, i2⟩ := m_ckS_at hlk htg hra hAk harr hhy hcov S h2
      have hhead : m_at P cl G AOL TL NL tys cA Y B TT INI TGz NM HH z (q.2 ++ m_fl S) q.1 := by
        refine m_seg_at hlk htg hra hAk harr hhy hcov q.2 (m_fl S) q.1 pc' hs ?_
        cases S with
        | nil => trivial
        | cons q' S' =>
          have e : q'.1 = pc' := by simpa using h1
          rw [← e]
          exact i1 q' S' rfl
      refine ⟨fun q0 S0 e => by cases e; exact hhead, fun t ht => ?_⟩
      unfold m_tgl
      by_cases e : t = q.1
      · rw [if_pos e, e]
        exact hhead
      · rw [if_neg e]
        refine i2 t ?_
        unfold m_tgb at ht ⊢
        rw [List.any_cons] at ht
        rcases (Bool.or_eq_true _ _).mp ht with w | w
        · exact absurd (by simpa using w : q.1 = t).symm e
        · exact w
theorem m_find_ok {t : List (Nat × Nat × Nat × Nat)} {Q : Nat → Nat × Nat × Nat → Prop} (h : ∀ e ∈ t, Q e.1 e.2) : ∀ ix q, (t.find? (fun e => e.1 == ix)).map (fun e => e.2) = some q → Q ix q := by
  intro ix q hq
  cases hf : t.find? (fun e => e.1 == ix) with
  | none => rw [hf] at hq; cases hq
  | some e =>
    rw [hf] at hq
    cases hq
    have h1 := List.find?_some hf
    have h2 : e.1 = ix := by simpa using h1
    rw [← h2]
    exact h e (List.mem_of_find?_eq_some hf)
end SEGS
end
section
-- ===== PART A: goes FIRST, ahead of the names: the tables' words, and 'selects' of the private methods out of them =====
/-- a private method of a class that the tables say can be made, by its rows of tables_1 -/
def lw_okq (q : MethodName × Nat) : Prop := (q.1.cls ≠ "java/lang/invoke/MethodHandle" ∧ q.1.cls ≠ "java/lang/invoke/VarHandle") ∧ Cond.instantiable q.1.cls q.2 ∈ tables_1 ∧ Cond.privateMethod q.1 ∈ tables_1 ∧ Cond.instanceMethod q.1 ∈ tables_1
theorem lw_p0 : lw_okq (⟨"DriverHost", "append", "(I)V"⟩, 8) := ⟨⟨by decide +kernel, by decide +kernel⟩, List.mem_of_getElem? (i := 27) (by decide +kernel), List.mem_of_getElem? (i := 391) (by decide +kernel), List.mem_of_getElem? (i := 392) (by decide +kernel)⟩
theorem lw_p1 : lw_okq (⟨"java/lang/Throwable", "fillInStackTrace", "(I)Ljava/lang/Throwable;"⟩, 6) := ⟨⟨by decide +kernel, by decide +kernel⟩, List.mem_of_getElem? (i := 517) (by decide +kernel), List.mem_of_getElem? (i := 515) (by decide +kernel), List.mem_of_getElem? (i := 516) (by decide +kernel)⟩
theorem lw_p2 : lw_okq (⟨"DriverHost$Tokens", "endOf", "(I)I"⟩, 11) := ⟨⟨by decide +kernel, by decide +kernel⟩, List.mem_of_getElem? (i := 552) (by decide +kernel), List.mem_of_getElem? (i := 637) (by decide +kernel), List.mem_of_getElem? (i := 638) (by decide +kernel)⟩
theorem lw_p3 : lw_okq (⟨"DriverHost$Tokens", "add", "(II)V"⟩, 11) := ⟨⟨by decide +kernel, by decide +kernel⟩, List.mem_of_getElem? (i := 552) (by decide +kernel), List.mem_of_getElem? (i := 647) (by decide +kernel), List.mem_of_getElem? (i := 648) (by decide +kernel)⟩
theorem lw_p4 : lw_okq (⟨"DriverHost$Word", "stands", "([BII)Z"⟩, 7) := ⟨⟨by decide +kernel, by decide +kernel⟩, List.mem_of_getElem? (i := 658) (by decide +kernel), List.mem_of_getElem? (i := 656) (by decide +kernel), List.mem_of_getElem? (i := 657) (by decide +kernel)⟩
theorem lw_p5 : lw_okq (⟨"DriverHost$Tokens", "numberOf", "(II)I"⟩, 11) := ⟨⟨by decide +kernel, by decide +kernel⟩, List.mem_of_getElem? (i := 552) (by decide +kernel), List.mem_of_getElem? (i := 709) (by decide +kernel), List.mem_of_getElem? (i := 710) (by decide +kernel)⟩
theorem lw_p6 : lw_okq (⟨"DriverHost$Reader", "takeWord", "(LDriverHost$Word;)V"⟩, 7) := ⟨⟨by decide +kernel, by decide +kernel⟩, List.mem_of_getElem? (i := 546) (by decide +kernel), List.mem_of_getElem? (i := 716) (by decide +kernel), List.mem_of_getElem? (i := 717) (by decide +kernel)⟩
theorem lw_p7 : lw_okq (⟨"DriverHost$Reader", "takeNumber", "(II)I"⟩, 7) := ⟨⟨by decide +kernel, by decide +kernel⟩, List.mem_of_getElem? (i := 546) (by decide +kernel), List.mem_of_getElem? (i := 732) (by decide +kernel), List.mem_of_getElem? (i := 733) (by decide +kernel)⟩
theorem lw_p8 : lw_okq (⟨"DriverHost$Reader", "takeSign", "(C)V"⟩, 7) := ⟨⟨by decide +kernel, by decide +kernel⟩, List.mem_of_getElem? (i := 546) (by decide +kernel), List.mem_of_getElem? (i := 744) (by decide +kernel), List.mem_of_getElem? (i := 745) (by decide +kernel)⟩
theorem lw_p9 : lw_okq (⟨"DriverHost$Reader", "readClause", "()V"⟩, 7) := ⟨⟨by decide +kernel, by decide +kernel⟩, List.mem_of_getElem? (i := 546) (by decide +kernel), List.mem_of_getElem? (i := 756) (by decide +kernel), List.mem_of_getElem? (i := 757) (by decide +kernel)⟩
theorem lw_p10 : lw_okq (⟨"DriverHost$Reader", "readCommand", "()V"⟩, 7) := ⟨⟨by decide +kernel, by decide +kernel⟩, List.mem_of_getElem? (i := 546) (by decide +kernel), List.mem_of_getElem? (i := 766) (by decide +kernel), List.mem_of_getElem? (i := 767) (by decide +kernel)⟩
theorem lw_p11 : lw_okq (⟨"DriverHost$Reader", "readName", "(LDriverHost$Command;)V"⟩, 7) := ⟨⟨by decide +kernel, by decide +kernel⟩, List.mem_of_getElem? (i := 546) (by decide +kernel), List.mem_of_getElem? (i := 818) (by decide +kernel), List.mem_of_getElem? (i := 819) (by decide +kernel)⟩
theorem lw_p12 : lw_okq (⟨"DriverHost$Reader", "readClass", "(LDriverHost$Command;)V"⟩, 7) := ⟨⟨by decide +kernel, by decide +kernel⟩, List.mem_of_getElem? (i := 546) (by decide +kernel), List.mem_of_getElem? (i := 850) (by decide +kernel), List.mem_of_getElem? (i := 851) (by decide +kernel)⟩
theorem lw_p13 : lw_okq (⟨"DriverHost$Reader", "readTest", "()V"⟩, 7) := ⟨⟨by decide +kernel, by decide +kernel⟩, List.mem_of_getElem? (i := 546) (by decide +kernel), List.mem_of_getElem? (i := 854) (by decide +kernel), List.mem_of_getElem? (i := 855) (by decide +kernel)⟩
theorem lw_p14 : lw_okq (⟨"DriverHost$Reader", "readConjunction", "()V"⟩, 7) := ⟨⟨by decide +kernel, by decide +kernel⟩, List.mem_of_getElem? (i := 546) (by decide +kernel), List.mem_of_getElem? (i := 858) (by decide +kernel), List.mem_of_getElem? (i := 859) (by decide +kernel)⟩
theorem lw_p15 : lw_okq (⟨"DriverHost$Reader", "readFactor", "()V"⟩, 7) := ⟨⟨by decide +kernel, by decide +kernel⟩, List.mem_of_getElem? (i := 546) (by decide +kernel), List.mem_of_getElem? (i := 862) (by decide +kernel), List.mem_of_getElem? (i := 863) (by decide +kernel)⟩
def lw_privs_1 : List (MethodName × Nat) := [(⟨"DriverHost", "append", "(I)V"⟩, 8), (⟨"java/lang/Throwable", "fillInStackTrace", "(I)Ljava/lang/Throwable;"⟩, 6), (⟨"DriverHost$Tokens", "endOf", "(I)I"⟩, 11), (⟨"DriverHost$Tokens", "add", "(II)V"⟩, 11), (⟨"DriverHost$Word", "stands", "([BII)Z"⟩, 7), (⟨"DriverHost$Tokens", "numberOf", "(II)I"⟩, 11), (⟨"DriverHost$Reader", "takeWord", "(LDriverHost$Word;)V"⟩, 7), (⟨"DriverHost$Reader", "takeNumber", "(II)I"⟩, 7), (⟨"DriverHost$Reader", "takeSign", "(C)V"⟩, 7), (⟨"DriverHost$Reader", "readClause", "()V"⟩, 7), (⟨"DriverHost$Reader", "readCommand", "()V"⟩, 7), (⟨"DriverHost$Reader", "readName", "(LDriverHost$Command;)V"⟩, 7), (⟨"DriverHost$Reader", "readClass", "(LDriverHost$Command;)V"⟩, 7), (⟨"DriverHost$Reader", "readTest", "()V"⟩, 7), (⟨"DriverHost$Reader", "readConjunction", "()V"⟩, 7), (⟨"DriverHost$Reader", "readFactor", "()V"⟩, 7)]
theorem lw_r1 : ∀ q ∈ lw_privs_1, lw_okq q := List.forall_mem_cons.mpr ⟨lw_p0, List.forall_mem_cons.mpr ⟨lw_p1, List.forall_mem_cons.mpr ⟨lw_p2, List.forall_mem_cons.mpr ⟨lw_p3, List.forall_mem_cons.mpr ⟨lw_p4, List.forall_mem_cons.mpr ⟨lw_p5, List.forall_mem_cons.mpr ⟨lw_p6, List.forall_mem_cons.mpr ⟨lw_p7, List.forall_mem_cons.mpr ⟨lw_p8, List.forall_mem_cons.mpr ⟨lw_p9, List.forall_mem_cons.mpr ⟨lw_p10, List.forall_mem_cons.mpr ⟨lw_p11, List.forall_mem_cons.mpr ⟨lw_p12, List.forall_mem_cons.mpr ⟨lw_p13, List.forall_mem_cons.mpr ⟨lw_p14, List.forall_mem_cons.mpr ⟨lw_p15, fun _ h => absurd h List.not_mem_nil⟩⟩⟩⟩⟩⟩⟩⟩⟩⟩⟩⟩⟩⟩⟩⟩
theorem lw_p16 : lw_okq (⟨"DriverHost$Reader", "opens", "()Z"⟩, 7) := ⟨⟨by decide +kernel, by decide +kernel⟩, List.mem_of_getElem? (i := 546) (by decide +kernel), List.mem_of_getElem? (i := 868) (by decide +kernel), List.mem_of_getElem? (i := 869) (by decide +kernel)⟩
theorem lw_p17 : lw_okq (⟨"DriverHost$Reader", "readProperty", "()V"⟩, 7) := ⟨⟨by decide +kernel, by decide +kernel⟩, List.mem_of_getElem? (i := 546) (by decide +kernel), List.mem_of_getElem? (i := 876) (by decide +kernel), List.mem_of_getElem? (i := 877) (by decide +kernel)⟩
theorem lw_p18 : lw_okq (⟨"DriverHost$Reader", "takeComparison", "()I"⟩, 7) := ⟨⟨by decide +kernel, by decide +kernel⟩, List.mem_of_getElem? (i := 546) (by decide +kernel), List.mem_of_getElem? (i := 881) (by decide +kernel), List.mem_of_getElem? (i := 882) (by decide +kernel)⟩
theorem lw_p19 : lw_okq (⟨"DriverHost$Reader", "readSum", "()V"⟩, 7) := ⟨⟨by decide +kernel, by decide +kernel⟩, List.mem_of_getElem? (i := 546) (by decide +kernel), List.mem_of_getElem? (i := 885) (by decide +kernel), List.mem_of_getElem? (i := 886) (by decide +kernel)⟩
theorem lw_p20 : lw_okq (⟨"DriverHost$Reader", "readProduct", "()V"⟩, 7) := ⟨⟨by decide +kernel, by decide +kernel⟩, List.mem_of_getElem? (i := 546) (by decide +kernel), List.mem_of_getElem? (i := 889) (by decide +kernel), List.mem_of_getElem? (i := 890) (by decide +kernel)⟩
theorem lw_p21 : lw_okq (⟨"DriverHost$Reader", "readOperand", "()V"⟩, 7) := ⟨⟨by decide +kernel, by decide +kernel⟩, List.mem_of_getElem? (i := 546) (by decide +kernel), List.mem_of_getElem? (i := 893) (by decide +kernel), List.mem_of_getElem? (i := 894) (by decide +kernel)⟩
theorem lw_p22 : lw_okq (⟨"DriverHost$Reader", "readStores", "(LDriverHost$Word;II)V"⟩, 7) := ⟨⟨by decide +kernel, by decide +kernel⟩, List.mem_of_getElem? (i := 546) (by decide +kernel), List.mem_of_getElem? (i := 916) (by decide +kernel), List.mem_of_getElem? (i := 917) (by decide +kernel)⟩
theorem lw_p23 : lw_okq (⟨"DriverHost$World", "leaveQueue", "(LDriverHost$Driver;LDriverHost$Request;)V"⟩, 7) := ⟨⟨by decide +kernel, by decide +kernel⟩, List.mem_of_getElem? (i := 35) (by decide +kernel), List.mem_of_getElem? (i := 1017) (by decide +kernel), List.mem_of_getElem? (i := 1018) (by decide +kernel)⟩
theorem lw_p24 : lw_okq (⟨"DriverHost$World", "strike", "(LDriverHost$Request;)V"⟩, 7) := ⟨⟨by decide +kernel, by decide +kernel⟩, List.mem_of_getElem? (i := 35) (by decide +kernel), List.mem_of_getElem? (i := 1048) (by decide +kernel), List.mem_of_getElem? (i := 1049) (by decide +kernel)⟩
theorem lw_p25 : lw_okq (⟨"DriverHost$World", "die", "(LDriverHost$Driver;)V"⟩, 7) := ⟨⟨by decide +kernel, by decide +kernel⟩, List.mem_of_getElem? (i := 35) (by decide +kernel), List.mem_of_getElem? (i := 1053) (by decide +kernel), List.mem_of_getElem? (i := 1054) (by decide +kernel)⟩
theorem lw_p26 : lw_okq (⟨"DriverHost$World", "delayFor", "(I)I"⟩, 7) := ⟨⟨by decide +kernel, by decide +kernel⟩, List.mem_of_getElem? (i := 35) (by decide +kernel), List.mem_of_getElem? (i := 1062) (by decide +kernel), List.mem_of_getElem? (i := 1063) (by decide +kernel)⟩
theorem lw_p27 : lw_okq (⟨"DriverHost$World", "step", "(LDriverHost$Driver;)V"⟩, 7) := ⟨⟨by decide +kernel, by decide +kernel⟩, List.mem_of_getElem? (i := 35) (by decide +kernel), List.mem_of_getElem? (i := 1132) (by decide +kernel), List.mem_of_getElem? (i := 1133) (by decide +kernel)⟩
theorem lw_p28 : lw_okq (⟨"DriverHost$World", "restart", "(LDriverHost$Driver;)V"⟩, 7) := ⟨⟨by decide +kernel, by decide +kernel⟩, List.mem_of_getElem? (i := 35) (by decide +kernel), List.mem_of_getElem? (i := 1136) (by decide +kernel), List.mem_of_getElem? (i := 1137) (by decide +kernel)⟩
theorem lw_p29 : lw_okq (⟨"DriverHost$World", "doKeepings", "(LDriverHost$Driver;LDriverHost$Request;)V"⟩, 7) := ⟨⟨by decide +kernel, by decide +kernel⟩, List.mem_of_getElem? (i := 35) (by decide +kernel), List.mem_of_getElem? (i := 1148) (by decide +kernel), List.mem_of_getElem? (i := 1149) (by decide +kernel)⟩
theorem lw_p30 : lw_okq (⟨"DriverHost$World", "resultNow", "(LDriverHost$Driver;LDriverHost$Request;)I"⟩, 7) := ⟨⟨by decide +kernel, by decide +kernel⟩, List.mem_of_getElem? (i := 35) (by decide +kernel), List.mem_of_getElem? (i := 1172) (by decide +kernel), List.mem_of_getElem? (i := 1173) (by decide +kernel)⟩
theorem lw_p31 : lw_okq (⟨"DriverHost$World", "complete", "(LDriverHost$Driver;LDriverHost$Request;I)V"⟩, 7) := ⟨⟨by decide +kernel, by decide +kernel⟩, List.mem_of_getElem? (i := 35) (by decide +kernel), List.mem_of_getElem? (i := 1176) (by decide +kernel), List.mem_of_getElem? (i := 1177) (by decide +kernel)⟩
def lw_privs_2 : List (MethodName × Nat) := [(⟨"DriverHost$Reader", "opens", "()Z"⟩, 7), (⟨"DriverHost$Reader", "readProperty", "()V"⟩, 7), (⟨"DriverHost$Reader", "takeComparison", "()I"⟩, 7), (⟨"DriverHost$Reader", "readSum", "()V"⟩, 7), (⟨"DriverHost$Reader", "readProduct", "()V"⟩, 7), (⟨"DriverHost$Reader", "readOperand", "()V"⟩, 7), (⟨"DriverHost$Reader", "readStores", "(LDriverHost$Word;II)V"⟩, 7), (⟨"DriverHost$World", "leaveQueue", "(LDriverHost$Driver;LDriverHost$Request;)V"⟩, 7), (⟨"DriverHost$World", "strike", "(LDriverHost$Request;)V"⟩, 7), (⟨"DriverHost$World", "die", "(LDriverHost$Driver;)V"⟩, 7), (⟨"DriverHost$World", "delayFor", "(I)I"⟩, 7), (⟨"DriverHost$World", "step", "(LDriverHost$Driver;)V"⟩, 7), (⟨"DriverHost$World", "restart", "(LDriverHost$Driver;)V"⟩, 7), (⟨"DriverHost$World", "doKeepings", "(LDriverHost$Driver;LDriverHost$Request;)V"⟩, 7), (⟨"DriverHost$World", "resultNow", "(LDriverHost$Driver;LDriverHost$Request;)I"⟩, 7), (⟨"DriverHost$World", "complete", "(LDriverHost$Driver;LDriverHost$Request;I)V"⟩, 7)]
theorem lw_r2 : ∀ q ∈ lw_privs_2, lw_okq q := List.forall_mem_cons.mpr ⟨lw_p16, List.forall_mem_cons.mpr ⟨lw_p17, List.forall_mem_cons.mpr ⟨lw_p18, List.forall_mem_cons.mpr ⟨lw_p19, List.forall_mem_cons.mpr ⟨lw_p20, List.forall_mem_cons.mpr ⟨lw_p21, List.forall_mem_cons.mpr ⟨lw_p22, List.forall_mem_cons.mpr ⟨lw_p23, List.forall_mem_cons.mpr ⟨lw_p24, List.forall_mem_cons.mpr ⟨lw_p25, List.forall_mem_cons.mpr ⟨lw_p26, List.forall_mem_cons.mpr ⟨lw_p27, List.forall_mem_cons.mpr ⟨lw_p28, List.forall_mem_cons.mpr ⟨lw_p29, List.forall_mem_cons.mpr ⟨lw_p30, List.forall_mem_cons.mpr ⟨lw_p31, fun _ h => absurd h List.not_mem_nil⟩⟩⟩⟩⟩⟩⟩⟩⟩⟩⟩⟩⟩⟩⟩⟩
theorem lw_p32 : lw_okq (⟨"DriverHost$World", "failLate", "(LDriverHost$Driver;)V"⟩, 7) := ⟨⟨by decide +kernel, by decide +kernel⟩, List.mem_of_getElem? (i := 35) (by decide +kernel), List.mem_of_getElem? (i := 1186) (by decide +kernel), List.mem_of_getElem? (i := 1187) (by decide +kernel)⟩
theorem lw_p33 : lw_okq (⟨"DriverHost$World", "begin", "(LDriverHost$Driver;)V"⟩, 7) := ⟨⟨by decide +kernel, by decide +kernel⟩, List.mem_of_getElem? (i := 35) (by decide +kernel), List.mem_of_getElem? (i := 1191) (by decide +kernel), List.mem_of_getElem? (i := 1192) (by decide +kernel)⟩
theorem lw_p34 : lw_okq (⟨"DriverHost$World", "work", "(LDriverHost$Driver;LDriverHost$Request;)V"⟩, 7) := ⟨⟨by decide +kernel, by decide +kernel⟩, List.mem_of_getElem? (i := 35) (by decide +kernel), List.mem_of_getElem? (i := 1199) (by decide +kernel), List.mem_of_getElem? (i := 1200) (by decide +kernel)⟩
theorem lw_p35 : lw_okq (⟨"DriverHost$World", "doEffect", "(LDriverHost$Driver;LDriverHost$Request;)I"⟩, 7) := ⟨⟨by decide +kernel, by decide +kernel⟩, List.mem_of_getElem? (i := 35) (by decide +kernel), List.mem_of_getElem? (i := 1208) (by decide +kernel), List.mem_of_getElem? (i := 1209) (by decide +kernel)⟩
theorem lw_p36 : lw_okq (⟨"DriverHost", "freshTrial", "()LDriverHost$World;"⟩, 8) := ⟨⟨by decide +kernel, by decide +kernel⟩, List.mem_of_getElem? (i := 27) (by decide +kernel), List.mem_of_getElem? (i := 1353) (by decide +kernel), List.mem_of_getElem? (i := 1354) (by decide +kernel)⟩
theorem lw_p37 : lw_okq (⟨"DriverHost", "firstMatch", "(LDriverHost$Code;)I"⟩, 8) := ⟨⟨by decide +kernel, by decide +kernel⟩, List.mem_of_getElem? (i := 27) (by decide +kernel), List.mem_of_getElem? (i := 1389) (by decide +kernel), List.mem_of_getElem? (i := 1390) (by decide +kernel)⟩
theorem lw_p38 : lw_okq (⟨"DriverHost", "countMatches", "(LDriverHost$Code;)I"⟩, 8) := ⟨⟨by decide +kernel, by decide +kernel⟩, List.mem_of_getElem? (i := 27) (by decide +kernel), List.mem_of_getElem? (i := 1401) (by decide +kernel), List.mem_of_getElem? (i := 1402) (by decide +kernel)⟩
theorem lw_p39 : lw_okq (⟨"DriverHostModel", "standard", "()V"⟩, 37) := ⟨⟨by decide +kernel, by decide +kernel⟩, List.mem_of_getElem? (i := 1405) (by decide +kernel), List.mem_of_getElem? (i := 1411) (by decide +kernel), List.mem_of_getElem? (i := 1412) (by decide +kernel)⟩
theorem lw_p40 : lw_okq (⟨"DriverHostModel", "takesOver", "()V"⟩, 37) := ⟨⟨by decide +kernel, by decide +kernel⟩, List.mem_of_getElem? (i := 1405) (by decide +kernel), List.mem_of_getElem? (i := 1415) (by decide +kernel), List.mem_of_getElem? (i := 1416) (by decide +kernel)⟩
theorem lw_p41 : lw_okq (⟨"DriverHostModel", "lays", "(I)V"⟩, 37) := ⟨⟨by decide +kernel, by decide +kernel⟩, List.mem_of_getElem? (i := 1405) (by decide +kernel), List.mem_of_getElem? (i := 1542) (by decide +kernel), List.mem_of_getElem? (i := 1543) (by decide +kernel)⟩
theorem lw_p42 : lw_okq (⟨"DriverHostModel", "fails", "(ZI)Z"⟩, 37) := ⟨⟨by decide +kernel, by decide +kernel⟩, List.mem_of_getElem? (i := 1405) (by decide +kernel), List.mem_of_getElem? (i := 1557) (by decide +kernel), List.mem_of_getElem? (i := 1558) (by decide +kernel)⟩
theorem lw_p43 : lw_okq (⟨"DriverHostModel", "starts", "(I)V"⟩, 37) := ⟨⟨by decide +kernel, by decide +kernel⟩, List.mem_of_getElem? (i := 1405) (by decide +kernel), List.mem_of_getElem? (i := 1561) (by decide +kernel), List.mem_of_getElem? (i := 1562) (by decide +kernel)⟩
theorem lw_p44 : lw_okq (⟨"DriverHostModel", "next", "()V"⟩, 37) := ⟨⟨by decide +kernel, by decide +kernel⟩, List.mem_of_getElem? (i := 1405) (by decide +kernel), List.mem_of_getElem? (i := 1565) (by decide +kernel), List.mem_of_getElem? (i := 1566) (by decide +kernel)⟩
theorem lw_p45 : lw_okq (⟨"DriverHostModel", "byteAt", "(I)I"⟩, 37) := ⟨⟨by decide +kernel, by decide +kernel⟩, List.mem_of_getElem? (i := 1405) (by decide +kernel), List.mem_of_getElem? (i := 1569) (by decide +kernel), List.mem_of_getElem? (i := 1570) (by decide +kernel)⟩
theorem lw_p46 : lw_okq (⟨"DriverHostModel", "readsWord", "()V"⟩, 37) := ⟨⟨by decide +kernel, by decide +kernel⟩, List.mem_of_getElem? (i := 1405) (by decide +kernel), List.mem_of_getElem? (i := 1576) (by decide +kernel), List.mem_of_getElem? (i := 1577) (by decide +kernel)⟩
theorem lw_p47 : lw_okq (⟨"DriverHostModel", "readsNumber", "()V"⟩, 37) := ⟨⟨by decide +kernel, by decide +kernel⟩, List.mem_of_getElem? (i := 1405) (by decide +kernel), List.mem_of_getElem? (i := 1585) (by decide +kernel), List.mem_of_getElem? (i := 1586) (by decide +kernel)⟩
def lw_privs_3 : List (MethodName × Nat) := [(⟨"DriverHost$World", "failLate", "(LDriverHost$Driver;)V"⟩, 7), (⟨"DriverHost$World", "begin", "(LDriverHost$Driver;)V"⟩, 7), (⟨"DriverHost$World", "work", "(LDriverHost$Driver;LDriverHost$Request;)V"⟩, 7), (⟨"DriverHost$World", "doEffect", "(LDriverHost$Driver;LDriverHost$Request;)I"⟩, 7), (⟨"DriverHost", "freshTrial", "()LDriverHost$World;"⟩, 8), (⟨"DriverHost", "firstMatch", "(LDriverHost$Code;)I"⟩, 8), (⟨"DriverHost", "countMatches", "(LDriverHost$Code;)I"⟩, 8), (⟨"DriverHostModel", "standard", "()V"⟩, 37), (⟨"DriverHostModel", "takesOver", "()V"⟩, 37), (⟨"DriverHostModel", "lays", "(I)V"⟩, 37), (⟨"DriverHostModel", "fails", "(ZI)Z"⟩, 37), (⟨"DriverHostModel", "starts", "(I)V"⟩, 37), (⟨"DriverHostModel", "next", "()V"⟩, 37), (⟨"DriverHostModel", "byteAt", "(I)I"⟩, 37), (⟨"DriverHostModel", "readsWord", "()V"⟩, 37), (⟨"DriverHostModel", "readsNumber", "()V"⟩, 37)]
theorem lw_r3 : ∀ q ∈ lw_privs_3, lw_okq q := List.forall_mem_cons.mpr ⟨lw_p32, List.forall_mem_cons.mpr ⟨lw_p33, List.forall_mem_cons.mpr ⟨lw_p34, List.forall_mem_cons.mpr ⟨lw_p35, List.forall_mem_cons.mpr ⟨lw_p36, List.forall_mem_cons.mpr ⟨lw_p37, List.forall_mem_cons.mpr ⟨lw_p38, List.forall_mem_cons.mpr ⟨lw_p39, List.forall_mem_cons.mpr ⟨lw_p40, List.forall_mem_cons.mpr ⟨lw_p41, List.forall_mem_cons.mpr ⟨lw_p42, List.forall_mem_cons.mpr ⟨lw_p43, List.forall_mem_cons.mpr ⟨lw_p44, List.forall_mem_cons.mpr ⟨lw_p45, List.forall_mem_cons.mpr ⟨lw_p46, List.forall_mem_cons.mpr ⟨lw_p47, fun _ h => absurd h List.not_mem_nil⟩⟩⟩⟩⟩⟩⟩⟩⟩⟩⟩⟩⟩⟩⟩⟩
theorem lw_p48 : lw_okq (⟨"DriverHostModel", "passes", "(J)Z"⟩, 37) := ⟨⟨by decide +kernel, by decide +kernel⟩, List.mem_of_getElem? (i := 1405) (by decide +kernel), List.mem_of_getElem? (i := 1592) (by decide +kernel), List.mem_of_getElem? (i := 1593) (by decide +kernel)⟩
theorem lw_p49 : lw_okq (⟨"DriverHostModel", "isWord", "(J)Z"⟩, 37) := ⟨⟨by decide +kernel, by decide +kernel⟩, List.mem_of_getElem? (i := 1405) (by decide +kernel), List.mem_of_getElem? (i := 1596) (by decide +kernel), List.mem_of_getElem? (i := 1597) (by decide +kernel)⟩
theorem lw_p50 : lw_okq (⟨"DriverHostModel", "isGood", "()Z"⟩, 37) := ⟨⟨by decide +kernel, by decide +kernel⟩, List.mem_of_getElem? (i := 1405) (by decide +kernel), List.mem_of_getElem? (i := 1600) (by decide +kernel), List.mem_of_getElem? (i := 1601) (by decide +kernel)⟩
theorem lw_p51 : lw_okq (⟨"DriverHostModel", "wrongs", "(I)Z"⟩, 37) := ⟨⟨by decide +kernel, by decide +kernel⟩, List.mem_of_getElem? (i := 1405) (by decide +kernel), List.mem_of_getElem? (i := 1604) (by decide +kernel), List.mem_of_getElem? (i := 1605) (by decide +kernel)⟩
theorem lw_p52 : lw_okq (⟨"DriverHostModel", "number", "(II)I"⟩, 37) := ⟨⟨by decide +kernel, by decide +kernel⟩, List.mem_of_getElem? (i := 1405) (by decide +kernel), List.mem_of_getElem? (i := 1608) (by decide +kernel), List.mem_of_getElem? (i := 1609) (by decide +kernel)⟩
theorem lw_p53 : lw_okq (⟨"DriverHostModel", "must", "(I)V"⟩, 37) := ⟨⟨by decide +kernel, by decide +kernel⟩, List.mem_of_getElem? (i := 1405) (by decide +kernel), List.mem_of_getElem? (i := 1612) (by decide +kernel), List.mem_of_getElem? (i := 1613) (by decide +kernel)⟩
theorem lw_p54 : lw_okq (⟨"DriverHostModel", "isByte", "(I)Z"⟩, 37) := ⟨⟨by decide +kernel, by decide +kernel⟩, List.mem_of_getElem? (i := 1405) (by decide +kernel), List.mem_of_getElem? (i := 1616) (by decide +kernel), List.mem_of_getElem? (i := 1617) (by decide +kernel)⟩
theorem lw_p55 : lw_okq (⟨"DriverHostModel", "clause", "()V"⟩, 37) := ⟨⟨by decide +kernel, by decide +kernel⟩, List.mem_of_getElem? (i := 1405) (by decide +kernel), List.mem_of_getElem? (i := 1620) (by decide +kernel), List.mem_of_getElem? (i := 1621) (by decide +kernel)⟩
theorem lw_p56 : lw_okq (⟨"DriverHostModel", "commandClause", "()V"⟩, 37) := ⟨⟨by decide +kernel, by decide +kernel⟩, List.mem_of_getElem? (i := 1405) (by decide +kernel), List.mem_of_getElem? (i := 1625) (by decide +kernel), List.mem_of_getElem? (i := 1626) (by decide +kernel)⟩
theorem lw_p57 : lw_okq (⟨"DriverHostModel", "nameRead", "(I)V"⟩, 37) := ⟨⟨by decide +kernel, by decide +kernel⟩, List.mem_of_getElem? (i := 1405) (by decide +kernel), List.mem_of_getElem? (i := 1629) (by decide +kernel), List.mem_of_getElem? (i := 1630) (by decide +kernel)⟩
theorem lw_p58 : lw_okq (⟨"DriverHostModel", "isName", "()Z"⟩, 37) := ⟨⟨by decide +kernel, by decide +kernel⟩, List.mem_of_getElem? (i := 1405) (by decide +kernel), List.mem_of_getElem? (i := 1633) (by decide +kernel), List.mem_of_getElem? (i := 1634) (by decide +kernel)⟩
theorem lw_p59 : lw_okq (⟨"DriverHostModel", "isClauseWord", "()Z"⟩, 37) := ⟨⟨by decide +kernel, by decide +kernel⟩, List.mem_of_getElem? (i := 1405) (by decide +kernel), List.mem_of_getElem? (i := 1637) (by decide +kernel), List.mem_of_getElem? (i := 1638) (by decide +kernel)⟩
theorem lw_p60 : lw_okq (⟨"DriverHostModel", "isInnerWord", "()Z"⟩, 37) := ⟨⟨by decide +kernel, by decide +kernel⟩, List.mem_of_getElem? (i := 1405) (by decide +kernel), List.mem_of_getElem? (i := 1651) (by decide +kernel), List.mem_of_getElem? (i := 1652) (by decide +kernel)⟩
theorem lw_p61 : lw_okq (⟨"DriverHostModel", "classHere", "()I"⟩, 37) := ⟨⟨by decide +kernel, by decide +kernel⟩, List.mem_of_getElem? (i := 1405) (by decide +kernel), List.mem_of_getElem? (i := 1655) (by decide +kernel), List.mem_of_getElem? (i := 1656) (by decide +kernel)⟩
theorem lw_p62 : lw_okq (⟨"DriverHostModel", "propertyHere", "()I"⟩, 37) := ⟨⟨by decide +kernel, by decide +kernel⟩, List.mem_of_getElem? (i := 1405) (by decide +kernel), List.mem_of_getElem? (i := 1672) (by decide +kernel), List.mem_of_getElem? (i := 1673) (by decide +kernel)⟩
theorem lw_p63 : lw_okq (⟨"DriverHostModel", "isNamed", "(I)Z"⟩, 37) := ⟨⟨by decide +kernel, by decide +kernel⟩, List.mem_of_getElem? (i := 1405) (by decide +kernel), List.mem_of_getElem? (i := 1686) (by decide +kernel), List.mem_of_getElem? (i := 1687) (by decide +kernel)⟩
def lw_privs_4 : List (MethodName × Nat) := [(⟨"DriverHostModel", "passes", "(J)Z"⟩, 37), (⟨"DriverHostModel", "isWord", "(J)Z"⟩, 37), (⟨"DriverHostModel", "isGood", "()Z"⟩, 37), (⟨"DriverHostModel", "wrongs", "(I)Z"⟩, 37), (⟨"DriverHostModel", "number", "(II)I"⟩, 37), (⟨"DriverHostModel", "must", "(I)V"⟩, 37), (⟨"DriverHostModel", "isByte", "(I)Z"⟩, 37), (⟨"DriverHostModel", "clause", "()V"⟩, 37), (⟨"DriverHostModel", "commandClause", "()V"⟩, 37), (⟨"DriverHostModel", "nameRead", "(I)V"⟩, 37), (⟨"DriverHostModel", "isName", "()Z"⟩, 37), (⟨"DriverHostModel", "isClauseWord", "()Z"⟩, 37), (⟨"DriverHostModel", "isInnerWord", "()Z"⟩, 37), (⟨"DriverHostModel", "classHere", "()I"⟩, 37), (⟨"DriverHostModel", "propertyHere", "()I"⟩, 37), (⟨"DriverHostModel", "isNamed", "(I)Z"⟩, 37)]
theorem lw_r4 : ∀ q ∈ lw_privs_4, lw_okq q := List.forall_mem_cons.mpr ⟨lw_p48, List.forall_mem_cons.mpr ⟨lw_p49, List.forall_mem_cons.mpr ⟨lw_p50, List.forall_mem_cons.mpr ⟨lw_p51, List.forall_mem_cons.mpr ⟨lw_p52, List.forall_mem_cons.mpr ⟨lw_p53, List.forall_mem_cons.mpr ⟨lw_p54, List.forall_mem_cons.mpr ⟨lw_p55, List.forall_mem_cons.mpr ⟨lw_p56, List.forall_mem_cons.mpr ⟨lw_p57, List.forall_mem_cons.mpr ⟨lw_p58, List.forall_mem_cons.mpr ⟨lw_p59, List.forall_mem_cons.mpr ⟨lw_p60, List.forall_mem_cons.mpr ⟨lw_p61, List.forall_mem_cons.mpr ⟨lw_p62, List.forall_mem_cons.mpr ⟨lw_p63, fun _ h => absurd h List.not_mem_nil⟩⟩⟩⟩⟩⟩⟩⟩⟩⟩⟩⟩⟩⟩⟩⟩
theorem lw_p64 : lw_okq (⟨"DriverHostModel", "classRead", "(I)V"⟩, 37) := ⟨⟨by decide +kernel, by decide +kernel⟩, List.mem_of_getElem? (i := 1405) (by decide +kernel), List.mem_of_getElem? (i := 1690) (by decide +kernel), List.mem_of_getElem? (i := 1691) (by decide +kernel)⟩
theorem lw_p65 : lw_okq (⟨"DriverHostModel", "testRead", "()V"⟩, 37) := ⟨⟨by decide +kernel, by decide +kernel⟩, List.mem_of_getElem? (i := 1405) (by decide +kernel), List.mem_of_getElem? (i := 1694) (by decide +kernel), List.mem_of_getElem? (i := 1695) (by decide +kernel)⟩
theorem lw_p66 : lw_okq (⟨"DriverHostModel", "comparisonRead", "()V"⟩, 37) := ⟨⟨by decide +kernel, by decide +kernel⟩, List.mem_of_getElem? (i := 1405) (by decide +kernel), List.mem_of_getElem? (i := 1698) (by decide +kernel), List.mem_of_getElem? (i := 1699) (by decide +kernel)⟩
theorem lw_p67 : lw_okq (⟨"DriverHostModel", "isOpening", "()Z"⟩, 37) := ⟨⟨by decide +kernel, by decide +kernel⟩, List.mem_of_getElem? (i := 1405) (by decide +kernel), List.mem_of_getElem? (i := 1702) (by decide +kernel), List.mem_of_getElem? (i := 1703) (by decide +kernel)⟩
theorem lw_p68 : lw_okq (⟨"DriverHostModel", "goesIn", "(I)Z"⟩, 37) := ⟨⟨by decide +kernel, by decide +kernel⟩, List.mem_of_getElem? (i := 1405) (by decide +kernel), List.mem_of_getElem? (i := 1706) (by decide +kernel), List.mem_of_getElem? (i := 1707) (by decide +kernel)⟩
theorem lw_p69 : lw_okq (⟨"DriverHostModel", "sideRead", "()V"⟩, 37) := ⟨⟨by decide +kernel, by decide +kernel⟩, List.mem_of_getElem? (i := 1405) (by decide +kernel), List.mem_of_getElem? (i := 1710) (by decide +kernel), List.mem_of_getElem? (i := 1711) (by decide +kernel)⟩
theorem lw_p70 : lw_okq (⟨"DriverHostModel", "valueRead", "()V"⟩, 37) := ⟨⟨by decide +kernel, by decide +kernel⟩, List.mem_of_getElem? (i := 1405) (by decide +kernel), List.mem_of_getElem? (i := 1714) (by decide +kernel), List.mem_of_getElem? (i := 1715) (by decide +kernel)⟩
theorem lw_p71 : lw_okq (⟨"DriverHostModel", "adds", "(I)V"⟩, 37) := ⟨⟨by decide +kernel, by decide +kernel⟩, List.mem_of_getElem? (i := 1405) (by decide +kernel), List.mem_of_getElem? (i := 1718) (by decide +kernel), List.mem_of_getElem? (i := 1719) (by decide +kernel)⟩
theorem lw_p72 : lw_okq (⟨"DriverHostModel", "sumRead", "()V"⟩, 37) := ⟨⟨by decide +kernel, by decide +kernel⟩, List.mem_of_getElem? (i := 1405) (by decide +kernel), List.mem_of_getElem? (i := 1722) (by decide +kernel), List.mem_of_getElem? (i := 1723) (by decide +kernel)⟩
theorem lw_p73 : lw_okq (⟨"DriverHostModel", "operandRead", "()V"⟩, 37) := ⟨⟨by decide +kernel, by decide +kernel⟩, List.mem_of_getElem? (i := 1405) (by decide +kernel), List.mem_of_getElem? (i := 1726) (by decide +kernel), List.mem_of_getElem? (i := 1727) (by decide +kernel)⟩
theorem lw_p74 : lw_okq (⟨"DriverHostModel", "hasBracket", "(I)Z"⟩, 37) := ⟨⟨by decide +kernel, by decide +kernel⟩, List.mem_of_getElem? (i := 1405) (by decide +kernel), List.mem_of_getElem? (i := 1731) (by decide +kernel), List.mem_of_getElem? (i := 1732) (by decide +kernel)⟩
theorem lw_p75 : lw_okq (⟨"DriverHostModel", "sumSettles", "(II)V"⟩, 37) := ⟨⟨by decide +kernel, by decide +kernel⟩, List.mem_of_getElem? (i := 1405) (by decide +kernel), List.mem_of_getElem? (i := 1735) (by decide +kernel), List.mem_of_getElem? (i := 1736) (by decide +kernel)⟩
theorem lw_p76 : lw_okq (⟨"DriverHostModel", "operatorHere", "()I"⟩, 37) := ⟨⟨by decide +kernel, by decide +kernel⟩, List.mem_of_getElem? (i := 1405) (by decide +kernel), List.mem_of_getElem? (i := 1742) (by decide +kernel), List.mem_of_getElem? (i := 1743) (by decide +kernel)⟩
theorem lw_p77 : lw_okq (⟨"DriverHostModel", "closes", "()V"⟩, 37) := ⟨⟨by decide +kernel, by decide +kernel⟩, List.mem_of_getElem? (i := 1405) (by decide +kernel), List.mem_of_getElem? (i := 1746) (by decide +kernel), List.mem_of_getElem? (i := 1747) (by decide +kernel)⟩
theorem lw_p78 : lw_okq (⟨"DriverHostModel", "settles", "(I)V"⟩, 37) := ⟨⟨by decide +kernel, by decide +kernel⟩, List.mem_of_getElem? (i := 1405) (by decide +kernel), List.mem_of_getElem? (i := 1750) (by decide +kernel), List.mem_of_getElem? (i := 1751) (by decide +kernel)⟩
theorem lw_p79 : lw_okq (⟨"DriverHostModel", "isInside", "()Z"⟩, 37) := ⟨⟨by decide +kernel, by decide +kernel⟩, List.mem_of_getElem? (i := 1405) (by decide +kernel), List.mem_of_getElem? (i := 1757) (by decide +kernel), List.mem_of_getElem? (i := 1758) (by decide +kernel)⟩
def lw_privs_5 : List (MethodName × Nat) := [(⟨"DriverHostModel", "classRead", "(I)V"⟩, 37), (⟨"DriverHostModel", "testRead", "()V"⟩, 37), (⟨"DriverHostModel", "comparisonRead", "()V"⟩, 37), (⟨"DriverHostModel", "isOpening", "()Z"⟩, 37), (⟨"DriverHostModel", "goesIn", "(I)Z"⟩, 37), (⟨"DriverHostModel", "sideRead", "()V"⟩, 37), (⟨"DriverHostModel", "valueRead", "()V"⟩, 37), (⟨"DriverHostModel", "adds", "(I)V"⟩, 37), (⟨"DriverHostModel", "sumRead", "()V"⟩, 37), (⟨"DriverHostModel", "operandRead", "()V"⟩, 37), (⟨"DriverHostModel", "hasBracket", "(I)Z"⟩, 37), (⟨"DriverHostModel", "sumSettles", "(II)V"⟩, 37), (⟨"DriverHostModel", "operatorHere", "()I"⟩, 37), (⟨"DriverHostModel", "closes", "()V"⟩, 37), (⟨"DriverHostModel", "settles", "(I)V"⟩, 37), (⟨"DriverHostModel", "isInside", "()Z"⟩, 37)]
theorem lw_r5 : ∀ q ∈ lw_privs_5, lw_okq q := List.forall_mem_cons.mpr ⟨lw_p64, List.forall_mem_cons.mpr ⟨lw_p65, List.forall_mem_cons.mpr ⟨lw_p66, List.forall_mem_cons.mpr ⟨lw_p67, List.forall_mem_cons.mpr ⟨lw_p68, List.forall_mem_cons.mpr ⟨lw_p69, List.forall_mem_cons.mpr ⟨lw_p70, List.forall_mem_cons.mpr ⟨lw_p71, List.forall_mem_cons.mpr ⟨lw_p72, List.forall_mem_cons.mpr ⟨lw_p73, List.forall_mem_cons.mpr ⟨lw_p74, List.forall_mem_cons.mpr ⟨lw_p75, List.forall_mem_cons.mpr ⟨lw_p76, List.forall_mem_cons.mpr ⟨lw_p77, List.forall_mem_cons.mpr ⟨lw_p78, List.forall_mem_cons.mpr ⟨lw_p79, fun _ h => absurd h List.not_mem_nil⟩⟩⟩⟩⟩⟩⟩⟩⟩⟩⟩⟩⟩⟩⟩⟩
theorem lw_p80 : lw_okq (⟨"DriverHostModel", "storesRead", "(JIII)V"⟩, 37) := ⟨⟨by decide +kernel, by decide +kernel⟩, List.mem_of_getElem? (i := 1405) (by decide +kernel), List.mem_of_getElem? (i := 1761) (by decide +kernel), List.mem_of_getElem? (i := 1762) (by decide +kernel)⟩
theorem lw_p81 : lw_okq (⟨"DriverHostModel", "isCommand", "(I)Z"⟩, 37) := ⟨⟨by decide +kernel, by decide +kernel⟩, List.mem_of_getElem? (i := 1405) (by decide +kernel), List.mem_of_getElem? (i := 1785) (by decide +kernel), List.mem_of_getElem? (i := 1786) (by decide +kernel)⟩
theorem lw_p82 : lw_okq (⟨"DriverHostModel", "noDriver", "(I)Z"⟩, 37) := ⟨⟨by decide +kernel, by decide +kernel⟩, List.mem_of_getElem? (i := 1405) (by decide +kernel), List.mem_of_getElem? (i := 1797) (by decide +kernel), List.mem_of_getElem? (i := 1798) (by decide +kernel)⟩
theorem lw_p83 : lw_okq (⟨"DriverHostModel", "isDriver", "(I)Z"⟩, 37) := ⟨⟨by decide +kernel, by decide +kernel⟩, List.mem_of_getElem? (i := 1405) (by decide +kernel), List.mem_of_getElem? (i := 1801) (by decide +kernel), List.mem_of_getElem? (i := 1802) (by decide +kernel)⟩
theorem lw_p84 : lw_okq (⟨"DriverHostModel", "nextOf", "([II)I"⟩, 37) := ⟨⟨by decide +kernel, by decide +kernel⟩, List.mem_of_getElem? (i := 1405) (by decide +kernel), List.mem_of_getElem? (i := 1843) (by decide +kernel), List.mem_of_getElem? (i := 1844) (by decide +kernel)⟩
theorem lw_p85 : lw_okq (⟨"DriverHostModel", "noRequest", "(I)Z"⟩, 37) := ⟨⟨by decide +kernel, by decide +kernel⟩, List.mem_of_getElem? (i := 1405) (by decide +kernel), List.mem_of_getElem? (i := 1858) (by decide +kernel), List.mem_of_getElem? (i := 1859) (by decide +kernel)⟩
theorem lw_p86 : lw_okq (⟨"DriverHostModel", "isRequest", "(I)Z"⟩, 37) := ⟨⟨by decide +kernel, by decide +kernel⟩, List.mem_of_getElem? (i := 1405) (by decide +kernel), List.mem_of_getElem? (i := 1862) (by decide +kernel), List.mem_of_getElem? (i := 1863) (by decide +kernel)⟩
theorem lw_p87 : lw_okq (⟨"DriverHostModel", "records", "()V"⟩, 37) := ⟨⟨by decide +kernel, by decide +kernel⟩, List.mem_of_getElem? (i := 1405) (by decide +kernel), List.mem_of_getElem? (i := 1893) (by decide +kernel), List.mem_of_getElem? (i := 1894) (by decide +kernel)⟩
theorem lw_p88 : lw_okq (⟨"DriverHostModel", "notes", "([IIII)V"⟩, 37) := ⟨⟨by decide +kernel, by decide +kernel⟩, List.mem_of_getElem? (i := 1405) (by decide +kernel), List.mem_of_getElem? (i := 1900) (by decide +kernel), List.mem_of_getElem? (i := 1901) (by decide +kernel)⟩
theorem lw_p89 : lw_okq (⟨"DriverHostModel", "endsBadly", "([III)V"⟩, 37) := ⟨⟨by decide +kernel, by decide +kernel⟩, List.mem_of_getElem? (i := 1405) (by decide +kernel), List.mem_of_getElem? (i := 1908) (by decide +kernel), List.mem_of_getElem? (i := 1909) (by decide +kernel)⟩
theorem lw_p90 : lw_okq (⟨"DriverHostModel", "crashes", "([II)V"⟩, 37) := ⟨⟨by decide +kernel, by decide +kernel⟩, List.mem_of_getElem? (i := 1405) (by decide +kernel), List.mem_of_getElem? (i := 1922) (by decide +kernel), List.mem_of_getElem? (i := 1923) (by decide +kernel)⟩
theorem lw_p91 : lw_okq (⟨"DriverHostModel", "delayOf", "(I)I"⟩, 37) := ⟨⟨by decide +kernel, by decide +kernel⟩, List.mem_of_getElem? (i := 1405) (by decide +kernel), List.mem_of_getElem? (i := 1929) (by decide +kernel), List.mem_of_getElem? (i := 1930) (by decide +kernel)⟩
theorem lw_p92 : lw_okq (⟨"DriverHostModel", "snaps", "([II)V"⟩, 37) := ⟨⟨by decide +kernel, by decide +kernel⟩, List.mem_of_getElem? (i := 1405) (by decide +kernel), List.mem_of_getElem? (i := 1940) (by decide +kernel), List.mem_of_getElem? (i := 1941) (by decide +kernel)⟩
theorem lw_p93 : lw_okq (⟨"DriverHostModel", "tick", "([I)V"⟩, 37) := ⟨⟨by decide +kernel, by decide +kernel⟩, List.mem_of_getElem? (i := 1405) (by decide +kernel), List.mem_of_getElem? (i := 1958) (by decide +kernel), List.mem_of_getElem? (i := 1959) (by decide +kernel)⟩
theorem lw_p94 : lw_okq (⟨"DriverHostModel", "ticksOf", "([II)V"⟩, 37) := ⟨⟨by decide +kernel, by decide +kernel⟩, List.mem_of_getElem? (i := 1405) (by decide +kernel), List.mem_of_getElem? (i := 1962) (by decide +kernel), List.mem_of_getElem? (i := 1963) (by decide +kernel)⟩
theorem lw_p95 : lw_okq (⟨"DriverHostModel", "restarts", "([II)V"⟩, 37) := ⟨⟨by decide +kernel, by decide +kernel⟩, List.mem_of_getElem? (i := 1405) (by decide +kernel), List.mem_of_getElem? (i := 1966) (by decide +kernel), List.mem_of_getElem? (i := 1967) (by decide +kernel)⟩
def lw_privs_6 : List (MethodName × Nat) := [(⟨"DriverHostModel", "storesRead", "(JIII)V"⟩, 37), (⟨"DriverHostModel", "isCommand", "(I)Z"⟩, 37), (⟨"DriverHostModel", "noDriver", "(I)Z"⟩, 37), (⟨"DriverHostModel", "isDriver", "(I)Z"⟩, 37), (⟨"DriverHostModel", "nextOf", "([II)I"⟩, 37), (⟨"DriverHostModel", "noRequest", "(I)Z"⟩, 37), (⟨"DriverHostModel", "isRequest", "(I)Z"⟩, 37), (⟨"DriverHostModel", "records", "()V"⟩, 37), (⟨"DriverHostModel", "notes", "([IIII)V"⟩, 37), (⟨"DriverHostModel", "endsBadly", "([III)V"⟩, 37), (⟨"DriverHostModel", "crashes", "([II)V"⟩, 37), (⟨"DriverHostModel", "delayOf", "(I)I"⟩, 37), (⟨"DriverHostModel", "snaps", "([II)V"⟩, 37), (⟨"DriverHostModel", "tick", "([I)V"⟩, 37), (⟨"DriverHostModel", "ticksOf", "([II)V"⟩, 37), (⟨"DriverHostModel", "restarts", "([II)V"⟩, 37)]
theorem lw_r6 : ∀ q ∈ lw_privs_6, lw_okq q := List.forall_mem_cons.mpr ⟨lw_p80, List.forall_mem_cons.mpr ⟨lw_p81, List.forall_mem_cons.mpr ⟨lw_p82, List.forall_mem_cons.mpr ⟨lw_p83, List.forall_mem_cons.mpr ⟨lw_p84, List.forall_mem_cons.mpr ⟨lw_p85, List.forall_mem_cons.mpr ⟨lw_p86, List.forall_mem_cons.mpr ⟨lw_p87, List.forall_mem_cons.mpr ⟨lw_p88, List.forall_mem_cons.mpr ⟨lw_p89, List.forall_mem_cons.mpr ⟨lw_p90, List.forall_mem_cons.mpr ⟨lw_p91, List.forall_mem_cons.mpr ⟨lw_p92, List.forall_mem_cons.mpr ⟨lw_p93, List.forall_mem_cons.mpr ⟨lw_p94, List.forall_mem_cons.mpr ⟨lw_p95, fun _ h => absurd h List.not_mem_nil⟩⟩⟩⟩⟩⟩⟩⟩⟩⟩⟩⟩⟩⟩⟩⟩
theorem lw_p96 : lw_okq (⟨"DriverHostModel", "keepsIn", "([II)V"⟩, 37) := ⟨⟨by decide +kernel, by decide +kernel⟩, List.mem_of_getElem? (i := 1405) (by decide +kernel), List.mem_of_getElem? (i := 1970) (by decide +kernel), List.mem_of_getElem? (i := 1971) (by decide +kernel)⟩
theorem lw_p97 : lw_okq (⟨"DriverHostModel", "goesThrough", "([IIIIII)I"⟩, 37) := ⟨⟨by decide +kernel, by decide +kernel⟩, List.mem_of_getElem? (i := 1405) (by decide +kernel), List.mem_of_getElem? (i := 1974) (by decide +kernel), List.mem_of_getElem? (i := 1975) (by decide +kernel)⟩
theorem lw_p98 : lw_okq (⟨"DriverHostModel", "reckons", "(I)Z"⟩, 37) := ⟨⟨by decide +kernel, by decide +kernel⟩, List.mem_of_getElem? (i := 1405) (by decide +kernel), List.mem_of_getElem? (i := 1978) (by decide +kernel), List.mem_of_getElem? (i := 1979) (by decide +kernel)⟩
theorem lw_p99 : lw_okq (⟨"DriverHostModel", "decides", "([III)V"⟩, 37) := ⟨⟨by decide +kernel, by decide +kernel⟩, List.mem_of_getElem? (i := 1405) (by decide +kernel), List.mem_of_getElem? (i := 1996) (by decide +kernel), List.mem_of_getElem? (i := 1997) (by decide +kernel)⟩
theorem lw_p100 : lw_okq (⟨"DriverHostModel", "isTrue", "([II)Z"⟩, 37) := ⟨⟨by decide +kernel, by decide +kernel⟩, List.mem_of_getElem? (i := 1405) (by decide +kernel), List.mem_of_getElem? (i := 2000) (by decide +kernel), List.mem_of_getElem? (i := 2001) (by decide +kernel)⟩
theorem lw_p101 : lw_okq (⟨"DriverHostModel", "resultOf", "([II)I"⟩, 37) := ⟨⟨by decide +kernel, by decide +kernel⟩, List.mem_of_getElem? (i := 1405) (by decide +kernel), List.mem_of_getElem? (i := 2004) (by decide +kernel), List.mem_of_getElem? (i := 2005) (by decide +kernel)⟩
theorem lw_p102 : lw_okq (⟨"DriverHostModel", "endsWell", "([III)V"⟩, 37) := ⟨⟨by decide +kernel, by decide +kernel⟩, List.mem_of_getElem? (i := 1405) (by decide +kernel), List.mem_of_getElem? (i := 2008) (by decide +kernel), List.mem_of_getElem? (i := 2009) (by decide +kernel)⟩
theorem lw_p103 : lw_okq (⟨"DriverHostModel", "dropsLate", "([II)V"⟩, 37) := ⟨⟨by decide +kernel, by decide +kernel⟩, List.mem_of_getElem? (i := 1405) (by decide +kernel), List.mem_of_getElem? (i := 2012) (by decide +kernel), List.mem_of_getElem? (i := 2013) (by decide +kernel)⟩
theorem lw_p104 : lw_okq (⟨"DriverHostModel", "begins", "([II)V"⟩, 37) := ⟨⟨by decide +kernel, by decide +kernel⟩, List.mem_of_getElem? (i := 1405) (by decide +kernel), List.mem_of_getElem? (i := 2016) (by decide +kernel), List.mem_of_getElem? (i := 2017) (by decide +kernel)⟩
theorem lw_p105 : lw_okq (⟨"DriverHostModel", "goesOn", "([II)V"⟩, 37) := ⟨⟨by decide +kernel, by decide +kernel⟩, List.mem_of_getElem? (i := 1405) (by decide +kernel), List.mem_of_getElem? (i := 2020) (by decide +kernel), List.mem_of_getElem? (i := 2021) (by decide +kernel)⟩
theorem lw_p106 : lw_okq (⟨"DriverHostModel", "holds", "(I)Z"⟩, 37) := ⟨⟨by decide +kernel, by decide +kernel⟩, List.mem_of_getElem? (i := 1405) (by decide +kernel), List.mem_of_getElem? (i := 2064) (by decide +kernel), List.mem_of_getElem? (i := 2065) (by decide +kernel)⟩
theorem lw_p107 : lw_okq (⟨"DriverHostModel", "propertyOf", "(II)I"⟩, 37) := ⟨⟨by decide +kernel, by decide +kernel⟩, List.mem_of_getElem? (i := 1405) (by decide +kernel), List.mem_of_getElem? (i := 2068) (by decide +kernel), List.mem_of_getElem? (i := 2069) (by decide +kernel)⟩
def lw_privs_7 : List (MethodName × Nat) := [(⟨"DriverHostModel", "keepsIn", "([II)V"⟩, 37), (⟨"DriverHostModel", "goesThrough", "([IIIIII)I"⟩, 37), (⟨"DriverHostModel", "reckons", "(I)Z"⟩, 37), (⟨"DriverHostModel", "decides", "([III)V"⟩, 37), (⟨"DriverHostModel", "isTrue", "([II)Z"⟩, 37), (⟨"DriverHostModel", "resultOf", "([II)I"⟩, 37), (⟨"DriverHostModel", "endsWell", "([III)V"⟩, 37), (⟨"DriverHostModel", "dropsLate", "([II)V"⟩, 37), (⟨"DriverHostModel", "begins", "([II)V"⟩, 37), (⟨"DriverHostModel", "goesOn", "([II)V"⟩, 37), (⟨"DriverHostModel", "holds", "(I)Z"⟩, 37), (⟨"DriverHostModel", "propertyOf", "(II)I"⟩, 37)]
theorem lw_r7 : ∀ q ∈ lw_privs_7, lw_okq q := List.forall_mem_cons.mpr ⟨lw_p96, List.forall_mem_cons.mpr ⟨lw_p97, List.forall_mem_cons.mpr ⟨lw_p98, List.forall_mem_cons.mpr ⟨lw_p99, List.forall_mem_cons.mpr ⟨lw_p100, List.forall_mem_cons.mpr ⟨lw_p101, List.forall_mem_cons.mpr ⟨lw_p102, List.forall_mem_cons.mpr ⟨lw_p103, List.forall_mem_cons.mpr ⟨lw_p104, List.forall_mem_cons.mpr ⟨lw_p105, List.forall_mem_cons.mpr ⟨lw_p106, List.forall_mem_cons.mpr ⟨lw_p107, fun _ h => absurd h List.not_mem_nil⟩⟩⟩⟩⟩⟩⟩⟩⟩⟩⟩⟩
def lw_privs : List (MethodName × Nat) := lw_privs_1 ++ (lw_privs_2 ++ (lw_privs_3 ++ (lw_privs_4 ++ (lw_privs_5 ++ (lw_privs_6 ++ (lw_privs_7))))))
def lw_tbl : List Cond := k2_sels lw_privs ++ tables_1
theorem lw_privs_ok : ∀ q ∈ lw_privs, lw_okq q := by
  show ∀ q ∈ lw_privs_1 ++ (lw_privs_2 ++ (lw_privs_3 ++ (lw_privs_4 ++ (lw_privs_5 ++ (lw_privs_6 ++ (lw_privs_7)))))), lw_okq q
  exact List.forall_mem_append.mpr ⟨lw_r1, List.forall_mem_append.mpr ⟨lw_r2, List.forall_mem_append.mpr ⟨lw_r3, List.forall_mem_append.mpr ⟨lw_r4, List.forall_mem_append.mpr ⟨lw_r5, List.forall_mem_append.mpr ⟨lw_r6, lw_r7⟩⟩⟩⟩⟩⟩
/-- the streams that the claim lets the run draw from -/
abbrev lw_cs : List Choice := [Jvm.Choice.named "NaN.bits"]
theorem lw_bits : nanBits ∈ lw_cs := by first | decide | exact List.mem_cons_self | simp [lw_cs, nanBits]
end
section
def RX0 : String := "DriverHost$Code"
def TX0 : u_T := fun k => match k with
  | 0 => ("DriverHost$Code", "ops", "[I", true)
  | 1 => ("DriverHost$Code", "operands", "[I", true)
  | 2 => ("DriverHost$Code", "size", "I", false)
  | _ => ("DriverHost$Code", "stack", "[I", true)
def tyX0 : Nat → FieldType := fun k => match k with
  | 0 => .array .int
  | 1 => .array .int
  | 2 => .int
  | _ => .array .int
theorem nmX0 : ∀ a, a < 4 → ∀ b, b < 4 → a ≠ b → (TX0 a).2.1 ≠ (TX0 b).2.1 := by decide +kernel
theorem tyX0_ok : ∀ k, k < 4 → parseFieldDescriptor (TX0 k).2.2.1 = some (tyX0 k) := by decide +kernel
abbrev cX0_init : ByteArray := prog_2_method_1_code
def yX0_init : MethodName := ⟨RX0, "<init>", "(I)V"⟩
abbrev cX0_add : ByteArray := prog_2_method_2_code
def yX0_add : MethodName := ⟨RX0, "add", "(II)V"⟩
abbrev cX0_execute : ByteArray := prog_2_method_3_code
def yX0_execute : MethodName := ⟨RX0, "execute", "(II[I)I"⟩
abbrev cX0_cellAt : ByteArray := prog_2_method_4_code
def yX0_cellAt : MethodName := ⟨RX0, "cellAt", "([II)I"⟩
abbrev cX0_join : ByteArray := prog_2_method_5_code
def yX0_join : MethodName := ⟨RX0, "join", "(III)I"⟩
def RX1 : String := "DriverHost$Command"
def TX1 : u_T := fun k => match k with
  | 0 => ("DriverHost$Command", "nameToken", "I", false)
  | 1 => ("DriverHost$Command", "kind", "I", false)
  | 2 => ("DriverHost$Command", "time", "I", false)
  | 3 => ("DriverHost$Command", "testFrom", "I", false)
  | 4 => ("DriverHost$Command", "resultFrom", "I", false)
  | 5 => ("DriverHost$Command", "setFrom", "I", false)
  | 6 => ("DriverHost$Command", "keepFrom", "I", false)
  | _ => ("DriverHost$Command", "end", "I", false)
def tyX1 : Nat → FieldType := fun k => match k with
  | 0 => .int
  | 1 => .int
  | 2 => .int
  | 3 => .int
  | 4 => .int
  | 5 => .int
  | 6 => .int
  | _ => .int
theorem nmX1 : ∀ a, a < 8 → ∀ b, b < 8 → a ≠ b → (TX1 a).2.1 ≠ (TX1 b).2.1 := by decide +kernel
theorem tyX1_ok : ∀ k, k < 8 → parseFieldDescriptor (TX1 k).2.2.1 = some (tyX1 k) := by decide +kernel
abbrev cX1_init : ByteArray := prog_3_method_1_code
def yX1_init : MethodName := ⟨RX1, "<init>", "()V"⟩
def RX2 : String := "DriverHost$Driver"
def TX2 : u_T := fun k => match k with
  | 0 => ("DriverHost$Driver", "number", "I", true)
  | 1 => ("DriverHost$Driver", "state", "I", false)
  | 2 => ("DriverHost$Driver", "downUntil", "I", false)
  | 3 => ("DriverHost$Driver", "started", "I", false)
  | 4 => ("DriverHost$Driver", "streak", "I", false)
  | 5 => ("DriverHost$Driver", "cells", "[I", true)
  | 6 => ("DriverHost$Driver", "snapshot", "[I", true)
  | 7 => ("DriverHost$Driver", "log", "[I", true)
  | 8 => ("DriverHost$Driver", "logSize", "I", false)
  | 9 => ("DriverHost$Driver", "inFlight", "I", false)
  | 10 => ("DriverHost$Driver", "returned", "I", false)
  | 11 => ("DriverHost$Driver", "queueSize", "I", false)
  | 12 => ("DriverHost$Driver", "firstDeadline", "I", false)
  | 13 => ("DriverHost$Driver", "ticksUp", "I", false)
  | 14 => ("DriverHost$Driver", "completedCount", "I", false)
  | _ => ("DriverHost$Driver", "completedTime", "I", false)
def tyX2 : Nat → FieldType := fun k => match k with
  | 0 => .int
  | 1 => .int
  | 2 => .int
  | 3 => .int
  | 4 => .int
  | 5 => .array .int
  | 6 => .array .int
  | 7 => .array .int
  | 8 => .int
  | 9 => .int
  | 10 => .int
  | 11 => .int
  | 12 => .int
  | 13 => .int
  | 14 => .int
  | _ => .int
theorem nmX2 : ∀ a, a < 16 → ∀ b, b < 16 → a ≠ b → (TX2 a).2.1 ≠ (TX2 b).2.1 := by decide +kernel
theorem tyX2_ok : ∀ k, k < 16 → parseFieldDescriptor (TX2 k).2.2.1 = some (tyX2 k) := by decide +kernel
abbrev cX2_init : ByteArray := prog_4_method_1_code
def yX2_init : MethodName := ⟨RX2, "<init>", "(I)V"⟩
abbrev cX2_copyFrom : ByteArray := prog_4_method_2_code
def yX2_copyFrom : MethodName := ⟨RX2, "copyFrom", "(LDriverHost$Driver;)V"⟩
abbrev cX2_registerAt : ByteArray := prog_4_method_3_code
def yX2_registerAt : MethodName := ⟨RX2, "registerAt", "(I)I"⟩
abbrev cX2_variableAt : ByteArray := prog_4_method_4_code
def yX2_variableAt : MethodName := ⟨RX2, "variableAt", "(I)I"⟩
abbrev cX2_snapshotAt : ByteArray := prog_4_method_5_code
def yX2_snapshotAt : MethodName := ⟨RX2, "snapshotAt", "(I)I"⟩
abbrev cX2_logAt : ByteArray := prog_4_method_6_code
def yX2_logAt : MethodName := ⟨RX2, "logAt", "(I)I"⟩
abbrev cX2_store : ByteArray := prog_4_method_7_code
def yX2_store : MethodName := ⟨RX2, "store", "(II)V"⟩
abbrev cX2_present : ByteArray := prog_4_method_8_code
def yX2_present : MethodName := ⟨RX2, "present", "(II)V"⟩
abbrev cX2_addToLog : ByteArray := prog_4_method_9_code
def yX2_addToLog : MethodName := ⟨RX2, "addToLog", "(I)V"⟩
abbrev cX2_goDown : ByteArray := prog_4_method_10_code
def yX2_goDown : MethodName := ⟨RX2, "goDown", "(I)V"⟩
abbrev cX2_clearVariables : ByteArray := prog_4_method_11_code
def yX2_clearVariables : MethodName := ⟨RX2, "clearVariables", "()V"⟩
abbrev cX2_saveVariables : ByteArray := prog_4_method_12_code
def yX2_saveVariables : MethodName := ⟨RX2, "saveVariables", "()V"⟩
abbrev cX2_restoreVariables : ByteArray := prog_4_method_13_code
def yX2_restoreVariables : MethodName := ⟨RX2, "restoreVariables", "()V"⟩
def RX3 : String := "DriverHost$History"
def TX3 : u_T := fun k => match k with
  | 0 => ("DriverHost$History", "worlds", "[LDriverHost$World;", true)
  | 1 => ("DriverHost$History", "next", "I", false)
  | _ => ("DriverHost$History", "count", "I", false)
def tyX3 : Nat → FieldType := fun k => match k with
  | 0 => .array (.object "DriverHost$World")
  | 1 => .int
  | _ => .int
theorem nmX3 : ∀ a, a < 3 → ∀ b, b < 3 → a ≠ b → (TX3 a).2.1 ≠ (TX3 b).2.1 := by decide +kernel
theorem tyX3_ok : ∀ k, k < 3 → parseFieldDescriptor (TX3 k).2.2.1 = some (tyX3 k) := by decide +kernel
abbrev cX3_init : ByteArray := prog_5_method_1_code
def yX3_init : MethodName := ⟨RX3, "<init>", "()V"⟩
abbrev cX3_clear : ByteArray := prog_5_method_2_code
def yX3_clear : MethodName := ⟨RX3, "clear", "()V"⟩
abbrev cX3_remember : ByteArray := prog_5_method_3_code
def yX3_remember : MethodName := ⟨RX3, "remember", "(LDriverHost$World;)V"⟩
abbrev cX3_takeBack : ByteArray := prog_5_method_4_code
def yX3_takeBack : MethodName := ⟨RX3, "takeBack", "(LDriverHost$World;)I"⟩
def RX4 : String := "DriverHost$Journal"
def TX4 : u_T := fun k => match k with
  | 0 => ("DriverHost$Journal", "clocks", "[I", true)
  | 1 => ("DriverHost$Journal", "events", "[I", true)
  | 2 => ("DriverHost$Journal", "drivers", "[I", true)
  | 3 => ("DriverHost$Journal", "requests", "[I", true)
  | 4 => ("DriverHost$Journal", "totals", "[I", true)
  | 5 => ("DriverHost$Journal", "oldest", "I", false)
  | _ => ("DriverHost$Journal", "size", "I", false)
def tyX4 : Nat → FieldType := fun k => match k with
  | 0 => .array .int
  | 1 => .array .int
  | 2 => .array .int
  | 3 => .array .int
  | 4 => .array .int
  | 5 => .int
  | _ => .int
theorem nmX4 : ∀ a, a < 7 → ∀ b, b < 7 → a ≠ b → (TX4 a).2.1 ≠ (TX4 b).2.1 := by decide +kernel
theorem tyX4_ok : ∀ k, k < 7 → parseFieldDescriptor (TX4 k).2.2.1 = some (tyX4 k) := by decide +kernel
abbrev cX4_init : ByteArray := prog_6_method_1_code
def yX4_init : MethodName := ⟨RX4, "<init>", "()V"⟩
abbrev cX4_copyFrom : ByteArray := prog_6_method_2_code
def yX4_copyFrom : MethodName := ⟨RX4, "copyFrom", "(LDriverHost$Journal;)V"⟩
abbrev cX4_add : ByteArray := prog_6_method_3_code
def yX4_add : MethodName := ⟨RX4, "add", "(IIII)V"⟩
abbrev cX4_valueAt : ByteArray := prog_6_method_4_code
def yX4_valueAt : MethodName := ⟨RX4, "valueAt", "(II)I"⟩
abbrev cX4_totalOf : ByteArray := prog_6_method_5_code
def yX4_totalOf : MethodName := ⟨RX4, "totalOf", "(I)I"⟩
def RX5 : String := "DriverHost$Program"
def TX5 : u_T := fun k => match k with
  | 0 => ("DriverHost$Program", "driverCount", "I", false)
  | 1 => ("DriverHost$Program", "commandCount", "I", false)
  | 2 => ("DriverHost$Program", "commands", "[LDriverHost$Command;", true)
  | 3 => ("DriverHost$Program", "firstDelay", "I", false)
  | 4 => ("DriverHost$Program", "greatestDelay", "I", false)
  | 5 => ("DriverHost$Program", "calm", "I", false)
  | 6 => ("DriverHost$Program", "streakLimit", "I", false)
  | 7 => ("DriverHost$Program", "poison", "I", false)
  | 8 => ("DriverHost$Program", "interval", "I", false)
  | 9 => ("DriverHost$Program", "handover", "I", false)
  | _ => ("DriverHost$Program", "code", "LDriverHost$Code;", true)
def tyX5 : Nat → FieldType := fun k => match k with
  | 0 => .int
  | 1 => .int
  | 2 => .array (.object "DriverHost$Command")
  | 3 => .int
  | 4 => .int
  | 5 => .int
  | 6 => .int
  | 7 => .int
  | 8 => .int
  | 9 => .int
  | _ => .object "DriverHost$Code"
theorem nmX5 : ∀ a, a < 11 → ∀ b, b < 11 → a ≠ b → (TX5 a).2.1 ≠ (TX5 b).2.1 := by decide +kernel
theorem tyX5_ok : ∀ k, k < 11 → parseFieldDescriptor (TX5 k).2.2.1 = some (tyX5 k) := by decide +kernel
abbrev cX5_init : ByteArray := prog_7_method_1_code
def yX5_init : MethodName := ⟨RX5, "<init>", "(I)V"⟩
abbrev cX5_commandAt : ByteArray := prog_7_method_2_code
def yX5_commandAt : MethodName := ⟨RX5, "commandAt", "(I)LDriverHost$Command;"⟩
abbrev cX5_addCommand : ByteArray := prog_7_method_3_code
def yX5_addCommand : MethodName := ⟨RX5, "addCommand", "(LDriverHost$Command;)V"⟩
def RX6 : String := "DriverHost$Reader"
def TX6 : u_T := fun k => match k with
  | 0 => ("DriverHost$Reader", "tokens", "LDriverHost$Tokens;", true)
  | 1 => ("DriverHost$Reader", "asking", "Z", true)
  | 2 => ("DriverHost$Reader", "program", "LDriverHost$Program;", true)
  | 3 => ("DriverHost$Reader", "code", "LDriverHost$Code;", true)
  | 4 => ("DriverHost$Reader", "asksFirst", "Z", false)
  | 5 => ("DriverHost$Reader", "open", "I", false)
  | _ => ("DriverHost$Reader", "place", "I", false)
def tyX6 : Nat → FieldType := fun k => match k with
  | 0 => .object "DriverHost$Tokens"
  | 1 => .boolean
  | 2 => .object "DriverHost$Program"
  | 3 => .object "DriverHost$Code"
  | 4 => .boolean
  | 5 => .int
  | _ => .int
theorem nmX6 : ∀ a, a < 7 → ∀ b, b < 7 → a ≠ b → (TX6 a).2.1 ≠ (TX6 b).2.1 := by decide +kernel
theorem tyX6_ok : ∀ k, k < 7 → parseFieldDescriptor (TX6 k).2.2.1 = some (tyX6 k) := by decide +kernel
abbrev cX6_init : ByteArray := prog_8_method_1_code
def yX6_init : MethodName := ⟨RX6, "<init>", "([BIZ)V"⟩
abbrev cX6_readText : ByteArray := prog_8_method_2_code
def yX6_readText : MethodName := ⟨RX6, "readText", "()V"⟩
abbrev cX6_readQuery : ByteArray := prog_8_method_3_code
def yX6_readQuery : MethodName := ⟨RX6, "readQuery", "()V"⟩
abbrev cX6_takeWord : ByteArray := prog_8_method_4_code
def yX6_takeWord : MethodName := ⟨RX6, "takeWord", "(LDriverHost$Word;)V"⟩
abbrev cX6_takeSign : ByteArray := prog_8_method_5_code
def yX6_takeSign : MethodName := ⟨RX6, "takeSign", "(C)V"⟩
abbrev cX6_takeNumber : ByteArray := prog_8_method_6_code
def yX6_takeNumber : MethodName := ⟨RX6, "takeNumber", "(II)I"⟩
abbrev cX6_readClause : ByteArray := prog_8_method_7_code
def yX6_readClause : MethodName := ⟨RX6, "readClause", "()V"⟩
abbrev cX6_readCommand : ByteArray := prog_8_method_8_code
def yX6_readCommand : MethodName := ⟨RX6, "readCommand", "()V"⟩
abbrev cX6_readName : ByteArray := prog_8_method_9_code
def yX6_readName : MethodName := ⟨RX6, "readName", "(LDriverHost$Command;)V"⟩
abbrev cX6_readClass : ByteArray := prog_8_method_10_code
def yX6_readClass : MethodName := ⟨RX6, "readClass", "(LDriverHost$Command;)V"⟩
abbrev cX6_readStores : ByteArray := prog_8_method_11_code
def yX6_readStores : MethodName := ⟨RX6, "readStores", "(LDriverHost$Word;II)V"⟩
abbrev cX6_readTest : ByteArray := prog_8_method_12_code
def yX6_readTest : MethodName := ⟨RX6, "readTest", "()V"⟩
abbrev cX6_readConjunction : ByteArray := prog_8_method_13_code
def yX6_readConjunction : MethodName := ⟨RX6, "readConjunction", "()V"⟩
abbrev cX6_readFactor : ByteArray := prog_8_method_14_code
def yX6_readFactor : MethodName := ⟨RX6, "readFactor", "()V"⟩
abbrev cX6_opens : ByteArray := prog_8_method_15_code
def yX6_opens : MethodName := ⟨RX6, "opens", "()Z"⟩
abbrev cX6_takeComparison : ByteArray := prog_8_method_16_code
def yX6_takeComparison : MethodName := ⟨RX6, "takeComparison", "()I"⟩
abbrev cX6_readProperty : ByteArray := prog_8_method_17_code
def yX6_readProperty : MethodName := ⟨RX6, "readProperty", "()V"⟩
abbrev cX6_readSum : ByteArray := prog_8_method_18_code
def yX6_readSum : MethodName := ⟨RX6, "readSum", "()V"⟩
abbrev cX6_readProduct : ByteArray := prog_8_method_19_code
def yX6_readProduct : MethodName := ⟨RX6, "readProduct", "()V"⟩
abbrev cX6_readOperand : ByteArray := prog_8_method_20_code
def yX6_readOperand : MethodName := ⟨RX6, "readOperand", "()V"⟩
def RX7 : String := "DriverHost$Request"
def TX7 : u_T := fun k => match k with
  | 0 => ("DriverHost$Request", "number", "I", true)
  | 1 => ("DriverHost$Request", "driver", "I", false)
  | 2 => ("DriverHost$Request", "command", "I", false)
  | 3 => ("DriverHost$Request", "argument", "I", false)
  | 4 => ("DriverHost$Request", "priority", "I", false)
  | 5 => ("DriverHost$Request", "limit", "I", false)
  | 6 => ("DriverHost$Request", "accepted", "I", false)
  | 7 => ("DriverHost$Request", "state", "I", false)
  | 8 => ("DriverHost$Request", "failure", "I", false)
  | 9 => ("DriverHost$Request", "result", "I", false)
  | 10 => ("DriverHost$Request", "executions", "I", false)
  | 11 => ("DriverHost$Request", "crashes", "I", false)
  | 12 => ("DriverHost$Request", "remaining", "I", false)
  | 13 => ("DriverHost$Request", "point", "I", false)
  | 14 => ("DriverHost$Request", "times", "I", false)
  | _ => ("DriverHost$Request", "ended", "I", false)
def tyX7 : Nat → FieldType := fun k => match k with
  | 0 => .int
  | 1 => .int
  | 2 => .int
  | 3 => .int
  | 4 => .int
  | 5 => .int
  | 6 => .int
  | 7 => .int
  | 8 => .int
  | 9 => .int
  | 10 => .int
  | 11 => .int
  | 12 => .int
  | 13 => .int
  | 14 => .int
  | _ => .int
theorem nmX7 : ∀ a, a < 16 → ∀ b, b < 16 → a ≠ b → (TX7 a).2.1 ≠ (TX7 b).2.1 := by decide +kernel
theorem tyX7_ok : ∀ k, k < 16 → parseFieldDescriptor (TX7 k).2.2.1 = some (tyX7 k) := by decide +kernel
abbrev cX7_init : ByteArray := prog_9_method_1_code
def yX7_init : MethodName := ⟨RX7, "<init>", "(I)V"⟩
abbrev cX7_startAnew : ByteArray := prog_9_method_2_code
def yX7_startAnew : MethodName := ⟨RX7, "startAnew", "(III)V"⟩
abbrev cX7_copyFrom : ByteArray := prog_9_method_3_code
def yX7_copyFrom : MethodName := ⟨RX7, "copyFrom", "(LDriverHost$Request;)V"⟩
abbrev cX7_isOver : ByteArray := prog_9_method_4_code
def yX7_isOver : MethodName := ⟨RX7, "isOver", "()Z"⟩
abbrev cX7_deadline : ByteArray := prog_9_method_5_code
def yX7_deadline : MethodName := ⟨RX7, "deadline", "()I"⟩
abbrev cX7_takesCrash : ByteArray := prog_9_method_6_code
def yX7_takesCrash : MethodName := ⟨RX7, "takesCrash", "(I)Z"⟩
abbrev cX7_end : ByteArray := prog_9_method_7_code
def yX7_end : MethodName := ⟨RX7, "end", "(II)V"⟩
abbrev cX7_valueOf : ByteArray := prog_9_method_8_code
def yX7_valueOf : MethodName := ⟨RX7, "valueOf", "(I)I"⟩
abbrev cX7_propertyOf : ByteArray := prog_9_method_9_code
def yX7_propertyOf : MethodName := ⟨RX7, "propertyOf", "(II)I"⟩
def RX8 : String := "DriverHost$Tokens"
def TX8 : u_T := fun k => match k with
  | 0 => ("DriverHost$Tokens", "text", "[B", true)
  | 1 => ("DriverHost$Tokens", "length", "I", true)
  | 2 => ("DriverHost$Tokens", "kinds", "[I", true)
  | 3 => ("DriverHost$Tokens", "froms", "[I", true)
  | 4 => ("DriverHost$Tokens", "ends", "[I", true)
  | 5 => ("DriverHost$Tokens", "values", "[I", true)
  | 6 => ("DriverHost$Tokens", "words", "[LDriverHost$Word;", true)
  | 7 => ("DriverHost$Tokens", "count", "I", false)
  | 8 => ("DriverHost$Tokens", "at", "I", false)
  | 9 => ("DriverHost$Tokens", "error", "I", false)
  | _ => ("DriverHost$Tokens", "errorAt", "I", false)
def tyX8 : Nat → FieldType := fun k => match k with
  | 0 => .array .byte
  | 1 => .int
  | 2 => .array .int
  | 3 => .array .int
  | 4 => .array .int
  | 5 => .array .int
  | 6 => .array (.object "DriverHost$Word")
  | 7 => .int
  | 8 => .int
  | 9 => .int
  | _ => .int
theorem nmX8 : ∀ a, a < 11 → ∀ b, b < 11 → a ≠ b → (TX8 a).2.1 ≠ (TX8 b).2.1 := by decide +kernel
theorem tyX8_ok : ∀ k, k < 11 → parseFieldDescriptor (TX8 k).2.2.1 = some (tyX8 k) := by decide +kernel
abbrev cX8_init : ByteArray := prog_10_method_1_code
def yX8_init : MethodName := ⟨RX8, "<init>", "([BI)V"⟩
abbrev cX8_scan : ByteArray := prog_10_method_2_code
def yX8_scan : MethodName := ⟨RX8, "scan", "()V"⟩
abbrev cX8_endOf : ByteArray := prog_10_method_3_code
def yX8_endOf : MethodName := ⟨RX8, "endOf", "(I)I"⟩
abbrev cX8_add : ByteArray := prog_10_method_4_code
def yX8_add : MethodName := ⟨RX8, "add", "(II)V"⟩
abbrev cX8_numberOf : ByteArray := prog_10_method_5_code
def yX8_numberOf : MethodName := ⟨RX8, "numberOf", "(II)I"⟩
abbrev cX8_isLetter : ByteArray := prog_10_method_6_code
def yX8_isLetter : MethodName := ⟨RX8, "isLetter", "(B)Z"⟩
abbrev cX8_isDigit : ByteArray := prog_10_method_7_code
def yX8_isDigit : MethodName := ⟨RX8, "isDigit", "(B)Z"⟩
abbrev cX8_advance : ByteArray := prog_10_method_8_code
def yX8_advance : MethodName := ⟨RX8, "advance", "()V"⟩
abbrev cX8_atEnd : ByteArray := prog_10_method_9_code
def yX8_atEnd : MethodName := ⟨RX8, "atEnd", "()Z"⟩
abbrev cX8_word : ByteArray := prog_10_method_10_code
def yX8_word : MethodName := ⟨RX8, "word", "()LDriverHost$Word;"⟩
abbrev cX8_number : ByteArray := prog_10_method_11_code
def yX8_number : MethodName := ⟨RX8, "number", "()I"⟩
abbrev cX8_isNumber : ByteArray := prog_10_method_12_code
def yX8_isNumber : MethodName := ⟨RX8, "isNumber", "()Z"⟩
abbrev cX8_isSign : ByteArray := prog_10_method_13_code
def yX8_isSign : MethodName := ⟨RX8, "isSign", "(C)Z"⟩
abbrev cX8_isWord : ByteArray := prog_10_method_14_code
def yX8_isWord : MethodName := ⟨RX8, "isWord", "(LDriverHost$Word;)Z"⟩
abbrev cX8_isName : ByteArray := prog_10_method_15_code
def yX8_isName : MethodName := ⟨RX8, "isName", "()Z"⟩
abbrev cX8_refuse : ByteArray := prog_10_method_16_code
def yX8_refuse : MethodName := ⟨RX8, "refuse", "(I)V"⟩
abbrev cX8_areSame : ByteArray := prog_10_method_17_code
def yX8_areSame : MethodName := ⟨RX8, "areSame", "(II)Z"⟩
def RX9 : String := "DriverHost$Word"
def TX9 : u_T := fun k => match k with
  | _ => ("", "", "", false)
def tyX9 : Nat → FieldType := fun k => match k with
  | _ => .int
theorem nmX9 : ∀ a, a < 0 → ∀ b, b < 0 → a ≠ b → (TX9 a).2.1 ≠ (TX9 b).2.1 := by decide +kernel
theorem tyX9_ok : ∀ k, k < 0 → parseFieldDescriptor (TX9 k).2.2.1 = some (tyX9 k) := by decide +kernel
abbrev cX9_find : ByteArray := prog_11_method_5_code
def yX9_find : MethodName := ⟨RX9, "find", "([BII)LDriverHost$Word;"⟩
abbrev cX9_stands : ByteArray := prog_11_method_6_code
def yX9_stands : MethodName := ⟨RX9, "stands", "([BII)Z"⟩
def RX10 : String := "DriverHost$World"
def TX10 : u_T := fun k => match k with
  | 0 => ("DriverHost$World", "program", "LDriverHost$Program;", false)
  | 1 => ("DriverHost$World", "clock", "I", false)
  | 2 => ("DriverHost$World", "requestCount", "I", false)
  | 3 => ("DriverHost$World", "firstDelay", "I", false)
  | 4 => ("DriverHost$World", "drivers", "[LDriverHost$Driver;", true)
  | 5 => ("DriverHost$World", "requests", "[LDriverHost$Request;", true)
  | _ => ("DriverHost$World", "journal", "LDriverHost$Journal;", true)
def tyX10 : Nat → FieldType := fun k => match k with
  | 0 => .object "DriverHost$Program"
  | 1 => .int
  | 2 => .int
  | 3 => .int
  | 4 => .array (.object "DriverHost$Driver")
  | 5 => .array (.object "DriverHost$Request")
  | _ => .object "DriverHost$Journal"
theorem nmX10 : ∀ a, a < 7 → ∀ b, b < 7 → a ≠ b → (TX10 a).2.1 ≠ (TX10 b).2.1 := by decide +kernel
theorem tyX10_ok : ∀ k, k < 7 → parseFieldDescriptor (TX10 k).2.2.1 = some (tyX10 k) := by decide +kernel
abbrev cX10_init : ByteArray := prog_12_method_1_code
def yX10_init : MethodName := ⟨RX10, "<init>", "(LDriverHost$Program;)V"⟩
abbrev cX10_copyFrom : ByteArray := prog_12_method_2_code
def yX10_copyFrom : MethodName := ⟨RX10, "copyFrom", "(LDriverHost$World;)V"⟩
abbrev cX10_driverAt : ByteArray := prog_12_method_3_code
def yX10_driverAt : MethodName := ⟨RX10, "driverAt", "(I)LDriverHost$Driver;"⟩
abbrev cX10_requestAt : ByteArray := prog_12_method_4_code
def yX10_requestAt : MethodName := ⟨RX10, "requestAt", "(I)LDriverHost$Request;"⟩
abbrev cX10_completions : ByteArray := prog_12_method_5_code
def yX10_completions : MethodName := ⟨RX10, "completions", "()I"⟩
abbrev cX10_addRequest : ByteArray := prog_12_method_6_code
def yX10_addRequest : MethodName := ⟨RX10, "addRequest", "(II)LDriverHost$Request;"⟩
abbrev cX10_pass : ByteArray := prog_12_method_7_code
def yX10_pass : MethodName := ⟨RX10, "pass", "(I)V"⟩
abbrev cX10_step : ByteArray := prog_12_method_8_code
def yX10_step : MethodName := ⟨RX10, "step", "(LDriverHost$Driver;)V"⟩
abbrev cX10_restart : ByteArray := prog_12_method_9_code
def yX10_restart : MethodName := ⟨RX10, "restart", "(LDriverHost$Driver;)V"⟩
abbrev cX10_decide : ByteArray := prog_12_method_10_code
def yX10_decide : MethodName := ⟨RX10, "decide", "(LDriverHost$Request;)I"⟩
abbrev cX10_failLate : ByteArray := prog_12_method_11_code
def yX10_failLate : MethodName := ⟨RX10, "failLate", "(LDriverHost$Driver;)V"⟩
abbrev cX10_begin : ByteArray := prog_12_method_12_code
def yX10_begin : MethodName := ⟨RX10, "begin", "(LDriverHost$Driver;)V"⟩
abbrev cX10_nextOf : ByteArray := prog_12_method_13_code
def yX10_nextOf : MethodName := ⟨RX10, "nextOf", "(LDriverHost$Driver;)I"⟩
abbrev cX10_work : ByteArray := prog_12_method_14_code
def yX10_work : MethodName := ⟨RX10, "work", "(LDriverHost$Driver;LDriverHost$Request;)V"⟩
abbrev cX10_doEffect : ByteArray := prog_12_method_15_code
def yX10_doEffect : MethodName := ⟨RX10, "doEffect", "(LDriverHost$Driver;LDriverHost$Request;)I"⟩
abbrev cX10_resultNow : ByteArray := prog_12_method_16_code
def yX10_resultNow : MethodName := ⟨RX10, "resultNow", "(LDriverHost$Driver;LDriverHost$Request;)I"⟩
abbrev cX10_doKeepings : ByteArray := prog_12_method_17_code
def yX10_doKeepings : MethodName := ⟨RX10, "doKeepings", "(LDriverHost$Driver;LDriverHost$Request;)V"⟩
abbrev cX10_complete : ByteArray := prog_12_method_18_code
def yX10_complete : MethodName := ⟨RX10, "complete", "(LDriverHost$Driver;LDriverHost$Request;I)V"⟩
abbrev cX10_snapshot : ByteArray := prog_12_method_19_code
def yX10_snapshot : MethodName := ⟨RX10, "snapshot", "(LDriverHost$Driver;)V"⟩
abbrev cX10_crash : ByteArray := prog_12_method_20_code
def yX10_crash : MethodName := ⟨RX10, "crash", "(LDriverHost$Driver;)V"⟩
abbrev cX10_strike : ByteArray := prog_12_method_21_code
def yX10_strike : MethodName := ⟨RX10, "strike", "(LDriverHost$Request;)V"⟩
abbrev cX10_die : ByteArray := prog_12_method_22_code
def yX10_die : MethodName := ⟨RX10, "die", "(LDriverHost$Driver;)V"⟩
abbrev cX10_delayFor : ByteArray := prog_12_method_23_code
def yX10_delayFor : MethodName := ⟨RX10, "delayFor", "(I)I"⟩
abbrev cX10_fail : ByteArray := prog_12_method_24_code
def yX10_fail : MethodName := ⟨RX10, "fail", "(LDriverHost$Request;I)V"⟩
abbrev cX10_enqueue : ByteArray := prog_12_method_25_code
def yX10_enqueue : MethodName := ⟨RX10, "enqueue", "(LDriverHost$Driver;LDriverHost$Request;I)V"⟩
abbrev cX10_leaveQueue : ByteArray := prog_12_method_26_code
def yX10_leaveQueue : MethodName := ⟨RX10, "leaveQueue", "(LDriverHost$Driver;LDriverHost$Request;)V"⟩
abbrev cX10_matches : ByteArray := prog_12_method_27_code
def yX10_matches : MethodName := ⟨RX10, "matches", "(ILDriverHost$Code;[I)Z"⟩
def RX11 : String := "DriverHost"
def TX11 : u_T := fun k => match k with
  | 0 => ("DriverHost", "buffer", "[B", true)
  | 1 => ("DriverHost", "fed", "I", false)
  | 2 => ("DriverHost", "errorAt", "I", false)
  | 3 => ("DriverHost", "world", "LDriverHost$World;", false)
  | 4 => ("DriverHost", "history", "LDriverHost$History;", true)
  | 5 => ("DriverHost", "kept", "LDriverHost$World;", false)
  | 6 => ("DriverHost", "hasKept", "Z", false)
  | _ => ("DriverHost", "trial", "LDriverHost$World;", false)
def tyX11 : Nat → FieldType := fun k => match k with
  | 0 => .array .byte
  | 1 => .int
  | 2 => .int
  | 3 => .object "DriverHost$World"
  | 4 => .object "DriverHost$History"
  | 5 => .object "DriverHost$World"
  | 6 => .boolean
  | _ => .object "DriverHost$World"
theorem nmX11 : ∀ a, a < 8 → ∀ b, b < 8 → a ≠ b → (TX11 a).2.1 ≠ (TX11 b).2.1 := by decide +kernel
theorem tyX11_ok : ∀ k, k < 8 → parseFieldDescriptor (TX11 k).2.2.1 = some (tyX11 k) := by decide +kernel
abbrev cX11_init : ByteArray := prog_1_method_1_code
def yX11_init : MethodName := ⟨RX11, "<init>", "()V"⟩
abbrev cX11_feed : ByteArray := prog_1_method_2_code
def yX11_feed : MethodName := ⟨RX11, "feed", "(IIIII)I"⟩
abbrev cX11_append : ByteArray := prog_1_method_3_code
def yX11_append : MethodName := ⟨RX11, "append", "(I)V"⟩
abbrev cX11_load : ByteArray := prog_1_method_4_code
def yX11_load : MethodName := ⟨RX11, "load", "(I)I"⟩
abbrev cX11_errorPosition : ByteArray := prog_1_method_5_code
def yX11_errorPosition : MethodName := ⟨RX11, "errorPosition", "()I"⟩
abbrev cX11_driverCount : ByteArray := prog_1_method_6_code
def yX11_driverCount : MethodName := ⟨RX11, "driverCount", "()I"⟩
abbrev cX11_commandCount : ByteArray := prog_1_method_7_code
def yX11_commandCount : MethodName := ⟨RX11, "commandCount", "()I"⟩
abbrev cX11_requestCount : ByteArray := prog_1_method_8_code
def yX11_requestCount : MethodName := ⟨RX11, "requestCount", "()I"⟩
abbrev cX11_clock : ByteArray := prog_1_method_9_code
def yX11_clock : MethodName := ⟨RX11, "clock", "()I"⟩
abbrev cX11_classOf : ByteArray := prog_1_method_10_code
def yX11_classOf : MethodName := ⟨RX11, "classOf", "(I)I"⟩
abbrev cX11_timeOf : ByteArray := prog_1_method_11_code
def yX11_timeOf : MethodName := ⟨RX11, "timeOf", "(I)I"⟩
abbrev cX11_submit : ByteArray := prog_1_method_12_code
def yX11_submit : MethodName := ⟨RX11, "submit", "(IIIII)I"⟩
abbrev cX11_cancel : ByteArray := prog_1_method_13_code
def yX11_cancel : MethodName := ⟨RX11, "cancel", "(I)I"⟩
abbrev cX11_plan : ByteArray := prog_1_method_14_code
def yX11_plan : MethodName := ⟨RX11, "plan", "(III)I"⟩
abbrev cX11_kill : ByteArray := prog_1_method_15_code
def yX11_kill : MethodName := ⟨RX11, "kill", "(I)I"⟩
abbrev cX11_replace : ByteArray := prog_1_method_16_code
def yX11_replace : MethodName := ⟨RX11, "replace", "(I)I"⟩
abbrev cX11_takeSnapshot : ByteArray := prog_1_method_17_code
def yX11_takeSnapshot : MethodName := ⟨RX11, "takeSnapshot", "(I)I"⟩
abbrev cX11_poke : ByteArray := prog_1_method_18_code
def yX11_poke : MethodName := ⟨RX11, "poke", "(III)I"⟩
abbrev cX11_run : ByteArray := prog_1_method_19_code
def yX11_run : MethodName := ⟨RX11, "run", "(I)I"⟩
abbrev cX11_driverState : ByteArray := prog_1_method_20_code
def yX11_driverState : MethodName := ⟨RX11, "driverState", "(I)I"⟩
abbrev cX11_downUntil : ByteArray := prog_1_method_21_code
def yX11_downUntil : MethodName := ⟨RX11, "downUntil", "(I)I"⟩
abbrev cX11_streak : ByteArray := prog_1_method_22_code
def yX11_streak : MethodName := ⟨RX11, "streak", "(I)I"⟩
abbrev cX11_register : ByteArray := prog_1_method_23_code
def yX11_register : MethodName := ⟨RX11, "register", "(II)I"⟩
abbrev cX11_variable : ByteArray := prog_1_method_24_code
def yX11_variable : MethodName := ⟨RX11, "variable", "(II)I"⟩
abbrev cX11_saved : ByteArray := prog_1_method_25_code
def yX11_saved : MethodName := ⟨RX11, "saved", "(II)I"⟩
abbrev cX11_logSize : ByteArray := prog_1_method_26_code
def yX11_logSize : MethodName := ⟨RX11, "logSize", "(I)I"⟩
abbrev cX11_logged : ByteArray := prog_1_method_27_code
def yX11_logged : MethodName := ⟨RX11, "logged", "(II)I"⟩
abbrev cX11_inFlight : ByteArray := prog_1_method_28_code
def yX11_inFlight : MethodName := ⟨RX11, "inFlight", "(I)I"⟩
abbrev cX11_nextRequest : ByteArray := prog_1_method_29_code
def yX11_nextRequest : MethodName := ⟨RX11, "nextRequest", "(I)I"⟩
abbrev cX11_queued : ByteArray := prog_1_method_30_code
def yX11_queued : MethodName := ⟨RX11, "queued", "(I)I"⟩
abbrev cX11_request : ByteArray := prog_1_method_31_code
def yX11_request : MethodName := ⟨RX11, "request", "(II)I"⟩
abbrev cX11_recordCount : ByteArray := prog_1_method_32_code
def yX11_recordCount : MethodName := ⟨RX11, "recordCount", "()I"⟩
abbrev cX11_record : ByteArray := prog_1_method_33_code
def yX11_record : MethodName := ⟨RX11, "record", "(II)I"⟩
abbrev cX11_total : ByteArray := prog_1_method_34_code
def yX11_total : MethodName := ⟨RX11, "total", "(I)I"⟩
abbrev cX11_availability : ByteArray := prog_1_method_35_code
def yX11_availability : MethodName := ⟨RX11, "availability", "(I)D"⟩
abbrev cX11_meanTime : ByteArray := prog_1_method_36_code
def yX11_meanTime : MethodName := ⟨RX11, "meanTime", "(I)F"⟩
abbrev cX11_forecast : ByteArray := prog_1_method_37_code
def yX11_forecast : MethodName := ⟨RX11, "forecast", "(I)I"⟩
abbrev cX11_bestDelay : ByteArray := prog_1_method_38_code
def yX11_bestDelay : MethodName := ⟨RX11, "bestDelay", "(I)I"⟩
abbrev cX11_freshTrial : ByteArray := prog_1_method_39_code
def yX11_freshTrial : MethodName := ⟨RX11, "freshTrial", "()LDriverHost$World;"⟩
abbrev cX11_decision : ByteArray := prog_1_method_40_code
def yX11_decision : MethodName := ⟨RX11, "decision", "(I)I"⟩
abbrev cX11_undoCount : ByteArray := prog_1_method_41_code
def yX11_undoCount : MethodName := ⟨RX11, "undoCount", "()I"⟩
abbrev cX11_undo : ByteArray := prog_1_method_42_code
def yX11_undo : MethodName := ⟨RX11, "undo", "()I"⟩
abbrev cX11_saveState : ByteArray := prog_1_method_43_code
def yX11_saveState : MethodName := ⟨RX11, "saveState", "()V"⟩
abbrev cX11_restoreState : ByteArray := prog_1_method_44_code
def yX11_restoreState : MethodName := ⟨RX11, "restoreState", "()Z"⟩
abbrev cX11_query : ByteArray := prog_1_method_45_code
def yX11_query : MethodName := ⟨RX11, "query", "(I)I"⟩
abbrev cX11_countMatches : ByteArray := prog_1_method_46_code
def yX11_countMatches : MethodName := ⟨RX11, "countMatches", "(LDriverHost$Code;)I"⟩
abbrev cX11_firstMatch : ByteArray := prog_1_method_47_code
def yX11_firstMatch : MethodName := ⟨RX11, "firstMatch", "(LDriverHost$Code;)I"⟩
abbrev cX11_isWithin : ByteArray := prog_1_method_48_code
def yX11_isWithin : MethodName := ⟨RX11, "isWithin", "(III)Z"⟩
def RX12 : String := "DriverHostModel"
def TX12 : u_T := fun k => match k with
  | 0 => ("DriverHostModel", "thrown", "I", false)
  | 1 => ("DriverHostModel", "whole", "[I", true)
  | 2 => ("DriverHostModel", "kinds", "[I", true)
  | 3 => ("DriverHostModel", "times", "[I", true)
  | 4 => ("DriverHostModel", "testTo", "[I", true)
  | 5 => ("DriverHostModel", "resultTo", "[I", true)
  | 6 => ("DriverHostModel", "setsTo", "[I", true)
  | 7 => ("DriverHostModel", "keepsTo", "[I", true)
  | 8 => ("DriverHostModel", "testFrom", "[I", true)
  | 9 => ("DriverHostModel", "codes", "[I", true)
  | 10 => ("DriverHostModel", "nameAt", "[I", true)
  | 11 => ("DriverHostModel", "nameLong", "[I", true)
  | 12 => ("DriverHostModel", "now", "[I", true)
  | 13 => ("DriverHostModel", "then", "[I", true)
  | 14 => ("DriverHostModel", "kept", "[I", true)
  | 15 => ("DriverHostModel", "history", "[I", true)
  | 16 => ("DriverHostModel", "isKept", "Z", false)
  | 17 => ("DriverHostModel", "recorded", "I", false)
  | 18 => ("DriverHostModel", "buffer", "[I", true)
  | 19 => ("DriverHostModel", "buffered", "I", false)
  | 20 => ("DriverHostModel", "textEnd", "I", false)
  | 21 => ("DriverHostModel", "at", "I", false)
  | 22 => ("DriverHostModel", "begin", "I", false)
  | 23 => ("DriverHostModel", "kind", "I", false)
  | 24 => ("DriverHostModel", "told", "I", false)
  | 25 => ("DriverHostModel", "word", "J", false)
  | 26 => ("DriverHostModel", "wrong", "I", false)
  | 27 => ("DriverHostModel", "wrongAt", "I", false)
  | 28 => ("DriverHostModel", "wait", "[I", true)
  | 29 => ("DriverHostModel", "stack", "[I", true)
  | 30 => ("DriverHostModel", "asked", "[I", true)
  | 31 => ("DriverHostModel", "coded", "I", false)
  | 32 => ("DriverHostModel", "waits", "I", false)
  | 33 => ("DriverHostModel", "open", "I", false)
  | 34 => ("DriverHostModel", "place", "I", false)
  | 35 => ("DriverHostModel", "isAsked", "Z", false)
  | _ => ("DriverHostModel", "top", "I", false)
def tyX12 : Nat → FieldType := fun k => match k with
  | 0 => .int
  | 1 => .array .int
  | 2 => .array .int
  | 3 => .array .int
  | 4 => .array .int
  | 5 => .array .int
  | 6 => .array .int
  | 7 => .array .int
  | 8 => .array .int
  | 9 => .array .int
  | 10 => .array .int
  | 11 => .array .int
  | 12 => .array .int
  | 13 => .array .int
  | 14 => .array .int
  | 15 => .array .int
  | 16 => .boolean
  | 17 => .int
  | 18 => .array .int
  | 19 => .int
  | 20 => .int
  | 21 => .int
  | 22 => .int
  | 23 => .int
  | 24 => .int
  | 25 => .long
  | 26 => .int
  | 27 => .int
  | 28 => .array .int
  | 29 => .array .int
  | 30 => .array .int
  | 31 => .int
  | 32 => .int
  | 33 => .int
  | 34 => .int
  | 35 => .boolean
  | _ => .int
theorem nmX12 : ∀ a, a < 37 → ∀ b, b < 37 → a ≠ b → (TX12 a).2.1 ≠ (TX12 b).2.1 := by decide +kernel
theorem tyX12_ok : ∀ k, k < 37 → parseFieldDescriptor (TX12 k).2.2.1 = some (tyX12 k) := by decide +kernel
abbrev cX12_init : ByteArray := prog_14_method_1_code
def yX12_init : MethodName := ⟨RX12, "<init>", "()V"⟩
abbrev cX12_thrown : ByteArray := prog_14_method_2_code
def yX12_thrown : MethodName := ⟨RX12, "thrown", "()I"⟩
abbrev cX12_in : ByteArray := prog_14_method_3_code
def yX12_in : MethodName := ⟨RX12, "in", "(JJJ)Z"⟩
abbrev cX12_fails : ByteArray := prog_14_method_4_code
def yX12_fails : MethodName := ⟨RX12, "fails", "(ZI)Z"⟩
abbrev cX12_lesser : ByteArray := prog_14_method_5_code
def yX12_lesser : MethodName := ⟨RX12, "lesser", "(II)I"⟩
abbrev cX12_standard : ByteArray := prog_14_method_6_code
def yX12_standard : MethodName := ⟨RX12, "standard", "()V"⟩
abbrev cX12_shifts : ByteArray := prog_14_method_7_code
def yX12_shifts : MethodName := ⟨RX12, "shifts", "([I)V"⟩
abbrev cX12_takesOver : ByteArray := prog_14_method_8_code
def yX12_takesOver : MethodName := ⟨RX12, "takesOver", "()V"⟩
abbrev cX12_copy : ByteArray := prog_14_method_9_code
def yX12_copy : MethodName := ⟨RX12, "copy", "([I[I)V"⟩
abbrev cX12_lays : ByteArray := prog_14_method_10_code
def yX12_lays : MethodName := ⟨RX12, "lays", "(I)V"⟩
abbrev cX12_feed : ByteArray := prog_14_method_11_code
def yX12_feed : MethodName := ⟨RX12, "feed", "(IIIII)I"⟩
abbrev cX12_errorPosition : ByteArray := prog_14_method_12_code
def yX12_errorPosition : MethodName := ⟨RX12, "errorPosition", "()I"⟩
abbrev cX12_byteAt : ByteArray := prog_14_method_13_code
def yX12_byteAt : MethodName := ⟨RX12, "byteAt", "(I)I"⟩
abbrev cX12_isLetter : ByteArray := prog_14_method_14_code
def yX12_isLetter : MethodName := ⟨RX12, "isLetter", "(I)Z"⟩
abbrev cX12_isFigure : ByteArray := prog_14_method_15_code
def yX12_isFigure : MethodName := ⟨RX12, "isFigure", "(I)Z"⟩
abbrev cX12_readsWord : ByteArray := prog_14_method_16_code
def yX12_readsWord : MethodName := ⟨RX12, "readsWord", "()V"⟩
abbrev cX12_readsNumber : ByteArray := prog_14_method_17_code
def yX12_readsNumber : MethodName := ⟨RX12, "readsNumber", "()V"⟩
abbrev cX12_next : ByteArray := prog_14_method_18_code
def yX12_next : MethodName := ⟨RX12, "next", "()V"⟩
abbrev cX12_starts : ByteArray := prog_14_method_19_code
def yX12_starts : MethodName := ⟨RX12, "starts", "(I)V"⟩
abbrev cX12_wrongs : ByteArray := prog_14_method_20_code
def yX12_wrongs : MethodName := ⟨RX12, "wrongs", "(I)Z"⟩
abbrev cX12_isGood : ByteArray := prog_14_method_21_code
def yX12_isGood : MethodName := ⟨RX12, "isGood", "()Z"⟩
abbrev cX12_isWord : ByteArray := prog_14_method_22_code
def yX12_isWord : MethodName := ⟨RX12, "isWord", "(J)Z"⟩
abbrev cX12_passes : ByteArray := prog_14_method_23_code
def yX12_passes : MethodName := ⟨RX12, "passes", "(J)Z"⟩
abbrev cX12_isByte : ByteArray := prog_14_method_24_code
def yX12_isByte : MethodName := ⟨RX12, "isByte", "(I)Z"⟩
abbrev cX12_must : ByteArray := prog_14_method_25_code
def yX12_must : MethodName := ⟨RX12, "must", "(I)V"⟩
abbrev cX12_number : ByteArray := prog_14_method_26_code
def yX12_number : MethodName := ⟨RX12, "number", "(II)I"⟩
abbrev cX12_isClauseWord : ByteArray := prog_14_method_27_code
def yX12_isClauseWord : MethodName := ⟨RX12, "isClauseWord", "()Z"⟩
abbrev cX12_isInnerWord : ByteArray := prog_14_method_28_code
def yX12_isInnerWord : MethodName := ⟨RX12, "isInnerWord", "()Z"⟩
abbrev cX12_classHere : ByteArray := prog_14_method_29_code
def yX12_classHere : MethodName := ⟨RX12, "classHere", "()I"⟩
abbrev cX12_propertyHere : ByteArray := prog_14_method_30_code
def yX12_propertyHere : MethodName := ⟨RX12, "propertyHere", "()I"⟩
abbrev cX12_isName : ByteArray := prog_14_method_31_code
def yX12_isName : MethodName := ⟨RX12, "isName", "()Z"⟩
abbrev cX12_isNamed : ByteArray := prog_14_method_32_code
def yX12_isNamed : MethodName := ⟨RX12, "isNamed", "(I)Z"⟩
abbrev cX12_nameRead : ByteArray := prog_14_method_33_code
def yX12_nameRead : MethodName := ⟨RX12, "nameRead", "(I)V"⟩
abbrev cX12_adds : ByteArray := prog_14_method_34_code
def yX12_adds : MethodName := ⟨RX12, "adds", "(I)V"⟩
abbrev cX12_goesIn : ByteArray := prog_14_method_35_code
def yX12_goesIn : MethodName := ⟨RX12, "goesIn", "(I)Z"⟩
abbrev cX12_operandRead : ByteArray := prog_14_method_36_code
def yX12_operandRead : MethodName := ⟨RX12, "operandRead", "()V"⟩
abbrev cX12_rank : ByteArray := prog_14_method_37_code
def yX12_rank : MethodName := ⟨RX12, "rank", "(I)I"⟩
abbrev cX12_sumSettles : ByteArray := prog_14_method_38_code
def yX12_sumSettles : MethodName := ⟨RX12, "sumSettles", "(II)V"⟩
abbrev cX12_hasBracket : ByteArray := prog_14_method_39_code
def yX12_hasBracket : MethodName := ⟨RX12, "hasBracket", "(I)Z"⟩
abbrev cX12_operatorHere : ByteArray := prog_14_method_40_code
def yX12_operatorHere : MethodName := ⟨RX12, "operatorHere", "()I"⟩
abbrev cX12_sumRead : ByteArray := prog_14_method_41_code
def yX12_sumRead : MethodName := ⟨RX12, "sumRead", "()V"⟩
abbrev cX12_valueRead : ByteArray := prog_14_method_42_code
def yX12_valueRead : MethodName := ⟨RX12, "valueRead", "()V"⟩
abbrev cX12_sideRead : ByteArray := prog_14_method_43_code
def yX12_sideRead : MethodName := ⟨RX12, "sideRead", "()V"⟩
abbrev cX12_strength : ByteArray := prog_14_method_44_code
def yX12_strength : MethodName := ⟨RX12, "strength", "(I)I"⟩
abbrev cX12_settles : ByteArray := prog_14_method_45_code
def yX12_settles : MethodName := ⟨RX12, "settles", "(I)V"⟩
abbrev cX12_isInside : ByteArray := prog_14_method_46_code
def yX12_isInside : MethodName := ⟨RX12, "isInside", "()Z"⟩
abbrev cX12_isOpening : ByteArray := prog_14_method_47_code
def yX12_isOpening : MethodName := ⟨RX12, "isOpening", "()Z"⟩
abbrev cX12_comparisonRead : ByteArray := prog_14_method_48_code
def yX12_comparisonRead : MethodName := ⟨RX12, "comparisonRead", "()V"⟩
abbrev cX12_closes : ByteArray := prog_14_method_49_code
def yX12_closes : MethodName := ⟨RX12, "closes", "()V"⟩
abbrev cX12_testRead : ByteArray := prog_14_method_50_code
def yX12_testRead : MethodName := ⟨RX12, "testRead", "()V"⟩
abbrev cX12_classRead : ByteArray := prog_14_method_51_code
def yX12_classRead : MethodName := ⟨RX12, "classRead", "(I)V"⟩
abbrev cX12_storesRead : ByteArray := prog_14_method_52_code
def yX12_storesRead : MethodName := ⟨RX12, "storesRead", "(JIII)V"⟩
abbrev cX12_commandClause : ByteArray := prog_14_method_53_code
def yX12_commandClause : MethodName := ⟨RX12, "commandClause", "()V"⟩
abbrev cX12_clause : ByteArray := prog_14_method_54_code
def yX12_clause : MethodName := ⟨RX12, "clause", "()V"⟩
abbrev cX12_load : ByteArray := prog_14_method_55_code
def yX12_load : MethodName := ⟨RX12, "load", "(I)I"⟩
abbrev cX12_joined : ByteArray := prog_14_method_56_code
def yX12_joined : MethodName := ⟨RX12, "joined", "(III)I"⟩
abbrev cX12_cut : ByteArray := prog_14_method_57_code
def yX12_cut : MethodName := ⟨RX12, "cut", "(I)I"⟩
abbrev cX12_reckons : ByteArray := prog_14_method_58_code
def yX12_reckons : MethodName := ⟨RX12, "reckons", "(I)Z"⟩
abbrev cX12_factOf : ByteArray := prog_14_method_59_code
def yX12_factOf : MethodName := ⟨RX12, "factOf", "([IIIII)I"⟩
abbrev cX12_goesThrough : ByteArray := prog_14_method_60_code
def yX12_goesThrough : MethodName := ⟨RX12, "goesThrough", "([IIIIII)I"⟩
abbrev cX12_of : ByteArray := prog_14_method_61_code
def yX12_of : MethodName := ⟨RX12, "of", "([III)I"⟩
abbrev cX12_sets : ByteArray := prog_14_method_62_code
def yX12_sets : MethodName := ⟨RX12, "sets", "([IIII)V"⟩
abbrev cX12_isTrue : ByteArray := prog_14_method_63_code
def yX12_isTrue : MethodName := ⟨RX12, "isTrue", "([II)Z"⟩
abbrev cX12_resultOf : ByteArray := prog_14_method_64_code
def yX12_resultOf : MethodName := ⟨RX12, "resultOf", "([II)I"⟩
abbrev cX12_keepsIn : ByteArray := prog_14_method_65_code
def yX12_keepsIn : MethodName := ⟨RX12, "keepsIn", "([II)V"⟩
abbrev cX12_notes : ByteArray := prog_14_method_66_code
def yX12_notes : MethodName := ⟨RX12, "notes", "([IIII)V"⟩
abbrev cX12_endsBadly : ByteArray := prog_14_method_67_code
def yX12_endsBadly : MethodName := ⟨RX12, "endsBadly", "([III)V"⟩
abbrev cX12_snaps : ByteArray := prog_14_method_68_code
def yX12_snaps : MethodName := ⟨RX12, "snaps", "([II)V"⟩
abbrev cX12_endsWell : ByteArray := prog_14_method_69_code
def yX12_endsWell : MethodName := ⟨RX12, "endsWell", "([III)V"⟩
abbrev cX12_loses : ByteArray := prog_14_method_70_code
def yX12_loses : MethodName := ⟨RX12, "loses", "([II)V"⟩
abbrev cX12_delayOf : ByteArray := prog_14_method_71_code
def yX12_delayOf : MethodName := ⟨RX12, "delayOf", "(I)I"⟩
abbrev cX12_crashes : ByteArray := prog_14_method_72_code
def yX12_crashes : MethodName := ⟨RX12, "crashes", "([II)V"⟩
abbrev cX12_decides : ByteArray := prog_14_method_73_code
def yX12_decides : MethodName := ⟨RX12, "decides", "([III)V"⟩
abbrev cX12_restarts : ByteArray := prog_14_method_74_code
def yX12_restarts : MethodName := ⟨RX12, "restarts", "([II)V"⟩
abbrev cX12_nextOf : ByteArray := prog_14_method_75_code
def yX12_nextOf : MethodName := ⟨RX12, "nextOf", "([II)I"⟩
abbrev cX12_dropsLate : ByteArray := prog_14_method_76_code
def yX12_dropsLate : MethodName := ⟨RX12, "dropsLate", "([II)V"⟩
abbrev cX12_begins : ByteArray := prog_14_method_77_code
def yX12_begins : MethodName := ⟨RX12, "begins", "([II)V"⟩
abbrev cX12_isPlanned : ByteArray := prog_14_method_78_code
def yX12_isPlanned : MethodName := ⟨RX12, "isPlanned", "([III)Z"⟩
abbrev cX12_goesOn : ByteArray := prog_14_method_79_code
def yX12_goesOn : MethodName := ⟨RX12, "goesOn", "([II)V"⟩
abbrev cX12_ticksOf : ByteArray := prog_14_method_80_code
def yX12_ticksOf : MethodName := ⟨RX12, "ticksOf", "([II)V"⟩
abbrev cX12_tick : ByteArray := prog_14_method_81_code
def yX12_tick : MethodName := ⟨RX12, "tick", "([I)V"⟩
abbrev cX12_isDriver : ByteArray := prog_14_method_82_code
def yX12_isDriver : MethodName := ⟨RX12, "isDriver", "(I)Z"⟩
abbrev cX12_isCommand : ByteArray := prog_14_method_83_code
def yX12_isCommand : MethodName := ⟨RX12, "isCommand", "(I)Z"⟩
abbrev cX12_isRequest : ByteArray := prog_14_method_84_code
def yX12_isRequest : MethodName := ⟨RX12, "isRequest", "(I)Z"⟩
abbrev cX12_driverCount : ByteArray := prog_14_method_85_code
def yX12_driverCount : MethodName := ⟨RX12, "driverCount", "()I"⟩
abbrev cX12_commandCount : ByteArray := prog_14_method_86_code
def yX12_commandCount : MethodName := ⟨RX12, "commandCount", "()I"⟩
abbrev cX12_requestCount : ByteArray := prog_14_method_87_code
def yX12_requestCount : MethodName := ⟨RX12, "requestCount", "()I"⟩
abbrev cX12_clock : ByteArray := prog_14_method_88_code
def yX12_clock : MethodName := ⟨RX12, "clock", "()I"⟩
abbrev cX12_classOf : ByteArray := prog_14_method_89_code
def yX12_classOf : MethodName := ⟨RX12, "classOf", "(I)I"⟩
abbrev cX12_timeOf : ByteArray := prog_14_method_90_code
def yX12_timeOf : MethodName := ⟨RX12, "timeOf", "(I)I"⟩
abbrev cX12_noDriver : ByteArray := prog_14_method_91_code
def yX12_noDriver : MethodName := ⟨RX12, "noDriver", "(I)Z"⟩
abbrev cX12_driverState : ByteArray := prog_14_method_92_code
def yX12_driverState : MethodName := ⟨RX12, "driverState", "(I)I"⟩
abbrev cX12_downUntil : ByteArray := prog_14_method_93_code
def yX12_downUntil : MethodName := ⟨RX12, "downUntil", "(I)I"⟩
abbrev cX12_streak : ByteArray := prog_14_method_94_code
def yX12_streak : MethodName := ⟨RX12, "streak", "(I)I"⟩
abbrev cX12_register : ByteArray := prog_14_method_95_code
def yX12_register : MethodName := ⟨RX12, "register", "(II)I"⟩
abbrev cX12_variable : ByteArray := prog_14_method_96_code
def yX12_variable : MethodName := ⟨RX12, "variable", "(II)I"⟩
abbrev cX12_saved : ByteArray := prog_14_method_97_code
def yX12_saved : MethodName := ⟨RX12, "saved", "(II)I"⟩
abbrev cX12_logSize : ByteArray := prog_14_method_98_code
def yX12_logSize : MethodName := ⟨RX12, "logSize", "(I)I"⟩
abbrev cX12_logged : ByteArray := prog_14_method_99_code
def yX12_logged : MethodName := ⟨RX12, "logged", "(II)I"⟩
abbrev cX12_inFlight : ByteArray := prog_14_method_100_code
def yX12_inFlight : MethodName := ⟨RX12, "inFlight", "(I)I"⟩
abbrev cX12_nextRequest : ByteArray := prog_14_method_101_code
def yX12_nextRequest : MethodName := ⟨RX12, "nextRequest", "(I)I"⟩
abbrev cX12_queued : ByteArray := prog_14_method_102_code
def yX12_queued : MethodName := ⟨RX12, "queued", "(I)I"⟩
abbrev cX12_noRequest : ByteArray := prog_14_method_103_code
def yX12_noRequest : MethodName := ⟨RX12, "noRequest", "(I)Z"⟩
abbrev cX12_request : ByteArray := prog_14_method_104_code
def yX12_request : MethodName := ⟨RX12, "request", "(II)I"⟩
abbrev cX12_recordCount : ByteArray := prog_14_method_105_code
def yX12_recordCount : MethodName := ⟨RX12, "recordCount", "()I"⟩
abbrev cX12_record : ByteArray := prog_14_method_106_code
def yX12_record : MethodName := ⟨RX12, "record", "(II)I"⟩
abbrev cX12_total : ByteArray := prog_14_method_107_code
def yX12_total : MethodName := ⟨RX12, "total", "(I)I"⟩
abbrev cX12_availability : ByteArray := prog_14_method_108_code
def yX12_availability : MethodName := ⟨RX12, "availability", "(I)D"⟩
abbrev cX12_meanTime : ByteArray := prog_14_method_109_code
def yX12_meanTime : MethodName := ⟨RX12, "meanTime", "(I)F"⟩
abbrev cX12_records : ByteArray := prog_14_method_110_code
def yX12_records : MethodName := ⟨RX12, "records", "()V"⟩
abbrev cX12_submit : ByteArray := prog_14_method_111_code
def yX12_submit : MethodName := ⟨RX12, "submit", "(IIIII)I"⟩
abbrev cX12_cancel : ByteArray := prog_14_method_112_code
def yX12_cancel : MethodName := ⟨RX12, "cancel", "(I)I"⟩
abbrev cX12_plan : ByteArray := prog_14_method_113_code
def yX12_plan : MethodName := ⟨RX12, "plan", "(III)I"⟩
abbrev cX12_kill : ByteArray := prog_14_method_114_code
def yX12_kill : MethodName := ⟨RX12, "kill", "(I)I"⟩
abbrev cX12_replace : ByteArray := prog_14_method_115_code
def yX12_replace : MethodName := ⟨RX12, "replace", "(I)I"⟩
abbrev cX12_takeSnapshot : ByteArray := prog_14_method_116_code
def yX12_takeSnapshot : MethodName := ⟨RX12, "takeSnapshot", "(I)I"⟩
abbrev cX12_poke : ByteArray := prog_14_method_117_code
def yX12_poke : MethodName := ⟨RX12, "poke", "(III)I"⟩
abbrev cX12_run : ByteArray := prog_14_method_118_code
def yX12_run : MethodName := ⟨RX12, "run", "(I)I"⟩
abbrev cX12_undoCount : ByteArray := prog_14_method_119_code
def yX12_undoCount : MethodName := ⟨RX12, "undoCount", "()I"⟩
abbrev cX12_undo : ByteArray := prog_14_method_120_code
def yX12_undo : MethodName := ⟨RX12, "undo", "()I"⟩
abbrev cX12_saveState : ByteArray := prog_14_method_121_code
def yX12_saveState : MethodName := ⟨RX12, "saveState", "()V"⟩
abbrev cX12_restoreState : ByteArray := prog_14_method_122_code
def yX12_restoreState : MethodName := ⟨RX12, "restoreState", "()Z"⟩
abbrev cX12_forecast : ByteArray := prog_14_method_123_code
def yX12_forecast : MethodName := ⟨RX12, "forecast", "(I)I"⟩
abbrev cX12_bestDelay : ByteArray := prog_14_method_124_code
def yX12_bestDelay : MethodName := ⟨RX12, "bestDelay", "(I)I"⟩
abbrev cX12_decision : ByteArray := prog_14_method_125_code
def yX12_decision : MethodName := ⟨RX12, "decision", "(I)I"⟩
abbrev cX12_propertyOf : ByteArray := prog_14_method_126_code
def yX12_propertyOf : MethodName := ⟨RX12, "propertyOf", "(II)I"⟩
abbrev cX12_holds : ByteArray := prog_14_method_127_code
def yX12_holds : MethodName := ⟨RX12, "holds", "(I)Z"⟩
abbrev cX12_query : ByteArray := prog_14_method_128_code
def yX12_query : MethodName := ⟨RX12, "query", "(I)I"⟩
def RJx145de : String := "java/io/Serializable"
def TJx145de : u_T := fun k => match k with
  | _ => ("", "", "", false)
def tyJx145de : Nat → FieldType := fun k => match k with
  | _ => .int
theorem nmJx145de : ∀ a, a < 0 → ∀ b, b < 0 → a ≠ b → (TJx145de a).2.1 ≠ (TJx145de b).2.1 := by decide +kernel
theorem tyJx145de_ok : ∀ k, k < 0 → parseFieldDescriptor (TJx145de k).2.2.1 = some (tyJx145de k) := by decide +kernel
def RJx9f9b0 : String := "java/lang/CharSequence"
def TJx9f9b0 : u_T := fun k => match k with
  | _ => ("", "", "", false)
def tyJx9f9b0 : Nat → FieldType := fun k => match k with
  | _ => .int
theorem nmJx9f9b0 : ∀ a, a < 0 → ∀ b, b < 0 → a ≠ b → (TJx9f9b0 a).2.1 ≠ (TJx9f9b0 b).2.1 := by decide +kernel
theorem tyJx9f9b0_ok : ∀ k, k < 0 → parseFieldDescriptor (TJx9f9b0 k).2.2.1 = some (tyJx9f9b0 k) := by decide +kernel
def RJxb160c : String := "java/lang/Comparable"
def TJxb160c : u_T := fun k => match k with
  | _ => ("", "", "", false)
def tyJxb160c : Nat → FieldType := fun k => match k with
  | _ => .int
theorem nmJxb160c : ∀ a, a < 0 → ∀ b, b < 0 → a ≠ b → (TJxb160c a).2.1 ≠ (TJxb160c b).2.1 := by decide +kernel
theorem tyJxb160c_ok : ∀ k, k < 0 → parseFieldDescriptor (TJxb160c k).2.2.1 = some (tyJxb160c k) := by decide +kernel
def RJx29ce0 : String := "java/lang/Enum"
def TJx29ce0 : u_T := fun k => match k with
  | _ => ("", "", "", false)
def tyJx29ce0 : Nat → FieldType := fun k => match k with
  | _ => .int
theorem nmJx29ce0 : ∀ a, a < 0 → ∀ b, b < 0 → a ≠ b → (TJx29ce0 a).2.1 ≠ (TJx29ce0 b).2.1 := by decide +kernel
theorem tyJx29ce0_ok : ∀ k, k < 0 → parseFieldDescriptor (TJx29ce0 k).2.2.1 = some (tyJx29ce0 k) := by decide +kernel
def RJ9 : String := "java/lang/Math"
def TJ9 : u_T := fun k => match k with
  | _ => ("", "", "", false)
def tyJ9 : Nat → FieldType := fun k => match k with
  | _ => .int
theorem nmJ9 : ∀ a, a < 0 → ∀ b, b < 0 → a ≠ b → (TJ9 a).2.1 ≠ (TJ9 b).2.1 := by decide +kernel
theorem tyJ9_ok : ∀ k, k < 0 → parseFieldDescriptor (TJ9 k).2.2.1 = some (tyJ9 k) := by decide +kernel
abbrev cJ9_max_7cf53 : ByteArray := prog_21_method_65_code
def yJ9_max_7cf53 : MethodName := ⟨RJ9, "max", "(II)I"⟩
abbrev cJ9_min_7cf53 : ByteArray := prog_21_method_69_code
def yJ9_min_7cf53 : MethodName := ⟨RJ9, "min", "(II)I"⟩
def RJ0 : String := "java/lang/String"
def TJ0 : u_T := fun k => match k with
  | _ => ("", "", "", false)
def tyJ0 : Nat → FieldType := fun k => match k with
  | _ => .int
theorem nmJ0 : ∀ a, a < 0 → ∀ b, b < 0 → a ≠ b → (TJ0 a).2.1 ≠ (TJ0 b).2.1 := by decide +kernel
theorem tyJ0_ok : ∀ k, k < 0 → parseFieldDescriptor (TJ0 k).2.2.1 = some (tyJ0 k) := by decide +kernel
abbrev cJ0_length_8abf5 : ByteArray := prog_23_method_54_code
def yJ0_length_8abf5 : MethodName := ⟨RJ0, "length", "()I"⟩
abbrev cJ0_charAt_5068e : ByteArray := prog_23_method_56_code
def yJ0_charAt_5068e : MethodName := ⟨RJ0, "charAt", "(I)C"⟩
abbrev cJ0_coder_7d493 : ByteArray := prog_23_method_152_code
def yJ0_coder_7d493 : MethodName := ⟨RJ0, "coder", "()B"⟩
abbrev cJ0_isLatin1_aae02 : ByteArray := prog_23_method_154_code
def yJ0_isLatin1_aae02 : MethodName := ⟨RJ0, "isLatin1", "()Z"⟩
abbrev cJ0_checkIndex_df160 : ByteArray := prog_23_method_155_code
def yJ0_checkIndex_df160 : MethodName := ⟨RJ0, "checkIndex", "(II)V"⟩
def RJ1 : String := "java/lang/StringLatin1"
def TJ1 : u_T := fun k => match k with
  | _ => ("", "", "", false)
def tyJ1 : Nat → FieldType := fun k => match k with
  | _ => .int
theorem nmJ1 : ∀ a, a < 0 → ∀ b, b < 0 → a ≠ b → (TJ1 a).2.1 ≠ (TJ1 b).2.1 := by decide +kernel
theorem tyJ1_ok : ∀ k, k < 0 → parseFieldDescriptor (TJ1 k).2.2.1 = some (tyJ1 k) := by decide +kernel
abbrev cJ1_charAt_3b067 : ByteArray := prog_24_method_2_code
def yJ1_charAt_3b067 : MethodName := ⟨RJ1, "charAt", "([BI)C"⟩
def RJ2 : String := "java/lang/StringUTF16"
def TJ2 : u_T := fun k => match k with
  | _ => ("", "", "", false)
def tyJ2 : Nat → FieldType := fun k => match k with
  | _ => .int
theorem nmJ2 : ∀ a, a < 0 → ∀ b, b < 0 → a ≠ b → (TJ2 a).2.1 ≠ (TJ2 b).2.1 := by decide +kernel
theorem tyJ2_ok : ∀ k, k < 0 → parseFieldDescriptor (TJ2 k).2.2.1 = some (tyJ2 k) := by decide +kernel
abbrev cJ2_getChar_3b067 : ByteArray := prog_25_method_5_code
def yJ2_getChar_3b067 : MethodName := ⟨RJ2, "getChar", "([BI)C"⟩
abbrev cJ2_length_9d52b : ByteArray := prog_25_method_6_code
def yJ2_length_9d52b : MethodName := ⟨RJ2, "length", "([B)I"⟩
abbrev cJ2_charAt_3b067 : ByteArray := prog_25_method_83_code
def yJ2_charAt_3b067 : MethodName := ⟨RJ2, "charAt", "([BI)C"⟩
abbrev cJ2_checkIndex_2214a : ByteArray := prog_25_method_91_code
def yJ2_checkIndex_2214a : MethodName := ⟨RJ2, "checkIndex", "(I[B)V"⟩
def RJ10 : String := "java/lang/System"
def TJ10 : u_T := fun k => match k with
  | _ => ("", "", "", false)
def tyJ10 : Nat → FieldType := fun k => match k with
  | _ => .int
theorem nmJ10 : ∀ a, a < 0 → ∀ b, b < 0 → a ≠ b → (TJ10 a).2.1 ≠ (TJ10 b).2.1 := by decide +kernel
theorem tyJ10_ok : ∀ k, k < 0 → parseFieldDescriptor (TJ10 k).2.2.1 = some (tyJ10 k) := by decide +kernel
def RJxfd54e : String := "java/lang/constant/Constable"
def TJxfd54e : u_T := fun k => match k with
  | _ => ("", "", "", false)
def tyJxfd54e : Nat → FieldType := fun k => match k with
  | _ => .int
theorem nmJxfd54e : ∀ a, a < 0 → ∀ b, b < 0 → a ≠ b → (TJxfd54e a).2.1 ≠ (TJxfd54e b).2.1 := by decide +kernel
theorem tyJxfd54e_ok : ∀ k, k < 0 → parseFieldDescriptor (TJxfd54e k).2.2.1 = some (tyJxfd54e k) := by decide +kernel
def RJx3cf43 : String := "java/lang/constant/ConstantDesc"
def TJx3cf43 : u_T := fun k => match k with
  | _ => ("", "", "", false)
def tyJx3cf43 : Nat → FieldType := fun k => match k with
  | _ => .int
theorem nmJx3cf43 : ∀ a, a < 0 → ∀ b, b < 0 → a ≠ b → (TJx3cf43 a).2.1 ≠ (TJx3cf43 b).2.1 := by decide +kernel
theorem tyJx3cf43_ok : ∀ k, k < 0 → parseFieldDescriptor (TJx3cf43 k).2.2.1 = some (tyJx3cf43 k) := by decide +kernel
def RJ3 : String := "jdk/internal/util/Preconditions"
def TJ3 : u_T := fun k => match k with
  | _ => ("", "", "", false)
def tyJ3 : Nat → FieldType := fun k => match k with
  | _ => .int
theorem nmJ3 : ∀ a, a < 0 → ∀ b, b < 0 → a ≠ b → (TJ3 a).2.1 ≠ (TJ3 b).2.1 := by decide +kernel
theorem tyJ3_ok : ∀ k, k < 0 → parseFieldDescriptor (TJ3 k).2.2.1 = some (tyJ3 k) := by decide +kernel
abbrev cJ3_checkIndex_8e157 : ByteArray := prog_31_method_11_code
def yJ3_checkIndex_8e157 : MethodName := ⟨RJ3, "checkIndex", "(IILjava/util/function/BiFunction;)I"⟩
def RL : String := "DriverHostLaw"
abbrev cL_load : ByteArray := method_3_code
def yL_load : MethodName := ⟨RL, "load", "(LDriverHost;I[J)I"⟩
abbrev cL_classOf : ByteArray := method_4_code
def yL_classOf : MethodName := ⟨RL, "classOf", "(LDriverHost;I[J)I"⟩
abbrev cL_timeOf : ByteArray := method_5_code
def yL_timeOf : MethodName := ⟨RL, "timeOf", "(LDriverHost;I[J)I"⟩
abbrev cL_submit : ByteArray := method_6_code
def yL_submit : MethodName := ⟨RL, "submit", "(LDriverHost;IIIII[J)I"⟩
abbrev cL_cancel : ByteArray := method_7_code
def yL_cancel : MethodName := ⟨RL, "cancel", "(LDriverHost;I[J)I"⟩
abbrev cL_plan : ByteArray := method_8_code
def yL_plan : MethodName := ⟨RL, "plan", "(LDriverHost;III[J)I"⟩
abbrev cL_kill : ByteArray := method_9_code
def yL_kill : MethodName := ⟨RL, "kill", "(LDriverHost;I[J)I"⟩
abbrev cL_replace : ByteArray := method_10_code
def yL_replace : MethodName := ⟨RL, "replace", "(LDriverHost;I[J)I"⟩
abbrev cL_takeSnapshot : ByteArray := method_11_code
def yL_takeSnapshot : MethodName := ⟨RL, "takeSnapshot", "(LDriverHost;I[J)I"⟩
abbrev cL_poke : ByteArray := method_12_code
def yL_poke : MethodName := ⟨RL, "poke", "(LDriverHost;III[J)I"⟩
abbrev cL_run : ByteArray := method_13_code
def yL_run : MethodName := ⟨RL, "run", "(LDriverHost;I[J)I"⟩
abbrev cL_driverState : ByteArray := method_14_code
def yL_driverState : MethodName := ⟨RL, "driverState", "(LDriverHost;I[J)I"⟩
abbrev cL_downUntil : ByteArray := method_15_code
def yL_downUntil : MethodName := ⟨RL, "downUntil", "(LDriverHost;I[J)I"⟩
abbrev cL_streak : ByteArray := method_16_code
def yL_streak : MethodName := ⟨RL, "streak", "(LDriverHost;I[J)I"⟩
abbrev cL_register : ByteArray := method_17_code
def yL_register : MethodName := ⟨RL, "register", "(LDriverHost;II[J)I"⟩
abbrev cL_variable : ByteArray := method_18_code
def yL_variable : MethodName := ⟨RL, "variable", "(LDriverHost;II[J)I"⟩
abbrev cL_saved : ByteArray := method_19_code
def yL_saved : MethodName := ⟨RL, "saved", "(LDriverHost;II[J)I"⟩
abbrev cL_logSize : ByteArray := method_20_code
def yL_logSize : MethodName := ⟨RL, "logSize", "(LDriverHost;I[J)I"⟩
abbrev cL_logged : ByteArray := method_21_code
def yL_logged : MethodName := ⟨RL, "logged", "(LDriverHost;II[J)I"⟩
abbrev cL_inFlight : ByteArray := method_22_code
def yL_inFlight : MethodName := ⟨RL, "inFlight", "(LDriverHost;I[J)I"⟩
abbrev cL_nextRequest : ByteArray := method_23_code
def yL_nextRequest : MethodName := ⟨RL, "nextRequest", "(LDriverHost;I[J)I"⟩
abbrev cL_queued : ByteArray := method_24_code
def yL_queued : MethodName := ⟨RL, "queued", "(LDriverHost;I[J)I"⟩
abbrev cL_request : ByteArray := method_25_code
def yL_request : MethodName := ⟨RL, "request", "(LDriverHost;II[J)I"⟩
abbrev cL_record : ByteArray := method_26_code
def yL_record : MethodName := ⟨RL, "record", "(LDriverHost;II[J)I"⟩
abbrev cL_availability : ByteArray := method_27_code
def yL_availability : MethodName := ⟨RL, "availability", "(LDriverHost;I[D)I"⟩
abbrev cL_meanTime : ByteArray := method_28_code
def yL_meanTime : MethodName := ⟨RL, "meanTime", "(LDriverHost;I[D)I"⟩
abbrev cL_forecast : ByteArray := method_29_code
def yL_forecast : MethodName := ⟨RL, "forecast", "(LDriverHost;I[J)I"⟩
abbrev cL_bestDelay : ByteArray := method_30_code
def yL_bestDelay : MethodName := ⟨RL, "bestDelay", "(LDriverHost;I[J)I"⟩
abbrev cL_decision : ByteArray := method_31_code
def yL_decision : MethodName := ⟨RL, "decision", "(LDriverHost;I[J)I"⟩
abbrev cL_query : ByteArray := method_32_code
def yL_query : MethodName := ⟨RL, "query", "(LDriverHost;I[J)I"⟩
abbrev cL_law : ByteArray := code
def yL_law : MethodName := ⟨RL, "law", "([I)Z"⟩
abbrev vwCl : List vw_C := [(RX0, TX0, 4), (RX1, TX1, 8), (RX2, TX2, 16), (RX3, TX3, 3), (RX4, TX4, 7), (RX5, TX5, 11), (RX6, TX6, 7), (RX7, TX7, 16), (RX8, TX8, 11), (RX9, TX9, 0), (RX10, TX10, 7), (RX11, TX11, 8), (RX12, TX12, 37)]
end
section
/-! the program of the small machine, written by wip/whole/emit.py out of the claim's own listing -/
/-- DriverHost$Code.<init>(I)V -/
def s_0 : List (Nat × List Instr) := [(0, [.aload 0, .invokespecial 9000, .aload 0, .iconst 0, .putfield 2, .aload 0, .iconst 64, .newarray .int, .putfield 3, .aload 0, .iload 1, .iconst 0, .invokestatic 9002, .newarray .int, .putfield 0, .aload 0, .iload 1, .iconst 0, .invokestatic 9002, .newarray .int, .putfield 1, .return_])]
/-- DriverHost$Code.add(II)V -/
def s_1 : List (Nat × List Instr) := [(0, [.aload 0, .getfield 2, .aload 0, .getfield 0, .ldc_w 100, .if_icmp .ge 54, .aload 0, .getfield 2, .aload 0, .getfield 1, .ldc_w 100, .if_icmp .ge 54, .aload 0, .getfield 0, .aload 0, .getfield 2, .iload 1, .iastore, .aload 0, .getfield 1, .aload 0, .getfield 2, .iload 2, .iastore, .aload 0, .dup, .getfield 2, .iconst 1, .iadd, .putfield 2]),
  (54, [.return_])]
/-- DriverHost$Code.execute(II[I)I -/
def s_2 : List (Nat × List Instr) := [(0, [.iconst 0, .istore 4, .iload 1, .iconst 0, .invokestatic 9002, .istore 5]),
  (10, [.iload 5, .iload 2, .if_icmp .ge 215, .iload 5, .aload 0, .getfield 2, .if_icmp .ge 215, .aload 0, .getfield 0, .iload 5, .iaload, .istore 6, .aload 0, .getfield 1, .iload 5, .iaload, .istore 7, .iload 6, .ifCond .eq 54, .iload 6, .iconst 1, .if_icmp .ne 93]),
  (54, [.iload 4, .aload 0, .getfield 3, .ldc_w 100, .if_icmp .ge 209, .aload 0, .getfield 3, .iload 4, .iload 6, .ifCond .ne 80, .iload 7, .goto 86]),
  (80, [.aload 3, .iload 7, .invokestatic 3]),
  (86, [.iastore, .iinc 4 1, .goto 209]),
  (93, [.iload 6, .iconst 2, .if_icmp .ne 136, .iload 4, .ifCond .le 209, .iload 7, .ifCond .lt 209, .iload 7, .aload 3, .ldc_w 100, .if_icmp .ge 209, .iinc 4 (-1), .aload 3, .iload 7, .aload 0, .getfield 3, .iload 4, .iaload, .iconst (65535), .iand, .iastore, .goto 209]),
  (136, [.iload 6, .iconst 3, .if_icmp .ne 170, .iload 4, .ifCond .le 209, .aload 0, .getfield 3, .iload 4, .iconst 1, .isub, .iconst 1, .aload 0, .getfield 3, .iload 4, .iconst 1, .isub, .iaload, .isub, .iastore, .goto 209]),
  (170, [.iload 4, .iconst 1, .if_icmp .le 209, .iinc 4 (-1), .aload 0, .getfield 3, .iload 4, .iconst 1, .isub, .iload 6, .aload 0, .getfield 3, .iload 4, .iconst 1, .isub, .iaload, .aload 0, .getfield 3, .iload 4, .iaload, .invokestatic 4, .iastore]),
  (209, [.iinc 5 1, .goto 10]),
  (215, [.iload 4, .ifCond .le 232, .aload 0, .getfield 3, .iload 4, .iconst 1, .isub, .iaload, .goto 233]),
  (232, [.iconst 0]),
  (233, [.ireturn])]
/-- DriverHost$Code.cellAt([II)I -/
def s_3 : List (Nat × List Instr) := [(0, [.iload 1, .ifCond .lt 16, .iload 1, .aload 0, .ldc_w 100, .if_icmp .ge 16, .aload 0, .iload 1, .iaload, .goto 17]),
  (16, [.iconst 0]),
  (17, [.ireturn])]
/-- DriverHost$Code.join(III)I -/
def s_4 : List (Nat × List Instr) := [(0, [.iload 0, .tableswitch 101 4 11 #[48, 52, 56, 60, 71, 82, 93, 97]]),
  (48, [.iload 1, .iload 2, .iadd, .ireturn]),
  (52, [.iload 1, .iload 2, .isub, .ireturn]),
  (56, [.iload 1, .iload 2, .imul, .ireturn]),
  (60, [.iload 1, .iload 2, .if_icmp .ge 69, .iconst 1, .goto 70]),
  (69, [.iconst 0]),
  (70, [.ireturn]),
  (71, [.iload 1, .iload 2, .if_icmp .ne 80, .iconst 1, .goto 81]),
  (80, [.iconst 0]),
  (81, [.ireturn]),
  (82, [.iload 1, .iload 2, .if_icmp .le 91, .iconst 1, .goto 92]),
  (91, [.iconst 0]),
  (92, [.ireturn]),
  (93, [.iload 1, .iload 2, .iand, .ireturn]),
  (97, [.iload 1, .iload 2, .ior, .ireturn]),
  (101, [.iconst 0, .ireturn])]
/-- DriverHost$Command.<init>()V -/
def s_5 : List (Nat × List Instr) := [(0, [.aload 0, .invokespecial 9000, .aload 0, .iconst (-1), .putfield 64, .aload 0, .iconst 0, .putfield 65, .aload 0, .iconst 1, .putfield 66, .aload 0, .iconst 0, .putfield 67, .aload 0, .iconst 0, .putfield 68, .aload 0, .iconst 0, .putfield 69, .aload 0, .iconst 0, .putfield 70, .aload 0, .iconst 0, .putfield 71, .return_])]
/-- DriverHost$Driver.<init>(I)V -/
def s_6 : List (Nat × List Instr) := [(0, [.aload 0, .invokespecial 9000, .aload 0, .iconst 0, .putfield 129, .aload 0, .iconst (-1), .putfield 130, .aload 0, .iconst 0, .putfield 131, .aload 0, .iconst 0, .putfield 132, .aload 0, .iconst 14, .newarray .int, .putfield 133, .aload 0, .iconst 4, .newarray .int, .putfield 134, .aload 0, .iconst 20, .newarray .int, .putfield 135, .aload 0, .iconst 0, .putfield 136, .aload 0, .iconst (-1), .putfield 137, .aload 0, .iconst (-1), .putfield 138, .aload 0, .iconst 0, .putfield 139, .aload 0, .iconst (2147483647), .putfield 140, .aload 0, .iconst 0, .putfield 141, .aload 0, .iconst 0, .putfield 142, .aload 0, .iconst 0, .putfield 143, .aload 0, .iload 1, .putfield 128, .return_])]
/-- DriverHost$Driver.copyFrom(LDriverHost$Driver;)V -/
def s_7 : List (Nat × List Instr) := [(0, [.aload 0, .aload 1, .getfield 129, .putfield 129, .aload 0, .aload 1, .getfield 130, .putfield 130, .aload 0, .aload 1, .getfield 131, .putfield 131, .aload 0, .aload 1, .getfield 132, .putfield 132, .aload 1, .getfield 133, .iconst 0, .aload 0, .getfield 133, .iconst 0, .iconst 14, .invokestatic 9003, .aload 1, .getfield 134, .iconst 0, .aload 0, .getfield 134, .iconst 0, .iconst 4, .invokestatic 9003, .aload 1, .getfield 135, .iconst 0, .aload 0, .getfield 135, .iconst 0, .iconst 20, .invokestatic 9003, .aload 0, .aload 1, .getfield 136, .putfield 136, .aload 0, .aload 1, .getfield 137, .putfield 137, .aload 0, .aload 1, .getfield 138, .putfield 138, .aload 0, .aload 1, .getfield 139, .putfield 139, .aload 0, .aload 1, .getfield 140, .putfield 140, .aload 0, .aload 1, .getfield 141, .putfield 141, .aload 0, .aload 1, .getfield 142, .putfield 142, .aload 0, .aload 1, .getfield 143, .putfield 143, .return_])]
/-- DriverHost$Driver.registerAt(I)I -/
def s_8 : List (Nat × List Instr) := [(0, [.iload 1, .ifCond .lt 10, .iload 1, .iconst 8, .if_icmp .lt 20]),
  (10, [.invokedynamic 0]),
  (20, [.aload 0, .getfield 133, .iload 1, .iaload, .ireturn])]
/-- DriverHost$Driver.variableAt(I)I -/
def s_9 : List (Nat × List Instr) := [(0, [.iload 1, .ifCond .lt 9, .iload 1, .iconst 4, .if_icmp .lt 19]),
  (9, [.invokedynamic 0]),
  (19, [.aload 0, .getfield 133, .iconst 8, .iload 1, .iadd, .iaload, .ireturn])]
/-- DriverHost$Driver.snapshotAt(I)I -/
def s_10 : List (Nat × List Instr) := [(0, [.iload 1, .ifCond .lt 13, .iload 1, .aload 0, .getfield 134, .ldc_w 100, .if_icmp .lt 23]),
  (13, [.invokedynamic 0]),
  (23, [.aload 0, .getfield 134, .iload 1, .iaload, .ireturn])]
/-- DriverHost$Driver.logAt(I)I -/
def s_11 : List (Nat × List Instr) := [(0, [.iload 1, .ifCond .lt 30, .iload 1, .aload 0, .getfield 136, .if_icmp .ge 30, .iload 1, .aload 0, .getfield 135, .ldc_w 100, .if_icmp .ge 30, .aload 0, .getfield 135, .iload 1, .iaload, .goto 31]),
  (30, [.iconst (-1)]),
  (31, [.ireturn])]
/-- DriverHost$Driver.store(II)V -/
def s_12 : List (Nat × List Instr) := [(0, [.iload 1, .ifCond .lt 17, .iload 1, .iconst 8, .if_icmp .ge 17, .aload 0, .getfield 133, .iload 1, .iload 2, .iastore]),
  (17, [.return_])]
/-- DriverHost$Driver.present(II)V -/
def s_13 : List (Nat × List Instr) := [(0, [.aload 0, .getfield 133, .iconst 12, .iload 1, .iastore, .aload 0, .getfield 133, .iconst 13, .iload 2, .iastore, .return_])]
/-- DriverHost$Driver.addToLog(I)V -/
def s_14 : List (Nat × List Instr) := [(0, [.aload 0, .getfield 136, .aload 0, .getfield 135, .ldc_w 100, .if_icmp .ge 32, .aload 0, .getfield 135, .aload 0, .getfield 136, .iload 1, .iastore, .aload 0, .dup, .getfield 136, .iconst 1, .iadd, .putfield 136]),
  (32, [.return_])]
/-- DriverHost$Driver.goDown(I)V -/
def s_15 : List (Nat × List Instr) := [(0, [.aload 0, .iconst 1, .putfield 129, .aload 0, .iload 1, .putfield 130, .aload 0, .invokevirtual 16, .return_])]
/-- DriverHost$Driver.clearVariables()V -/
def s_16 : List (Nat × List Instr) := [(0, [.iconst 0, .istore 1]),
  (2, [.iload 1, .iconst 4, .if_icmp .ge 23, .aload 0, .getfield 133, .iconst 8, .iload 1, .iadd, .iconst 0, .iastore, .iinc 1 1, .goto 2]),
  (23, [.return_])]
/-- DriverHost$Driver.saveVariables()V -/
def s_17 : List (Nat × List Instr) := [(0, [.aload 0, .getfield 133, .iconst 8, .aload 0, .getfield 134, .iconst 0, .iconst 4, .invokestatic 9003, .return_])]
/-- DriverHost$Driver.restoreVariables()V -/
def s_18 : List (Nat × List Instr) := [(0, [.aload 0, .getfield 134, .iconst 0, .aload 0, .getfield 133, .iconst 8, .iconst 4, .invokestatic 9003, .return_])]
/-- DriverHost$History.<init>()V -/
def s_19 : List (Nat × List Instr) := [(0, [.aload 0, .invokespecial 9000, .aload 0, .iconst 10, .anewarray 10, .putfield 192, .aload 0, .iconst 0, .putfield 193, .aload 0, .iconst 0, .putfield 194, .return_])]
/-- DriverHost$History.clear()V -/
def s_20 : List (Nat × List Instr) := [(0, [.aload 0, .iconst 0, .putfield 194, .return_])]
/-- DriverHost$History.remember(LDriverHost$World;)V -/
def s_21 : List (Nat × List Instr) := [(0, [.aload 0, .getfield 192, .aload 0, .getfield 193, .checkcast 10, .astore 2, .aload 2, .ifnonnull 36, .new 10, .dup, .aload 1, .getfield 640, .invokespecial 77, .astore 2, .aload 0, .getfield 192, .aload 0, .getfield 193, .aload 2, .instanceof 10]),
  (36, [.aload 2, .aload 1, .invokevirtual 78, .aload 0, .aload 0, .getfield 193, .iconst 1, .iadd, .iconst 10, .irem, .putfield 193, .aload 0, .aload 0, .getfield 194, .iconst 1, .iadd, .iconst 10, .invokestatic 9001, .putfield 194, .return_])]
/-- DriverHost$History.takeBack(LDriverHost$World;)I -/
def s_22 : List (Nat × List Instr) := [(0, [.aload 0, .getfield 194, .ifCond .ne 9, .iconst (-1), .ireturn]),
  (9, [.aload 0, .aload 0, .getfield 193, .iconst 10, .iadd, .iconst 1, .isub, .iconst 10, .irem, .putfield 193, .aload 0, .dup, .getfield 194, .iconst 1, .isub, .putfield 194, .aload 0, .getfield 192, .aload 0, .getfield 193, .checkcast 10, .astore 2, .aload 2, .ifnull 54, .aload 1, .aload 2, .invokevirtual 78]),
  (54, [.aload 0, .getfield 194, .ireturn])]
/-- DriverHost$Journal.<init>()V -/
def s_23 : List (Nat × List Instr) := [(0, [.aload 0, .invokespecial 9000, .aload 0, .iconst 200, .newarray .int, .putfield 256, .aload 0, .iconst 200, .newarray .int, .putfield 257, .aload 0, .iconst 200, .newarray .int, .putfield 258, .aload 0, .iconst 200, .newarray .int, .putfield 259, .aload 0, .iconst 9, .newarray .int, .putfield 260, .aload 0, .iconst 0, .putfield 261, .aload 0, .iconst 0, .putfield 262, .return_])]
/-- DriverHost$Journal.copyFrom(LDriverHost$Journal;)V -/
def s_24 : List (Nat × List Instr) := [(0, [.aload 1, .getfield 256, .iconst 0, .aload 0, .getfield 256, .iconst 0, .iconst 200, .invokestatic 9003, .aload 1, .getfield 257, .iconst 0, .aload 0, .getfield 257, .iconst 0, .iconst 200, .invokestatic 9003, .aload 1, .getfield 258, .iconst 0, .aload 0, .getfield 258, .iconst 0, .iconst 200, .invokestatic 9003, .aload 1, .getfield 259, .iconst 0, .aload 0, .getfield 259, .iconst 0, .iconst 200, .invokestatic 9003, .aload 1, .getfield 260, .iconst 0, .aload 0, .getfield 260, .iconst 0, .iconst 9, .invokestatic 9003, .aload 0, .aload 1, .getfield 261, .putfield 261, .aload 0, .aload 1, .getfield 262, .putfield 262, .return_])]
/-- DriverHost$Journal.add(IIII)V -/
def s_25 : List (Nat × List Instr) := [(0, [.aload 0, .getfield 261, .aload 0, .getfield 262, .iadd, .iconst 200, .irem, .istore 5, .aload 0, .getfield 256, .iload 5, .iload 1, .iastore, .aload 0, .getfield 257, .iload 5, .iload 2, .iastore, .aload 0, .getfield 258, .iload 5, .iload 3, .iastore, .aload 0, .getfield 259, .iload 5, .iload 4, .iastore, .aload 0, .getfield 262, .iconst 200, .if_icmp .ge 71, .aload 0, .dup, .getfield 262, .iconst 1, .iadd, .putfield 262, .goto 85]),
  (71, [.aload 0, .aload 0, .getfield 261, .iconst 1, .iadd, .iconst 200, .irem, .putfield 261]),
  (85, [.iload 2, .ifCond .lt 108, .iload 2, .aload 0, .getfield 260, .ldc_w 100, .if_icmp .ge 108, .aload 0, .getfield 260, .iload 2, .dup2, .iaload, .iconst 1, .iadd, .iastore]),
  (108, [.return_])]
/-- DriverHost$Journal.valueAt(II)I -/
def s_26 : List (Nat × List Instr) := [(0, [.iload 1, .ifCond .lt 12, .iload 1, .aload 0, .getfield 262, .if_icmp .lt 22]),
  (12, [.invokedynamic 0]),
  (22, [.aload 0, .getfield 261, .iload 1, .iadd, .iconst 200, .irem, .istore 3, .iload 2, .tableswitch 92 0 3 #[64, 71, 78, 85]]),
  (64, [.aload 0, .getfield 256, .iload 3, .iaload, .ireturn]),
  (71, [.aload 0, .getfield 257, .iload 3, .iaload, .ireturn]),
  (78, [.aload 0, .getfield 258, .iload 3, .iaload, .ireturn]),
  (85, [.aload 0, .getfield 259, .iload 3, .iaload, .ireturn]),
  (92, [.invokedynamic 0])]
/-- DriverHost$Journal.totalOf(I)I -/
def s_27 : List (Nat × List Instr) := [(0, [.iload 1, .ifCond .lt 22, .iload 1, .aload 0, .getfield 260, .ldc_w 100, .if_icmp .ge 22, .aload 0, .getfield 260, .iload 1, .iaload, .goto 23]),
  (22, [.iconst (-1)]),
  (23, [.ireturn])]
/-- DriverHost$Program.<init>(I)V -/
def s_28 : List (Nat × List Instr) := [(0, [.aload 0, .invokespecial 9000, .aload 0, .iconst 1, .putfield 320, .aload 0, .iconst 0, .putfield 321, .aload 0, .iconst 8, .anewarray 1, .putfield 322, .aload 0, .iconst 2, .putfield 323, .aload 0, .iconst 32, .putfield 324, .aload 0, .iconst 20, .putfield 325, .aload 0, .iconst 5, .putfield 326, .aload 0, .iconst 3, .putfield 327, .aload 0, .iconst 4, .putfield 328, .aload 0, .iconst 1, .putfield 329, .aload 0, .new 0, .dup, .iload 1, .invokespecial 0, .putfield 330, .return_])]
/-- DriverHost$Program.commandAt(I)LDriverHost$Command; -/
def s_29 : List (Nat × List Instr) := [(0, [.iload 1, .ifCond .lt 21, .iload 1, .aload 0, .getfield 321, .if_icmp .ge 21, .iload 1, .aload 0, .getfield 322, .ldc_w 201, .if_icmp .lt 25]),
  (21, [.aconst_null, .goto 31]),
  (25, [.aload 0, .getfield 322, .iload 1, .checkcast 1]),
  (31, [.astore 2, .aload 2, .ifnonnull 46, .invokedynamic 0]),
  (46, [.aload 2, .areturn])]
/-- DriverHost$Program.addCommand(LDriverHost$Command;)V -/
def s_30 : List (Nat × List Instr) := [(0, [.aload 0, .getfield 321, .aload 0, .getfield 322, .ldc_w 201, .if_icmp .ge 32, .aload 0, .getfield 322, .aload 0, .getfield 321, .aload 1, .instanceof 1, .aload 0, .dup, .getfield 321, .iconst 1, .iadd, .putfield 321]),
  (32, [.return_])]
/-- DriverHost$Reader.<init>([BIZ)V -/
def s_31 : List (Nat × List Instr) := [(0, [.aload 0, .invokespecial 9000, .aload 0, .iconst 0, .putfield 388, .aload 0, .iconst 0, .putfield 389, .aload 0, .iconst 0, .putfield 390, .aload 0, .new 8, .dup, .aload 1, .iload 2, .invokespecial 60, .putfield 384, .aload 0, .iload 3, .putfield 385, .aload 0, .new 5, .dup, .iload 2, .invokespecial 28, .putfield 386, .aload 0, .aload 0, .getfield 386, .getfield 330, .putfield 387, .return_])]
/-- DriverHost$Reader.readText()V -/
def s_32 : List (Nat × List Instr) := [(0, [.aload 0, .getfield 384, .invokevirtual 61, .aload 0, .getstatic 1000000001, .invokevirtual 34, .aload 0, .getfield 386, .aload 0, .iconst 1, .iconst 4, .invokevirtual 36, .putfield 320, .aload 0, .iconst 59, .invokevirtual 35, .iconst 0, .istore 1]),
  (35, [.iload 1, .iconst 1000, .if_icmp .ge 68, .aload 0, .getfield 384, .invokevirtual 68, .ifCond .ne 68, .aload 0, .invokevirtual 37, .aload 0, .iconst 59, .invokevirtual 35, .iinc 1 1, .goto 35]),
  (68, [.return_])]
/-- DriverHost$Reader.readQuery()V -/
def s_33 : List (Nat × List Instr) := [(0, [.aload 0, .getfield 384, .invokevirtual 61, .aload 0, .aload 0, .getfield 384, .getstatic 1000000002, .invokevirtual 73, .putfield 388, .aload 0, .aload 0, .getfield 388, .ifCond .eq 35, .getstatic 1000000002, .goto 38]),
  (35, [.getstatic 1000000003]),
  (38, [.invokevirtual 34, .aload 0, .invokevirtual 42, .aload 0, .getfield 384, .invokevirtual 68, .ifCond .ne 63, .aload 0, .getfield 384, .iconst 1, .invokevirtual 75]),
  (63, [.return_])]
/-- DriverHost$Reader.takeWord(LDriverHost$Word;)V -/
def s_34 : List (Nat × List Instr) := [(0, [.aload 0, .getfield 384, .aload 1, .invokevirtual 73, .ifCond .eq 21, .aload 0, .getfield 384, .invokevirtual 67, .goto 29]),
  (21, [.aload 0, .getfield 384, .iconst 1, .invokevirtual 75]),
  (29, [.return_])]
/-- DriverHost$Reader.takeSign(C)V -/
def s_35 : List (Nat × List Instr) := [(0, [.aload 0, .getfield 384, .iload 1, .invokevirtual 72, .ifCond .eq 21, .aload 0, .getfield 384, .invokevirtual 67, .goto 29]),
  (21, [.aload 0, .getfield 384, .iconst 1, .invokevirtual 75]),
  (29, [.return_])]
/-- DriverHost$Reader.takeNumber(II)I -/
def s_36 : List (Nat × List Instr) := [(0, [.aload 0, .getfield 384, .invokevirtual 70, .istore 3, .aload 0, .getfield 384, .invokevirtual 71, .ifCond .ne 28, .aload 0, .getfield 384, .iconst 1, .invokevirtual 75, .iload 1, .ireturn]),
  (28, [.iload 3, .iload 1, .if_icmp .lt 38, .iload 3, .iload 2, .if_icmp .le 48]),
  (38, [.aload 0, .getfield 384, .iconst 2, .invokevirtual 75, .iload 1, .ireturn]),
  (48, [.aload 0, .getfield 384, .invokevirtual 67, .iload 3, .ireturn])]
/-- DriverHost$Reader.readClause()V -/
def s_37 : List (Nat × List Instr) := [(0, [.aload 0, .getfield 384, .invokevirtual 69, .astore 1, .aload 1, .getstatic 1000000004, .nop, .aload 0, .invokevirtual 38, .return_, .aload 1, .ifnull 31, .aload 1, .nop, .ifCond .ne 40]),
  (31, [.aload 0, .getfield 384, .iconst 1, .invokevirtual 75, .return_]),
  (40, [.aload 0, .getfield 384, .invokevirtual 67, .aload 1, .getstatic 1000000005, .nop, .aload 0, .getfield 386, .aload 0, .iconst 1, .iconst 100, .invokevirtual 36, .putfield 323, .aload 0, .getfield 386, .aload 0, .aload 0, .getfield 386, .getfield 323, .iconst 1000, .invokevirtual 36, .putfield 324, .goto 203, .aload 1, .getstatic 1000000006, .nop, .aload 0, .getfield 386, .aload 0, .iconst 1, .iconst 1000, .invokevirtual 36, .putfield 325, .goto 203, .aload 1, .getstatic 1000000007, .nop, .aload 0, .getfield 386, .aload 0, .iconst 0, .iconst 20, .invokevirtual 36, .putfield 326, .goto 203, .aload 1, .getstatic 1000000008, .nop, .aload 0, .getfield 386, .aload 0, .iconst 1, .iconst 20, .invokevirtual 36, .putfield 327, .goto 203, .aload 1, .getstatic 1000000009, .nop, .aload 0, .getfield 386, .aload 0, .iconst 1, .iconst 20, .invokevirtual 36, .putfield 328, .goto 203, .aload 0, .getfield 386, .aload 0, .iconst 1, .iconst 50, .invokevirtual 36, .putfield 329]),
  (203, [.return_])]
/-- DriverHost$Reader.readCommand()V -/
def s_38 : List (Nat × List Instr) := [(0, [.aload 0, .getfield 386, .getfield 321, .iconst 8, .if_icmp .lt 21, .aload 0, .getfield 384, .iconst 3, .invokevirtual 75, .return_]),
  (21, [.aload 0, .getfield 384, .invokevirtual 67, .new 1, .dup, .invokespecial 5, .astore 1, .aload 0, .aload 1, .invokevirtual 39, .aload 0, .aload 1, .invokevirtual 40, .aload 1, .aload 0, .getfield 387, .getfield 2, .putfield 67, .aload 1, .getfield 65, .iconst 3, .if_icmp .ne 74, .aload 0, .iconst 0, .putfield 390, .aload 0, .invokevirtual 42]),
  (74, [.aload 0, .getstatic 1000000010, .invokevirtual 34, .aload 1, .aload 0, .iconst 1, .iconst 50, .invokevirtual 36, .putfield 66, .aload 1, .aload 0, .getfield 387, .getfield 2, .putfield 68, .aload 0, .getfield 384, .getstatic 1000000011, .invokevirtual 73, .ifCond .eq 132, .aload 0, .getfield 384, .invokevirtual 67, .aload 0, .iconst 1, .putfield 390, .aload 0, .invokevirtual 48]),
  (132, [.aload 1, .aload 0, .getfield 387, .getfield 2, .putfield 69, .aload 0, .iconst 2, .putfield 390, .aload 0, .getstatic 1000000012, .iconst 0, .iconst 8, .invokevirtual 41, .aload 1, .aload 0, .getfield 387, .getfield 2, .putfield 70, .aload 0, .iconst 3, .putfield 390, .aload 0, .getstatic 1000000013, .iconst 8, .iconst 4, .invokevirtual 41, .aload 1, .aload 0, .getfield 387, .getfield 2, .putfield 71, .aload 0, .getfield 386, .aload 1, .invokevirtual 30, .return_])]
/-- DriverHost$Reader.readName(LDriverHost$Command;)V -/
def s_39 : List (Nat × List Instr) := [(0, [.aload 0, .getfield 384, .invokevirtual 74, .ifCond .ne 19, .aload 0, .getfield 384, .iconst 1, .invokevirtual 75, .return_]),
  (19, [.iconst 0, .istore 2]),
  (21, [.iload 2, .aload 0, .getfield 386, .getfield 321, .if_icmp .ge 75, .aload 0, .getfield 384, .aload 0, .getfield 386, .iload 2, .invokevirtual 29, .getfield 64, .aload 0, .getfield 384, .getfield 520, .invokevirtual 76, .ifCond .eq 69, .aload 0, .getfield 384, .iconst 4, .invokevirtual 75, .return_]),
  (69, [.iinc 2 1, .goto 21]),
  (75, [.aload 1, .aload 0, .getfield 384, .getfield 520, .putfield 64, .aload 0, .getfield 384, .invokevirtual 67, .return_])]
/-- DriverHost$Reader.readClass(LDriverHost$Command;)V -/
def s_40 : List (Nat × List Instr) := [(0, [.aload 0, .getfield 384, .invokevirtual 69, .astore 2, .aload 2, .ifnull 20, .aload 2, .nop, .iconst (-1), .if_icmp .ne 29]),
  (20, [.aload 0, .getfield 384, .iconst 1, .invokevirtual 75, .return_]),
  (29, [.aload 1, .aload 2, .nop, .putfield 65, .aload 0, .getfield 384, .invokevirtual 67, .return_])]
/-- DriverHost$Reader.readStores(LDriverHost$Word;II)V -/
def s_41 : List (Nat × List Instr) := [(0, [.iconst 0, .istore 4]),
  (3, [.iload 4, .iconst 1000, .if_icmp .ge 67, .aload 0, .getfield 384, .aload 1, .invokevirtual 73, .ifCond .eq 67, .aload 0, .getfield 384, .invokevirtual 67, .aload 0, .iconst 0, .iload 3, .iconst 1, .isub, .invokevirtual 36, .istore 5, .aload 0, .iconst 61, .invokevirtual 35, .aload 0, .invokevirtual 48, .aload 0, .getfield 387, .iconst 2, .iload 2, .iload 5, .iadd, .invokevirtual 1, .iinc 4 1, .goto 3]),
  (67, [.return_])]
/-- DriverHost$Reader.readTest()V -/
def s_42 : List (Nat × List Instr) := [(0, [.aload 0, .invokevirtual 43, .iconst 0, .istore 1]),
  (6, [.iload 1, .iconst 1000, .if_icmp .ge 53, .aload 0, .getfield 384, .getstatic 1000000014, .invokevirtual 73, .ifCond .eq 53, .aload 0, .getfield 384, .invokevirtual 67, .aload 0, .invokevirtual 43, .aload 0, .getfield 387, .iconst 11, .iconst 0, .invokevirtual 1, .iinc 1 1, .goto 6]),
  (53, [.return_])]
/-- DriverHost$Reader.readConjunction()V -/
def s_43 : List (Nat × List Instr) := [(0, [.aload 0, .invokevirtual 44, .iconst 0, .istore 1]),
  (6, [.iload 1, .iconst 1000, .if_icmp .ge 53, .aload 0, .getfield 384, .getstatic 1000000015, .invokevirtual 73, .ifCond .eq 53, .aload 0, .getfield 384, .invokevirtual 67, .aload 0, .invokevirtual 44, .aload 0, .getfield 387, .iconst 10, .iconst 0, .invokevirtual 1, .iinc 1 1, .goto 6]),
  (53, [.return_])]
/-- DriverHost$Reader.readFactor()V -/
def s_44 : List (Nat × List Instr) := [(0, [.aload 0, .getfield 384, .getstatic 1000000016, .invokevirtual 73, .ifCond .eq 46, .aload 0, .invokevirtual 45, .ifCond .eq 166, .aload 0, .invokevirtual 44, .aload 0, .getfield 387, .iconst 3, .iconst 0, .invokevirtual 1, .aload 0, .dup, .getfield 389, .iconst 1, .isub, .putfield 389, .goto 166]),
  (46, [.aload 0, .getfield 384, .aload 0, .getfield 385, .ifCond .eq 62, .iconst 40, .goto 64]),
  (62, [.iconst 91]),
  (64, [.invokevirtual 72, .ifCond .eq 112, .aload 0, .invokevirtual 45, .ifCond .eq 166, .aload 0, .invokevirtual 42, .aload 0, .aload 0, .getfield 385, .ifCond .eq 94, .iconst 41, .goto 96]),
  (94, [.iconst 93]),
  (96, [.invokevirtual 35, .aload 0, .dup, .getfield 389, .iconst 1, .isub, .putfield 389, .goto 166]),
  (112, [.aload 0, .getfield 385, .ifCond .eq 144, .aload 0, .invokevirtual 47, .aload 0, .invokevirtual 46, .istore 1, .aload 0, .invokevirtual 47, .aload 0, .getfield 387, .iload 1, .iconst 0, .invokevirtual 1, .goto 166]),
  (144, [.aload 0, .invokevirtual 48, .aload 0, .invokevirtual 46, .istore 1, .aload 0, .invokevirtual 48, .aload 0, .getfield 387, .iload 1, .iconst 0, .invokevirtual 1]),
  (166, [.return_])]
/-- DriverHost$Reader.opens()Z -/
def s_45 : List (Nat × List Instr) := [(0, [.aload 0, .getfield 389, .iconst 6, .if_icmp .lt 19, .aload 0, .getfield 384, .iconst 3, .invokevirtual 75, .iconst 0, .ret 0]),
  (19, [.aload 0, .dup, .getfield 389, .iconst 1, .iadd, .putfield 389, .aload 0, .getfield 384, .invokevirtual 67, .iconst 1, .ret 0])]
/-- DriverHost$Reader.takeComparison()I -/
def s_46 : List (Nat × List Instr) := [(0, [.aload 0, .getfield 384, .iconst 60, .invokevirtual 72, .ifCond .eq 17, .iconst 7, .goto 36]),
  (17, [.aload 0, .getfield 384, .iconst 62, .invokevirtual 72, .ifCond .eq 34, .iconst 9, .goto 36]),
  (34, [.iconst 8]),
  (36, [.istore 1, .iload 1, .iconst 8, .if_icmp .ne 63, .aload 0, .getfield 384, .iconst 61, .invokevirtual 72, .ifCond .ne 63, .aload 0, .getfield 384, .iconst 1, .invokevirtual 75]),
  (63, [.aload 0, .getfield 384, .invokevirtual 67, .iload 1, .ireturn])]
/-- DriverHost$Reader.readProperty()V -/
def s_47 : List (Nat × List Instr) := [(0, [.aload 0, .getfield 384, .invokevirtual 69, .astore 1, .aload 0, .getfield 384, .invokevirtual 71, .ifCond .eq 37, .aload 0, .getfield 387, .iconst 0, .aload 0, .iconst 0, .iconst (99999), .invokevirtual 36, .invokevirtual 1, .goto 79]),
  (37, [.aload 1, .ifnull 71, .aload 1, .nop, .iconst (-1), .if_icmp .eq 71, .aload 0, .getfield 387, .iconst 1, .aload 1, .nop, .invokevirtual 1, .aload 0, .getfield 384, .invokevirtual 67, .goto 79]),
  (71, [.aload 0, .getfield 384, .iconst 1, .invokevirtual 75]),
  (79, [.return_])]
/-- DriverHost$Reader.readSum()V -/
def s_48 : List (Nat × List Instr) := [(0, [.aload 0, .invokevirtual 49, .iconst 0, .istore 1]),
  (6, [.iload 1, .iconst 1000, .if_icmp .ge 81, .aload 0, .getfield 384, .iconst 43, .invokevirtual 72, .ifCond .ne 37, .aload 0, .getfield 384, .iconst 45, .invokevirtual 72, .ifCond .eq 81]),
  (37, [.aload 0, .getfield 384, .iconst 43, .invokevirtual 72, .ifCond .eq 53, .iconst 4, .goto 54]),
  (53, [.iconst 5]),
  (54, [.istore 2, .aload 0, .getfield 384, .invokevirtual 67, .aload 0, .invokevirtual 49, .aload 0, .getfield 387, .iload 2, .iconst 0, .invokevirtual 1, .iinc 1 1, .goto 6]),
  (81, [.return_])]
/-- DriverHost$Reader.readProduct()V -/
def s_49 : List (Nat × List Instr) := [(0, [.aload 0, .invokevirtual 50, .iconst 0, .istore 1]),
  (6, [.iload 1, .iconst 1000, .if_icmp .ge 52, .aload 0, .getfield 384, .iconst 42, .invokevirtual 72, .ifCond .eq 52, .aload 0, .getfield 384, .invokevirtual 67, .aload 0, .invokevirtual 50, .aload 0, .getfield 387, .iconst 6, .iconst 0, .invokevirtual 1, .iinc 1 1, .goto 6]),
  (52, [.return_])]
/-- DriverHost$Reader.readOperand()V -/
def s_50 : List (Nat × List Instr) := [(0, [.aload 0, .getfield 384, .invokevirtual 71, .ifCond .eq 29, .aload 0, .getfield 387, .iconst 0, .aload 0, .iconst 0, .iconst (65535), .invokevirtual 36, .invokevirtual 1, .goto 254]),
  (29, [.aload 0, .getfield 384, .iconst 40, .invokevirtual 72, .ifCond .eq 71, .aload 0, .invokevirtual 45, .ifCond .eq 254, .aload 0, .invokevirtual 48, .aload 0, .iconst 41, .invokevirtual 35, .aload 0, .dup, .getfield 389, .iconst 1, .isub, .putfield 389, .goto 254]),
  (71, [.aload 0, .getfield 384, .getstatic 1000000017, .invokevirtual 73, .ifCond .eq 117, .aload 0, .getfield 390, .iconst 3, .if_icmp .eq 117, .aload 0, .getfield 384, .invokevirtual 67, .aload 0, .getfield 387, .iconst 1, .aload 0, .iconst 0, .iconst 7, .invokevirtual 36, .invokevirtual 1, .goto 254]),
  (117, [.aload 0, .getfield 384, .getstatic 1000000018, .invokevirtual 73, .ifCond .eq 164, .aload 0, .getfield 390, .ifCond .eq 164, .aload 0, .getfield 384, .invokevirtual 67, .aload 0, .getfield 387, .iconst 1, .iconst 8, .aload 0, .iconst 0, .iconst 3, .invokevirtual 36, .iadd, .invokevirtual 1, .goto 254]),
  (164, [.aload 0, .getfield 384, .getstatic 1000000019, .invokevirtual 73, .ifCond .eq 197, .aload 0, .getfield 384, .invokevirtual 67, .aload 0, .getfield 387, .iconst 1, .iconst 12, .invokevirtual 1, .goto 254]),
  (197, [.aload 0, .getfield 384, .getstatic 1000000020, .invokevirtual 73, .ifCond .eq 246, .aload 0, .getfield 390, .iconst 2, .if_icmp .eq 226, .aload 0, .getfield 390, .iconst 3, .if_icmp .ne 246]),
  (226, [.aload 0, .getfield 384, .invokevirtual 67, .aload 0, .getfield 387, .iconst 1, .iconst 13, .invokevirtual 1, .goto 254]),
  (246, [.aload 0, .getfield 384, .iconst 1, .invokevirtual 75]),
  (254, [.return_])]
/-- DriverHost$Request.<init>(I)V -/
def s_51 : List (Nat × List Instr) := [(0, [.aload 0, .invokespecial 9000, .aload 0, .iconst 0, .putfield 449, .aload 0, .iconst 0, .putfield 450, .aload 0, .iconst 0, .putfield 451, .aload 0, .iconst 0, .putfield 452, .aload 0, .iconst 0, .putfield 453, .aload 0, .iconst 0, .putfield 454, .aload 0, .iconst 0, .putfield 455, .aload 0, .iconst 0, .putfield 456, .aload 0, .iconst 0, .putfield 457, .aload 0, .iconst 0, .putfield 458, .aload 0, .iconst 0, .putfield 459, .aload 0, .iconst 0, .putfield 460, .aload 0, .iconst 0, .putfield 461, .aload 0, .iconst 0, .putfield 462, .aload 0, .iconst (-1), .putfield 463, .aload 0, .iload 1, .putfield 448, .return_])]
/-- DriverHost$Request.startAnew(III)V -/
def s_52 : List (Nat × List Instr) := [(0, [.aload 0, .iload 1, .putfield 449, .aload 0, .iload 2, .putfield 450, .aload 0, .iconst 0, .putfield 451, .aload 0, .iconst 0, .putfield 452, .aload 0, .iconst 0, .putfield 453, .aload 0, .iload 3, .putfield 454, .aload 0, .iconst 0, .putfield 455, .aload 0, .iconst 0, .putfield 456, .aload 0, .iconst 0, .putfield 457, .aload 0, .iconst 0, .putfield 458, .aload 0, .iconst 0, .putfield 459, .aload 0, .iconst 0, .putfield 460, .aload 0, .iconst 0, .putfield 461, .aload 0, .iconst 0, .putfield 462, .aload 0, .iconst (-1), .putfield 463, .return_])]
/-- DriverHost$Request.copyFrom(LDriverHost$Request;)V -/
def s_53 : List (Nat × List Instr) := [(0, [.aload 0, .aload 1, .getfield 449, .putfield 449, .aload 0, .aload 1, .getfield 450, .putfield 450, .aload 0, .aload 1, .getfield 451, .putfield 451, .aload 0, .aload 1, .getfield 452, .putfield 452, .aload 0, .aload 1, .getfield 453, .putfield 453, .aload 0, .aload 1, .getfield 454, .putfield 454, .aload 0, .aload 1, .getfield 455, .putfield 455, .aload 0, .aload 1, .getfield 456, .putfield 456, .aload 0, .aload 1, .getfield 457, .putfield 457, .aload 0, .aload 1, .getfield 458, .putfield 458, .aload 0, .aload 1, .getfield 459, .putfield 459, .aload 0, .aload 1, .getfield 460, .putfield 460, .aload 0, .aload 1, .getfield 461, .putfield 461, .aload 0, .aload 1, .getfield 462, .putfield 462, .aload 0, .aload 1, .getfield 463, .putfield 463, .return_])]
/-- DriverHost$Request.isOver()Z -/
def s_54 : List (Nat × List Instr) := [(0, [.aload 0, .getfield 455, .iconst 2, .if_icmp .eq 16, .aload 0, .getfield 455, .iconst 3, .if_icmp .ne 20]),
  (16, [.iconst 1, .goto 21]),
  (20, [.iconst 0]),
  (21, [.ret 0])]
/-- DriverHost$Request.deadline()I -/
def s_55 : List (Nat × List Instr) := [(0, [.aload 0, .getfield 453, .ifCond .ne 12, .iconst (2147483647), .goto 21]),
  (12, [.aload 0, .getfield 454, .aload 0, .getfield 453, .iadd]),
  (21, [.ireturn])]
/-- DriverHost$Request.takesCrash(I)Z -/
def s_56 : List (Nat × List Instr) := [(0, [.aload 0, .getfield 461, .iload 1, .if_icmp .ne 15, .aload 0, .getfield 462, .ifCond .gt 17]),
  (15, [.iconst 0, .ret 0]),
  (17, [.aload 0, .dup, .getfield 462, .iconst 1, .isub, .putfield 462, .iconst 1, .ret 0])]
/-- DriverHost$Request.end(II)V -/
def s_57 : List (Nat × List Instr) := [(0, [.aload 0, .iload 1, .putfield 455, .aload 0, .iconst 0, .putfield 460, .aload 0, .iload 2, .putfield 463, .return_])]
/-- DriverHost$Request.valueOf(I)I -/
def s_58 : List (Nat × List Instr) := [(0, [.iload 1, .tableswitch 151 0 14 #[76, 81, 86, 91, 96, 101, 106, 111, 116, 121, 126, 131, 136, 141, 146]]),
  (76, [.aload 0, .getfield 449, .ireturn]),
  (81, [.aload 0, .getfield 450, .ireturn]),
  (86, [.aload 0, .getfield 451, .ireturn]),
  (91, [.aload 0, .getfield 452, .ireturn]),
  (96, [.aload 0, .getfield 453, .ireturn]),
  (101, [.aload 0, .getfield 454, .ireturn]),
  (106, [.aload 0, .getfield 455, .ireturn]),
  (111, [.aload 0, .getfield 456, .ireturn]),
  (116, [.aload 0, .getfield 457, .ireturn]),
  (121, [.aload 0, .getfield 458, .ireturn]),
  (126, [.aload 0, .getfield 459, .ireturn]),
  (131, [.aload 0, .getfield 460, .ireturn]),
  (136, [.aload 0, .getfield 461, .ireturn]),
  (141, [.aload 0, .getfield 462, .ireturn]),
  (146, [.aload 0, .getfield 463, .ireturn]),
  (151, [.invokedynamic 0])]
/-- DriverHost$Request.propertyOf(II)I -/
def s_59 : List (Nat × List Instr) := [(0, [.iload 1, .tableswitch 112 0 10 #[60, 65, 70, 75, 77, 82, 87, 92, 97, 102, 107]]),
  (60, [.aload 0, .getfield 448, .ireturn]),
  (65, [.aload 0, .getfield 449, .ireturn]),
  (70, [.aload 0, .getfield 450, .ireturn]),
  (75, [.iload 2, .ireturn]),
  (77, [.aload 0, .getfield 451, .ireturn]),
  (82, [.aload 0, .getfield 452, .ireturn]),
  (87, [.aload 0, .getfield 455, .ireturn]),
  (92, [.aload 0, .getfield 456, .ireturn]),
  (97, [.aload 0, .getfield 457, .ireturn]),
  (102, [.aload 0, .getfield 458, .ireturn]),
  (107, [.aload 0, .getfield 459, .ireturn]),
  (112, [.iconst 0, .ireturn])]
/-- DriverHost$Tokens.<init>([BI)V -/
def s_60 : List (Nat × List Instr) := [(0, [.aload 0, .invokespecial 9000, .aload 0, .iconst 0, .putfield 519, .aload 0, .iconst 0, .putfield 520, .aload 0, .iconst 0, .putfield 521, .aload 0, .iconst (-1), .putfield 522, .aload 0, .aload 1, .putfield 512, .aload 0, .iconst 0, .iload 2, .aload 1, .ldc_w 101, .invokestatic 9001, .invokestatic 9002, .putfield 513, .aload 0, .aload 0, .getfield 513, .newarray .int, .putfield 514, .aload 0, .aload 0, .getfield 513, .newarray .int, .putfield 515, .aload 0, .aload 0, .getfield 513, .newarray .int, .putfield 516, .aload 0, .aload 0, .getfield 513, .newarray .int, .putfield 517, .aload 0, .aload 0, .getfield 513, .anewarray 9, .putfield 518, .return_])]
/-- DriverHost$Tokens.scan()V -/
def s_61 : List (Nat × List Instr) := [(0, [.iconst 0, .istore 1, .iconst 0, .istore 2]),
  (4, [.iload 2, .aload 0, .getfield 513, .if_icmp .ge 57, .iload 2, .iload 1, .if_icmp .lt 51, .aload 0, .getfield 512, .iload 2, .baload, .iconst 32, .if_icmp .eq 51, .aload 0, .getfield 512, .iload 2, .baload, .iconst 10, .if_icmp .eq 51, .aload 0, .iload 2, .invokevirtual 62, .istore 1, .aload 0, .iload 2, .iload 1, .invokevirtual 63]),
  (51, [.iinc 2 1, .goto 4]),
  (57, [.return_])]
/-- DriverHost$Tokens.endOf(I)I -/
def s_62 : List (Nat × List Instr) := [(0, [.iload 1, .iconst 1, .iadd, .istore 2, .aload 0, .getfield 512, .iload 1, .baload, .invokestatic 65, .ifCond .eq 42]),
  (16, [.iload 2, .aload 0, .getfield 513, .if_icmp .ge 80, .aload 0, .getfield 512, .iload 2, .baload, .invokestatic 65, .ifCond .eq 80, .iinc 2 1, .goto 16]),
  (42, [.aload 0, .getfield 512, .iload 1, .baload, .invokestatic 66, .ifCond .eq 80]),
  (54, [.iload 2, .aload 0, .getfield 513, .if_icmp .ge 80, .aload 0, .getfield 512, .iload 2, .baload, .invokestatic 66, .ifCond .eq 80, .iinc 2 1, .goto 54]),
  (80, [.iload 2, .ireturn])]
/-- DriverHost$Tokens.add(II)V -/
def s_63 : List (Nat × List Instr) := [(0, [.aload 0, .getfield 519, .aload 0, .getfield 513, .if_icmp .lt 12, .return_]),
  (12, [.aload 0, .getfield 515, .aload 0, .getfield 519, .iload 1, .iastore, .aload 0, .getfield 516, .aload 0, .getfield 519, .iload 2, .iastore, .aload 0, .getfield 512, .iload 1, .baload, .invokestatic 65, .ifCond .eq 75, .aload 0, .getfield 514, .aload 0, .getfield 519, .iconst 0, .iastore, .aload 0, .getfield 518, .aload 0, .getfield 519, .aload 0, .getfield 512, .iload 1, .iload 2, .nop, .nop, .goto 140]),
  (75, [.aload 0, .getfield 512, .iload 1, .baload, .invokestatic 66, .ifCond .eq 115, .aload 0, .getfield 514, .aload 0, .getfield 519, .iconst 1, .iastore, .aload 0, .getfield 517, .aload 0, .getfield 519, .aload 0, .iload 1, .iload 2, .invokevirtual 64, .iastore, .goto 140]),
  (115, [.aload 0, .getfield 514, .aload 0, .getfield 519, .iconst 2, .iastore, .aload 0, .getfield 517, .aload 0, .getfield 519, .aload 0, .getfield 512, .iload 1, .baload, .iastore]),
  (140, [.aload 0, .dup, .getfield 519, .iconst 1, .iadd, .putfield 519, .return_])]
/-- DriverHost$Tokens.numberOf(II)I -/
def s_64 : List (Nat × List Instr) := [(0, [.iconst 0, .istore 3, .iload 1, .istore 4]),
  (5, [.iload 4, .iload 2, .if_icmp .ge 47, .iload 4, .aload 0, .getfield 513, .if_icmp .ge 47, .iload 3, .iconst 10, .imul, .aload 0, .getfield 512, .iload 4, .baload, .iadd, .iconst 48, .isub, .iconst (1000000), .invokestatic 9001, .istore 3, .iinc 4 1, .goto 5]),
  (47, [.iload 3, .ireturn])]
/-- DriverHost$Tokens.isLetter(B)Z -/
def s_65 : List (Nat × List Instr) := [(0, [.iload 0, .iconst 97, .if_icmp .lt 16, .iload 0, .iconst 122, .if_icmp .gt 16, .iconst 1, .goto 17]),
  (16, [.iconst 0]),
  (17, [.ret 0])]
/-- DriverHost$Tokens.isDigit(B)Z -/
def s_66 : List (Nat × List Instr) := [(0, [.iload 0, .iconst 48, .if_icmp .lt 16, .iload 0, .iconst 57, .if_icmp .gt 16, .iconst 1, .goto 17]),
  (16, [.iconst 0]),
  (17, [.ret 0])]
/-- DriverHost$Tokens.advance()V -/
def s_67 : List (Nat × List Instr) := [(0, [.aload 0, .getfield 520, .aload 0, .getfield 519, .if_icmp .ge 21, .aload 0, .dup, .getfield 520, .iconst 1, .iadd, .putfield 520]),
  (21, [.return_])]
/-- DriverHost$Tokens.atEnd()Z -/
def s_68 : List (Nat × List Instr) := [(0, [.aload 0, .getfield 520, .aload 0, .getfield 519, .if_icmp .lt 15, .iconst 1, .goto 16]),
  (15, [.iconst 0]),
  (16, [.ret 0])]
/-- DriverHost$Tokens.word()LDriverHost$Word; -/
def s_69 : List (Nat × List Instr) := [(0, [.aload 0, .getfield 520, .aload 0, .getfield 519, .if_icmp .ge 23, .aload 0, .getfield 518, .aload 0, .getfield 520, .checkcast 9, .goto 24]),
  (23, [.aconst_null]),
  (24, [.areturn])]
/-- DriverHost$Tokens.number()I -/
def s_70 : List (Nat × List Instr) := [(0, [.aload 0, .getfield 520, .aload 0, .getfield 519, .if_icmp .ge 23, .aload 0, .getfield 517, .aload 0, .getfield 520, .iaload, .goto 24]),
  (23, [.iconst 0]),
  (24, [.ireturn])]
/-- DriverHost$Tokens.isNumber()Z -/
def s_71 : List (Nat × List Instr) := [(0, [.aload 0, .getfield 520, .aload 0, .getfield 519, .if_icmp .ge 28, .aload 0, .getfield 514, .aload 0, .getfield 520, .iaload, .iconst 1, .if_icmp .ne 28, .iconst 1, .goto 29]),
  (28, [.iconst 0]),
  (29, [.ret 0])]
/-- DriverHost$Tokens.isSign(C)Z -/
def s_72 : List (Nat × List Instr) := [(0, [.aload 0, .getfield 520, .aload 0, .getfield 519, .if_icmp .ge 41, .aload 0, .getfield 514, .aload 0, .getfield 520, .iaload, .iconst 2, .if_icmp .ne 41, .aload 0, .getfield 517, .aload 0, .getfield 520, .iaload, .iload 1, .if_icmp .ne 41, .iconst 1, .goto 42]),
  (41, [.iconst 0]),
  (42, [.ret 0])]
/-- DriverHost$Tokens.isWord(LDriverHost$Word;)Z -/
def s_73 : List (Nat × List Instr) := [(0, [.aload 0, .getfield 520, .aload 0, .getfield 519, .if_icmp .ge 28, .aload 0, .getfield 518, .aload 0, .getfield 520, .checkcast 9, .aload 1, .nop, .iconst 1, .goto 29]),
  (28, [.iconst 0]),
  (29, [.ret 0])]
/-- DriverHost$Tokens.isName()Z -/
def s_74 : List (Nat × List Instr) := [(0, [.aload 0, .getfield 520, .aload 0, .getfield 519, .if_icmp .ge 39, .aload 0, .getfield 514, .aload 0, .getfield 520, .iaload, .ifCond .ne 39, .aload 0, .getfield 518, .aload 0, .getfield 520, .checkcast 9, .ifnonnull 39, .iconst 1, .goto 40]),
  (39, [.iconst 0]),
  (40, [.ret 0])]
/-- DriverHost$Tokens.refuse(I)V -/
def s_75 : List (Nat × List Instr) := [(0, [.aload 0, .getfield 521, .ifCond .ne 51, .aload 0, .iload 1, .putfield 521, .aload 0, .aload 0, .getfield 520, .aload 0, .getfield 519, .if_icmp .ge 36, .aload 0, .getfield 515, .aload 0, .getfield 520, .iaload, .goto 40]),
  (36, [.aload 0, .getfield 513]),
  (40, [.putfield 522, .aload 0, .aload 0, .getfield 519, .putfield 520]),
  (51, [.return_])]
/-- DriverHost$Tokens.areSame(II)Z -/
def s_76 : List (Nat × List Instr) := [(0, [.iload 1, .ifCond .lt 53, .iload 1, .aload 0, .getfield 519, .if_icmp .ge 53, .iload 2, .ifCond .lt 53, .iload 2, .aload 0, .getfield 519, .if_icmp .ge 53, .aload 0, .getfield 516, .iload 1, .iaload, .aload 0, .getfield 515, .iload 1, .iaload, .isub, .aload 0, .getfield 516, .iload 2, .iaload, .aload 0, .getfield 515, .iload 2, .iaload, .isub, .if_icmp .eq 55]),
  (53, [.iconst 0, .ret 0]),
  (55, [.iconst 0, .istore 3]),
  (57, [.iload 3, .aload 0, .getfield 516, .iload 1, .iaload, .aload 0, .getfield 515, .iload 1, .iaload, .isub, .if_icmp .ge 111, .aload 0, .getfield 512, .aload 0, .getfield 515, .iload 1, .iaload, .iload 3, .iadd, .baload, .aload 0, .getfield 512, .aload 0, .getfield 515, .iload 2, .iaload, .iload 3, .iadd, .baload, .if_icmp .eq 105, .iconst 0, .ret 0]),
  (105, [.iinc 3 1, .goto 57]),
  (111, [.iconst 1, .ret 0])]
/-- DriverHost$World.<init>(LDriverHost$Program;)V -/
def s_77 : List (Nat × List Instr) := [(0, [.aload 0, .invokespecial 9000, .aload 0, .iconst 0, .putfield 641, .aload 0, .iconst 0, .putfield 642, .aload 0, .iconst 4, .anewarray 2, .putfield 644, .aload 0, .iconst 100, .anewarray 7, .putfield 645, .aload 0, .new 4, .dup, .invokespecial 23, .putfield 646, .aload 0, .aload 1, .putfield 640, .aload 0, .aload 1, .getfield 323, .putfield 643, .iconst 0, .istore 2]),
  (57, [.iload 2, .aload 0, .getfield 644, .ldc_w 202, .if_icmp .ge 86, .aload 0, .getfield 644, .iload 2, .new 2, .dup, .iload 2, .invokespecial 6, .instanceof 2, .iinc 2 1, .goto 57]),
  (86, [.iconst 0, .istore 2]),
  (88, [.iload 2, .aload 0, .getfield 645, .ldc_w 207, .if_icmp .ge 117, .aload 0, .getfield 645, .iload 2, .new 7, .dup, .iload 2, .invokespecial 51, .instanceof 7, .iinc 2 1, .goto 88]),
  (117, [.return_])]
/-- DriverHost$World.copyFrom(LDriverHost$World;)V -/
def s_78 : List (Nat × List Instr) := [(0, [.aload 0, .aload 1, .getfield 640, .putfield 640, .aload 0, .aload 1, .getfield 641, .putfield 641, .aload 0, .aload 1, .getfield 642, .putfield 642, .aload 0, .aload 1, .getfield 643, .putfield 643, .iconst 0, .istore 2]),
  (34, [.iload 2, .aload 0, .getfield 644, .ldc_w 202, .if_icmp .ge 64, .aload 0, .getfield 644, .iload 2, .checkcast 2, .aload 1, .getfield 644, .iload 2, .checkcast 2, .invokevirtual 7, .iinc 2 1, .goto 34]),
  (64, [.iconst 0, .istore 2]),
  (66, [.iload 2, .aload 0, .getfield 642, .if_icmp .ge 104, .iload 2, .aload 0, .getfield 645, .ldc_w 207, .if_icmp .ge 104, .aload 0, .getfield 645, .iload 2, .checkcast 7, .aload 1, .getfield 645, .iload 2, .checkcast 7, .invokevirtual 53, .iinc 2 1, .goto 66]),
  (104, [.aload 0, .getfield 646, .aload 1, .getfield 646, .invokevirtual 24, .return_])]
/-- DriverHost$World.driverAt(I)LDriverHost$Driver; -/
def s_79 : List (Nat × List Instr) := [(0, [.iload 1, .ifCond .lt 24, .iload 1, .aload 0, .getfield 640, .getfield 320, .if_icmp .ge 24, .iload 1, .aload 0, .getfield 644, .ldc_w 202, .if_icmp .lt 34]),
  (24, [.invokedynamic 0]),
  (34, [.aload 0, .getfield 644, .iload 1, .checkcast 2, .areturn])]
/-- DriverHost$World.requestAt(I)LDriverHost$Request; -/
def s_80 : List (Nat × List Instr) := [(0, [.iload 1, .ifCond .lt 21, .iload 1, .aload 0, .getfield 642, .if_icmp .ge 21, .iload 1, .aload 0, .getfield 645, .ldc_w 207, .if_icmp .lt 31]),
  (21, [.invokedynamic 0]),
  (31, [.aload 0, .getfield 645, .iload 1, .checkcast 7, .areturn])]
/-- DriverHost$World.completions()I -/
def s_81 : List (Nat × List Instr) := [(0, [.aload 0, .getfield 646, .iconst 2, .invokevirtual 27, .ireturn])]
/-- DriverHost$World.addRequest(II)LDriverHost$Request; -/
def s_82 : List (Nat × List Instr) := [(0, [.aload 0, .getfield 642, .aload 0, .getfield 645, .ldc_w 207, .if_icmp .ge 22, .aload 0, .dup, .getfield 642, .iconst 1, .iadd, .putfield 642]),
  (22, [.aload 0, .aload 0, .getfield 642, .iconst 1, .isub, .invokevirtual 80, .astore 3, .aload 3, .iload 1, .iload 2, .aload 0, .getfield 641, .invokevirtual 52, .aload 3, .areturn])]
/-- DriverHost$World.pass(I)V -/
def s_83 : List (Nat × List Instr) := [(0, [.iconst 0, .istore 2]),
  (2, [.iload 2, .iload 1, .if_icmp .ge 61, .iconst 0, .istore 3]),
  (9, [.iload 3, .aload 0, .getfield 640, .getfield 320, .if_icmp .ge 45, .iload 3, .aload 0, .getfield 644, .ldc_w 202, .if_icmp .ge 45, .aload 0, .aload 0, .getfield 644, .iload 3, .checkcast 2, .invokevirtual 84, .iinc 3 1, .goto 9]),
  (45, [.aload 0, .dup, .getfield 641, .iconst 1, .iadd, .putfield 641, .iinc 2 1, .goto 2]),
  (61, [.return_])]
/-- DriverHost$World.step(LDriverHost$Driver;)V -/
def s_84 : List (Nat × List Instr) := [(0, [.aload 1, .getfield 129, .iconst 1, .if_icmp .ne 24, .aload 0, .getfield 641, .aload 1, .getfield 130, .if_icmp .lt 24, .aload 0, .aload 1, .invokevirtual 85]),
  (24, [.aload 1, .getfield 129, .iconst 2, .if_icmp .eq 48, .aload 0, .getfield 641, .aload 1, .getfield 140, .if_icmp .lt 48, .aload 0, .aload 1, .invokevirtual 87]),
  (48, [.aload 1, .getfield 129, .ifCond .ne 68, .aload 1, .getfield 137, .iconst (-1), .if_icmp .ne 68, .aload 0, .aload 1, .invokevirtual 88]),
  (68, [.aload 1, .getfield 129, .ifCond .ne 96, .aload 1, .getfield 137, .iconst (-1), .if_icmp .eq 96, .aload 0, .aload 1, .aload 0, .aload 1, .getfield 137, .invokevirtual 80, .invokevirtual 90]),
  (96, [.aload 1, .getfield 129, .ifCond .ne 139, .aload 1, .dup, .getfield 141, .iconst 1, .iadd, .putfield 141, .aload 0, .getfield 641, .iconst 1, .iadd, .aload 1, .getfield 131, .isub, .aload 0, .getfield 640, .getfield 325, .if_icmp .lt 139, .aload 1, .iconst 0, .putfield 132]),
  (139, [.return_])]
/-- DriverHost$World.restart(LDriverHost$Driver;)V -/
def s_85 : List (Nat × List Instr) := [(0, [.aload 1, .iconst 0, .putfield 129, .aload 1, .aload 0, .getfield 641, .putfield 131, .aload 0, .getfield 646, .aload 0, .getfield 641, .iconst 5, .aload 1, .getfield 128, .iconst (-1), .invokevirtual 25, .aload 1, .invokevirtual 18, .iconst 0, .istore 2]),
  (36, [.iload 2, .aload 1, .getfield 136, .if_icmp .ge 64, .aload 0, .aload 1, .aload 0, .aload 1, .iload 2, .invokevirtual 11, .invokevirtual 80, .invokevirtual 93, .iinc 2 1, .goto 36]),
  (64, [.aload 1, .getfield 137, .iconst (-1), .if_icmp .ne 73, .return_]),
  (73, [.aload 0, .aload 1, .getfield 137, .invokevirtual 80, .astore 2, .aload 0, .aload 2, .invokevirtual 86, .istore 3, .iload 3, .iconst 2, .if_icmp .ne 102, .aload 0, .aload 2, .iconst 2, .invokevirtual 100, .goto 143]),
  (102, [.iload 3, .iconst 1, .if_icmp .ne 122, .aload 0, .aload 1, .aload 2, .aload 0, .aload 1, .aload 2, .invokevirtual 92, .invokevirtual 94, .goto 143]),
  (122, [.aload 1, .iconst (-1), .putfield 137, .aload 1, .aload 2, .getfield 448, .putfield 138, .aload 0, .aload 1, .aload 2, .iconst 7, .invokevirtual 101]),
  (143, [.return_])]
/-- DriverHost$World.decide(LDriverHost$Request;)I -/
def s_86 : List (Nat × List Instr) := [(0, [.aload 0, .getfield 640, .aload 1, .getfield 450, .invokevirtual 29, .astore 2, .aload 2, .getfield 65, .iconst 2, .if_icmp .ne 22, .iconst 2, .ireturn]),
  (22, [.aload 2, .getfield 65, .iconst 3, .if_icmp .eq 32, .iconst 0, .ireturn]),
  (32, [.aload 0, .aload 1, .getfield 449, .invokevirtual 79, .astore 3, .aload 3, .aload 1, .getfield 451, .iconst 0, .invokevirtual 13, .aload 0, .getfield 640, .getfield 330, .aload 2, .getfield 67, .aload 2, .getfield 68, .aload 3, .getfield 133, .invokevirtual 2, .ifCond .eq 79, .iconst 1, .goto 80]),
  (79, [.iconst 0]),
  (80, [.istore 4, .iload 4, .ifCond .eq 91, .iconst 1, .goto 92]),
  (91, [.iconst 0]),
  (92, [.ireturn])]
/-- DriverHost$World.failLate(LDriverHost$Driver;)V -/
def s_87 : List (Nat × List Instr) := [(0, [.iconst (2147483647), .istore 2, .iconst 0, .istore 3]),
  (5, [.iload 3, .aload 0, .getfield 642, .if_icmp .ge 78, .aload 0, .iload 3, .invokevirtual 80, .astore 4, .aload 4, .getfield 449, .aload 1, .getfield 128, .if_icmp .ne 72, .aload 4, .getfield 455, .ifCond .ne 72, .aload 4, .invokevirtual 55, .aload 0, .getfield 641, .if_icmp .gt 62, .aload 0, .aload 4, .iconst 1, .invokevirtual 100, .goto 72]),
  (62, [.iload 2, .aload 4, .invokevirtual 55, .invokestatic 9001, .istore 2]),
  (72, [.iinc 3 1, .goto 5]),
  (78, [.aload 1, .iload 2, .putfield 140, .return_])]
/-- DriverHost$World.begin(LDriverHost$Driver;)V -/
def s_88 : List (Nat × List Instr) := [(0, [.aload 0, .aload 1, .invokevirtual 89, .istore 2, .iload 2, .iconst (-1), .if_icmp .ne 12, .return_]),
  (12, [.aload 0, .iload 2, .invokevirtual 80, .astore 3, .aload 0, .aload 1, .aload 3, .invokevirtual 102, .aload 1, .iload 2, .putfield 137, .aload 3, .iconst 1, .putfield 455, .aload 3, .aload 0, .getfield 640, .aload 3, .getfield 450, .invokevirtual 29, .getfield 66, .putfield 460, .aload 0, .getfield 646, .aload 0, .getfield 641, .iconst 1, .aload 1, .getfield 128, .iload 2, .invokevirtual 25, .return_])]
/-- DriverHost$World.nextOf(LDriverHost$Driver;)I -/
def s_89 : List (Nat × List Instr) := [(0, [.aload 1, .getfield 138, .iconst (-1), .if_icmp .ne 15, .aload 1, .getfield 139, .ifCond .ne 20]),
  (15, [.aload 1, .getfield 138, .ireturn]),
  (20, [.iconst (-1), .istore 2, .iconst (-1), .istore 3, .iconst 0, .istore 4]),
  (27, [.iload 4, .aload 0, .getfield 642, .if_icmp .ge 88, .aload 0, .iload 4, .invokevirtual 80, .astore 5, .aload 5, .getfield 449, .aload 1, .getfield 128, .if_icmp .ne 82, .aload 5, .getfield 455, .ifCond .ne 82, .aload 5, .getfield 452, .iload 3, .if_icmp .le 82, .iload 4, .istore 2, .aload 5, .getfield 452, .istore 3]),
  (82, [.iinc 4 1, .goto 27]),
  (88, [.iload 2, .ireturn])]
/-- DriverHost$World.work(LDriverHost$Driver;LDriverHost$Request;)V -/
def s_90 : List (Nat × List Instr) := [(0, [.aload 2, .dup, .getfield 460, .iconst 1, .isub, .putfield 460, .aload 2, .getfield 460, .ifCond .le 18, .return_]),
  (18, [.aload 2, .iconst 1, .invokevirtual 56, .ifCond .eq 32, .aload 0, .aload 1, .invokevirtual 96, .return_]),
  (32, [.aload 0, .aload 1, .aload 2, .invokevirtual 91, .istore 3, .aload 2, .iconst 2, .invokevirtual 56, .ifCond .eq 55, .aload 0, .aload 1, .invokevirtual 96, .goto 62]),
  (55, [.aload 0, .aload 1, .aload 2, .iload 3, .invokevirtual 94]),
  (62, [.return_])]
/-- DriverHost$World.doEffect(LDriverHost$Driver;LDriverHost$Request;)I -/
def s_91 : List (Nat × List Instr) := [(0, [.aload 0, .getfield 640, .aload 2, .getfield 450, .invokevirtual 29, .astore 3, .aload 0, .aload 1, .aload 2, .invokevirtual 92, .istore 4, .aload 1, .aload 2, .getfield 451, .iload 4, .invokevirtual 13, .aload 0, .getfield 640, .getfield 330, .aload 3, .getfield 69, .aload 3, .getfield 70, .aload 1, .getfield 133, .invokevirtual 2, .pop, .aload 2, .dup, .getfield 458, .iconst 1, .iadd, .putfield 458, .iload 4, .ireturn])]
/-- DriverHost$World.resultNow(LDriverHost$Driver;LDriverHost$Request;)I -/
def s_92 : List (Nat × List Instr) := [(0, [.aload 0, .getfield 640, .aload 2, .getfield 450, .invokevirtual 29, .astore 3, .aload 1, .aload 2, .getfield 451, .iconst 0, .invokevirtual 13, .aload 0, .getfield 640, .getfield 330, .aload 3, .getfield 68, .aload 3, .getfield 69, .aload 1, .getfield 133, .invokevirtual 2, .ireturn])]
/-- DriverHost$World.doKeepings(LDriverHost$Driver;LDriverHost$Request;)V -/
def s_93 : List (Nat × List Instr) := [(0, [.aload 0, .getfield 640, .aload 2, .getfield 450, .invokevirtual 29, .astore 3, .aload 1, .aload 2, .getfield 451, .aload 2, .getfield 457, .invokevirtual 13, .aload 0, .getfield 640, .getfield 330, .aload 3, .getfield 70, .aload 3, .getfield 71, .aload 1, .getfield 133, .invokevirtual 2, .pop, .return_])]
/-- DriverHost$World.complete(LDriverHost$Driver;LDriverHost$Request;I)V -/
def s_94 : List (Nat × List Instr) := [(0, [.aload 1, .iconst (-1), .putfield 137, .aload 2, .iconst 2, .aload 0, .getfield 641, .invokevirtual 57, .aload 2, .iload 3, .putfield 457, .aload 1, .dup, .getfield 142, .iconst 1, .iadd, .putfield 142, .aload 1, .dup, .getfield 143, .aload 0, .getfield 641, .aload 2, .getfield 454, .isub, .iadd, .putfield 143, .aload 0, .aload 1, .aload 2, .invokevirtual 93, .aload 1, .aload 2, .getfield 448, .invokevirtual 14, .aload 0, .getfield 646, .aload 0, .getfield 641, .iconst 2, .aload 1, .getfield 128, .aload 2, .getfield 448, .invokevirtual 25, .aload 1, .getfield 136, .aload 0, .getfield 640, .getfield 328, .if_icmp .lt 100, .aload 0, .aload 1, .invokevirtual 95]),
  (100, [.return_])]
/-- DriverHost$World.snapshot(LDriverHost$Driver;)V -/
def s_95 : List (Nat × List Instr) := [(0, [.aload 1, .invokevirtual 17, .aload 1, .iconst 0, .putfield 136, .aload 0, .getfield 646, .aload 0, .getfield 641, .iconst 6, .aload 1, .getfield 128, .iconst (-1), .invokevirtual 25, .return_])]
/-- DriverHost$World.crash(LDriverHost$Driver;)V -/
def s_96 : List (Nat × List Instr) := [(0, [.aload 1, .dup, .getfield 132, .iconst 1, .iadd, .putfield 132, .aload 0, .getfield 646, .aload 0, .getfield 641, .iconst 4, .aload 1, .getfield 128, .iconst (-1), .invokevirtual 25, .aload 1, .getfield 137, .iconst (-1), .if_icmp .eq 47, .aload 0, .aload 0, .aload 1, .getfield 137, .invokevirtual 80, .invokevirtual 97]),
  (47, [.aload 1, .getfield 132, .aload 0, .getfield 640, .getfield 326, .if_icmp .le 69, .aload 0, .aload 1, .invokevirtual 98, .goto 88]),
  (69, [.aload 1, .aload 0, .getfield 641, .iconst 1, .iadd, .aload 0, .aload 1, .getfield 132, .invokevirtual 99, .iadd, .invokevirtual 15]),
  (88, [.return_])]
/-- DriverHost$World.strike(LDriverHost$Request;)V -/
def s_97 : List (Nat × List Instr) := [(0, [.aload 1, .dup, .getfield 459, .iconst 1, .iadd, .putfield 459, .aload 1, .iconst 0, .putfield 460, .aload 1, .getfield 459, .aload 0, .getfield 640, .getfield 327, .if_icmp .lt 35, .aload 0, .aload 1, .iconst 3, .invokevirtual 100]),
  (35, [.return_])]
/-- DriverHost$World.die(LDriverHost$Driver;)V -/
def s_98 : List (Nat × List Instr) := [(0, [.aload 1, .iconst 2, .putfield 129, .aload 1, .invokevirtual 16, .aload 0, .getfield 646, .aload 0, .getfield 641, .iconst 8, .aload 1, .getfield 128, .iconst (-1), .invokevirtual 25, .iconst 0, .istore 2]),
  (29, [.iload 2, .aload 0, .getfield 642, .if_icmp .ge 73, .aload 0, .iload 2, .invokevirtual 80, .astore 3, .aload 3, .getfield 449, .aload 1, .getfield 128, .if_icmp .ne 67, .aload 3, .invokevirtual 54, .ifCond .ne 67, .aload 0, .aload 3, .iconst 5, .invokevirtual 100]),
  (67, [.iinc 2 1, .goto 29]),
  (73, [.return_])]
/-- DriverHost$World.delayFor(I)I -/
def s_99 : List (Nat × List Instr) := [(0, [.aload 0, .getfield 643, .istore 2, .iconst 1, .istore 3]),
  (7, [.iload 3, .iload 1, .if_icmp .ge 43, .iload 2, .aload 0, .getfield 640, .getfield 324, .if_icmp .ge 43, .iload 2, .iconst 2, .imul, .aload 0, .getfield 640, .getfield 324, .invokestatic 9001, .istore 2, .iinc 3 1, .goto 7]),
  (43, [.iload 2, .ireturn])]
/-- DriverHost$World.fail(LDriverHost$Request;I)V -/
def s_100 : List (Nat × List Instr) := [(0, [.aload 0, .aload 1, .getfield 449, .invokevirtual 79, .astore 3, .aload 1, .getfield 455, .ifCond .ne 25, .aload 0, .aload 3, .aload 1, .invokevirtual 102, .goto 30]),
  (25, [.aload 3, .iconst (-1), .putfield 137]),
  (30, [.aload 1, .iconst 3, .aload 0, .getfield 641, .invokevirtual 57, .aload 1, .iload 2, .putfield 456, .aload 0, .getfield 646, .aload 0, .getfield 641, .iconst 3, .aload 3, .getfield 128, .aload 1, .getfield 448, .invokevirtual 25, .return_])]
/-- DriverHost$World.enqueue(LDriverHost$Driver;LDriverHost$Request;I)V -/
def s_101 : List (Nat × List Instr) := [(0, [.aload 2, .iconst 0, .putfield 455, .aload 1, .dup, .getfield 139, .iconst 1, .iadd, .putfield 139, .aload 1, .aload 1, .getfield 140, .aload 2, .invokevirtual 55, .invokestatic 9001, .putfield 140, .aload 0, .getfield 646, .aload 0, .getfield 641, .iload 3, .aload 1, .getfield 128, .aload 2, .getfield 448, .invokevirtual 25, .return_])]
/-- DriverHost$World.leaveQueue(LDriverHost$Driver;LDriverHost$Request;)V -/
def s_102 : List (Nat × List Instr) := [(0, [.aload 1, .dup, .getfield 139, .iconst 1, .isub, .putfield 139, .aload 1, .getfield 138, .aload 2, .getfield 448, .if_icmp .ne 26, .aload 1, .iconst (-1), .putfield 138]),
  (26, [.return_])]
/-- DriverHost$World.matches(ILDriverHost$Code;[I)Z -/
def s_103 : List (Nat × List Instr) := [(0, [.aload 0, .iload 1, .invokevirtual 80, .astore 4, .aload 0, .getfield 640, .aload 4, .getfield 450, .invokevirtual 29, .getfield 65, .istore 5, .iconst 0, .istore 6]),
  (27, [.iload 6, .aload 3, .ldc_w 100, .if_icmp .ge 53, .aload 3, .iload 6, .aload 4, .iload 6, .iload 5, .invokevirtual 59, .iastore, .iinc 6 1, .goto 27]),
  (53, [.aload 2, .iconst 0, .aload 2, .getfield 2, .aload 3, .invokevirtual 2, .ifCond .eq 70, .iconst 1, .goto 71]),
  (70, [.iconst 0]),
  (71, [.ret 0])]
/-- DriverHost.<init>()V -/
def s_104 : List (Nat × List Instr) := [(0, [.aload 0, .invokespecial 9000, .aload 0, .iconst 900, .newarray .byte, .putfield 704, .aload 0, .iconst 0, .putfield 705, .aload 0, .iconst (-1), .putfield 706, .aload 0, .new 10, .dup, .new 5, .dup, .iconst 0, .invokespecial 28, .invokespecial 77, .putfield 707, .aload 0, .new 3, .dup, .invokespecial 19, .putfield 708, .aload 0, .aconst_null, .putfield 709, .aload 0, .iconst 0, .putfield 710, .aload 0, .aconst_null, .putfield 711, .return_])]
/-- DriverHost.feed(IIIII)I -/
def s_105 : List (Nat × List Instr) := [(0, [.aload 0, .getfield 705, .iconst 20, .iadd, .iconst 900, .if_icmp .le 15, .iconst (-1), .ireturn]),
  (15, [.aload 0, .iload 1, .invokevirtual 106, .aload 0, .iload 2, .invokevirtual 106, .aload 0, .iload 3, .invokevirtual 106, .aload 0, .iload 4, .invokevirtual 106, .aload 0, .iload 5, .invokevirtual 106, .aload 0, .getfield 705, .ireturn])]
/-- DriverHost.append(I)V -/
def s_106 : List (Nat × List Instr) := [(0, [.iconst 24, .istore 2]),
  (3, [.iload 2, .ifCond .lt 48, .aload 0, .getfield 705, .aload 0, .getfield 704, .ldc_w 101, .if_icmp .ge 42, .aload 0, .getfield 704, .aload 0, .getfield 705, .iload 1, .iload 2, .ishr, .i2b, .bastore, .aload 0, .dup, .getfield 705, .iconst 1, .iadd, .putfield 705]),
  (42, [.iinc 2 (-8), .goto 3]),
  (48, [.return_])]
/-- DriverHost.load(I)I -/
def s_107 : List (Nat × List Instr) := [(0, [.iload 1, .ifCond .lt 12, .iload 1, .aload 0, .getfield 705, .if_icmp .le 22]),
  (12, [.invokedynamic 1]),
  (22, [.new 6, .dup, .aload 0, .getfield 704, .iload 1, .iconst 0, .invokespecial 31, .astore 2, .aload 2, .invokevirtual 32, .aload 0, .iconst 0, .putfield 705, .aload 0, .aload 2, .getfield 384, .getfield 522, .putfield 706, .aload 2, .getfield 384, .getfield 521, .ifCond .eq 77, .iconst (-10), .aload 2, .getfield 384, .getfield 521, .isub, .ireturn]),
  (77, [.aload 0, .new 10, .dup, .aload 2, .getfield 386, .invokespecial 77, .putfield 707, .aload 0, .getfield 708, .invokevirtual 20, .aload 0, .iconst 0, .putfield 710, .aload 2, .getfield 386, .getfield 321, .ireturn])]
/-- DriverHost.errorPosition()I -/
def s_108 : List (Nat × List Instr) := [(0, [.aload 0, .getfield 706, .ireturn])]
/-- DriverHost.driverCount()I -/
def s_109 : List (Nat × List Instr) := [(0, [.aload 0, .getfield 707, .getfield 640, .getfield 320, .ireturn])]
/-- DriverHost.commandCount()I -/
def s_110 : List (Nat × List Instr) := [(0, [.aload 0, .getfield 707, .getfield 640, .getfield 321, .ireturn])]
/-- DriverHost.requestCount()I -/
def s_111 : List (Nat × List Instr) := [(0, [.aload 0, .getfield 707, .getfield 642, .ireturn])]
/-- DriverHost.clock()I -/
def s_112 : List (Nat × List Instr) := [(0, [.aload 0, .getfield 707, .getfield 641, .ireturn])]
/-- DriverHost.classOf(I)I -/
def s_113 : List (Nat × List Instr) := [(0, [.aload 0, .getfield 707, .getfield 640, .iload 1, .invokevirtual 29, .getfield 65, .ireturn])]
/-- DriverHost.timeOf(I)I -/
def s_114 : List (Nat × List Instr) := [(0, [.aload 0, .getfield 707, .getfield 640, .iload 1, .invokevirtual 29, .getfield 66, .ireturn])]
/-- DriverHost.submit(IIIII)I -/
def s_115 : List (Nat × List Instr) := [(0, [.aload 0, .getfield 707, .iload 1, .invokevirtual 79, .astore 6, .aload 0, .getfield 707, .getfield 640, .iload 2, .invokevirtual 29, .pop, .iload 4, .iconst 0, .iconst 3, .invokestatic 151, .ifCond .eq 43, .iload 5, .iconst 0, .iconst (100000), .invokestatic 151, .ifCond .ne 53]),
  (43, [.invokedynamic 1]),
  (53, [.aload 6, .getfield 129, .iconst 2, .if_icmp .ne 65, .iconst (-2), .ireturn]),
  (65, [.aload 0, .getfield 707, .getfield 642, .iconst 100, .if_icmp .lt 80, .iconst (-3), .ireturn]),
  (80, [.aload 0, .getfield 708, .aload 0, .getfield 707, .invokevirtual 21, .aload 0, .getfield 707, .iload 1, .iload 2, .invokevirtual 82, .astore 7, .aload 7, .iload 3, .putfield 451, .aload 7, .iload 4, .putfield 452, .aload 7, .iload 5, .putfield 453, .aload 0, .getfield 707, .aload 6, .aload 7, .iconst 0, .invokevirtual 101, .aload 7, .getfield 448, .ireturn])]
/-- DriverHost.cancel(I)I -/
def s_116 : List (Nat × List Instr) := [(0, [.aload 0, .getfield 707, .iload 1, .invokevirtual 80, .astore 2, .aload 2, .getfield 455, .ifCond .eq 19, .iconst (-2), .ireturn]),
  (19, [.aload 0, .getfield 708, .aload 0, .getfield 707, .invokevirtual 21, .aload 0, .getfield 707, .aload 2, .iconst 4, .invokevirtual 100, .aload 0, .getfield 707, .getfield 641, .ireturn])]
/-- DriverHost.plan(III)I -/
def s_117 : List (Nat × List Instr) := [(0, [.aload 0, .getfield 707, .iload 1, .invokevirtual 80, .astore 4, .iload 2, .iconst 0, .iconst 2, .invokestatic 151, .ifCond .eq 29, .iload 3, .iconst 0, .iconst 20, .invokestatic 151, .ifCond .ne 39]),
  (29, [.invokedynamic 1]),
  (39, [.aload 4, .invokevirtual 54, .ifCond .eq 50, .iconst (-2), .ireturn]),
  (50, [.aload 0, .getfield 708, .aload 0, .getfield 707, .invokevirtual 21, .aload 4, .getfield 461, .istore 5, .aload 4, .iload 2, .putfield 461, .aload 4, .iload 3, .putfield 462, .iload 5, .ireturn])]
/-- DriverHost.kill(I)I -/
def s_118 : List (Nat × List Instr) := [(0, [.aload 0, .getfield 707, .iload 1, .invokevirtual 79, .astore 2, .aload 2, .getfield 129, .ifCond .eq 19, .iconst (-2), .ireturn]),
  (19, [.aload 0, .getfield 708, .aload 0, .getfield 707, .invokevirtual 21, .aload 0, .getfield 707, .aload 2, .invokevirtual 96, .aload 2, .getfield 129, .ireturn])]
/-- DriverHost.replace(I)I -/
def s_119 : List (Nat × List Instr) := [(0, [.aload 0, .getfield 707, .iload 1, .invokevirtual 79, .astore 2, .aload 2, .getfield 129, .ifCond .eq 19, .iconst (-2), .ireturn]),
  (19, [.aload 2, .getfield 137, .iconst (-1), .if_icmp .eq 30, .iconst (-3), .ireturn]),
  (30, [.aload 0, .getfield 708, .aload 0, .getfield 707, .invokevirtual 21, .aload 0, .getfield 707, .aload 2, .invokevirtual 95, .aload 2, .aload 0, .getfield 707, .getfield 641, .aload 0, .getfield 707, .getfield 640, .getfield 329, .iadd, .invokevirtual 15, .aload 2, .getfield 130, .ireturn])]
/-- DriverHost.takeSnapshot(I)I -/
def s_120 : List (Nat × List Instr) := [(0, [.aload 0, .getfield 707, .iload 1, .invokevirtual 79, .astore 2, .aload 2, .getfield 129, .ifCond .eq 19, .iconst (-2), .ireturn]),
  (19, [.aload 0, .getfield 708, .aload 0, .getfield 707, .invokevirtual 21, .aload 2, .getfield 136, .istore 3, .aload 0, .getfield 707, .aload 2, .invokevirtual 95, .iload 3, .ireturn])]
/-- DriverHost.poke(III)I -/
def s_121 : List (Nat × List Instr) := [(0, [.aload 0, .getfield 707, .iload 1, .invokevirtual 79, .astore 4, .aload 4, .iload 2, .invokevirtual 8, .istore 5, .iload 3, .iconst 0, .iconst (65535), .invokestatic 151, .ifCond .ne 38, .invokedynamic 1]),
  (38, [.aload 0, .getfield 708, .aload 0, .getfield 707, .invokevirtual 21, .aload 4, .iload 2, .iload 3, .invokevirtual 12, .iload 5, .ireturn])]
/-- DriverHost.run(I)I -/
def s_122 : List (Nat × List Instr) := [(0, [.iload 1, .iconst 0, .iconst 1000, .invokestatic 151, .ifCond .ne 21, .invokedynamic 1]),
  (21, [.aload 0, .getfield 707, .getfield 641, .iload 1, .iadd, .iconst (1000000), .if_icmp .le 38, .iconst (-4), .ireturn]),
  (38, [.aload 0, .getfield 708, .aload 0, .getfield 707, .invokevirtual 21, .aload 0, .getfield 707, .invokevirtual 81, .istore 2, .aload 0, .getfield 707, .iload 1, .invokevirtual 83, .aload 0, .getfield 707, .invokevirtual 81, .iload 2, .isub, .ireturn])]
/-- DriverHost.driverState(I)I -/
def s_123 : List (Nat × List Instr) := [(0, [.aload 0, .getfield 707, .iload 1, .invokevirtual 79, .getfield 129, .ireturn])]
/-- DriverHost.downUntil(I)I -/
def s_124 : List (Nat × List Instr) := [(0, [.aload 0, .getfield 707, .iload 1, .invokevirtual 79, .astore 2, .aload 2, .getfield 129, .iconst 1, .if_icmp .ne 24, .aload 2, .getfield 130, .goto 25]),
  (24, [.iconst (-1)]),
  (25, [.ireturn])]
/-- DriverHost.streak(I)I -/
def s_125 : List (Nat × List Instr) := [(0, [.aload 0, .getfield 707, .iload 1, .invokevirtual 79, .getfield 132, .ireturn])]
/-- DriverHost.register(II)I -/
def s_126 : List (Nat × List Instr) := [(0, [.aload 0, .getfield 707, .iload 1, .invokevirtual 79, .iload 2, .invokevirtual 8, .ireturn])]
/-- DriverHost.variable(II)I -/
def s_127 : List (Nat × List Instr) := [(0, [.aload 0, .getfield 707, .iload 1, .invokevirtual 79, .iload 2, .invokevirtual 9, .ireturn])]
/-- DriverHost.saved(II)I -/
def s_128 : List (Nat × List Instr) := [(0, [.aload 0, .getfield 707, .iload 1, .invokevirtual 79, .iload 2, .invokevirtual 10, .ireturn])]
/-- DriverHost.logSize(I)I -/
def s_129 : List (Nat × List Instr) := [(0, [.aload 0, .getfield 707, .iload 1, .invokevirtual 79, .getfield 136, .ireturn])]
/-- DriverHost.logged(II)I -/
def s_130 : List (Nat × List Instr) := [(0, [.aload 0, .getfield 707, .iload 1, .invokevirtual 79, .astore 3, .iload 2, .ifCond .ge 23, .invokedynamic 0]),
  (23, [.aload 3, .iload 2, .invokevirtual 11, .ireturn])]
/-- DriverHost.inFlight(I)I -/
def s_131 : List (Nat × List Instr) := [(0, [.aload 0, .getfield 707, .iload 1, .invokevirtual 79, .getfield 137, .ireturn])]
/-- DriverHost.nextRequest(I)I -/
def s_132 : List (Nat × List Instr) := [(0, [.aload 0, .getfield 707, .aload 0, .getfield 707, .iload 1, .invokevirtual 79, .invokevirtual 89, .ireturn])]
/-- DriverHost.queued(I)I -/
def s_133 : List (Nat × List Instr) := [(0, [.aload 0, .getfield 707, .iload 1, .invokevirtual 79, .getfield 139, .ireturn])]
/-- DriverHost.request(II)I -/
def s_134 : List (Nat × List Instr) := [(0, [.aload 0, .getfield 707, .iload 1, .invokevirtual 80, .iload 2, .invokevirtual 58, .ireturn])]
/-- DriverHost.recordCount()I -/
def s_135 : List (Nat × List Instr) := [(0, [.aload 0, .getfield 707, .getfield 646, .getfield 262, .ireturn])]
/-- DriverHost.record(II)I -/
def s_136 : List (Nat × List Instr) := [(0, [.aload 0, .getfield 707, .getfield 646, .iload 1, .iload 2, .invokevirtual 26, .ireturn])]
/-- DriverHost.total(I)I -/
def s_137 : List (Nat × List Instr) := [(0, [.aload 0, .getfield 707, .getfield 646, .iload 1, .invokevirtual 27, .ireturn])]
/-- DriverHost.availability(I)D -/
def s_138 : List (Nat × List Instr) := [(0, [.aload 0, .getfield 707, .iload 1, .invokevirtual 79, .astore 2, .aload 0, .getfield 707, .getfield 641, .ifCond .ne 23, .dconst 1, .goto 37]),
  (23, [.aload 2, .getfield 141, .i2d, .aload 0, .getfield 707, .getfield 641, .i2d, .ddiv]),
  (37, [.dreturn])]
/-- DriverHost.meanTime(I)F -/
def s_139 : List (Nat × List Instr) := [(0, [.aload 0, .getfield 707, .iload 1, .invokevirtual 79, .astore 2, .aload 2, .getfield 142, .ifCond .ne 18, .fconst 0, .freturn]),
  (18, [.aload 2, .getfield 143, .i2d, .aload 2, .getfield 142, .i2d, .ddiv, .d2f, .freturn])]
/-- DriverHost.forecast(I)I -/
def s_140 : List (Nat × List Instr) := [(0, [.aload 0, .getfield 707, .iload 1, .invokevirtual 80, .invokevirtual 54, .ifCond .eq 16, .iconst 0, .ireturn]),
  (16, [.aload 0, .invokevirtual 142, .astore 2, .aload 2, .iload 1, .invokevirtual 80, .astore 3, .iconst 1, .istore 4]),
  (30, [.iload 4, .iconst 1000, .if_icmp .gt 68, .aload 2, .getfield 641, .iconst (1000000), .if_icmp .ge 68, .aload 2, .iconst 1, .invokevirtual 83, .aload 3, .invokevirtual 54, .ifCond .eq 62, .iload 4, .ireturn]),
  (62, [.iinc 4 1, .goto 30]),
  (68, [.iconst (-1), .ireturn])]
/-- DriverHost.bestDelay(I)I -/
def s_141 : List (Nat × List Instr) := [(0, [.iload 1, .iconst 0, .iconst 200, .invokestatic 151, .ifCond .eq 25, .aload 0, .getfield 707, .getfield 641, .iload 1, .iadd, .iconst (1000000), .if_icmp .le 35]),
  (25, [.invokedynamic 1]),
  (35, [.iconst (-1), .istore 2, .iconst (-1), .istore 3, .iconst 16, .aload 0, .getfield 707, .getfield 640, .getfield 324, .invokestatic 9001, .istore 4, .iconst 1, .istore 5]),
  (59, [.iload 5, .iload 4, .if_icmp .gt 109, .aload 0, .invokevirtual 142, .astore 6, .aload 6, .iload 5, .putfield 643, .aload 6, .iload 1, .invokevirtual 83, .aload 6, .invokevirtual 81, .iload 3, .if_icmp .le 103, .aload 6, .invokevirtual 81, .istore 3, .iload 5, .istore 2]),
  (103, [.iinc 5 1, .goto 59]),
  (109, [.iload 2, .ireturn])]
/-- DriverHost.freshTrial()LDriverHost$World; -/
def s_142 : List (Nat × List Instr) := [(0, [.aload 0, .getfield 711, .ifnonnull 25, .aload 0, .new 10, .dup, .aload 0, .getfield 707, .getfield 640, .invokespecial 77, .putfield 711]),
  (25, [.aload 0, .getfield 711, .aload 0, .getfield 707, .invokevirtual 78, .aload 0, .getfield 711, .areturn])]
/-- DriverHost.decision(I)I -/
def s_143 : List (Nat × List Instr) := [(0, [.aload 0, .getfield 707, .iload 1, .invokevirtual 80, .astore 2, .aload 2, .getfield 455, .iconst 1, .if_icmp .ne 28, .aload 0, .getfield 707, .aload 2, .invokevirtual 86, .goto 29]),
  (28, [.iconst (-1)]),
  (29, [.ireturn])]
/-- DriverHost.undoCount()I -/
def s_144 : List (Nat × List Instr) := [(0, [.aload 0, .getfield 708, .getfield 194, .ireturn])]
/-- DriverHost.undo()I -/
def s_145 : List (Nat × List Instr) := [(0, [.aload 0, .getfield 708, .aload 0, .getfield 707, .invokevirtual 22, .ireturn])]
/-- DriverHost.saveState()V -/
def s_146 : List (Nat × List Instr) := [(0, [.aload 0, .getfield 709, .ifnonnull 25, .aload 0, .new 10, .dup, .aload 0, .getfield 707, .getfield 640, .invokespecial 77, .putfield 709]),
  (25, [.aload 0, .getfield 709, .aload 0, .getfield 707, .invokevirtual 78, .aload 0, .iconst 1, .putfield 710, .return_])]
/-- DriverHost.restoreState()Z -/
def s_147 : List (Nat × List Instr) := [(0, [.aload 0, .getfield 710, .ifCond .eq 14, .aload 0, .getfield 709, .ifnonnull 16]),
  (14, [.iconst 0, .ret 0]),
  (16, [.aload 0, .getfield 707, .aload 0, .getfield 709, .invokevirtual 78, .aload 0, .getfield 708, .invokevirtual 20, .iconst 1, .ret 0])]
/-- DriverHost.query(I)I -/
def s_148 : List (Nat × List Instr) := [(0, [.iload 1, .iconst 0, .iconst 200, .invokestatic 151, .ifCond .eq 19, .iload 1, .aload 0, .getfield 705, .if_icmp .le 29]),
  (19, [.invokedynamic 1]),
  (29, [.new 6, .dup, .aload 0, .getfield 704, .iload 1, .iconst 1, .invokespecial 31, .astore 2, .aload 2, .invokevirtual 33, .aload 0, .iconst 0, .putfield 705, .aload 0, .aload 2, .getfield 384, .getfield 522, .putfield 706, .aload 2, .getfield 384, .getfield 521, .ifCond .eq 85, .iconst (-1000000000), .aload 2, .getfield 384, .getfield 521, .isub, .ireturn]),
  (85, [.aload 2, .getfield 388, .ifCond .eq 103, .aload 0, .aload 2, .getfield 387, .invokevirtual 150, .goto 111]),
  (103, [.aload 0, .aload 2, .getfield 387, .invokevirtual 149]),
  (111, [.ireturn])]
/-- DriverHost.countMatches(LDriverHost$Code;)I -/
def s_149 : List (Nat × List Instr) := [(0, [.iconst 11, .newarray .int, .astore 2, .iconst 0, .istore 3, .iconst 0, .istore 4]),
  (10, [.iload 4, .aload 0, .getfield 707, .getfield 642, .if_icmp .ge 45, .aload 0, .getfield 707, .iload 4, .aload 1, .aload 2, .invokevirtual 103, .ifCond .eq 39, .iinc 3 1]),
  (39, [.iinc 4 1, .goto 10]),
  (45, [.iload 3, .ireturn])]
/-- DriverHost.firstMatch(LDriverHost$Code;)I -/
def s_150 : List (Nat × List Instr) := [(0, [.iconst 11, .newarray .int, .astore 2, .iconst 0, .istore 3]),
  (7, [.iload 3, .aload 0, .getfield 707, .getfield 642, .if_icmp .ge 39, .aload 0, .getfield 707, .iload 3, .aload 1, .aload 2, .invokevirtual 103, .ifCond .eq 33, .iload 3, .ireturn]),
  (33, [.iinc 3 1, .goto 7]),
  (39, [.iconst (-1), .ireturn])]
/-- DriverHost.isWithin(III)Z -/
def s_151 : List (Nat × List Instr) := [(0, [.iload 0, .iload 1, .if_icmp .lt 14, .iload 0, .iload 2, .if_icmp .gt 14, .iconst 1, .goto 15]),
  (14, [.iconst 0]),
  (15, [.ret 0])]
/-- DriverHostModel.<init>()V -/
def s_152 : List (Nat × List Instr) := [(0, [.aload 0, .invokespecial 9000, .aload 0, .iconst 20, .newarray .int, .putfield 769, .aload 0, .iconst 16, .newarray .int, .putfield 770, .aload 0, .iconst 16, .newarray .int, .putfield 771, .aload 0, .iconst 16, .newarray .int, .putfield 772, .aload 0, .iconst 16, .newarray .int, .putfield 773, .aload 0, .iconst 16, .newarray .int, .putfield 774, .aload 0, .iconst 16, .newarray .int, .putfield 775, .aload 0, .iconst 16, .newarray .int, .putfield 776, .aload 0, .iconst 2400, .newarray .int, .putfield 777, .aload 0, .iconst 8, .newarray .int, .putfield 778, .aload 0, .iconst 8, .newarray .int, .putfield 779, .aload 0, .iconst 2392, .newarray .int, .putfield 780, .aload 0, .iconst 2392, .newarray .int, .putfield 781, .aload 0, .iconst 2392, .newarray .int, .putfield 782, .aload 0, .iconst 23920, .newarray .int, .putfield 783, .aload 0, .iconst 900, .newarray .int, .putfield 786, .aload 0, .iconst (-1), .putfield 795, .aload 0, .iconst 900, .newarray .int, .putfield 796, .aload 0, .iconst 900, .newarray .int, .putfield 797, .aload 0, .iconst 200, .newarray .int, .putfield 798, .aload 0, .invokevirtual 157, .aload 0, .invokevirtual 159, .return_])]
/-- DriverHostModel.thrown()I -/
def s_153 : List (Nat × List Instr) := [(0, [.aload 0, .getfield 768, .ireturn])]
/-- DriverHostModel.in(JJJ)Z -/
def s_154 : List (Nat × List Instr) := [(0, [.lload 0, .lload 2, .lcmp, .ifCond .lt 17, .lload 0, .lload 4, .lcmp, .ifCond .gt 17, .iconst 1, .goto 18]),
  (17, [.iconst 0]),
  (18, [.ret 0])]
/-- DriverHostModel.fails(ZI)Z -/
def s_155 : List (Nat × List Instr) := [(0, [.iload 1, .ifCond .eq 6, .iconst 0, .ret 0]),
  (6, [.aload 0, .iload 2, .putfield 768, .iconst 1, .ret 0])]
/-- DriverHostModel.lesser(II)I -/
def s_156 : List (Nat × List Instr) := [(0, [.iload 0, .iload 1, .if_icmp .ge 9, .iload 0, .goto 10]),
  (9, [.iload 1]),
  (10, [.ireturn])]
/-- DriverHostModel.standard()V -/
def s_157 : List (Nat × List Instr) := [(0, [.iconst 0, .istore 1]),
  (2, [.iload 1, .iconst 10, .if_icmp .ge 24, .aload 0, .getfield 769, .iconst 10, .iload 1, .iadd, .iconst 0, .iastore, .iinc 1 1, .goto 2]),
  (24, [.aload 0, .getfield 769, .iconst 10, .iconst 1, .iastore, .aload 0, .getfield 769, .iconst 12, .iconst 2, .iastore, .aload 0, .getfield 769, .iconst 13, .iconst 32, .iastore, .aload 0, .getfield 769, .iconst 14, .iconst 20, .iastore, .aload 0, .getfield 769, .iconst 15, .iconst 5, .iastore, .aload 0, .getfield 769, .iconst 16, .iconst 3, .iastore, .aload 0, .getfield 769, .iconst 17, .iconst 4, .iastore, .aload 0, .getfield 769, .iconst 18, .iconst 1, .iastore, .return_])]
/-- DriverHostModel.shifts([I)V -/
def s_158 : List (Nat × List Instr) := [(0, [.aload 0, .ldc_w 100, .iconst 2, .idiv, .istore 1, .iconst 0, .istore 2]),
  (7, [.iload 2, .iload 1, .if_icmp .ge 26, .aload 0, .iload 2, .aload 0, .iload 1, .iload 2, .iadd, .iaload, .iastore, .iinc 2 1, .goto 7]),
  (26, [.return_])]
/-- DriverHostModel.takesOver()V -/
def s_159 : List (Nat × List Instr) := [(0, [.aload 0, .getfield 769, .invokestatic 158, .aload 0, .getfield 770, .invokestatic 158, .aload 0, .getfield 771, .invokestatic 158, .aload 0, .getfield 776, .invokestatic 158, .aload 0, .getfield 772, .invokestatic 158, .aload 0, .getfield 773, .invokestatic 158, .aload 0, .getfield 774, .invokestatic 158, .aload 0, .getfield 775, .invokestatic 158, .aload 0, .getfield 777, .invokestatic 158, .iconst 0, .istore 1]),
  (65, [.iload 1, .iconst 2392, .if_icmp .ge 85, .aload 0, .getfield 780, .iload 1, .iconst 0, .iastore, .iinc 1 1, .goto 65]),
  (85, [.iconst 0, .istore 1]),
  (87, [.iload 1, .iconst 4, .if_icmp .ge 118, .aload 0, .getfield 780, .iconst 28, .iload 1, .iadd, .iconst (-1), .iastore, .aload 0, .getfield 780, .iconst 32, .iload 1, .iadd, .iconst (-1), .iastore, .iinc 1 1, .goto 87]),
  (118, [.aload 0, .iconst 0, .putfield 785, .aload 0, .iconst 0, .putfield 784, .return_])]
/-- DriverHostModel.copy([I[I)V -/
def s_160 : List (Nat × List Instr) := [(0, [.iconst 0, .istore 2]),
  (2, [.iload 2, .iconst 2392, .if_icmp .ge 21, .aload 1, .iload 2, .aload 0, .iload 2, .iaload, .iastore, .iinc 2 1, .goto 2]),
  (21, [.return_])]
/-- DriverHostModel.lays(I)V -/
def s_161 : List (Nat × List Instr) := [(0, [.iconst 24, .istore 2]),
  (3, [.iload 2, .ifCond .lt 39, .aload 0, .getfield 786, .aload 0, .getfield 787, .iload 1, .iload 2, .ishr, .iconst 255, .iand, .iastore, .aload 0, .dup, .getfield 787, .iconst 1, .iadd, .putfield 787, .iinc 2 (-8), .goto 3]),
  (39, [.return_])]
/-- DriverHostModel.feed(IIIII)I -/
def s_162 : List (Nat × List Instr) := [(0, [.aload 0, .iconst 0, .putfield 768, .aload 0, .getfield 787, .iconst 20, .iadd, .iconst 900, .if_icmp .le 20, .iconst (-1), .ireturn]),
  (20, [.aload 0, .iload 1, .invokevirtual 161, .aload 0, .iload 2, .invokevirtual 161, .aload 0, .iload 3, .invokevirtual 161, .aload 0, .iload 4, .invokevirtual 161, .aload 0, .iload 5, .invokevirtual 161, .aload 0, .getfield 787, .ireturn])]
/-- DriverHostModel.errorPosition()I -/
def s_163 : List (Nat × List Instr) := [(0, [.aload 0, .iconst 0, .putfield 768, .aload 0, .getfield 795, .ireturn])]
/-- DriverHostModel.byteAt(I)I -/
def s_164 : List (Nat × List Instr) := [(0, [.iload 1, .aload 0, .getfield 788, .if_icmp .ge 17, .aload 0, .getfield 786, .iload 1, .iaload, .goto 18]),
  (17, [.iconst (-1)]),
  (18, [.ireturn])]
/-- DriverHostModel.isLetter(I)Z -/
def s_165 : List (Nat × List Instr) := [(0, [.iload 0, .iconst 97, .if_icmp .lt 16, .iload 0, .iconst 122, .if_icmp .gt 16, .iconst 1, .goto 17]),
  (16, [.iconst 0]),
  (17, [.ret 0])]
/-- DriverHostModel.isFigure(I)Z -/
def s_166 : List (Nat × List Instr) := [(0, [.iload 0, .iconst 48, .if_icmp .lt 16, .iload 0, .iconst 57, .if_icmp .gt 16, .iconst 1, .goto 17]),
  (16, [.iconst 0]),
  (17, [.ret 0])]
/-- DriverHostModel.readsWord()V -/
def s_167 : List (Nat × List Instr) := [(0, [.aload 0, .ldc2_w 0, .putfield 793]),
  (5, [.aload 0, .aload 0, .getfield 789, .invokevirtual 164, .invokestatic 165, .ifCond .eq 73, .aload 0, .getfield 789, .aload 0, .getfield 790, .isub, .iconst 10, .if_icmp .ge 60, .aload 0, .ldc2_w 27, .aload 0, .getfield 793, .lmul, .aload 0, .getfield 786, .aload 0, .getfield 789, .iaload, .i2l, .ladd, .ldc2_w 96, .lsub, .putfield 793]),
  (60, [.aload 0, .dup, .getfield 789, .iconst 1, .iadd, .putfield 789, .goto 5]),
  (73, [.aload 0, .iconst 1, .putfield 791, .return_])]
/-- DriverHostModel.readsNumber()V -/
def s_168 : List (Nat × List Instr) := [(0, [.aload 0, .iconst 0, .putfield 792]),
  (5, [.aload 0, .aload 0, .getfield 789, .invokevirtual 164, .invokestatic 166, .ifCond .eq 70, .aload 0, .aload 0, .getfield 792, .iconst (99999), .if_icmp .le 34, .iconst (1000000), .goto 54]),
  (34, [.iconst 10, .aload 0, .getfield 792, .imul, .aload 0, .getfield 786, .aload 0, .getfield 789, .iaload, .iadd, .iconst 48, .isub]),
  (54, [.putfield 792, .aload 0, .dup, .getfield 789, .iconst 1, .iadd, .putfield 789, .goto 5]),
  (70, [.aload 0, .iconst 2, .putfield 791, .return_])]
/-- DriverHostModel.next()V -/
def s_169 : List (Nat × List Instr) := [(0, [.aload 0, .aload 0, .getfield 789, .invokevirtual 164, .iconst 32, .if_icmp .eq 26, .aload 0, .aload 0, .getfield 789, .invokevirtual 164, .iconst 10, .if_icmp .ne 39]),
  (26, [.aload 0, .dup, .getfield 789, .iconst 1, .iadd, .putfield 789, .goto 0]),
  (39, [.aload 0, .aload 0, .getfield 789, .putfield 790, .aload 0, .getfield 789, .aload 0, .getfield 788, .if_icmp .lt 66, .aload 0, .iconst 0, .putfield 791, .goto 125]),
  (66, [.aload 0, .getfield 786, .aload 0, .getfield 789, .iaload, .invokestatic 165, .ifCond .eq 88, .aload 0, .invokevirtual 167, .goto 125]),
  (88, [.aload 0, .getfield 786, .aload 0, .getfield 789, .iaload, .invokestatic 166, .ifCond .eq 110, .aload 0, .invokevirtual 168, .goto 125]),
  (110, [.aload 0, .iconst 3, .putfield 791, .aload 0, .dup, .getfield 789, .iconst 1, .iadd, .putfield 789]),
  (125, [.return_])]
/-- DriverHostModel.starts(I)V -/
def s_170 : List (Nat × List Instr) := [(0, [.aload 0, .iload 1, .putfield 788, .aload 0, .iconst 0, .putfield 787, .aload 0, .iconst 0, .putfield 789, .aload 0, .iconst 0, .putfield 794, .aload 0, .iconst (-1), .putfield 795, .aload 0, .invokevirtual 169, .return_])]
/-- DriverHostModel.wrongs(I)Z -/
def s_171 : List (Nat × List Instr) := [(0, [.aload 0, .getfield 794, .ifCond .ne 20, .aload 0, .iload 1, .putfield 794, .aload 0, .aload 0, .getfield 790, .putfield 795]),
  (20, [.iconst 0, .ret 0])]
/-- DriverHostModel.isGood()Z -/
def s_172 : List (Nat × List Instr) := [(0, [.aload 0, .getfield 794, .ifCond .ne 11, .iconst 1, .goto 12]),
  (11, [.iconst 0]),
  (12, [.ret 0])]
/-- DriverHostModel.isWord(J)Z -/
def s_173 : List (Nat × List Instr) := [(0, [.aload 0, .invokevirtual 172, .ifCond .eq 42, .aload 0, .getfield 791, .iconst 1, .if_icmp .ne 42, .aload 0, .getfield 789, .aload 0, .getfield 790, .isub, .iconst 10, .if_icmp .gt 42, .aload 0, .getfield 793, .lload 1, .lcmp, .ifCond .ne 42, .iconst 1, .goto 43]),
  (42, [.iconst 0]),
  (43, [.ret 0])]
/-- DriverHostModel.passes(J)Z -/
def s_174 : List (Nat × List Instr) := [(0, [.aload 0, .lload 1, .invokevirtual 173, .ifCond .ne 10, .iconst 0, .ret 0]),
  (10, [.aload 0, .invokevirtual 169, .iconst 1, .ret 0])]
/-- DriverHostModel.isByte(I)Z -/
def s_175 : List (Nat × List Instr) := [(0, [.aload 0, .invokevirtual 172, .ifCond .eq 32, .aload 0, .getfield 791, .iconst 3, .if_icmp .ne 32, .aload 0, .getfield 786, .aload 0, .getfield 790, .iaload, .iload 1, .if_icmp .ne 32, .iconst 1, .goto 33]),
  (32, [.iconst 0]),
  (33, [.ret 0])]
/-- DriverHostModel.must(I)V -/
def s_176 : List (Nat × List Instr) := [(0, [.aload 0, .invokevirtual 172, .ifCond .ne 8, .return_]),
  (8, [.aload 0, .iload 1, .invokevirtual 175, .ifCond .eq 23, .aload 0, .invokevirtual 169, .goto 29]),
  (23, [.aload 0, .iconst 1, .invokevirtual 171, .pop]),
  (29, [.return_])]
/-- DriverHostModel.number(II)I -/
def s_177 : List (Nat × List Instr) := [(0, [.aload 0, .invokevirtual 172, .ifCond .ne 9, .iload 1, .ireturn]),
  (9, [.aload 0, .getfield 791, .iconst 2, .if_icmp .eq 26, .aload 0, .iconst 1, .invokevirtual 171, .pop, .goto 47]),
  (26, [.aload 0, .getfield 792, .i2l, .iload 1, .i2l, .iload 2, .i2l, .invokestatic 154, .ifCond .ne 47, .aload 0, .iconst 2, .invokevirtual 171, .pop]),
  (47, [.aload 0, .invokevirtual 172, .ifCond .ne 56, .iload 1, .ireturn]),
  (56, [.aload 0, .getfield 792, .istore 3, .aload 0, .invokevirtual 169, .iload 3, .ireturn])]
/-- DriverHostModel.isClauseWord()Z -/
def s_178 : List (Nat × List Instr) := [(0, [.aload 0, .ldc2_w 1813182427, .invokevirtual 173, .ifCond .ne 120, .aload 0, .ldc2_w 1384660795, .invokevirtual 173, .ifCond .ne 120, .aload 0, .ldc2_w 400577, .invokevirtual 173, .ifCond .ne 120, .aload 0, .ldc2_w 261327161, .invokevirtual 173, .ifCond .ne 120, .aload 0, .ldc2_w 14006, .invokevirtual 173, .ifCond .ne 120, .aload 0, .ldc2_w 220309, .invokevirtual 173, .ifCond .ne 120, .aload 0, .ldc2_w 2232979, .invokevirtual 173, .ifCond .ne 120, .aload 0, .ldc2_w 60115, .invokevirtual 173, .ifCond .ne 120, .aload 0, .ldc2_w 283616030, .invokevirtual 173, .ifCond .ne 120, .aload 0, .ldc2_w 237745544, .invokevirtual 173, .ifCond .ne 120, .aload 0, .ldc2_w 3094387, .invokevirtual 173, .ifCond .ne 120, .aload 0, .ldc2_w 84273568011, .invokevirtual 173, .ifCond .eq 124]),
  (120, [.iconst 1, .goto 125]),
  (124, [.iconst 0]),
  (125, [.ret 0])]
/-- DriverHostModel.isInnerWord()Z -/
def s_179 : List (Nat × List Instr) := [(0, [.aload 0, .invokevirtual 180, .iconst (-1), .if_icmp .ne 98, .aload 0, .ldc2_w 423, .invokevirtual 173, .ifCond .ne 98, .aload 0, .ldc2_w 1111, .invokevirtual 173, .ifCond .ne 98, .aload 0, .ldc2_w 10631, .invokevirtual 173, .ifCond .ne 98, .aload 0, .ldc2_w 13264, .invokevirtual 173, .ifCond .ne 98, .aload 0, .ldc2_w 16083, .invokevirtual 173, .ifCond .ne 98, .aload 0, .ldc2_w 1222, .invokevirtual 173, .ifCond .ne 98, .aload 0, .ldc2_w 13276, .invokevirtual 173, .ifCond .ne 98, .aload 0, .ldc2_w 257011, .invokevirtual 173, .ifCond .ne 98, .aload 0, .ldc2_w 3379448, .invokevirtual 173, .ifCond .eq 102]),
  (98, [.iconst 1, .goto 103]),
  (102, [.iconst 0]),
  (103, [.ret 0])]
/-- DriverHostModel.classHere()I -/
def s_180 : List (Nat × List Instr) := [(0, [.aload 0, .ldc2_w 330728, .invokevirtual 173, .ifCond .eq 12, .iconst 0, .ireturn]),
  (12, [.aload 0, .ldc2_w 670208, .invokevirtual 173, .ifCond .eq 24, .iconst 1, .ireturn]),
  (24, [.aload 0, .ldc2_w 305537, .invokevirtual 173, .ifCond .eq 36, .iconst 2, .ireturn]),
  (36, [.aload 0, .ldc2_w 1755524, .invokevirtual 173, .ifCond .eq 50, .iconst 3, .goto 51]),
  (50, [.iconst (-1)]),
  (51, [.ireturn])]
/-- DriverHostModel.propertyHere()I -/
def s_181 : List (Nat × List Instr) := [(0, [.aload 0, .ldc2_w 212302449, .invokevirtual 173, .ifCond .eq 12, .iconst 0, .ireturn]),
  (12, [.aload 0, .ldc2_w 67154904, .invokevirtual 173, .ifCond .eq 24, .iconst 1, .ireturn]),
  (24, [.aload 0, .ldc2_w 223456, .invokevirtual 173, .ifCond .eq 36, .iconst 2, .ireturn]),
  (36, [.aload 0, .ldc2_w 1831780, .invokevirtual 173, .ifCond .eq 48, .iconst 3, .ireturn]),
  (48, [.aload 0, .ldc2_w 17545784537, .invokevirtual 173, .ifCond .eq 60, .iconst 4, .ireturn]),
  (60, [.aload 0, .ldc2_w 174476693248, .invokevirtual 173, .ifCond .eq 72, .iconst 5, .ireturn]),
  (72, [.aload 0, .ldc2_w 10492313, .invokevirtual 173, .ifCond .eq 85, .iconst 6, .ireturn]),
  (85, [.aload 0, .ldc2_w 2343906806, .invokevirtual 173, .ifCond .eq 98, .iconst 7, .ireturn]),
  (98, [.aload 0, .ldc2_w 261327161, .invokevirtual 173, .ifCond .eq 111, .iconst 8, .ireturn]),
  (111, [.aload 0, .ldc2_w 44960072472307, .invokevirtual 173, .ifCond .eq 124, .iconst 9, .ireturn]),
  (124, [.aload 0, .ldc2_w 1421453197, .invokevirtual 173, .ifCond .eq 139, .iconst 10, .goto 140]),
  (139, [.iconst (-1)]),
  (140, [.ireturn])]
/-- DriverHostModel.isName()Z -/
def s_182 : List (Nat × List Instr) := [(0, [.aload 0, .getfield 791, .iconst 1, .if_icmp .ne 34, .aload 0, .invokevirtual 178, .ifCond .ne 34, .aload 0, .invokevirtual 179, .ifCond .ne 34, .aload 0, .invokevirtual 181, .iconst (-1), .if_icmp .ne 34, .iconst 1, .goto 35]),
  (34, [.iconst 0]),
  (35, [.ret 0])]
/-- DriverHostModel.isNamed(I)Z -/
def s_183 : List (Nat × List Instr) := [(0, [.aload 0, .getfield 779, .iload 1, .iaload, .aload 0, .getfield 789, .aload 0, .getfield 790, .isub, .if_icmp .eq 20, .iconst 0, .ret 0]),
  (20, [.iconst 0, .istore 2]),
  (22, [.iload 2, .aload 0, .getfield 779, .iload 1, .iaload, .if_icmp .ge 67, .aload 0, .getfield 786, .aload 0, .getfield 778, .iload 1, .iaload, .iload 2, .iadd, .iaload, .aload 0, .getfield 786, .aload 0, .getfield 790, .iload 2, .iadd, .iaload, .if_icmp .eq 61, .iconst 0, .ret 0]),
  (61, [.iinc 2 1, .goto 22]),
  (67, [.iconst 1, .ret 0])]
/-- DriverHostModel.nameRead(I)V -/
def s_184 : List (Nat × List Instr) := [(0, [.aload 0, .invokevirtual 172, .ifCond .ne 8, .return_]),
  (8, [.aload 0, .invokevirtual 182, .ifCond .ne 21, .aload 0, .iconst 1, .invokevirtual 171, .pop]),
  (21, [.iconst 0, .istore 2]),
  (23, [.iload 2, .iload 1, .if_icmp .ge 55, .aload 0, .invokevirtual 172, .ifCond .eq 55, .aload 0, .iload 2, .invokevirtual 183, .ifCond .eq 49, .aload 0, .iconst 4, .invokevirtual 171, .pop]),
  (49, [.iinc 2 1, .goto 23]),
  (55, [.aload 0, .invokevirtual 172, .ifCond .ne 63, .return_]),
  (63, [.aload 0, .getfield 778, .iload 1, .aload 0, .getfield 790, .iastore, .aload 0, .getfield 779, .iload 1, .aload 0, .getfield 789, .aload 0, .getfield 790, .isub, .iastore, .aload 0, .invokevirtual 169, .return_])]
/-- DriverHostModel.adds(I)V -/
def s_185 : List (Nat × List Instr) := [(0, [.aload 0, .getfield 803, .ifCond .eq 20, .aload 0, .getfield 798, .aload 0, .getfield 799, .iload 1, .iastore, .goto 30]),
  (20, [.aload 0, .getfield 777, .aload 0, .getfield 799, .iload 1, .iastore]),
  (30, [.aload 0, .dup, .getfield 799, .iconst 1, .iadd, .putfield 799, .return_])]
/-- DriverHostModel.goesIn(I)Z -/
def s_186 : List (Nat × List Instr) := [(0, [.aload 0, .getfield 801, .iconst 6, .if_icmp .ne 15, .aload 0, .iconst 3, .invokevirtual 171, .ret 0]),
  (15, [.aload 0, .dup, .getfield 801, .iconst 1, .iadd, .putfield 801, .aload 0, .getfield 796, .aload 0, .getfield 800, .iload 1, .iastore, .aload 0, .dup, .getfield 800, .iconst 1, .iadd, .putfield 800, .aload 0, .invokevirtual 169, .iconst 1, .ret 0])]
/-- DriverHostModel.operandRead()V -/
def s_187 : List (Nat × List Instr) := [(0, [.aload 0, .invokevirtual 172, .ifCond .ne 8, .return_]),
  (8, [.aload 0, .getfield 791, .iconst 2, .if_icmp .ne 37, .aload 0, .iconst 0, .iconst (65535), .invokevirtual 177, .istore 1, .aload 0, .iconst 1000, .iload 1, .iadd, .invokevirtual 185, .goto 155]),
  (37, [.aload 0, .getfield 802, .iconst 4, .if_icmp .eq 69, .aload 0, .ldc2_w 13264, .invokevirtual 174, .ifCond .eq 69, .aload 0, .aload 0, .iconst 0, .iconst 7, .invokevirtual 177, .invokevirtual 185, .goto 155]),
  (69, [.aload 0, .getfield 802, .iconst 1, .if_icmp .eq 103, .aload 0, .ldc2_w 16083, .invokevirtual 174, .ifCond .eq 103, .aload 0, .iconst 8, .aload 0, .iconst 0, .iconst 3, .invokevirtual 177, .iadd, .invokevirtual 185, .goto 155]),
  (103, [.aload 0, .ldc2_w 1222, .invokevirtual 174, .ifCond .eq 122, .aload 0, .iconst 12, .invokevirtual 185, .goto 155]),
  (122, [.aload 0, .getfield 802, .iconst 3, .if_icmp .lt 149, .aload 0, .ldc2_w 13276, .invokevirtual 174, .ifCond .eq 149, .aload 0, .iconst 13, .invokevirtual 185, .goto 155]),
  (149, [.aload 0, .iconst 1, .invokevirtual 171, .pop]),
  (155, [.return_])]
/-- DriverHostModel.rank(I)I -/
def s_188 : List (Nat × List Instr) := [(0, [.iload 0, .iconst 28, .if_icmp .ne 10, .iconst 3, .goto 27]),
  (10, [.iload 0, .iconst 26, .if_icmp .eq 22, .iload 0, .iconst 27, .if_icmp .ne 26]),
  (22, [.iconst 2, .goto 27]),
  (26, [.iconst 0]),
  (27, [.ireturn])]
/-- DriverHostModel.sumSettles(II)V -/
def s_189 : List (Nat × List Instr) := [(0, [.aload 0, .getfield 800, .iload 1, .if_icmp .le 52, .aload 0, .getfield 796, .aload 0, .getfield 800, .iconst 1, .isub, .iaload, .invokestatic 188, .iload 2, .if_icmp .lt 52, .aload 0, .dup, .getfield 800, .iconst 1, .isub, .putfield 800, .aload 0, .aload 0, .getfield 796, .aload 0, .getfield 800, .iaload, .invokevirtual 185, .goto 0]),
  (52, [.return_])]
/-- DriverHostModel.hasBracket(I)Z -/
def s_190 : List (Nat × List Instr) := [(0, [.iload 1, .istore 2]),
  (2, [.iload 2, .aload 0, .getfield 800, .if_icmp .ge 28, .aload 0, .getfield 796, .iload 2, .iaload, .iconst 2, .if_icmp .ne 22, .iconst 1, .ret 0]),
  (22, [.iinc 2 1, .goto 2]),
  (28, [.iconst 0, .ret 0])]
/-- DriverHostModel.operatorHere()I -/
def s_191 : List (Nat × List Instr) := [(0, [.aload 0, .iconst 42, .invokevirtual 175, .ifCond .eq 14, .iconst 28, .goto 43]),
  (14, [.aload 0, .iconst 43, .invokevirtual 175, .ifCond .eq 28, .iconst 26, .goto 43]),
  (28, [.aload 0, .iconst 45, .invokevirtual 175, .ifCond .eq 42, .iconst 27, .goto 43]),
  (42, [.iconst 0]),
  (43, [.ireturn])]
/-- DriverHostModel.sumRead()V -/
def s_192 : List (Nat × List Instr) := [(0, [.aload 0, .getfield 800, .istore 1, .aload 0, .invokevirtual 172, .istore 2]),
  (10, [.iload 2, .ifCond .eq 144]),
  (14, [.aload 0, .iconst 40, .invokevirtual 175, .ifCond .eq 32, .aload 0, .iconst 2, .invokevirtual 186, .ifCond .ne 14, .return_]),
  (32, [.aload 0, .invokevirtual 187]),
  (36, [.aload 0, .iconst 41, .invokevirtual 175, .ifCond .eq 86, .aload 0, .iload 1, .invokevirtual 190, .ifCond .eq 86, .aload 0, .iload 1, .iconst 2, .invokevirtual 189, .aload 0, .dup, .getfield 800, .iconst 1, .isub, .putfield 800, .aload 0, .dup, .getfield 801, .iconst 1, .isub, .putfield 801, .aload 0, .invokevirtual 169, .goto 36]),
  (86, [.aload 0, .invokevirtual 191, .istore 3, .iload 3, .ifCond .eq 99, .iconst 1, .goto 100]),
  (99, [.iconst 0]),
  (100, [.istore 2, .iload 2, .ifCond .ne 108, .goto 10]),
  (108, [.aload 0, .iload 1, .iload 3, .invokestatic 188, .invokevirtual 189, .aload 0, .getfield 796, .aload 0, .getfield 800, .iload 3, .iastore, .aload 0, .dup, .getfield 800, .iconst 1, .iadd, .putfield 800, .aload 0, .invokevirtual 169, .goto 10]),
  (144, [.aload 0, .invokevirtual 172, .ifCond .eq 165, .aload 0, .iload 1, .invokevirtual 190, .ifCond .eq 165, .aload 0, .iconst 1, .invokevirtual 171, .pop]),
  (165, [.aload 0, .invokevirtual 172, .ifCond .eq 178, .aload 0, .iload 1, .iconst 2, .invokevirtual 189]),
  (178, [.return_])]
/-- DriverHostModel.valueRead()V -/
def s_193 : List (Nat × List Instr) := [(0, [.aload 0, .invokevirtual 172, .ifCond .ne 8, .return_]),
  (8, [.aload 0, .getfield 791, .iconst 2, .if_icmp .ne 34, .aload 0, .iconst 0, .iconst (99999), .invokevirtual 177, .istore 1, .aload 0, .iconst 1000, .iload 1, .iadd, .invokevirtual 185, .return_]),
  (34, [.aload 0, .invokevirtual 181, .istore 1, .iload 1, .iconst (-1), .if_icmp .ne 50, .aload 0, .iconst 1, .invokevirtual 171, .pop]),
  (50, [.aload 0, .invokevirtual 172, .ifCond .ne 58, .return_]),
  (58, [.aload 0, .iload 1, .invokevirtual 185, .aload 0, .invokevirtual 169, .return_])]
/-- DriverHostModel.sideRead()V -/
def s_194 : List (Nat × List Instr) := [(0, [.aload 0, .getfield 803, .ifCond .eq 14, .aload 0, .invokevirtual 193, .goto 18]),
  (14, [.aload 0, .invokevirtual 192]),
  (18, [.return_])]
/-- DriverHostModel.strength(I)I -/
def s_195 : List (Nat × List Instr) := [(0, [.iload 0, .iconst 25, .if_icmp .ne 10, .iconst 1, .goto 31]),
  (10, [.iload 0, .iconst 24, .if_icmp .ne 20, .iconst 2, .goto 31]),
  (20, [.iload 0, .iconst 23, .if_icmp .ne 30, .iconst 3, .goto 31]),
  (30, [.iconst 0]),
  (31, [.ireturn])]
/-- DriverHostModel.settles(I)V -/
def s_196 : List (Nat × List Instr) := [(0, [.aload 0, .invokevirtual 172, .ifCond .eq 82, .aload 0, .getfield 800, .ifCond .le 82, .aload 0, .getfield 796, .aload 0, .getfield 800, .iconst 1, .isub, .iaload, .invokestatic 195, .iload 1, .if_icmp .lt 82, .aload 0, .dup, .getfield 800, .iconst 1, .isub, .putfield 800, .aload 0, .aload 0, .getfield 796, .aload 0, .getfield 800, .iaload, .invokevirtual 185, .aload 0, .getfield 796, .aload 0, .getfield 800, .iaload, .iconst 23, .if_icmp .ne 0, .aload 0, .dup, .getfield 801, .iconst 1, .isub, .putfield 801, .goto 0]),
  (82, [.return_])]
/-- DriverHostModel.isInside()Z -/
def s_197 : List (Nat × List Instr) := [(0, [.iconst 0, .istore 1]),
  (2, [.iload 1, .aload 0, .getfield 800, .if_icmp .ge 28, .aload 0, .getfield 796, .iload 1, .iaload, .iconst 1, .if_icmp .ne 22, .iconst 1, .ret 0]),
  (22, [.iinc 1 1, .goto 2]),
  (28, [.iconst 0, .ret 0])]
/-- DriverHostModel.isOpening()Z -/
def s_198 : List (Nat × List Instr) := [(0, [.aload 0, .aload 0, .getfield 803, .ifCond .eq 13, .iconst 40, .goto 15]),
  (13, [.iconst 91]),
  (15, [.invokevirtual 175, .ret 0])]
/-- DriverHostModel.comparisonRead()V -/
def s_199 : List (Nat × List Instr) := [(0, [.aload 0, .ldc2_w 10631, .invokevirtual 173, .ifCond .ne 17, .aload 0, .invokevirtual 198, .ifCond .eq 41]),
  (17, [.aload 0, .aload 0, .ldc2_w 10631, .invokevirtual 173, .ifCond .eq 33, .iconst 23, .goto 34]),
  (33, [.iconst 1]),
  (34, [.invokevirtual 186, .ifCond .ne 0, .return_]),
  (41, [.aload 0, .invokevirtual 194, .aload 0, .iconst 60, .invokevirtual 175, .ifCond .eq 59, .iconst 20, .goto 75]),
  (59, [.aload 0, .iconst 62, .invokevirtual 175, .ifCond .eq 73, .iconst 22, .goto 75]),
  (73, [.iconst 21]),
  (75, [.istore 1, .iload 1, .iconst 21, .if_icmp .ne 97, .aload 0, .iconst 61, .invokevirtual 175, .ifCond .ne 97, .aload 0, .iconst 1, .invokevirtual 171, .pop]),
  (97, [.aload 0, .invokevirtual 172, .ifCond .ne 105, .return_]),
  (105, [.aload 0, .invokevirtual 169, .aload 0, .invokevirtual 194, .aload 0, .invokevirtual 172, .ifCond .eq 125, .aload 0, .iload 1, .invokevirtual 185]),
  (125, [.return_])]
/-- DriverHostModel.closes()V -/
def s_200 : List (Nat × List Instr) := [(0, [.aload 0, .iconst 3, .invokevirtual 196]),
  (5, [.aload 0, .aload 0, .getfield 803, .ifCond .eq 18, .iconst 41, .goto 20]),
  (18, [.iconst 93]),
  (20, [.invokevirtual 175, .ifCond .eq 70, .aload 0, .invokevirtual 197, .ifCond .eq 70, .aload 0, .iconst 1, .invokevirtual 196, .aload 0, .dup, .getfield 800, .iconst 1, .isub, .putfield 800, .aload 0, .dup, .getfield 801, .iconst 1, .isub, .putfield 801, .aload 0, .invokevirtual 169, .aload 0, .iconst 3, .invokevirtual 196, .goto 5]),
  (70, [.return_])]
/-- DriverHostModel.testRead()V -/
def s_201 : List (Nat × List Instr) := [(0, [.aload 0, .iconst 0, .putfield 800, .aload 0, .invokevirtual 172, .istore 1]),
  (10, [.iload 1, .ifCond .eq 114, .aload 0, .invokevirtual 199, .aload 0, .invokevirtual 172, .ifCond .ne 26, .return_]),
  (26, [.aload 0, .invokevirtual 200, .aload 0, .ldc2_w 1111, .invokevirtual 173, .ifCond .eq 45, .iconst 24, .goto 61]),
  (45, [.aload 0, .ldc2_w 423, .invokevirtual 173, .ifCond .eq 60, .iconst 25, .goto 61]),
  (60, [.iconst 0]),
  (61, [.istore 2, .iload 2, .ifCond .eq 70, .iconst 1, .goto 71]),
  (70, [.iconst 0]),
  (71, [.istore 1, .iload 1, .ifCond .ne 79, .goto 10]),
  (79, [.aload 0, .iload 2, .invokestatic 195, .invokevirtual 196, .aload 0, .getfield 796, .aload 0, .getfield 800, .iload 2, .iastore, .aload 0, .dup, .getfield 800, .iconst 1, .iadd, .putfield 800, .aload 0, .invokevirtual 169, .goto 10]),
  (114, [.aload 0, .invokevirtual 172, .ifCond .eq 148, .aload 0, .invokevirtual 197, .ifCond .ne 142, .aload 0, .getfield 803, .ifCond .eq 148, .aload 0, .getfield 791, .ifCond .eq 148]),
  (142, [.aload 0, .iconst 1, .invokevirtual 171, .pop]),
  (148, [.aload 0, .iconst 1, .invokevirtual 196, .return_])]
/-- DriverHostModel.classRead(I)V -/
def s_202 : List (Nat × List Instr) := [(0, [.aload 0, .getfield 770, .iload 1, .aload 0, .invokevirtual 180, .iastore, .aload 0, .getfield 770, .iload 1, .iaload, .iconst (-1), .if_icmp .ne 26, .aload 0, .iconst 1, .invokevirtual 171, .pop]),
  (26, [.aload 0, .invokevirtual 172, .ifCond .ne 34, .return_]),
  (34, [.aload 0, .invokevirtual 169, .aload 0, .iconst 1, .putfield 802, .aload 0, .getfield 770, .iload 1, .iaload, .iconst 3, .if_icmp .ne 57, .aload 0, .invokevirtual 201]),
  (57, [.return_])]
/-- DriverHostModel.storesRead(JIII)V -/
def s_203 : List (Nat × List Instr) := [(0, [.aload 0, .iload 3, .putfield 802]),
  (5, [.aload 0, .lload 1, .invokevirtual 174, .ifCond .eq 56, .aload 0, .iconst 0, .iload 4, .invokevirtual 177, .istore 6, .aload 0, .iconst 61, .invokevirtual 176, .aload 0, .iconst 0, .putfield 800, .aload 0, .invokevirtual 192, .aload 0, .invokevirtual 172, .ifCond .eq 53, .aload 0, .iload 5, .iload 6, .iadd, .invokevirtual 185]),
  (53, [.goto 5]),
  (56, [.return_])]
/-- DriverHostModel.commandClause()V -/
def s_204 : List (Nat × List Instr) := [(0, [.aload 0, .getfield 769, .iconst 11, .iaload, .iconst 8, .if_icmp .ne 18, .aload 0, .iconst 3, .invokevirtual 171, .pop]),
  (18, [.aload 0, .invokevirtual 172, .ifCond .ne 26, .return_]),
  (26, [.aload 0, .invokevirtual 169, .aload 0, .getfield 769, .iconst 11, .iaload, .istore 1, .iconst 8, .iload 1, .iadd, .istore 2, .aload 0, .iconst 0, .putfield 801, .aload 0, .iload 1, .invokevirtual 184, .aload 0, .getfield 776, .iload 2, .aload 0, .getfield 799, .iconst 1200, .isub, .iastore, .aload 0, .iload 2, .invokevirtual 202, .aload 0, .getfield 772, .iload 2, .aload 0, .getfield 799, .iconst 1200, .isub, .iastore, .aload 0, .invokevirtual 172, .ifCond .eq 109, .aload 0, .ldc2_w 400577, .invokevirtual 174, .ifCond .ne 109, .aload 0, .iconst 1, .invokevirtual 171, .pop]),
  (109, [.aload 0, .getfield 771, .iload 2, .aload 0, .iconst 1, .iconst 50, .invokevirtual 177, .iastore, .aload 0, .iconst 2, .putfield 802, .aload 0, .iconst 0, .putfield 800, .aload 0, .ldc2_w 261327161, .invokevirtual 174, .ifCond .eq 146, .aload 0, .invokevirtual 192]),
  (146, [.aload 0, .getfield 773, .iload 2, .aload 0, .getfield 799, .iconst 1200, .isub, .iastore, .aload 0, .ldc2_w 14006, .iconst 3, .iconst 7, .iconst 40, .invokevirtual 203, .aload 0, .getfield 774, .iload 2, .aload 0, .getfield 799, .iconst 1200, .isub, .iastore, .aload 0, .ldc2_w 220309, .iconst 4, .iconst 3, .iconst 50, .invokevirtual 203, .aload 0, .getfield 775, .iload 2, .aload 0, .getfield 799, .iconst 1200, .isub, .iastore, .aload 0, .invokevirtual 172, .ifCond .eq 229, .aload 0, .getfield 769, .iconst 11, .dup2, .iaload, .iconst 1, .iadd, .iastore]),
  (229, [.return_])]
/-- DriverHostModel.clause()V -/
def s_205 : List (Nat × List Instr) := [(0, [.aload 0, .ldc2_w 1384660795, .invokevirtual 173, .ifCond .eq 17, .aload 0, .invokevirtual 204, .goto 207]),
  (17, [.aload 0, .ldc2_w 2232979, .invokevirtual 174, .ifCond .eq 65, .aload 0, .getfield 769, .iconst 12, .aload 0, .iconst 1, .iconst 100, .invokevirtual 177, .iastore, .aload 0, .getfield 769, .iconst 13, .aload 0, .aload 0, .getfield 769, .iconst 12, .iaload, .iconst 1000, .invokevirtual 177, .iastore, .goto 207]),
  (65, [.aload 0, .ldc2_w 60115, .invokevirtual 174, .ifCond .eq 93, .aload 0, .getfield 769, .iconst 14, .aload 0, .iconst 1, .iconst 1000, .invokevirtual 177, .iastore, .goto 207]),
  (93, [.aload 0, .ldc2_w 283616030, .invokevirtual 174, .ifCond .eq 120, .aload 0, .getfield 769, .iconst 15, .aload 0, .iconst 0, .iconst 20, .invokevirtual 177, .iastore, .goto 207]),
  (120, [.aload 0, .ldc2_w 237745544, .invokevirtual 174, .ifCond .eq 147, .aload 0, .getfield 769, .iconst 16, .aload 0, .iconst 1, .iconst 20, .invokevirtual 177, .iastore, .goto 207]),
  (147, [.aload 0, .ldc2_w 3094387, .invokevirtual 174, .ifCond .eq 174, .aload 0, .getfield 769, .iconst 17, .aload 0, .iconst 1, .iconst 20, .invokevirtual 177, .iastore, .goto 207]),
  (174, [.aload 0, .ldc2_w 84273568011, .invokevirtual 174, .ifCond .eq 201, .aload 0, .getfield 769, .iconst 18, .aload 0, .iconst 1, .iconst 50, .invokevirtual 177, .iastore, .goto 207]),
  (201, [.aload 0, .iconst 1, .invokevirtual 171, .pop]),
  (207, [.aload 0, .iconst 59, .invokevirtual 176, .return_])]
/-- DriverHostModel.load(I)I -/
def s_206 : List (Nat × List Instr) := [(0, [.aload 0, .iconst 0, .putfield 768, .aload 0, .iload 1, .i2l, .ldc2_w 0, .aload 0, .getfield 787, .i2l, .invokestatic 154, .iconst 1, .invokevirtual 155, .ifCond .eq 26, .iconst 0, .ireturn]),
  (26, [.aload 0, .iload 1, .invokevirtual 170, .aload 0, .invokevirtual 157, .aload 0, .iconst 0, .putfield 803, .aload 0, .iconst 1200, .putfield 799, .aload 0, .ldc2_w 1813182427, .invokevirtual 174, .ifCond .ne 63, .aload 0, .iconst 1, .invokevirtual 171, .pop]),
  (63, [.aload 0, .getfield 769, .iconst 10, .aload 0, .iconst 1, .iconst 4, .invokevirtual 177, .iastore, .aload 0, .iconst 59, .invokevirtual 176]),
  (82, [.aload 0, .invokevirtual 172, .ifCond .eq 103, .aload 0, .getfield 791, .ifCond .eq 103, .aload 0, .invokevirtual 205, .goto 82]),
  (103, [.aload 0, .invokevirtual 172, .ifCond .ne 118, .iconst (-10), .aload 0, .getfield 794, .isub, .ireturn]),
  (118, [.aload 0, .invokevirtual 159, .aload 0, .getfield 769, .iconst 1, .iaload, .ireturn])]
/-- DriverHostModel.joined(III)I -/
def s_207 : List (Nat × List Instr) := [(0, [.iload 0, .tableswitch 114 20 27 #[48, 59, 70, 114, 81, 94, 106, 110]]),
  (48, [.iload 1, .iload 2, .if_icmp .ge 57, .iconst 1, .goto 58]),
  (57, [.iconst 0]),
  (58, [.ireturn]),
  (59, [.iload 1, .iload 2, .if_icmp .ne 68, .iconst 1, .goto 69]),
  (68, [.iconst 0]),
  (69, [.ireturn]),
  (70, [.iload 1, .iload 2, .if_icmp .le 79, .iconst 1, .goto 80]),
  (79, [.iconst 0]),
  (80, [.ireturn]),
  (81, [.iload 1, .iload 2, .iadd, .iconst 2, .if_icmp .ne 92, .iconst 1, .goto 93]),
  (92, [.iconst 0]),
  (93, [.ireturn]),
  (94, [.iload 1, .iload 2, .iadd, .ifCond .le 104, .iconst 1, .goto 105]),
  (104, [.iconst 0]),
  (105, [.ireturn]),
  (106, [.iload 1, .iload 2, .iadd, .ireturn]),
  (110, [.iload 1, .iload 2, .isub, .ireturn]),
  (114, [.iload 1, .iload 2, .imul, .ireturn])]
/-- DriverHostModel.cut(I)I -/
def s_208 : List (Nat × List Instr) := [(0, [.iload 0, .iconst (65535), .iand, .ireturn])]
/-- DriverHostModel.reckons(I)Z -/
def s_209 : List (Nat × List Instr) := [(0, [.iload 1, .iconst 23, .if_icmp .ne 32, .aload 0, .getfield 797, .aload 0, .getfield 804, .iconst 1, .isub, .iconst 1, .aload 0, .getfield 797, .aload 0, .getfield 804, .iconst 1, .isub, .iaload, .isub, .iastore, .iconst 1, .ret 0]),
  (32, [.iload 1, .i2l, .ldc2_w 20, .ldc2_w 28, .invokestatic 154, .ifCond .ne 48, .iconst 0, .ret 0]),
  (48, [.aload 0, .dup, .getfield 804, .iconst 1, .isub, .putfield 804, .aload 0, .getfield 797, .aload 0, .getfield 804, .iconst 1, .isub, .iload 1, .aload 0, .getfield 797, .aload 0, .getfield 804, .iconst 1, .isub, .iaload, .aload 0, .getfield 797, .aload 0, .getfield 804, .iaload, .invokestatic 207, .iastore, .iconst 1, .ret 0])]
/-- DriverHostModel.factOf([IIIII)I -/
def s_210 : List (Nat × List Instr) := [(0, [.iload 1, .iconst 8, .if_icmp .ge 18, .aload 0, .iconst 48, .iconst 8, .iload 2, .imul, .iadd, .iload 1, .iadd, .iaload, .ireturn]),
  (18, [.iload 1, .iconst 12, .if_icmp .ge 38, .aload 0, .iconst 80, .iconst 4, .iload 2, .imul, .iadd, .iload 1, .iadd, .iconst 8, .isub, .iaload, .ireturn]),
  (38, [.iload 1, .iconst 12, .if_icmp .ne 48, .iload 3, .goto 50]),
  (48, [.iload 4]),
  (50, [.ireturn])]
/-- DriverHostModel.goesThrough([IIIIII)I -/
def s_211 : List (Nat × List Instr) := [(0, [.aload 0, .iconst 0, .putfield 804, .aload 0, .getfield 797, .iconst 0, .iconst 0, .iastore, .iload 2, .istore 7]),
  (15, [.iload 7, .iload 3, .if_icmp .ge 207, .aload 0, .getfield 777, .iload 7, .iaload, .istore 8, .aload 0, .iload 8, .invokevirtual 209, .ifCond .eq 42, .goto 201]),
  (42, [.iload 8, .i2l, .ldc2_w 40, .ldc2_w 47, .invokestatic 154, .ifCond .eq 98, .aload 0, .dup, .getfield 804, .iconst 1, .isub, .putfield 804, .aload 1, .iconst 48, .iconst 8, .iload 4, .imul, .iadd, .iload 8, .iadd, .iconst 40, .isub, .aload 0, .getfield 797, .aload 0, .getfield 804, .iaload, .invokestatic 208, .iastore, .goto 201]),
  (98, [.iload 8, .i2l, .ldc2_w 50, .ldc2_w 53, .invokestatic 154, .ifCond .eq 153, .aload 0, .dup, .getfield 804, .iconst 1, .isub, .putfield 804, .aload 1, .iconst 80, .iconst 4, .iload 4, .imul, .iadd, .iload 8, .iadd, .iconst 50, .isub, .aload 0, .getfield 797, .aload 0, .getfield 804, .iaload, .invokestatic 208, .iastore, .goto 201]),
  (153, [.aload 0, .getfield 797, .aload 0, .getfield 804, .iload 8, .iconst 1000, .if_icmp .lt 178, .iload 8, .iconst 1000, .isub, .goto 190]),
  (178, [.aload 1, .iload 8, .iload 4, .iload 5, .iload 6, .invokestatic 210]),
  (190, [.iastore, .aload 0, .dup, .getfield 804, .iconst 1, .iadd, .putfield 804]),
  (201, [.iinc 7 1, .goto 15]),
  (207, [.aload 0, .getfield 797, .iconst 0, .iaload, .ireturn])]
/-- DriverHostModel.of([III)I -/
def s_212 : List (Nat × List Instr) := [(0, [.aload 0, .iconst 192, .iconst 14, .iload 1, .imul, .iadd, .iload 2, .iadd, .iaload, .ireturn])]
/-- DriverHostModel.sets([IIII)V -/
def s_213 : List (Nat × List Instr) := [(0, [.aload 0, .iconst 192, .iconst 14, .iload 1, .imul, .iadd, .iload 2, .iadd, .iload 3, .iastore, .return_])]
/-- DriverHostModel.isTrue([II)Z -/
def s_214 : List (Nat × List Instr) := [(0, [.aload 1, .iload 2, .iconst 1, .invokestatic 212, .istore 3, .aload 0, .aload 1, .aload 0, .getfield 776, .iload 3, .iaload, .aload 0, .getfield 772, .iload 3, .iaload, .aload 1, .iload 2, .iconst 0, .invokestatic 212, .aload 1, .iload 2, .iconst 2, .invokestatic 212, .iconst 0, .invokevirtual 211, .iconst 1, .if_icmp .ne 45, .iconst 1, .goto 46]),
  (45, [.iconst 0]),
  (46, [.ret 0])]
/-- DriverHostModel.resultOf([II)I -/
def s_215 : List (Nat × List Instr) := [(0, [.aload 1, .iload 2, .iconst 1, .invokestatic 212, .istore 3, .aload 0, .aload 1, .aload 0, .getfield 772, .iload 3, .iaload, .aload 0, .getfield 773, .iload 3, .iaload, .aload 1, .iload 2, .iconst 0, .invokestatic 212, .aload 1, .iload 2, .iconst 2, .invokestatic 212, .iconst 0, .invokevirtual 211, .ireturn])]
/-- DriverHostModel.keepsIn([II)V -/
def s_216 : List (Nat × List Instr) := [(0, [.aload 1, .iload 2, .iconst 1, .invokestatic 212, .istore 3, .aload 0, .aload 1, .aload 0, .getfield 774, .iload 3, .iaload, .aload 0, .getfield 775, .iload 3, .iaload, .aload 1, .iload 2, .iconst 0, .invokestatic 212, .aload 1, .iload 2, .iconst 2, .invokestatic 212, .aload 1, .iload 2, .iconst 8, .invokestatic 212, .invokevirtual 211, .pop, .return_])]
/-- DriverHostModel.notes([IIII)V -/
def s_217 : List (Nat × List Instr) := [(0, [.aload 1, .iconst 3, .iload 2, .iadd, .dup2, .iaload, .iconst 1, .iadd, .iastore, .aload 1, .iconst 2, .iaload, .iconst 200, .if_icmp .ne 60, .iconst 4, .istore 5]),
  (21, [.iload 5, .iconst 800, .if_icmp .ge 53, .aload 1, .iconst 1592, .iload 5, .iadd, .iconst 4, .isub, .aload 1, .iconst 1592, .iload 5, .iadd, .iaload, .iastore, .iinc 5 1, .goto 21]),
  (53, [.aload 1, .iconst 2, .dup2, .iaload, .iconst 1, .isub, .iastore]),
  (60, [.iconst 1592, .iconst 4, .aload 1, .iconst 2, .iaload, .imul, .iadd, .istore 5, .aload 1, .iload 5, .aload 1, .iconst 0, .iaload, .iastore, .aload 1, .iload 5, .iconst 1, .iadd, .iload 2, .iastore, .aload 1, .iload 5, .iconst 2, .iadd, .iload 3, .iastore, .aload 1, .iload 5, .iconst 3, .iadd, .iload 4, .iastore, .aload 1, .iconst 2, .dup2, .iaload, .iconst 1, .iadd, .iastore, .return_])]
/-- DriverHostModel.endsBadly([III)V -/
def s_218 : List (Nat × List Instr) := [(0, [.aload 1, .iload 2, .iconst 0, .invokestatic 212, .istore 4, .aload 1, .iload 2, .iconst 6, .iconst 3, .invokestatic 213, .aload 1, .iload 2, .iconst 7, .iload 3, .invokestatic 213, .aload 1, .iload 2, .iconst 13, .aload 1, .iconst 0, .iaload, .invokestatic 213, .aload 1, .iconst 28, .iload 4, .iadd, .iaload, .iload 2, .if_icmp .ne 53, .aload 1, .iconst 28, .iload 4, .iadd, .iconst (-1), .iastore]),
  (53, [.aload 1, .iconst 32, .iload 4, .iadd, .iaload, .iload 2, .if_icmp .ne 72, .aload 1, .iconst 32, .iload 4, .iadd, .iconst (-1), .iastore]),
  (72, [.aload 0, .aload 1, .iconst 3, .iload 4, .iload 2, .invokevirtual 217, .return_])]
/-- DriverHostModel.snaps([II)V -/
def s_219 : List (Nat × List Instr) := [(0, [.iconst 0, .istore 3]),
  (2, [.iload 3, .iconst 4, .if_icmp .ge 33, .aload 1, .iconst 96, .iconst 4, .iload 2, .imul, .iadd, .iload 3, .iadd, .aload 1, .iconst 80, .iconst 4, .iload 2, .imul, .iadd, .iload 3, .iadd, .iaload, .iastore, .iinc 3 1, .goto 2]),
  (33, [.aload 1, .iconst 44, .iload 2, .iadd, .iconst 0, .iastore, .aload 0, .aload 1, .iconst 6, .iload 2, .iconst (-1), .invokevirtual 217, .return_])]
/-- DriverHostModel.endsWell([III)V -/
def s_220 : List (Nat × List Instr) := [(0, [.aload 1, .iload 2, .iconst 0, .invokestatic 212, .istore 4, .aload 1, .iload 2, .iconst 6, .iconst 2, .invokestatic 213, .aload 1, .iload 2, .iconst 8, .iload 3, .invokestatic 213, .aload 1, .iload 2, .iconst 13, .aload 1, .iconst 0, .iaload, .invokestatic 213, .aload 1, .iconst 32, .iload 4, .iadd, .iconst (-1), .iastore, .aload 0, .aload 1, .iconst 2, .iload 4, .iload 2, .invokevirtual 217, .aload 0, .aload 1, .iload 2, .invokevirtual 216, .aload 1, .iconst 112, .iconst 20, .iload 4, .imul, .iadd, .aload 1, .iconst 44, .iload 4, .iadd, .iaload, .iadd, .iload 2, .iastore, .aload 1, .iconst 44, .iload 4, .iadd, .dup2, .iaload, .iconst 1, .iadd, .iastore, .aload 1, .iconst 44, .iload 4, .iadd, .iaload, .aload 0, .getfield 769, .iconst 7, .iaload, .if_icmp .lt 111, .aload 0, .aload 1, .iload 4, .invokevirtual 219]),
  (111, [.return_])]
/-- DriverHostModel.loses([II)V -/
def s_221 : List (Nat × List Instr) := [(0, [.iconst 0, .istore 2]),
  (2, [.iload 2, .iconst 4, .if_icmp .ge 24, .aload 0, .iconst 80, .iconst 4, .iload 1, .imul, .iadd, .iload 2, .iadd, .iconst 0, .iastore, .iinc 2 1, .goto 2]),
  (24, [.return_])]
/-- DriverHostModel.delayOf(I)I -/
def s_222 : List (Nat × List Instr) := [(0, [.aload 0, .getfield 769, .iconst 2, .iaload, .istore 2, .iconst 1, .istore 3]),
  (9, [.iload 3, .iload 1, .if_icmp .ge 33, .iconst 2, .iload 2, .imul, .aload 0, .getfield 769, .iconst 3, .iaload, .invokestatic 156, .istore 2, .iinc 3 1, .goto 9]),
  (33, [.iload 2, .aload 0, .getfield 769, .iconst 3, .iaload, .invokestatic 156, .ireturn])]
/-- DriverHostModel.crashes([II)V -/
def s_223 : List (Nat × List Instr) := [(0, [.aload 0, .aload 1, .iconst 4, .iload 2, .iconst (-1), .invokevirtual 217, .aload 1, .iconst 20, .iload 2, .iadd, .dup2, .iaload, .iconst 1, .iadd, .iastore, .aload 1, .iload 2, .invokestatic 221, .aload 1, .iconst 32, .iload 2, .iadd, .iaload, .istore 3, .iload 3, .iconst (-1), .if_icmp .eq 75, .aload 1, .iload 3, .iconst 10, .aload 1, .iload 3, .iconst 10, .invokestatic 212, .iconst 1, .iadd, .invokestatic 213, .aload 1, .iload 3, .iconst 10, .invokestatic 212, .aload 0, .getfield 769, .iconst 6, .iaload, .if_icmp .lt 75, .aload 0, .aload 1, .iload 3, .iconst 3, .invokevirtual 218]),
  (75, [.aload 1, .iconst 20, .iload 2, .iadd, .iaload, .aload 0, .getfield 769, .iconst 5, .iaload, .if_icmp .gt 120, .aload 1, .iconst 12, .iload 2, .iadd, .iconst 1, .iastore, .aload 1, .iconst 16, .iload 2, .iadd, .aload 1, .iconst 0, .iaload, .iconst 1, .iadd, .aload 0, .aload 1, .iconst 20, .iload 2, .iadd, .iaload, .invokevirtual 222, .iadd, .iastore, .return_]),
  (120, [.aload 1, .iconst 12, .iload 2, .iadd, .iconst 2, .iastore, .aload 0, .aload 1, .iconst 8, .iload 2, .iconst (-1), .invokevirtual 217, .iconst 0, .istore 4]),
  (139, [.iload 4, .aload 1, .iconst 1, .iaload, .if_icmp .ge 184, .aload 1, .iload 4, .iconst 0, .invokestatic 212, .iload 2, .if_icmp .ne 178, .aload 1, .iload 4, .iconst 6, .invokestatic 212, .iconst 2, .if_icmp .ge 178, .aload 0, .aload 1, .iload 4, .iconst 5, .invokevirtual 218]),
  (178, [.iinc 4 1, .goto 139]),
  (184, [.return_])]
/-- DriverHostModel.decides([III)V -/
def s_224 : List (Nat × List Instr) := [(0, [.aload 0, .getfield 770, .aload 1, .iload 3, .iconst 1, .invokestatic 212, .iaload, .istore 4, .iload 4, .iconst 2, .if_icmp .ne 29, .aload 0, .aload 1, .iload 3, .iconst 2, .invokevirtual 218, .goto 90]),
  (29, [.iload 4, .iconst 3, .if_icmp .ne 59, .aload 0, .aload 1, .iload 3, .invokevirtual 214, .ifCond .eq 59, .aload 0, .aload 1, .iload 3, .aload 0, .aload 1, .iload 3, .invokevirtual 215, .invokevirtual 220, .goto 90]),
  (59, [.aload 1, .iload 3, .iconst 6, .iconst 0, .invokestatic 213, .aload 1, .iconst 28, .iload 2, .iadd, .iload 3, .iastore, .aload 1, .iconst 32, .iload 2, .iadd, .iconst (-1), .iastore, .aload 0, .aload 1, .iconst 7, .iload 2, .iload 3, .invokevirtual 217]),
  (90, [.return_])]
/-- DriverHostModel.restarts([II)V -/
def s_225 : List (Nat × List Instr) := [(0, [.aload 1, .iconst 12, .iload 2, .iadd, .iconst 0, .iastore, .aload 1, .iconst 24, .iload 2, .iadd, .aload 1, .iconst 0, .iaload, .iastore, .aload 0, .aload 1, .iconst 5, .iload 2, .iconst (-1), .invokevirtual 217, .iconst 0, .istore 3]),
  (26, [.iload 3, .iconst 4, .if_icmp .ge 57, .aload 1, .iconst 80, .iconst 4, .iload 2, .imul, .iadd, .iload 3, .iadd, .aload 1, .iconst 96, .iconst 4, .iload 2, .imul, .iadd, .iload 3, .iadd, .iaload, .iastore, .iinc 3 1, .goto 26]),
  (57, [.iconst 0, .istore 3]),
  (59, [.iload 3, .aload 1, .iconst 44, .iload 2, .iadd, .iaload, .if_icmp .ge 91, .aload 0, .aload 1, .aload 1, .iconst 112, .iconst 20, .iload 2, .imul, .iadd, .iload 3, .iadd, .iaload, .invokevirtual 216, .iinc 3 1, .goto 59]),
  (91, [.aload 1, .iconst 32, .iload 2, .iadd, .iaload, .iconst (-1), .if_icmp .eq 113, .aload 0, .aload 1, .iload 2, .aload 1, .iconst 32, .iload 2, .iadd, .iaload, .invokevirtual 224]),
  (113, [.return_])]
/-- DriverHostModel.nextOf([II)I -/
def s_226 : List (Nat × List Instr) := [(0, [.aload 1, .iconst 28, .iload 2, .iadd, .iaload, .iconst (-1), .if_icmp .eq 17, .aload 1, .iconst 28, .iload 2, .iadd, .iaload, .ireturn]),
  (17, [.iconst (-1), .istore 3, .iconst 0, .istore 4]),
  (22, [.iload 4, .aload 1, .iconst 1, .iaload, .if_icmp .ge 82, .aload 1, .iload 4, .iconst 0, .invokestatic 212, .iload 2, .if_icmp .ne 76, .aload 1, .iload 4, .iconst 6, .invokestatic 212, .ifCond .ne 76, .iload 3, .iconst (-1), .if_icmp .eq 73, .aload 1, .iload 4, .iconst 3, .invokestatic 212, .aload 1, .iload 3, .iconst 3, .invokestatic 212, .if_icmp .le 76]),
  (73, [.iload 4, .istore 3]),
  (76, [.iinc 4 1, .goto 22]),
  (82, [.iload 3, .ireturn])]
/-- DriverHostModel.dropsLate([II)V -/
def s_227 : List (Nat × List Instr) := [(0, [.iconst 0, .istore 3]),
  (2, [.iload 3, .aload 1, .iconst 1, .iaload, .if_icmp .ge 82, .aload 1, .iload 3, .iconst 0, .invokestatic 212, .iload 2, .if_icmp .ne 42, .aload 1, .iload 3, .iconst 6, .invokestatic 212, .ifCond .ne 42, .aload 1, .iload 3, .iconst 4, .invokestatic 212, .ifCond .le 42, .iconst 1, .goto 43]),
  (42, [.iconst 0]),
  (43, [.istore 4, .iload 4, .ifCond .eq 76, .aload 1, .iconst 0, .iaload, .aload 1, .iload 3, .iconst 5, .invokestatic 212, .isub, .aload 1, .iload 3, .iconst 4, .invokestatic 212, .if_icmp .lt 76, .aload 0, .aload 1, .iload 3, .iconst 1, .invokevirtual 218]),
  (76, [.iinc 3 1, .goto 2]),
  (82, [.return_])]
/-- DriverHostModel.begins([II)V -/
def s_228 : List (Nat × List Instr) := [(0, [.aload 0, .aload 1, .iload 2, .invokevirtual 226, .istore 3, .iload 3, .iconst (-1), .if_icmp .ne 13, .return_]),
  (13, [.aload 1, .iconst 28, .iload 2, .iadd, .iconst (-1), .iastore, .aload 1, .iconst 32, .iload 2, .iadd, .iload 3, .iastore, .aload 1, .iconst 36, .iload 2, .iadd, .aload 0, .getfield 771, .aload 1, .iload 3, .iconst 1, .invokestatic 212, .iaload, .iastore, .aload 1, .iload 3, .iconst 6, .iconst 1, .invokestatic 213, .aload 0, .aload 1, .iconst 1, .iload 2, .iload 3, .invokevirtual 217, .return_])]
/-- DriverHostModel.isPlanned([III)Z -/
def s_229 : List (Nat × List Instr) := [(0, [.aload 0, .iload 1, .iconst 11, .invokestatic 212, .iload 2, .if_icmp .ne 21, .aload 0, .iload 1, .iconst 12, .invokestatic 212, .ifCond .ne 23]),
  (21, [.iconst 0, .ret 0]),
  (23, [.aload 0, .iload 1, .iconst 12, .aload 0, .iload 1, .iconst 12, .invokestatic 212, .iconst 1, .isub, .invokestatic 213, .iconst 1, .ret 0])]
/-- DriverHostModel.goesOn([II)V -/
def s_230 : List (Nat × List Instr) := [(0, [.aload 1, .iconst 32, .iload 2, .iadd, .iaload, .istore 3, .aload 1, .iconst 36, .iload 2, .iadd, .dup2, .iaload, .iconst 1, .isub, .iastore, .aload 1, .iconst 36, .iload 2, .iadd, .iaload, .ifCond .le 27, .return_]),
  (27, [.aload 1, .iload 3, .iconst 1, .invokestatic 229, .ifCond .eq 43, .aload 0, .aload 1, .iload 2, .invokevirtual 223, .return_]),
  (43, [.aload 1, .iload 3, .iconst 1, .invokestatic 212, .istore 4, .aload 0, .aload 1, .iload 3, .invokevirtual 215, .istore 5, .aload 0, .aload 1, .aload 0, .getfield 773, .iload 4, .iaload, .aload 0, .getfield 774, .iload 4, .iaload, .iload 2, .aload 1, .iload 3, .iconst 2, .invokestatic 212, .iload 5, .invokevirtual 211, .pop, .aload 1, .iload 3, .iconst 9, .aload 1, .iload 3, .iconst 9, .invokestatic 212, .iconst 1, .iadd, .invokestatic 213, .aload 1, .iload 3, .iconst 2, .invokestatic 229, .ifCond .eq 122, .aload 0, .aload 1, .iload 2, .invokevirtual 223, .goto 130]),
  (122, [.aload 0, .aload 1, .iload 3, .iload 5, .invokevirtual 220]),
  (130, [.return_])]
/-- DriverHostModel.ticksOf([II)V -/
def s_231 : List (Nat × List Instr) := [(0, [.aload 1, .iconst 12, .iload 2, .iadd, .iaload, .iconst 1, .if_icmp .ne 28, .aload 1, .iconst 0, .iaload, .aload 1, .iconst 16, .iload 2, .iadd, .iaload, .if_icmp .lt 28, .aload 0, .aload 1, .iload 2, .invokevirtual 225]),
  (28, [.aload 1, .iconst 12, .iload 2, .iadd, .iaload, .iconst 2, .if_icmp .eq 44, .aload 0, .aload 1, .iload 2, .invokevirtual 227]),
  (44, [.aload 1, .iconst 12, .iload 2, .iadd, .iaload, .ifCond .ne 69, .aload 1, .iconst 32, .iload 2, .iadd, .iaload, .iconst (-1), .if_icmp .ne 69, .aload 0, .aload 1, .iload 2, .invokevirtual 228]),
  (69, [.aload 1, .iconst 12, .iload 2, .iadd, .iaload, .ifCond .ne 94, .aload 1, .iconst 32, .iload 2, .iadd, .iaload, .iconst (-1), .if_icmp .eq 94, .aload 0, .aload 1, .iload 2, .invokevirtual 230]),
  (94, [.aload 1, .iconst 12, .iload 2, .iadd, .iaload, .ifCond .eq 104, .return_]),
  (104, [.aload 1, .iconst 0, .iaload, .iconst 1, .iadd, .aload 1, .iconst 24, .iload 2, .iadd, .iaload, .isub, .aload 0, .getfield 769, .iconst 4, .iaload, .if_icmp .lt 132, .aload 1, .iconst 20, .iload 2, .iadd, .iconst 0, .iastore]),
  (132, [.aload 1, .iconst 40, .iload 2, .iadd, .dup2, .iaload, .iconst 1, .iadd, .iastore, .return_])]
/-- DriverHostModel.tick([I)V -/
def s_232 : List (Nat × List Instr) := [(0, [.iconst 0, .istore 2]),
  (2, [.iload 2, .aload 0, .getfield 769, .iconst 0, .iaload, .if_icmp .ge 24, .aload 0, .aload 1, .iload 2, .invokevirtual 231, .iinc 2 1, .goto 2]),
  (24, [.aload 1, .iconst 0, .dup2, .iaload, .iconst 1, .iadd, .iastore, .return_])]
/-- DriverHostModel.isDriver(I)Z -/
def s_233 : List (Nat × List Instr) := [(0, [.iload 1, .i2l, .ldc2_w 0, .aload 0, .getfield 769, .iconst 0, .iaload, .iconst 1, .isub, .i2l, .invokestatic 154, .ret 0])]
/-- DriverHostModel.isCommand(I)Z -/
def s_234 : List (Nat × List Instr) := [(0, [.iload 1, .i2l, .ldc2_w 0, .aload 0, .getfield 769, .iconst 1, .iaload, .iconst 1, .isub, .i2l, .invokestatic 154, .ret 0])]
/-- DriverHostModel.isRequest(I)Z -/
def s_235 : List (Nat × List Instr) := [(0, [.iload 1, .i2l, .ldc2_w 0, .aload 0, .getfield 780, .iconst 1, .iaload, .iconst 1, .isub, .i2l, .invokestatic 154, .ret 0])]
/-- DriverHostModel.driverCount()I -/
def s_236 : List (Nat × List Instr) := [(0, [.aload 0, .iconst 0, .putfield 768, .aload 0, .getfield 769, .iconst 0, .iaload, .ireturn])]
/-- DriverHostModel.commandCount()I -/
def s_237 : List (Nat × List Instr) := [(0, [.aload 0, .iconst 0, .putfield 768, .aload 0, .getfield 769, .iconst 1, .iaload, .ireturn])]
/-- DriverHostModel.requestCount()I -/
def s_238 : List (Nat × List Instr) := [(0, [.aload 0, .iconst 0, .putfield 768, .aload 0, .getfield 780, .iconst 1, .iaload, .ireturn])]
/-- DriverHostModel.clock()I -/
def s_239 : List (Nat × List Instr) := [(0, [.aload 0, .iconst 0, .putfield 768, .aload 0, .getfield 780, .iconst 0, .iaload, .ireturn])]
/-- DriverHostModel.classOf(I)I -/
def s_240 : List (Nat × List Instr) := [(0, [.aload 0, .iconst 0, .putfield 768, .aload 0, .aload 0, .iload 1, .invokevirtual 234, .iconst 1, .invokevirtual 155, .ifCond .eq 20, .iconst 0, .ireturn]),
  (20, [.aload 0, .getfield 770, .iload 1, .iaload, .ireturn])]
/-- DriverHostModel.timeOf(I)I -/
def s_241 : List (Nat × List Instr) := [(0, [.aload 0, .iconst 0, .putfield 768, .aload 0, .aload 0, .iload 1, .invokevirtual 234, .iconst 1, .invokevirtual 155, .ifCond .eq 20, .iconst 0, .ireturn]),
  (20, [.aload 0, .getfield 771, .iload 1, .iaload, .ireturn])]
/-- DriverHostModel.noDriver(I)Z -/
def s_242 : List (Nat × List Instr) := [(0, [.aload 0, .iconst 0, .putfield 768, .aload 0, .aload 0, .iload 1, .invokevirtual 233, .iconst 1, .invokevirtual 155, .ret 0])]
/-- DriverHostModel.driverState(I)I -/
def s_243 : List (Nat × List Instr) := [(0, [.aload 0, .iload 1, .invokevirtual 242, .ifCond .eq 12, .iconst 0, .goto 21]),
  (12, [.aload 0, .getfield 780, .iconst 12, .iload 1, .iadd, .iaload]),
  (21, [.ireturn])]
/-- DriverHostModel.downUntil(I)I -/
def s_244 : List (Nat × List Instr) := [(0, [.aload 0, .iload 1, .invokevirtual 242, .ifCond .eq 10, .iconst 0, .ireturn]),
  (10, [.aload 0, .getfield 780, .iconst 12, .iload 1, .iadd, .iaload, .iconst 1, .if_icmp .ne 35, .aload 0, .getfield 780, .iconst 16, .iload 1, .iadd, .iaload, .goto 36]),
  (35, [.iconst (-1)]),
  (36, [.ireturn])]
/-- DriverHostModel.streak(I)I -/
def s_245 : List (Nat × List Instr) := [(0, [.aload 0, .iload 1, .invokevirtual 242, .ifCond .eq 12, .iconst 0, .goto 21]),
  (12, [.aload 0, .getfield 780, .iconst 20, .iload 1, .iadd, .iaload]),
  (21, [.ireturn])]
/-- DriverHostModel.register(II)I -/
def s_246 : List (Nat × List Instr) := [(0, [.aload 0, .iload 1, .invokevirtual 242, .ifCond .ne 25, .aload 0, .iload 2, .i2l, .ldc2_w 0, .ldc2_w 7, .invokestatic 154, .iconst 1, .invokevirtual 155, .ifCond .eq 27]),
  (25, [.iconst 0, .ireturn]),
  (27, [.aload 0, .getfield 780, .iconst 48, .iconst 8, .iload 1, .imul, .iadd, .iload 2, .iadd, .iaload, .ireturn])]
/-- DriverHostModel.variable(II)I -/
def s_247 : List (Nat × List Instr) := [(0, [.aload 0, .iload 1, .invokevirtual 242, .ifCond .ne 25, .aload 0, .iload 2, .i2l, .ldc2_w 0, .ldc2_w 3, .invokestatic 154, .iconst 1, .invokevirtual 155, .ifCond .eq 27]),
  (25, [.iconst 0, .ireturn]),
  (27, [.aload 0, .getfield 780, .iconst 80, .iconst 4, .iload 1, .imul, .iadd, .iload 2, .iadd, .iaload, .ireturn])]
/-- DriverHostModel.saved(II)I -/
def s_248 : List (Nat × List Instr) := [(0, [.aload 0, .iload 1, .invokevirtual 242, .ifCond .ne 25, .aload 0, .iload 2, .i2l, .ldc2_w 0, .ldc2_w 3, .invokestatic 154, .iconst 1, .invokevirtual 155, .ifCond .eq 27]),
  (25, [.iconst 0, .ireturn]),
  (27, [.aload 0, .getfield 780, .iconst 96, .iconst 4, .iload 1, .imul, .iadd, .iload 2, .iadd, .iaload, .ireturn])]
/-- DriverHostModel.logSize(I)I -/
def s_249 : List (Nat × List Instr) := [(0, [.aload 0, .iload 1, .invokevirtual 242, .ifCond .eq 12, .iconst 0, .goto 21]),
  (12, [.aload 0, .getfield 780, .iconst 44, .iload 1, .iadd, .iaload]),
  (21, [.ireturn])]
/-- DriverHostModel.logged(II)I -/
def s_250 : List (Nat × List Instr) := [(0, [.aload 0, .iload 1, .invokevirtual 242, .ifCond .ne 25, .aload 0, .iload 2, .ifCond .lt 17, .iconst 1, .goto 18]),
  (17, [.iconst 0]),
  (18, [.iconst 1, .invokevirtual 155, .ifCond .eq 27]),
  (25, [.iconst 0, .ireturn]),
  (27, [.iload 2, .aload 0, .getfield 780, .iconst 44, .iload 1, .iadd, .iaload, .if_icmp .ge 57, .aload 0, .getfield 780, .iconst 112, .iconst 20, .iload 1, .imul, .iadd, .iload 2, .iadd, .iaload, .goto 58]),
  (57, [.iconst (-1)]),
  (58, [.ireturn])]
/-- DriverHostModel.inFlight(I)I -/
def s_251 : List (Nat × List Instr) := [(0, [.aload 0, .iload 1, .invokevirtual 242, .ifCond .eq 12, .iconst 0, .goto 21]),
  (12, [.aload 0, .getfield 780, .iconst 32, .iload 1, .iadd, .iaload]),
  (21, [.ireturn])]
/-- DriverHostModel.nextRequest(I)I -/
def s_252 : List (Nat × List Instr) := [(0, [.aload 0, .iload 1, .invokevirtual 242, .ifCond .eq 12, .iconst 0, .goto 21]),
  (12, [.aload 0, .aload 0, .getfield 780, .iload 1, .invokevirtual 226]),
  (21, [.ireturn])]
/-- DriverHostModel.queued(I)I -/
def s_253 : List (Nat × List Instr) := [(0, [.aload 0, .iload 1, .invokevirtual 242, .ifCond .eq 10, .iconst 0, .ireturn]),
  (10, [.iconst 0, .istore 2, .iconst 0, .istore 3]),
  (14, [.iload 3, .aload 0, .getfield 780, .iconst 1, .iaload, .if_icmp .ge 64, .iload 2, .aload 0, .getfield 780, .iload 3, .iconst 0, .invokestatic 212, .iload 1, .if_icmp .ne 55, .aload 0, .getfield 780, .iload 3, .iconst 6, .invokestatic 212, .ifCond .ne 55, .iconst 1, .goto 56]),
  (55, [.iconst 0]),
  (56, [.iadd, .istore 2, .iinc 3 1, .goto 14]),
  (64, [.iload 2, .ireturn])]
/-- DriverHostModel.noRequest(I)Z -/
def s_254 : List (Nat × List Instr) := [(0, [.aload 0, .iconst 0, .putfield 768, .aload 0, .aload 0, .iload 1, .invokevirtual 235, .iconst 1, .invokevirtual 155, .ret 0])]
/-- DriverHostModel.request(II)I -/
def s_255 : List (Nat × List Instr) := [(0, [.aload 0, .iload 1, .invokevirtual 254, .ifCond .ne 25, .aload 0, .iload 2, .i2l, .ldc2_w 0, .ldc2_w 14, .invokestatic 154, .iconst 1, .invokevirtual 155, .ifCond .eq 27]),
  (25, [.iconst 0, .ireturn]),
  (27, [.iload 2, .iconst 11, .if_icmp .ge 43, .aload 0, .getfield 780, .iload 1, .iload 2, .invokestatic 212, .ireturn]),
  (43, [.iload 2, .iconst 11, .if_icmp .le 85, .iload 2, .iconst 14, .if_icmp .ne 73, .aload 0, .getfield 780, .iload 1, .iconst 6, .invokestatic 212, .iconst 2, .if_icmp .ge 73, .iconst (-1), .goto 84]),
  (73, [.aload 0, .getfield 780, .iload 1, .iload 2, .iconst 1, .isub, .invokestatic 212]),
  (84, [.ireturn]),
  (85, [.aload 0, .getfield 780, .iload 1, .iconst 0, .invokestatic 212, .istore 3, .aload 0, .getfield 780, .iconst 12, .iload 3, .iadd, .iaload, .ifCond .ne 132, .aload 0, .getfield 780, .iconst 32, .iload 3, .iadd, .iaload, .iload 1, .if_icmp .ne 132, .aload 0, .getfield 780, .iconst 36, .iload 3, .iadd, .iaload, .goto 133]),
  (132, [.iconst 0]),
  (133, [.ireturn])]
/-- DriverHostModel.recordCount()I -/
def s_256 : List (Nat × List Instr) := [(0, [.aload 0, .iconst 0, .putfield 768, .aload 0, .getfield 780, .iconst 2, .iaload, .ireturn])]
/-- DriverHostModel.record(II)I -/
def s_257 : List (Nat × List Instr) := [(0, [.aload 0, .iconst 0, .putfield 768, .aload 0, .iload 1, .i2l, .ldc2_w 0, .aload 0, .getfield 780, .iconst 2, .iaload, .iconst 1, .isub, .i2l, .invokestatic 154, .ifCond .eq 40, .iload 2, .i2l, .ldc2_w 0, .ldc2_w 3, .invokestatic 154, .ifCond .eq 40, .iconst 1, .goto 41]),
  (40, [.iconst 0]),
  (41, [.iconst 1, .invokevirtual 155, .ifCond .eq 50, .iconst 0, .ireturn]),
  (50, [.aload 0, .getfield 780, .iconst 1592, .iconst 4, .iload 1, .imul, .iadd, .iload 2, .iadd, .iaload, .ireturn])]
/-- DriverHostModel.total(I)I -/
def s_258 : List (Nat × List Instr) := [(0, [.aload 0, .iconst 0, .putfield 768, .iload 1, .i2l, .ldc2_w 0, .ldc2_w 8, .invokestatic 154, .ifCond .eq 28, .aload 0, .getfield 780, .iconst 3, .iload 1, .iadd, .iaload, .goto 29]),
  (28, [.iconst (-1)]),
  (29, [.ireturn])]
/-- DriverHostModel.availability(I)D -/
def s_259 : List (Nat × List Instr) := [(0, [.aload 0, .iload 1, .invokevirtual 242, .ifCond .eq 10, .dconst 0, .dreturn]),
  (10, [.aload 0, .getfield 780, .iconst 0, .iaload, .ifCond .ne 23, .dconst 1, .goto 41]),
  (23, [.aload 0, .getfield 780, .iconst 40, .iload 1, .iadd, .iaload, .i2d, .aload 0, .getfield 780, .iconst 0, .iaload, .i2d, .ddiv]),
  (41, [.dreturn])]
/-- DriverHostModel.meanTime(I)F -/
def s_260 : List (Nat × List Instr) := [(0, [.aload 0, .iload 1, .invokevirtual 242, .ifCond .eq 10, .fconst 0, .freturn]),
  (10, [.iconst 0, .istore 2, .iconst 0, .istore 3, .iconst 0, .istore 4]),
  (17, [.iload 4, .aload 0, .getfield 780, .iconst 1, .iaload, .if_icmp .ge 94, .aload 0, .getfield 780, .iload 4, .iconst 0, .invokestatic 212, .iload 1, .if_icmp .ne 88, .aload 0, .getfield 780, .iload 4, .iconst 6, .invokestatic 212, .iconst 2, .if_icmp .eq 60, .goto 88]),
  (60, [.iload 2, .aload 0, .getfield 780, .iload 4, .iconst 13, .invokestatic 212, .aload 0, .getfield 780, .iload 4, .iconst 5, .invokestatic 212, .isub, .iadd, .istore 2, .iinc 3 1]),
  (88, [.iinc 4 1, .goto 17]),
  (94, [.iload 3, .ifCond .ne 102, .fconst 0, .goto 107]),
  (102, [.iload 2, .i2f, .iload 3, .i2f, .fdiv]),
  (107, [.freturn])]
/-- DriverHostModel.records()V -/
def s_261 : List (Nat × List Instr) := [(0, [.aload 0, .getfield 785, .iconst 10, .if_icmp .ne 52, .iconst 2392, .istore 1]),
  (13, [.iload 1, .iconst 23920, .if_icmp .ge 42, .aload 0, .getfield 783, .iload 1, .iconst 2392, .isub, .aload 0, .getfield 783, .iload 1, .iaload, .iastore, .iinc 1 1, .goto 13]),
  (42, [.aload 0, .dup, .getfield 785, .iconst 1, .isub, .putfield 785]),
  (52, [.iconst 0, .istore 1]),
  (54, [.iload 1, .iconst 2392, .if_icmp .ge 88, .aload 0, .getfield 783, .iconst 2392, .aload 0, .getfield 785, .imul, .iload 1, .iadd, .aload 0, .getfield 780, .iload 1, .iaload, .iastore, .iinc 1 1, .goto 54]),
  (88, [.aload 0, .dup, .getfield 785, .iconst 1, .iadd, .putfield 785, .return_])]
/-- DriverHostModel.submit(IIIII)I -/
def s_262 : List (Nat × List Instr) := [(0, [.aload 0, .iconst 0, .putfield 768, .aload 0, .aload 0, .iload 1, .invokevirtual 233, .ifCond .eq 26, .aload 0, .iload 2, .invokevirtual 234, .ifCond .eq 26, .iconst 1, .goto 27]),
  (26, [.iconst 0]),
  (27, [.iconst 1, .invokevirtual 155, .ifCond .ne 73, .aload 0, .iload 4, .i2l, .ldc2_w 0, .ldc2_w 3, .invokestatic 154, .ifCond .eq 65, .iload 5, .i2l, .ldc2_w 0, .ldc2_w 100000, .invokestatic 154, .ifCond .eq 65, .iconst 1, .goto 66]),
  (65, [.iconst 0]),
  (66, [.iconst 2, .invokevirtual 155, .ifCond .eq 75]),
  (73, [.iconst 0, .ireturn]),
  (75, [.aload 0, .getfield 780, .iconst 12, .iload 1, .iadd, .iaload, .iconst 2, .if_icmp .ne 91, .iconst (-2), .ireturn]),
  (91, [.aload 0, .getfield 780, .iconst 1, .iaload, .istore 6, .iload 6, .iconst 100, .if_icmp .ne 109, .iconst (-3), .ireturn]),
  (109, [.aload 0, .invokevirtual 261, .iconst 0, .istore 7]),
  (116, [.iload 7, .iconst 14, .if_icmp .ge 141, .aload 0, .getfield 780, .iload 6, .iload 7, .iconst 0, .invokestatic 213, .iinc 7 1, .goto 116]),
  (141, [.aload 0, .getfield 780, .iload 6, .iconst 0, .iload 1, .invokestatic 213, .aload 0, .getfield 780, .iload 6, .iconst 1, .iload 2, .invokestatic 213, .aload 0, .getfield 780, .iload 6, .iconst 2, .iload 3, .invokestatic 213, .aload 0, .getfield 780, .iload 6, .iconst 3, .iload 4, .invokestatic 213, .aload 0, .getfield 780, .iload 6, .iconst 4, .iload 5, .invokestatic 213, .aload 0, .getfield 780, .iload 6, .iconst 5, .aload 0, .getfield 780, .iconst 0, .iaload, .invokestatic 213, .aload 0, .getfield 780, .iconst 1, .dup2, .iaload, .iconst 1, .iadd, .iastore, .aload 0, .aload 0, .getfield 780, .iconst 0, .iload 1, .iload 6, .invokevirtual 217, .iload 6, .ireturn])]
/-- DriverHostModel.cancel(I)I -/
def s_263 : List (Nat × List Instr) := [(0, [.aload 0, .iload 1, .invokevirtual 254, .ifCond .eq 10, .iconst 0, .ireturn]),
  (10, [.aload 0, .getfield 780, .iload 1, .iconst 6, .invokestatic 212, .ifCond .eq 26, .iconst (-2), .ireturn]),
  (26, [.aload 0, .invokevirtual 261, .aload 0, .aload 0, .getfield 780, .iload 1, .iconst 4, .invokevirtual 218, .aload 0, .getfield 780, .iconst 0, .iaload, .ireturn])]
/-- DriverHostModel.plan(III)I -/
def s_264 : List (Nat × List Instr) := [(0, [.aload 0, .iload 1, .invokevirtual 254, .ifCond .ne 45, .aload 0, .iload 2, .i2l, .ldc2_w 0, .ldc2_w 2, .invokestatic 154, .ifCond .eq 37, .iload 3, .i2l, .ldc2_w 0, .ldc2_w 20, .invokestatic 154, .ifCond .eq 37, .iconst 1, .goto 38]),
  (37, [.iconst 0]),
  (38, [.iconst 2, .invokevirtual 155, .ifCond .eq 47]),
  (45, [.iconst 0, .ireturn]),
  (47, [.aload 0, .getfield 780, .iload 1, .iconst 6, .invokestatic 212, .iconst 2, .if_icmp .lt 64, .iconst (-2), .ireturn]),
  (64, [.aload 0, .invokevirtual 261, .aload 0, .getfield 780, .iload 1, .iconst 11, .invokestatic 212, .istore 4, .aload 0, .getfield 780, .iload 1, .iconst 11, .iload 2, .invokestatic 213, .aload 0, .getfield 780, .iload 1, .iconst 12, .iload 3, .invokestatic 213, .iload 4, .ireturn])]
/-- DriverHostModel.kill(I)I -/
def s_265 : List (Nat × List Instr) := [(0, [.aload 0, .iload 1, .invokevirtual 242, .ifCond .eq 10, .iconst 0, .ireturn]),
  (10, [.aload 0, .getfield 780, .iconst 12, .iload 1, .iadd, .iaload, .ifCond .eq 25, .iconst (-2), .ireturn]),
  (25, [.aload 0, .invokevirtual 261, .aload 0, .aload 0, .getfield 780, .iload 1, .invokevirtual 223, .aload 0, .getfield 780, .iconst 12, .iload 1, .iadd, .iaload, .ireturn])]
/-- DriverHostModel.replace(I)I -/
def s_266 : List (Nat × List Instr) := [(0, [.aload 0, .iload 1, .invokevirtual 242, .ifCond .eq 10, .iconst 0, .ireturn]),
  (10, [.aload 0, .getfield 780, .iconst 12, .iload 1, .iadd, .iaload, .ifCond .eq 25, .iconst (-2), .ireturn]),
  (25, [.aload 0, .getfield 780, .iconst 32, .iload 1, .iadd, .iaload, .iconst (-1), .if_icmp .eq 41, .iconst (-3), .ireturn]),
  (41, [.aload 0, .invokevirtual 261, .aload 0, .aload 0, .getfield 780, .iload 1, .invokevirtual 219, .aload 0, .getfield 780, .iload 1, .invokestatic 221, .aload 0, .getfield 780, .iconst 12, .iload 1, .iadd, .iconst 1, .iastore, .aload 0, .getfield 780, .iconst 16, .iload 1, .iadd, .aload 0, .getfield 780, .iconst 0, .iaload, .aload 0, .getfield 769, .iconst 8, .iaload, .iadd, .iastore, .aload 0, .getfield 780, .iconst 16, .iload 1, .iadd, .iaload, .ireturn])]
/-- DriverHostModel.takeSnapshot(I)I -/
def s_267 : List (Nat × List Instr) := [(0, [.aload 0, .iload 1, .invokevirtual 242, .ifCond .eq 10, .iconst 0, .ireturn]),
  (10, [.aload 0, .getfield 780, .iconst 12, .iload 1, .iadd, .iaload, .ifCond .eq 25, .iconst (-2), .ireturn]),
  (25, [.aload 0, .invokevirtual 261, .aload 0, .getfield 780, .iconst 44, .iload 1, .iadd, .iaload, .istore 2, .aload 0, .aload 0, .getfield 780, .iload 1, .invokevirtual 219, .iload 2, .ireturn])]
/-- DriverHostModel.poke(III)I -/
def s_268 : List (Nat × List Instr) := [(0, [.aload 0, .iload 1, .invokevirtual 242, .ifCond .ne 42, .aload 0, .iload 2, .i2l, .ldc2_w 0, .ldc2_w 7, .invokestatic 154, .iconst 1, .invokevirtual 155, .ifCond .ne 42, .aload 0, .iload 3, .i2l, .ldc2_w 0, .ldc2_w 65535, .invokestatic 154, .iconst 2, .invokevirtual 155, .ifCond .eq 44]),
  (42, [.iconst 0, .ireturn]),
  (44, [.aload 0, .invokevirtual 261, .aload 0, .getfield 780, .iconst 48, .iconst 8, .iload 1, .imul, .iadd, .iload 2, .iadd, .iaload, .istore 4, .aload 0, .getfield 780, .iconst 48, .iconst 8, .iload 1, .imul, .iadd, .iload 2, .iadd, .iload 3, .iastore, .iload 4, .ireturn])]
/-- DriverHostModel.run(I)I -/
def s_269 : List (Nat × List Instr) := [(0, [.aload 0, .iconst 0, .putfield 768, .aload 0, .iload 1, .i2l, .ldc2_w 0, .ldc2_w 1000, .invokestatic 154, .iconst 1, .invokevirtual 155, .ifCond .eq 24, .iconst 0, .ireturn]),
  (24, [.aload 0, .getfield 780, .iconst 0, .iaload, .iload 1, .iadd, .iconst (1000000), .if_icmp .le 40, .iconst (-4), .ireturn]),
  (40, [.aload 0, .invokevirtual 261, .aload 0, .getfield 780, .iconst 5, .iaload, .istore 2, .iconst 0, .istore 3]),
  (53, [.iload 3, .iload 1, .if_icmp .ge 72, .aload 0, .aload 0, .getfield 780, .invokevirtual 232, .iinc 3 1, .goto 53]),
  (72, [.aload 0, .getfield 780, .iconst 5, .iaload, .iload 2, .isub, .ireturn])]
/-- DriverHostModel.undoCount()I -/
def s_270 : List (Nat × List Instr) := [(0, [.aload 0, .iconst 0, .putfield 768, .aload 0, .getfield 785, .ireturn])]
/-- DriverHostModel.undo()I -/
def s_271 : List (Nat × List Instr) := [(0, [.aload 0, .iconst 0, .putfield 768, .aload 0, .getfield 785, .ifCond .ne 14, .iconst (-1), .ireturn]),
  (14, [.aload 0, .dup, .getfield 785, .iconst 1, .isub, .putfield 785, .iconst 0, .istore 1]),
  (26, [.iload 1, .iconst 2392, .if_icmp .ge 60, .aload 0, .getfield 780, .iload 1, .aload 0, .getfield 783, .iconst 2392, .aload 0, .getfield 785, .imul, .iload 1, .iadd, .iaload, .iastore, .iinc 1 1, .goto 26]),
  (60, [.aload 0, .getfield 785, .ireturn])]
/-- DriverHostModel.saveState()V -/
def s_272 : List (Nat × List Instr) := [(0, [.aload 0, .iconst 0, .putfield 768, .aload 0, .getfield 780, .aload 0, .getfield 782, .invokestatic 160, .aload 0, .iconst 1, .putfield 784, .return_])]
/-- DriverHostModel.restoreState()Z -/
def s_273 : List (Nat × List Instr) := [(0, [.aload 0, .iconst 0, .putfield 768, .aload 0, .getfield 784, .ifCond .ne 14, .iconst 0, .ret 0]),
  (14, [.aload 0, .getfield 782, .aload 0, .getfield 780, .invokestatic 160, .aload 0, .iconst 0, .putfield 785, .iconst 1, .ret 0])]
/-- DriverHostModel.forecast(I)I -/
def s_274 : List (Nat × List Instr) := [(0, [.aload 0, .iload 1, .invokevirtual 254, .ifCond .eq 10, .iconst 0, .ireturn]),
  (10, [.aload 0, .getfield 780, .aload 0, .getfield 781, .invokestatic 160, .iconst 0, .istore 2]),
  (23, [.aload 0, .getfield 781, .iload 1, .iconst 6, .invokestatic 212, .iconst 2, .if_icmp .ge 71, .iload 2, .iconst 1000, .if_icmp .eq 55, .aload 0, .getfield 781, .iconst 0, .iaload, .iconst (1000000), .if_icmp .ne 57]),
  (55, [.iconst (-1), .ireturn]),
  (57, [.aload 0, .aload 0, .getfield 781, .invokevirtual 232, .iinc 2 1, .goto 23]),
  (71, [.iload 2, .ireturn])]
/-- DriverHostModel.bestDelay(I)I -/
def s_275 : List (Nat × List Instr) := [(0, [.aload 0, .iconst 0, .putfield 768, .aload 0, .iload 1, .i2l, .ldc2_w 0, .ldc2_w 200, .invokestatic 154, .ifCond .eq 35, .aload 0, .getfield 780, .iconst 0, .iaload, .iload 1, .iadd, .iconst (1000000), .if_icmp .gt 35, .iconst 1, .goto 36]),
  (35, [.iconst 0]),
  (36, [.iconst 1, .invokevirtual 155, .ifCond .eq 45, .iconst 0, .ireturn]),
  (45, [.aload 0, .getfield 769, .iconst 2, .iaload, .istore 2, .iconst (-1), .istore 3, .iconst (-1), .istore 4, .iconst 1, .istore 5]),
  (60, [.iload 5, .iconst 16, .if_icmp .gt 151, .iload 5, .aload 0, .getfield 769, .iconst 3, .iaload, .if_icmp .gt 151, .aload 0, .getfield 780, .aload 0, .getfield 781, .invokestatic 160, .aload 0, .getfield 769, .iconst 2, .iload 5, .iastore, .iconst 0, .istore 6]),
  (100, [.iload 6, .iload 1, .if_icmp .ge 120, .aload 0, .aload 0, .getfield 781, .invokevirtual 232, .iinc 6 1, .goto 100]),
  (120, [.aload 0, .getfield 781, .iconst 5, .iaload, .iload 4, .if_icmp .gt 134, .goto 145]),
  (134, [.aload 0, .getfield 781, .iconst 5, .iaload, .istore 4, .iload 5, .istore 3]),
  (145, [.iinc 5 1, .goto 60]),
  (151, [.aload 0, .getfield 769, .iconst 2, .iload 2, .iastore, .iload 3, .ireturn])]
/-- DriverHostModel.decision(I)I -/
def s_276 : List (Nat × List Instr) := [(0, [.aload 0, .iload 1, .invokevirtual 254, .ifCond .eq 10, .iconst 0, .ireturn]),
  (10, [.aload 0, .getfield 780, .iload 1, .iconst 6, .invokestatic 212, .iconst 1, .if_icmp .eq 26, .iconst (-1), .ireturn]),
  (26, [.aload 0, .getfield 770, .aload 0, .getfield 780, .iload 1, .iconst 1, .invokestatic 212, .iaload, .istore 2, .iload 2, .iconst 2, .if_icmp .ge 48, .iconst 0, .ireturn]),
  (48, [.iload 2, .iconst 2, .if_icmp .ne 57, .iconst 2, .goto 74]),
  (57, [.aload 0, .aload 0, .getfield 780, .iload 1, .invokevirtual 214, .ifCond .eq 73, .iconst 1, .goto 74]),
  (73, [.iconst 0]),
  (74, [.ireturn])]
/-- DriverHostModel.propertyOf(II)I -/
def s_277 : List (Nat × List Instr) := [(0, [.iload 1, .tableswitch 157 0 9 #[56, 58, 68, 78, 93, 103, 113, 124, 135, 146]]),
  (56, [.iload 2, .ireturn]),
  (58, [.aload 0, .getfield 780, .iload 2, .iconst 0, .invokestatic 212, .ireturn]),
  (68, [.aload 0, .getfield 780, .iload 2, .iconst 1, .invokestatic 212, .ireturn]),
  (78, [.aload 0, .getfield 770, .aload 0, .getfield 780, .iload 2, .iconst 1, .invokestatic 212, .iaload, .ireturn]),
  (93, [.aload 0, .getfield 780, .iload 2, .iconst 2, .invokestatic 212, .ireturn]),
  (103, [.aload 0, .getfield 780, .iload 2, .iconst 3, .invokestatic 212, .ireturn]),
  (113, [.aload 0, .getfield 780, .iload 2, .iconst 6, .invokestatic 212, .ireturn]),
  (124, [.aload 0, .getfield 780, .iload 2, .iconst 7, .invokestatic 212, .ireturn]),
  (135, [.aload 0, .getfield 780, .iload 2, .iconst 8, .invokestatic 212, .ireturn]),
  (146, [.aload 0, .getfield 780, .iload 2, .iconst 9, .invokestatic 212, .ireturn]),
  (157, [.aload 0, .getfield 780, .iload 2, .iconst 10, .invokestatic 212, .ireturn])]
/-- DriverHostModel.holds(I)Z -/
def s_278 : List (Nat × List Instr) := [(0, [.aload 0, .iconst 0, .putfield 804, .iconst 0, .istore 2]),
  (7, [.iload 2, .aload 0, .getfield 799, .if_icmp .ge 79, .aload 0, .getfield 798, .iload 2, .iaload, .istore 3, .aload 0, .iload 3, .invokevirtual 209, .ifCond .eq 33, .goto 73]),
  (33, [.aload 0, .getfield 797, .aload 0, .getfield 804, .iload 3, .iconst 1000, .if_icmp .lt 56, .iload 3, .iconst 1000, .isub, .goto 62]),
  (56, [.aload 0, .iload 3, .iload 1, .invokevirtual 277]),
  (62, [.iastore, .aload 0, .dup, .getfield 804, .iconst 1, .iadd, .putfield 804]),
  (73, [.iinc 2 1, .goto 7]),
  (79, [.aload 0, .getfield 797, .iconst 0, .iaload, .iconst 1, .if_icmp .ne 93, .iconst 1, .goto 94]),
  (93, [.iconst 0]),
  (94, [.ret 0])]
/-- DriverHostModel.query(I)I -/
def s_279 : List (Nat × List Instr) := [(0, [.aload 0, .iconst 0, .putfield 768, .aload 0, .iload 1, .i2l, .ldc2_w 0, .aload 0, .getfield 787, .iconst 200, .invokestatic 156, .i2l, .invokestatic 154, .iconst 1, .invokevirtual 155, .ifCond .eq 32, .iconst 0, .ireturn]),
  (32, [.aload 0, .iload 1, .invokevirtual 170, .aload 0, .iconst 0, .putfield 799, .aload 0, .iconst 0, .putfield 801, .aload 0, .iconst 1, .putfield 803, .aload 0, .ldc2_w 3379448, .invokevirtual 174, .istore 2, .iload 2, .ifCond .ne 80, .aload 0, .ldc2_w 257011, .invokevirtual 174, .ifCond .ne 80, .aload 0, .iconst 1, .invokevirtual 171, .pop]),
  (80, [.aload 0, .invokevirtual 201, .aload 0, .invokevirtual 172, .ifCond .ne 100, .iconst (-1000000000), .aload 0, .getfield 794, .isub, .ireturn]),
  (100, [.iconst 0, .istore 3, .iconst 0, .istore 4]),
  (105, [.iload 4, .aload 0, .getfield 780, .iconst 1, .iaload, .if_icmp .ge 144, .aload 0, .iload 4, .invokevirtual 278, .ifCond .ne 128, .goto 138]),
  (128, [.iload 2, .ifCond .eq 135, .iload 4, .ireturn]),
  (135, [.iinc 3 1]),
  (138, [.iinc 4 1, .goto 105]),
  (144, [.iload 2, .ifCond .eq 152, .iconst (-1), .goto 153]),
  (152, [.iload 3]),
  (153, [.ireturn])]
/-- DriverHostLaw.load(LDriverHost;I[J)I -/
def s_280 : List (Nat × List Instr) := [(0, [.aload 2, .iconst 0, .aload 0, .iload 1, .invokevirtual 107, .i2l, .lastore, .goto 15, .nop]),
  (13, [.iconst 1, .ireturn]),
  (15, [.iconst 0, .ireturn])]
/-- DriverHostLaw.classOf(LDriverHost;I[J)I -/
def s_281 : List (Nat × List Instr) := [(0, [.aload 2, .iconst 0, .aload 0, .iload 1, .invokevirtual 113, .i2l, .lastore, .goto 15, .nop]),
  (13, [.iconst 1, .ireturn]),
  (15, [.iconst 0, .ireturn])]
/-- DriverHostLaw.timeOf(LDriverHost;I[J)I -/
def s_282 : List (Nat × List Instr) := [(0, [.aload 2, .iconst 0, .aload 0, .iload 1, .invokevirtual 114, .i2l, .lastore, .goto 15, .nop]),
  (13, [.iconst 1, .ireturn]),
  (15, [.iconst 0, .ireturn])]
/-- DriverHostLaw.submit(LDriverHost;IIIII[J)I -/
def s_283 : List (Nat × List Instr) := [(0, [.aload 6, .iconst 0, .aload 0, .iload 1, .iload 2, .iload 3, .iload 4, .iload 5, .invokevirtual 115, .i2l, .lastore, .goto 27, .nop]),
  (21, [.iconst 1, .ireturn, .nop]),
  (25, [.iconst 2, .ireturn]),
  (27, [.iconst 0, .ireturn])]
/-- DriverHostLaw.cancel(LDriverHost;I[J)I -/
def s_284 : List (Nat × List Instr) := [(0, [.aload 2, .iconst 0, .aload 0, .iload 1, .invokevirtual 116, .i2l, .lastore, .goto 15, .nop]),
  (13, [.iconst 1, .ireturn]),
  (15, [.iconst 0, .ireturn])]
/-- DriverHostLaw.plan(LDriverHost;III[J)I -/
def s_285 : List (Nat × List Instr) := [(0, [.aload 4, .iconst 0, .aload 0, .iload 1, .iload 2, .iload 3, .invokevirtual 117, .i2l, .lastore, .goto 23, .nop]),
  (17, [.iconst 1, .ireturn, .nop]),
  (21, [.iconst 2, .ireturn]),
  (23, [.iconst 0, .ireturn])]
/-- DriverHostLaw.kill(LDriverHost;I[J)I -/
def s_286 : List (Nat × List Instr) := [(0, [.aload 2, .iconst 0, .aload 0, .iload 1, .invokevirtual 118, .i2l, .lastore, .goto 15, .nop]),
  (13, [.iconst 1, .ireturn]),
  (15, [.iconst 0, .ireturn])]
/-- DriverHostLaw.replace(LDriverHost;I[J)I -/
def s_287 : List (Nat × List Instr) := [(0, [.aload 2, .iconst 0, .aload 0, .iload 1, .invokevirtual 119, .i2l, .lastore, .goto 15, .nop]),
  (13, [.iconst 1, .ireturn]),
  (15, [.iconst 0, .ireturn])]
/-- DriverHostLaw.takeSnapshot(LDriverHost;I[J)I -/
def s_288 : List (Nat × List Instr) := [(0, [.aload 2, .iconst 0, .aload 0, .iload 1, .invokevirtual 120, .i2l, .lastore, .goto 15, .nop]),
  (13, [.iconst 1, .ireturn]),
  (15, [.iconst 0, .ireturn])]
/-- DriverHostLaw.poke(LDriverHost;III[J)I -/
def s_289 : List (Nat × List Instr) := [(0, [.aload 4, .iconst 0, .aload 0, .iload 1, .iload 2, .iload 3, .invokevirtual 121, .i2l, .lastore, .goto 23, .nop]),
  (17, [.iconst 1, .ireturn, .nop]),
  (21, [.iconst 2, .ireturn]),
  (23, [.iconst 0, .ireturn])]
/-- DriverHostLaw.run(LDriverHost;I[J)I -/
def s_290 : List (Nat × List Instr) := [(0, [.aload 2, .iconst 0, .aload 0, .iload 1, .invokevirtual 122, .i2l, .lastore, .goto 15, .nop]),
  (13, [.iconst 1, .ireturn]),
  (15, [.iconst 0, .ireturn])]
/-- DriverHostLaw.driverState(LDriverHost;I[J)I -/
def s_291 : List (Nat × List Instr) := [(0, [.aload 2, .iconst 0, .aload 0, .iload 1, .invokevirtual 123, .i2l, .lastore, .goto 15, .nop]),
  (13, [.iconst 1, .ireturn]),
  (15, [.iconst 0, .ireturn])]
/-- DriverHostLaw.downUntil(LDriverHost;I[J)I -/
def s_292 : List (Nat × List Instr) := [(0, [.aload 2, .iconst 0, .aload 0, .iload 1, .invokevirtual 124, .i2l, .lastore, .goto 15, .nop]),
  (13, [.iconst 1, .ireturn]),
  (15, [.iconst 0, .ireturn])]
/-- DriverHostLaw.streak(LDriverHost;I[J)I -/
def s_293 : List (Nat × List Instr) := [(0, [.aload 2, .iconst 0, .aload 0, .iload 1, .invokevirtual 125, .i2l, .lastore, .goto 15, .nop]),
  (13, [.iconst 1, .ireturn]),
  (15, [.iconst 0, .ireturn])]
/-- DriverHostLaw.register(LDriverHost;II[J)I -/
def s_294 : List (Nat × List Instr) := [(0, [.aload 3, .iconst 0, .aload 0, .iload 1, .iload 2, .invokevirtual 126, .i2l, .lastore, .goto 17, .nop]),
  (15, [.iconst 1, .ireturn]),
  (17, [.iconst 0, .ireturn])]
/-- DriverHostLaw.variable(LDriverHost;II[J)I -/
def s_295 : List (Nat × List Instr) := [(0, [.aload 3, .iconst 0, .aload 0, .iload 1, .iload 2, .invokevirtual 127, .i2l, .lastore, .goto 17, .nop]),
  (15, [.iconst 1, .ireturn]),
  (17, [.iconst 0, .ireturn])]
/-- DriverHostLaw.saved(LDriverHost;II[J)I -/
def s_296 : List (Nat × List Instr) := [(0, [.aload 3, .iconst 0, .aload 0, .iload 1, .iload 2, .invokevirtual 128, .i2l, .lastore, .goto 17, .nop]),
  (15, [.iconst 1, .ireturn]),
  (17, [.iconst 0, .ireturn])]
/-- DriverHostLaw.logSize(LDriverHost;I[J)I -/
def s_297 : List (Nat × List Instr) := [(0, [.aload 2, .iconst 0, .aload 0, .iload 1, .invokevirtual 129, .i2l, .lastore, .goto 15, .nop]),
  (13, [.iconst 1, .ireturn]),
  (15, [.iconst 0, .ireturn])]
/-- DriverHostLaw.logged(LDriverHost;II[J)I -/
def s_298 : List (Nat × List Instr) := [(0, [.aload 3, .iconst 0, .aload 0, .iload 1, .iload 2, .invokevirtual 130, .i2l, .lastore, .goto 17, .nop]),
  (15, [.iconst 1, .ireturn]),
  (17, [.iconst 0, .ireturn])]
/-- DriverHostLaw.inFlight(LDriverHost;I[J)I -/
def s_299 : List (Nat × List Instr) := [(0, [.aload 2, .iconst 0, .aload 0, .iload 1, .invokevirtual 131, .i2l, .lastore, .goto 15, .nop]),
  (13, [.iconst 1, .ireturn]),
  (15, [.iconst 0, .ireturn])]
/-- DriverHostLaw.nextRequest(LDriverHost;I[J)I -/
def s_300 : List (Nat × List Instr) := [(0, [.aload 2, .iconst 0, .aload 0, .iload 1, .invokevirtual 132, .i2l, .lastore, .goto 15, .nop]),
  (13, [.iconst 1, .ireturn]),
  (15, [.iconst 0, .ireturn])]
/-- DriverHostLaw.queued(LDriverHost;I[J)I -/
def s_301 : List (Nat × List Instr) := [(0, [.aload 2, .iconst 0, .aload 0, .iload 1, .invokevirtual 133, .i2l, .lastore, .goto 15, .nop]),
  (13, [.iconst 1, .ireturn]),
  (15, [.iconst 0, .ireturn])]
/-- DriverHostLaw.request(LDriverHost;II[J)I -/
def s_302 : List (Nat × List Instr) := [(0, [.aload 3, .iconst 0, .aload 0, .iload 1, .iload 2, .invokevirtual 134, .i2l, .lastore, .goto 17, .nop]),
  (15, [.iconst 1, .ireturn]),
  (17, [.iconst 0, .ireturn])]
/-- DriverHostLaw.record(LDriverHost;II[J)I -/
def s_303 : List (Nat × List Instr) := [(0, [.aload 3, .iconst 0, .aload 0, .iload 1, .iload 2, .invokevirtual 136, .i2l, .lastore, .goto 17, .nop]),
  (15, [.iconst 1, .ireturn]),
  (17, [.iconst 0, .ireturn])]
/-- DriverHostLaw.availability(LDriverHost;I[D)I -/
def s_304 : List (Nat × List Instr) := [(0, [.aload 2, .iconst 0, .aload 0, .iload 1, .invokevirtual 138, .dastore, .goto 14, .nop]),
  (12, [.iconst 1, .ireturn]),
  (14, [.iconst 0, .ireturn])]
/-- DriverHostLaw.meanTime(LDriverHost;I[D)I -/
def s_305 : List (Nat × List Instr) := [(0, [.aload 2, .iconst 0, .aload 0, .iload 1, .invokevirtual 139, .f2d, .dastore, .goto 15, .nop]),
  (13, [.iconst 1, .ireturn]),
  (15, [.iconst 0, .ireturn])]
/-- DriverHostLaw.forecast(LDriverHost;I[J)I -/
def s_306 : List (Nat × List Instr) := [(0, [.aload 2, .iconst 0, .aload 0, .iload 1, .invokevirtual 140, .i2l, .lastore, .goto 15, .nop]),
  (13, [.iconst 1, .ireturn]),
  (15, [.iconst 0, .ireturn])]
/-- DriverHostLaw.bestDelay(LDriverHost;I[J)I -/
def s_307 : List (Nat × List Instr) := [(0, [.aload 2, .iconst 0, .aload 0, .iload 1, .invokevirtual 141, .i2l, .lastore, .goto 15, .nop]),
  (13, [.iconst 1, .ireturn]),
  (15, [.iconst 0, .ireturn])]
/-- DriverHostLaw.decision(LDriverHost;I[J)I -/
def s_308 : List (Nat × List Instr) := [(0, [.aload 2, .iconst 0, .aload 0, .iload 1, .invokevirtual 143, .i2l, .lastore, .goto 15, .nop]),
  (13, [.iconst 1, .ireturn]),
  (15, [.iconst 0, .ireturn])]
/-- DriverHostLaw.query(LDriverHost;I[J)I -/
def s_309 : List (Nat × List Instr) := [(0, [.aload 2, .iconst 0, .aload 0, .iload 1, .invokevirtual 148, .i2l, .lastore, .goto 15, .nop]),
  (13, [.iconst 1, .ireturn]),
  (15, [.iconst 0, .ireturn])]
/-- DriverHostLaw.law([I)Z -/
def s_310 : List (Nat × List Instr) := [(0, [.new 11, .dup, .invokespecial 104, .astore 1, .new 12, .dup, .invokespecial 152, .astore 2, .iconst 1, .newarray .long, .astore 3, .iconst 1, .newarray .double, .astore 4, .iconst 0, .istore 5]),
  (28, [.iload 5, .aload 0, .ldc_w 100, .iconst 6, .isub, .if_icmp .gt 2351, .aload 0, .iload 5, .iaload, .iconst 63, .iand, .tableswitch 2345 0 41 #[228, 301, 357, 370, 383, 396, 409, 422, 478, 534, 638, 694, 774, 830, 886, 942, 1022, 1078, 1134, 1190, 1246, 1314, 1382, 1450, 1506, 1574, 1630, 1686, 1742, 1810, 1823, 1891, 1916, 1993, 2071, 2127, 2183, 2239, 2252, 2265, 2276, 2289]]),
  (228, [.aload 1, .aload 0, .iload 5, .iconst 1, .iadd, .iaload, .aload 0, .iload 5, .iconst 2, .iadd, .iaload, .aload 0, .iload 5, .iconst 3, .iadd, .iaload, .aload 0, .iload 5, .iconst 4, .iadd, .iaload, .aload 0, .iload 5, .iconst 5, .iadd, .iaload, .invokevirtual 105, .aload 2, .aload 0, .iload 5, .iconst 1, .iadd, .iaload, .aload 0, .iload 5, .iconst 2, .iadd, .iaload, .aload 0, .iload 5, .iconst 3, .iadd, .iaload, .aload 0, .iload 5, .iconst 4, .iadd, .iaload, .aload 0, .iload 5, .iconst 5, .iadd, .iaload, .invokevirtual 162, .if_icmp .eq 2345, .iconst 0, .ret 0]),
  (301, [.aload 1, .aload 0, .iload 5, .iconst 1, .iadd, .iaload, .aload 3, .invokestatic 280, .istore 6, .aload 2, .aload 0, .iload 5, .iconst 1, .iadd, .iaload, .invokevirtual 206, .istore 7, .aload 2, .invokevirtual 153, .iload 6, .if_icmp .eq 337, .iconst 0, .ret 0]),
  (337, [.iload 6, .ifCond .ne 354, .aload 3, .iconst 0, .laload, .iload 7, .i2l, .lcmp, .ifCond .eq 354, .iconst 0, .ret 0]),
  (354, [.goto 2345]),
  (357, [.aload 1, .invokevirtual 108, .aload 2, .invokevirtual 163, .if_icmp .eq 2345, .iconst 0, .ret 0]),
  (370, [.aload 1, .invokevirtual 109, .aload 2, .invokevirtual 236, .if_icmp .eq 2345, .iconst 0, .ret 0]),
  (383, [.aload 1, .invokevirtual 110, .aload 2, .invokevirtual 237, .if_icmp .eq 2345, .iconst 0, .ret 0]),
  (396, [.aload 1, .invokevirtual 111, .aload 2, .invokevirtual 238, .if_icmp .eq 2345, .iconst 0, .ret 0]),
  (409, [.aload 1, .invokevirtual 112, .aload 2, .invokevirtual 239, .if_icmp .eq 2345, .iconst 0, .ret 0]),
  (422, [.aload 1, .aload 0, .iload 5, .iconst 1, .iadd, .iaload, .aload 3, .invokestatic 281, .istore 6, .aload 2, .aload 0, .iload 5, .iconst 1, .iadd, .iaload, .invokevirtual 240, .istore 7, .aload 2, .invokevirtual 153, .iload 6, .if_icmp .eq 458, .iconst 0, .ret 0]),
  (458, [.iload 6, .ifCond .ne 475, .aload 3, .iconst 0, .laload, .iload 7, .i2l, .lcmp, .ifCond .eq 475, .iconst 0, .ret 0]),
  (475, [.goto 2345]),
  (478, [.aload 1, .aload 0, .iload 5, .iconst 1, .iadd, .iaload, .aload 3, .invokestatic 282, .istore 6, .aload 2, .aload 0, .iload 5, .iconst 1, .iadd, .iaload, .invokevirtual 241, .istore 7, .aload 2, .invokevirtual 153, .iload 6, .if_icmp .eq 514, .iconst 0, .ret 0]),
  (514, [.iload 6, .ifCond .ne 531, .aload 3, .iconst 0, .laload, .iload 7, .i2l, .lcmp, .ifCond .eq 531, .iconst 0, .ret 0]),
  (531, [.goto 2345]),
  (534, [.aload 1, .aload 0, .iload 5, .iconst 1, .iadd, .iaload, .aload 0, .iload 5, .iconst 2, .iadd, .iaload, .aload 0, .iload 5, .iconst 3, .iadd, .iaload, .aload 0, .iload 5, .iconst 4, .iadd, .iaload, .aload 0, .iload 5, .iconst 5, .iadd, .iaload, .aload 3, .invokestatic 283, .istore 6, .aload 2, .aload 0, .iload 5, .iconst 1, .iadd, .iaload, .aload 0, .iload 5, .iconst 2, .iadd, .iaload, .aload 0, .iload 5, .iconst 3, .iadd, .iaload, .aload 0, .iload 5, .iconst 4, .iadd, .iaload, .aload 0, .iload 5, .iconst 5, .iadd, .iaload, .invokevirtual 262, .istore 7, .aload 2, .invokevirtual 153, .iload 6, .if_icmp .eq 618, .iconst 0, .ret 0]),
  (618, [.iload 6, .ifCond .ne 635, .aload 3, .iconst 0, .laload, .iload 7, .i2l, .lcmp, .ifCond .eq 635, .iconst 0, .ret 0]),
  (635, [.goto 2345]),
  (638, [.aload 1, .aload 0, .iload 5, .iconst 1, .iadd, .iaload, .aload 3, .invokestatic 284, .istore 6, .aload 2, .aload 0, .iload 5, .iconst 1, .iadd, .iaload, .invokevirtual 263, .istore 7, .aload 2, .invokevirtual 153, .iload 6, .if_icmp .eq 674, .iconst 0, .ret 0]),
  (674, [.iload 6, .ifCond .ne 691, .aload 3, .iconst 0, .laload, .iload 7, .i2l, .lcmp, .ifCond .eq 691, .iconst 0, .ret 0]),
  (691, [.goto 2345]),
  (694, [.aload 1, .aload 0, .iload 5, .iconst 1, .iadd, .iaload, .aload 0, .iload 5, .iconst 2, .iadd, .iaload, .aload 0, .iload 5, .iconst 3, .iadd, .iaload, .aload 3, .invokestatic 285, .istore 6, .aload 2, .aload 0, .iload 5, .iconst 1, .iadd, .iaload, .aload 0, .iload 5, .iconst 2, .iadd, .iaload, .aload 0, .iload 5, .iconst 3, .iadd, .iaload, .invokevirtual 264, .istore 7, .aload 2, .invokevirtual 153, .iload 6, .if_icmp .eq 754, .iconst 0, .ret 0]),
  (754, [.iload 6, .ifCond .ne 771, .aload 3, .iconst 0, .laload, .iload 7, .i2l, .lcmp, .ifCond .eq 771, .iconst 0, .ret 0]),
  (771, [.goto 2345]),
  (774, [.aload 1, .aload 0, .iload 5, .iconst 1, .iadd, .iaload, .aload 3, .invokestatic 286, .istore 6, .aload 2, .aload 0, .iload 5, .iconst 1, .iadd, .iaload, .invokevirtual 265, .istore 7, .aload 2, .invokevirtual 153, .iload 6, .if_icmp .eq 810, .iconst 0, .ret 0]),
  (810, [.iload 6, .ifCond .ne 827, .aload 3, .iconst 0, .laload, .iload 7, .i2l, .lcmp, .ifCond .eq 827, .iconst 0, .ret 0]),
  (827, [.goto 2345]),
  (830, [.aload 1, .aload 0, .iload 5, .iconst 1, .iadd, .iaload, .aload 3, .invokestatic 287, .istore 6, .aload 2, .aload 0, .iload 5, .iconst 1, .iadd, .iaload, .invokevirtual 266, .istore 7, .aload 2, .invokevirtual 153, .iload 6, .if_icmp .eq 866, .iconst 0, .ret 0]),
  (866, [.iload 6, .ifCond .ne 883, .aload 3, .iconst 0, .laload, .iload 7, .i2l, .lcmp, .ifCond .eq 883, .iconst 0, .ret 0]),
  (883, [.goto 2345]),
  (886, [.aload 1, .aload 0, .iload 5, .iconst 1, .iadd, .iaload, .aload 3, .invokestatic 288, .istore 6, .aload 2, .aload 0, .iload 5, .iconst 1, .iadd, .iaload, .invokevirtual 267, .istore 7, .aload 2, .invokevirtual 153, .iload 6, .if_icmp .eq 922, .iconst 0, .ret 0]),
  (922, [.iload 6, .ifCond .ne 939, .aload 3, .iconst 0, .laload, .iload 7, .i2l, .lcmp, .ifCond .eq 939, .iconst 0, .ret 0]),
  (939, [.goto 2345]),
  (942, [.aload 1, .aload 0, .iload 5, .iconst 1, .iadd, .iaload, .aload 0, .iload 5, .iconst 2, .iadd, .iaload, .aload 0, .iload 5, .iconst 3, .iadd, .iaload, .aload 3, .invokestatic 289, .istore 6, .aload 2, .aload 0, .iload 5, .iconst 1, .iadd, .iaload, .aload 0, .iload 5, .iconst 2, .iadd, .iaload, .aload 0, .iload 5, .iconst 3, .iadd, .iaload, .invokevirtual 268, .istore 7, .aload 2, .invokevirtual 153, .iload 6, .if_icmp .eq 1002, .iconst 0, .ret 0]),
  (1002, [.iload 6, .ifCond .ne 1019, .aload 3, .iconst 0, .laload, .iload 7, .i2l, .lcmp, .ifCond .eq 1019, .iconst 0, .ret 0]),
  (1019, [.goto 2345]),
  (1022, [.aload 1, .aload 0, .iload 5, .iconst 1, .iadd, .iaload, .aload 3, .invokestatic 290, .istore 6, .aload 2, .aload 0, .iload 5, .iconst 1, .iadd, .iaload, .invokevirtual 269, .istore 7, .aload 2, .invokevirtual 153, .iload 6, .if_icmp .eq 1058, .iconst 0, .ret 0]),
  (1058, [.iload 6, .ifCond .ne 1075, .aload 3, .iconst 0, .laload, .iload 7, .i2l, .lcmp, .ifCond .eq 1075, .iconst 0, .ret 0]),
  (1075, [.goto 2345]),
  (1078, [.aload 1, .aload 0, .iload 5, .iconst 1, .iadd, .iaload, .aload 3, .invokestatic 291, .istore 6, .aload 2, .aload 0, .iload 5, .iconst 1, .iadd, .iaload, .invokevirtual 243, .istore 7, .aload 2, .invokevirtual 153, .iload 6, .if_icmp .eq 1114, .iconst 0, .ret 0]),
  (1114, [.iload 6, .ifCond .ne 1131, .aload 3, .iconst 0, .laload, .iload 7, .i2l, .lcmp, .ifCond .eq 1131, .iconst 0, .ret 0]),
  (1131, [.goto 2345]),
  (1134, [.aload 1, .aload 0, .iload 5, .iconst 1, .iadd, .iaload, .aload 3, .invokestatic 292, .istore 6, .aload 2, .aload 0, .iload 5, .iconst 1, .iadd, .iaload, .invokevirtual 244, .istore 7, .aload 2, .invokevirtual 153, .iload 6, .if_icmp .eq 1170, .iconst 0, .ret 0]),
  (1170, [.iload 6, .ifCond .ne 1187, .aload 3, .iconst 0, .laload, .iload 7, .i2l, .lcmp, .ifCond .eq 1187, .iconst 0, .ret 0]),
  (1187, [.goto 2345]),
  (1190, [.aload 1, .aload 0, .iload 5, .iconst 1, .iadd, .iaload, .aload 3, .invokestatic 293, .istore 6, .aload 2, .aload 0, .iload 5, .iconst 1, .iadd, .iaload, .invokevirtual 245, .istore 7, .aload 2, .invokevirtual 153, .iload 6, .if_icmp .eq 1226, .iconst 0, .ret 0]),
  (1226, [.iload 6, .ifCond .ne 1243, .aload 3, .iconst 0, .laload, .iload 7, .i2l, .lcmp, .ifCond .eq 1243, .iconst 0, .ret 0]),
  (1243, [.goto 2345]),
  (1246, [.aload 1, .aload 0, .iload 5, .iconst 1, .iadd, .iaload, .aload 0, .iload 5, .iconst 2, .iadd, .iaload, .aload 3, .invokestatic 294, .istore 6, .aload 2, .aload 0, .iload 5, .iconst 1, .iadd, .iaload, .aload 0, .iload 5, .iconst 2, .iadd, .iaload, .invokevirtual 246, .istore 7, .aload 2, .invokevirtual 153, .iload 6, .if_icmp .eq 1294, .iconst 0, .ret 0]),
  (1294, [.iload 6, .ifCond .ne 1311, .aload 3, .iconst 0, .laload, .iload 7, .i2l, .lcmp, .ifCond .eq 1311, .iconst 0, .ret 0]),
  (1311, [.goto 2345]),
  (1314, [.aload 1, .aload 0, .iload 5, .iconst 1, .iadd, .iaload, .aload 0, .iload 5, .iconst 2, .iadd, .iaload, .aload 3, .invokestatic 295, .istore 6, .aload 2, .aload 0, .iload 5, .iconst 1, .iadd, .iaload, .aload 0, .iload 5, .iconst 2, .iadd, .iaload, .invokevirtual 247, .istore 7, .aload 2, .invokevirtual 153, .iload 6, .if_icmp .eq 1362, .iconst 0, .ret 0]),
  (1362, [.iload 6, .ifCond .ne 1379, .aload 3, .iconst 0, .laload, .iload 7, .i2l, .lcmp, .ifCond .eq 1379, .iconst 0, .ret 0]),
  (1379, [.goto 2345]),
  (1382, [.aload 1, .aload 0, .iload 5, .iconst 1, .iadd, .iaload, .aload 0, .iload 5, .iconst 2, .iadd, .iaload, .aload 3, .invokestatic 296, .istore 6, .aload 2, .aload 0, .iload 5, .iconst 1, .iadd, .iaload, .aload 0, .iload 5, .iconst 2, .iadd, .iaload, .invokevirtual 248, .istore 7, .aload 2, .invokevirtual 153, .iload 6, .if_icmp .eq 1430, .iconst 0, .ret 0]),
  (1430, [.iload 6, .ifCond .ne 1447, .aload 3, .iconst 0, .laload, .iload 7, .i2l, .lcmp, .ifCond .eq 1447, .iconst 0, .ret 0]),
  (1447, [.goto 2345]),
  (1450, [.aload 1, .aload 0, .iload 5, .iconst 1, .iadd, .iaload, .aload 3, .invokestatic 297, .istore 6, .aload 2, .aload 0, .iload 5, .iconst 1, .iadd, .iaload, .invokevirtual 249, .istore 7, .aload 2, .invokevirtual 153, .iload 6, .if_icmp .eq 1486, .iconst 0, .ret 0]),
  (1486, [.iload 6, .ifCond .ne 1503, .aload 3, .iconst 0, .laload, .iload 7, .i2l, .lcmp, .ifCond .eq 1503, .iconst 0, .ret 0]),
  (1503, [.goto 2345]),
  (1506, [.aload 1, .aload 0, .iload 5, .iconst 1, .iadd, .iaload, .aload 0, .iload 5, .iconst 2, .iadd, .iaload, .aload 3, .invokestatic 298, .istore 6, .aload 2, .aload 0, .iload 5, .iconst 1, .iadd, .iaload, .aload 0, .iload 5, .iconst 2, .iadd, .iaload, .invokevirtual 250, .istore 7, .aload 2, .invokevirtual 153, .iload 6, .if_icmp .eq 1554, .iconst 0, .ret 0]),
  (1554, [.iload 6, .ifCond .ne 1571, .aload 3, .iconst 0, .laload, .iload 7, .i2l, .lcmp, .ifCond .eq 1571, .iconst 0, .ret 0]),
  (1571, [.goto 2345]),
  (1574, [.aload 1, .aload 0, .iload 5, .iconst 1, .iadd, .iaload, .aload 3, .invokestatic 299, .istore 6, .aload 2, .aload 0, .iload 5, .iconst 1, .iadd, .iaload, .invokevirtual 251, .istore 7, .aload 2, .invokevirtual 153, .iload 6, .if_icmp .eq 1610, .iconst 0, .ret 0]),
  (1610, [.iload 6, .ifCond .ne 1627, .aload 3, .iconst 0, .laload, .iload 7, .i2l, .lcmp, .ifCond .eq 1627, .iconst 0, .ret 0]),
  (1627, [.goto 2345]),
  (1630, [.aload 1, .aload 0, .iload 5, .iconst 1, .iadd, .iaload, .aload 3, .invokestatic 300, .istore 6, .aload 2, .aload 0, .iload 5, .iconst 1, .iadd, .iaload, .invokevirtual 252, .istore 7, .aload 2, .invokevirtual 153, .iload 6, .if_icmp .eq 1666, .iconst 0, .ret 0]),
  (1666, [.iload 6, .ifCond .ne 1683, .aload 3, .iconst 0, .laload, .iload 7, .i2l, .lcmp, .ifCond .eq 1683, .iconst 0, .ret 0]),
  (1683, [.goto 2345]),
  (1686, [.aload 1, .aload 0, .iload 5, .iconst 1, .iadd, .iaload, .aload 3, .invokestatic 301, .istore 6, .aload 2, .aload 0, .iload 5, .iconst 1, .iadd, .iaload, .invokevirtual 253, .istore 7, .aload 2, .invokevirtual 153, .iload 6, .if_icmp .eq 1722, .iconst 0, .ret 0]),
  (1722, [.iload 6, .ifCond .ne 1739, .aload 3, .iconst 0, .laload, .iload 7, .i2l, .lcmp, .ifCond .eq 1739, .iconst 0, .ret 0]),
  (1739, [.goto 2345]),
  (1742, [.aload 1, .aload 0, .iload 5, .iconst 1, .iadd, .iaload, .aload 0, .iload 5, .iconst 2, .iadd, .iaload, .aload 3, .invokestatic 302, .istore 6, .aload 2, .aload 0, .iload 5, .iconst 1, .iadd, .iaload, .aload 0, .iload 5, .iconst 2, .iadd, .iaload, .invokevirtual 255, .istore 7, .aload 2, .invokevirtual 153, .iload 6, .if_icmp .eq 1790, .iconst 0, .ret 0]),
  (1790, [.iload 6, .ifCond .ne 1807, .aload 3, .iconst 0, .laload, .iload 7, .i2l, .lcmp, .ifCond .eq 1807, .iconst 0, .ret 0]),
  (1807, [.goto 2345]),
  (1810, [.aload 1, .invokevirtual 135, .aload 2, .invokevirtual 256, .if_icmp .eq 2345, .iconst 0, .ret 0]),
  (1823, [.aload 1, .aload 0, .iload 5, .iconst 1, .iadd, .iaload, .aload 0, .iload 5, .iconst 2, .iadd, .iaload, .aload 3, .invokestatic 303, .istore 6, .aload 2, .aload 0, .iload 5, .iconst 1, .iadd, .iaload, .aload 0, .iload 5, .iconst 2, .iadd, .iaload, .invokevirtual 257, .istore 7, .aload 2, .invokevirtual 153, .iload 6, .if_icmp .eq 1871, .iconst 0, .ret 0]),
  (1871, [.iload 6, .ifCond .ne 1888, .aload 3, .iconst 0, .laload, .iload 7, .i2l, .lcmp, .ifCond .eq 1888, .iconst 0, .ret 0]),
  (1888, [.goto 2345]),
  (1891, [.aload 1, .aload 0, .iload 5, .iconst 1, .iadd, .iaload, .invokevirtual 137, .aload 2, .aload 0, .iload 5, .iconst 1, .iadd, .iaload, .invokevirtual 258, .if_icmp .eq 2345, .iconst 0, .ret 0]),
  (1916, [.aload 1, .aload 0, .iload 5, .iconst 1, .iadd, .iaload, .aload 4, .invokestatic 304, .istore 6, .aload 2, .aload 0, .iload 5, .iconst 1, .iadd, .iaload, .invokevirtual 259, .dstore 7, .aload 2, .invokevirtual 153, .iload 6, .if_icmp .eq 1953, .iconst 0, .ret 0]),
  (1953, [.iload 6, .ifCond .ne 1990, .aload 4, .iconst 0, .daload, .dload 7, .dcmp .l, .ifCond .eq 1990, .aload 4, .iconst 0, .daload, .aload 4, .iconst 0, .daload, .dcmp .l, .ifCond .eq 1988, .dload 7, .dload 7, .dcmp .l, .ifCond .ne 1990]),
  (1988, [.iconst 0, .ret 0]),
  (1990, [.goto 2345]),
  (1993, [.aload 1, .aload 0, .iload 5, .iconst 1, .iadd, .iaload, .aload 4, .invokestatic 305, .istore 6, .aload 2, .aload 0, .iload 5, .iconst 1, .iadd, .iaload, .invokevirtual 260, .fstore 7, .aload 2, .invokevirtual 153, .iload 6, .if_icmp .eq 2030, .iconst 0, .ret 0]),
  (2030, [.iload 6, .ifCond .ne 2068, .aload 4, .iconst 0, .daload, .fload 7, .f2d, .dcmp .l, .ifCond .eq 2068, .aload 4, .iconst 0, .daload, .aload 4, .iconst 0, .daload, .dcmp .l, .ifCond .eq 2066, .fload 7, .fload 7, .fcmp .l, .ifCond .ne 2068]),
  (2066, [.iconst 0, .ret 0]),
  (2068, [.goto 2345]),
  (2071, [.aload 1, .aload 0, .iload 5, .iconst 1, .iadd, .iaload, .aload 3, .invokestatic 306, .istore 6, .aload 2, .aload 0, .iload 5, .iconst 1, .iadd, .iaload, .invokevirtual 274, .istore 7, .aload 2, .invokevirtual 153, .iload 6, .if_icmp .eq 2107, .iconst 0, .ret 0]),
  (2107, [.iload 6, .ifCond .ne 2124, .aload 3, .iconst 0, .laload, .iload 7, .i2l, .lcmp, .ifCond .eq 2124, .iconst 0, .ret 0]),
  (2124, [.goto 2345]),
  (2127, [.aload 1, .aload 0, .iload 5, .iconst 1, .iadd, .iaload, .aload 3, .invokestatic 307, .istore 6, .aload 2, .aload 0, .iload 5, .iconst 1, .iadd, .iaload, .invokevirtual 275, .istore 7, .aload 2, .invokevirtual 153, .iload 6, .if_icmp .eq 2163, .iconst 0, .ret 0]),
  (2163, [.iload 6, .ifCond .ne 2180, .aload 3, .iconst 0, .laload, .iload 7, .i2l, .lcmp, .ifCond .eq 2180, .iconst 0, .ret 0]),
  (2180, [.goto 2345]),
  (2183, [.aload 1, .aload 0, .iload 5, .iconst 1, .iadd, .iaload, .aload 3, .invokestatic 308, .istore 6, .aload 2, .aload 0, .iload 5, .iconst 1, .iadd, .iaload, .invokevirtual 276, .istore 7, .aload 2, .invokevirtual 153, .iload 6, .if_icmp .eq 2219, .iconst 0, .ret 0]),
  (2219, [.iload 6, .ifCond .ne 2236, .aload 3, .iconst 0, .laload, .iload 7, .i2l, .lcmp, .ifCond .eq 2236, .iconst 0, .ret 0]),
  (2236, [.goto 2345]),
  (2239, [.aload 1, .invokevirtual 144, .aload 2, .invokevirtual 270, .if_icmp .eq 2345, .iconst 0, .ret 0]),
  (2252, [.aload 1, .invokevirtual 145, .aload 2, .invokevirtual 271, .if_icmp .eq 2345, .iconst 0, .ret 0]),
  (2265, [.aload 1, .invokevirtual 146, .aload 2, .invokevirtual 272, .goto 2345]),
  (2276, [.aload 1, .invokevirtual 147, .aload 2, .invokevirtual 273, .if_icmp .eq 2345, .iconst 0, .ret 0]),
  (2289, [.aload 1, .aload 0, .iload 5, .iconst 1, .iadd, .iaload, .aload 3, .invokestatic 309, .istore 6, .aload 2, .aload 0, .iload 5, .iconst 1, .iadd, .iaload, .invokevirtual 279, .istore 7, .aload 2, .invokevirtual 153, .iload 6, .if_icmp .eq 2325, .iconst 0, .ret 0]),
  (2325, [.iload 6, .ifCond .ne 2342, .aload 3, .iconst 0, .laload, .iload 7, .i2l, .lcmp, .ifCond .eq 2342, .iconst 0, .ret 0]),
  (2342, [.goto 2345]),
  (2345, [.iinc 5 6, .goto 28]),
  (2351, [.iconst 1, .ret 0])]
def p_segs : List (List (Nat × List Instr)) := [s_0, s_1, s_2, s_3, s_4, s_5, s_6, s_7, s_8, s_9, s_10, s_11, s_12, s_13, s_14, s_15, s_16, s_17, s_18, s_19, s_20, s_21, s_22, s_23, s_24, s_25, s_26, s_27, s_28, s_29, s_30, s_31, s_32, s_33, s_34, s_35, s_36, s_37, s_38, s_39, s_40, s_41, s_42, s_43, s_44, s_45, s_46, s_47, s_48, s_49, s_50, s_51, s_52, s_53, s_54, s_55, s_56, s_57, s_58, s_59, s_60, s_61, s_62, s_63, s_64, s_65, s_66, s_67, s_68, s_69, s_70, s_71, s_72, s_73, s_74, s_75, s_76, s_77, s_78, s_79, s_80, s_81, s_82, s_83, s_84, s_85, s_86, s_87, s_88, s_89, s_90, s_91, s_92, s_93, s_94, s_95, s_96, s_97, s_98, s_99, s_100, s_101, s_102, s_103, s_104, s_105, s_106, s_107, s_108, s_109, s_110, s_111, s_112, s_113, s_114, s_115, s_116, s_117, s_118, s_119, s_120, s_121, s_122, s_123, s_124, s_125, s_126, s_127, s_128, s_129, s_130, s_131, s_132, s_133, s_134, s_135, s_136, s_137, s_138, s_139, s_140, s_141, s_142, s_143, s_144, s_145, s_146, s_147, s_148, s_149, s_150, s_151, s_152, s_153, s_154, s_155, s_156, s_157, s_158, s_159, s_160, s_161, s_162, s_163, s_164, s_165, s_166, s_167, s_168, s_169, s_170, s_171, s_172, s_173, s_174, s_175, s_176, s_177, s_178, s_179, s_180, s_181, s_182, s_183, s_184, s_185, s_186, s_187, s_188, s_189, s_190, s_191, s_192, s_193, s_194, s_195, s_196, s_197, s_198, s_199, s_200, s_201, s_202, s_203, s_204, s_205, s_206, s_207, s_208, s_209, s_210, s_211, s_212, s_213, s_214, s_215, s_216, s_217, s_218, s_219, s_220, s_221, s_222, s_223, s_224, s_225, s_226, s_227, s_228, s_229, s_230, s_231, s_232, s_233, s_234, s_235, s_236, s_237, s_238, s_239, s_240, s_241, s_242, s_243, s_244, s_245, s_246, s_247, s_248, s_249, s_250, s_251, s_252, s_253, s_254, s_255, s_256, s_257, s_258, s_259, s_260, s_261, s_262, s_263, s_264, s_265, s_266, s_267, s_268, s_269, s_270, s_271, s_272, s_273, s_274, s_275, s_276, s_277, s_278, s_279, s_280, s_281, s_282, s_283, s_284, s_285, s_286, s_287, s_288, s_289, s_290, s_291, s_292, s_293, s_294, s_295, s_296, s_297, s_298, s_299, s_300, s_301, s_302, s_303, s_304, s_305, s_306, s_307, s_308, s_309, s_310]
def p_nas : List Nat := [2, 3, 4, 2, 3, 1, 2, 2, 2, 2, 2, 2, 3, 3, 2, 2, 1, 1, 1, 1, 1, 2, 2, 1, 2, 5, 3, 2, 2, 2, 2, 4, 1, 1, 2, 2, 3, 1, 1, 2, 2, 4, 1, 1, 1, 1, 1, 1, 1, 1, 1, 2, 4, 2, 1, 1, 2, 3, 2, 3, 3, 1, 2, 3, 3, 1, 1, 1, 1, 1, 1, 1, 2, 2, 1, 2, 3, 2, 2, 2, 2, 1, 3, 2, 2, 2, 2, 2, 2, 2, 3, 3, 3, 3, 4, 2, 2, 2, 2, 2, 3, 4, 3, 4, 1, 6, 2, 2, 1, 1, 1, 1, 1, 2, 2, 6, 2, 4, 2, 2, 2, 4, 2, 2, 2, 2, 3, 3, 3, 2, 3, 2, 2, 2, 3, 1, 3, 2, 2, 2, 2, 2, 1, 2, 1, 1, 1, 1, 2, 2, 2, 3, 1, 1, 3, 3, 2, 1, 1, 1, 2, 2, 6, 1, 2, 1, 1, 1, 1, 1, 2, 2, 1, 2, 2, 2, 2, 3, 1, 1, 1, 1, 1, 2, 2, 2, 2, 1, 1, 3, 2, 1, 1, 1, 1, 1, 2, 1, 1, 1, 1, 1, 2, 5, 1, 1, 2, 3, 1, 2, 5, 7, 3, 4, 3, 3, 3, 5, 4, 3, 4, 2, 2, 3, 4, 3, 3, 3, 3, 3, 3, 3, 2, 2, 2, 2, 1, 1, 1, 1, 2, 2, 2, 2, 2, 2, 3, 3, 3, 2, 3, 2, 2, 2, 2, 3, 1, 3, 2, 2, 2, 1, 6, 2, 4, 2, 2, 2, 4, 2, 1, 1, 1, 1, 2, 2, 2, 3, 2, 2, 3, 3, 3, 7, 3, 5, 3, 3, 3, 5, 3, 3, 3, 3, 4, 4, 4, 3, 4, 3, 3, 3, 4, 4, 3, 3, 3, 3, 3, 3, 1]
def p_nls : List Nat := [2, 3, 8, 2, 3, 1, 2, 2, 2, 2, 2, 2, 3, 3, 2, 2, 2, 1, 1, 1, 1, 3, 3, 1, 2, 6, 4, 2, 2, 3, 2, 4, 2, 1, 2, 2, 4, 2, 2, 3, 3, 6, 2, 2, 2, 1, 2, 2, 3, 2, 1, 2, 4, 2, 1, 1, 2, 3, 2, 3, 3, 3, 3, 3, 5, 1, 1, 1, 1, 1, 1, 1, 2, 2, 1, 2, 4, 3, 3, 2, 2, 1, 4, 4, 2, 4, 5, 5, 4, 6, 4, 5, 4, 4, 4, 2, 2, 2, 4, 4, 4, 4, 3, 7, 1, 6, 3, 3, 1, 1, 1, 1, 1, 2, 2, 8, 3, 6, 3, 3, 4, 6, 3, 2, 3, 2, 3, 3, 3, 2, 4, 2, 2, 2, 3, 1, 3, 2, 3, 3, 5, 7, 1, 3, 1, 1, 1, 1, 3, 5, 4, 3, 1, 1, 6, 3, 2, 2, 3, 2, 3, 3, 6, 1, 2, 1, 1, 1, 1, 1, 2, 2, 1, 3, 3, 2, 2, 4, 1, 1, 1, 1, 1, 3, 3, 2, 2, 2, 1, 3, 3, 1, 4, 2, 1, 1, 2, 2, 1, 2, 1, 3, 2, 7, 3, 1, 2, 3, 1, 2, 5, 9, 3, 4, 4, 4, 4, 6, 5, 4, 5, 3, 4, 5, 5, 4, 5, 5, 4, 3, 6, 3, 3, 2, 2, 2, 1, 1, 1, 1, 2, 2, 2, 2, 2, 2, 3, 3, 3, 2, 3, 2, 2, 4, 2, 4, 1, 3, 2, 2, 5, 2, 8, 2, 5, 2, 2, 3, 5, 4, 1, 2, 1, 1, 3, 7, 3, 3, 4, 5, 4, 4, 4, 8, 4, 6, 4, 4, 4, 6, 4, 4, 4, 4, 5, 5, 5, 4, 5, 4, 4, 4, 5, 5, 4, 4, 4, 4, 4, 4, 9]
def p_rcs : List Nat := [0, 0, 0, 999, 999, 1, 2, 2, 2, 2, 2, 2, 2, 2, 2, 2, 2, 2, 2, 3, 3, 3, 3, 4, 4, 4, 4, 4, 5, 5, 5, 6, 6, 6, 6, 6, 6, 6, 6, 6, 6, 6, 6, 6, 6, 6, 6, 6, 6, 6, 6, 7, 7, 7, 7, 7, 7, 7, 7, 7, 8, 8, 8, 8, 8, 999, 999, 8, 8, 8, 8, 8, 8, 8, 8, 8, 8, 10, 10, 10, 10, 10, 10, 10, 10, 10, 10, 10, 10, 10, 10, 10, 10, 10, 10, 10, 10, 10, 10, 10, 10, 10, 10, 10, 11, 11, 11, 11, 11, 11, 11, 11, 11, 11, 11, 11, 11, 11, 11, 11, 11, 11, 11, 11, 11, 11, 11, 11, 11, 11, 11, 11, 11, 11, 11, 11, 11, 11, 11, 11, 11, 11, 11, 11, 11, 11, 11, 11, 11, 11, 11, 999, 12, 12, 999, 12, 999, 12, 999, 12, 999, 12, 12, 12, 12, 999, 999, 12, 12, 12, 12, 12, 12, 12, 12, 12, 12, 12, 12, 12, 12, 12, 12, 12, 12, 12, 12, 12, 999, 12, 12, 12, 12, 12, 12, 999, 12, 12, 12, 12, 12, 12, 12, 12, 12, 12, 12, 999, 999, 12, 999, 12, 999, 999, 12, 12, 12, 12, 12, 12, 12, 999, 12, 12, 12, 12, 12, 12, 12, 999, 12, 12, 12, 12, 12, 12, 12, 12, 12, 12, 12, 12, 12, 12, 12, 12, 12, 12, 12, 12, 12, 12, 12, 12, 12, 12, 12, 12, 12, 12, 12, 12, 12, 12, 12, 12, 12, 12, 12, 12, 12, 12, 12, 12, 12, 12, 12, 12, 12, 12, 999, 999, 999, 999, 999, 999, 999, 999, 999, 999, 999, 999, 999, 999, 999, 999, 999, 999, 999, 999, 999, 999, 999, 999, 999, 999, 999, 999, 999, 999, 999]
def p_fks : List (List Nat) := [[1, 1, 0, 1], [0, 0, 0, 0, 0, 0, 0, 0], [0, 0, 0, 0, 0, 1, 1, 1, 0, 0, 0, 0, 0, 0, 0, 0], [1, 0, 0], [1, 1, 1, 1, 1, 0, 0], [0, 0, 1, 0, 0, 0, 0, 0, 0, 0, 1], [1, 3, 1, 1, 3, 0, 0], [0, 0, 0, 0, 0, 0, 0, 0, 0, 0, 0, 0, 0, 0, 0, 0], [1, 0, 1, 1, 1, 1, 1, 0, 0, 0, 0], [], [1, 0, 0, 0, 1, 1, 1], [1, 0, 0, 1, 1, 1, 3, 1], [0, 1, 1, 1, 1, 1, 1, 1, 1, 1, 1, 1, 1, 1, 1, 1, 3, 0, 1, 0, 0, 0, 0, 0, 0, 2, 0, 0, 1, 1, 1, 0, 0, 0, 0, 3, 0]]
def p_nfs : List Nat := [4, 8, 16, 3, 7, 11, 7, 16, 11, 0, 7, 8, 37]
def p_hds : List (Nat × Nat × Nat × Nat) := [(280, 1, 3, 13), (281, 0, 3, 13), (282, 0, 3, 13), (283, 0, 7, 21), (283, 1, 7, 25), (284, 0, 3, 13), (285, 0, 5, 17), (285, 1, 5, 21), (286, 0, 3, 13), (287, 0, 3, 13), (288, 0, 3, 13), (289, 0, 5, 17), (289, 1, 5, 21), (290, 1, 3, 13), (291, 0, 3, 13), (292, 0, 3, 13), (293, 0, 3, 13), (294, 0, 4, 15), (295, 0, 4, 15), (296, 0, 4, 15), (297, 0, 3, 13), (298, 0, 4, 15), (299, 0, 3, 13), (300, 0, 3, 13), (301, 0, 3, 13), (302, 0, 4, 15), (303, 0, 4, 15), (304, 0, 3, 12), (305, 0, 3, 13), (306, 0, 3, 13), (307, 1, 3, 13), (308, 0, 3, 13), (309, 1, 3, 13)]
def p_hhs : List (List (Nat × Nat × Nat × Nat)) := [[], [], [], [], [], [], [], [], [], [], [], [], [], [], [], [], [], [], [], [], [], [], [], [], [], [], [], [], [], [], [], [], [], [], [], [], [], [], [], [], [], [], [], [], [], [], [], [], [], [], [], [], [], [], [], [], [], [], [], [], [], [], [], [], [], [], [], [], [], [], [], [], [], [], [], [], [], [], [], [], [], [], [], [], [], [], [], [], [], [], [], [], [], [], [], [], [], [], [], [], [], [], [], [], [], [], [], [], [], [], [], [], [], [], [], [], [], [], [], [], [], [], [], [], [], [], [], [], [], [], [], [], [], [], [], [], [], [], [], [], [], [], [], [], [], [], [], [], [], [], [], [], [], [], [], [], [], [], [], [], [], [], [], [], [], [], [], [], [], [], [], [], [], [], [], [], [], [], [], [], [], [], [], [], [], [], [], [], [], [], [], [], [], [], [], [], [], [], [], [], [], [], [], [], [], [], [], [], [], [], [], [], [], [], [], [], [], [], [], [], [], [], [], [], [], [], [], [], [], [], [], [], [], [], [], [], [], [], [], [], [], [], [], [], [], [], [], [], [], [], [], [], [], [], [], [], [], [], [], [], [], [], [], [], [], [], [], [], [], [], [], [], [], [], [], [], [], [], [], [], [(0, 9, 12, 13)], [(0, 9, 12, 18)], [(0, 9, 12, 18)], [(0, 16, 19, 18), (0, 16, 23, 13)], [(0, 9, 12, 18)], [(0, 12, 15, 18), (0, 12, 19, 13)], [(0, 9, 12, 18)], [(0, 9, 12, 18)], [(0, 9, 12, 18)], [(0, 12, 15, 18), (0, 12, 19, 13)], [(0, 9, 12, 13)], [(0, 9, 12, 18)], [(0, 9, 12, 18)], [(0, 9, 12, 18)], [(0, 10, 13, 18)], [(0, 10, 13, 18)], [(0, 10, 13, 18)], [(0, 9, 12, 18)], [(0, 10, 13, 18)], [(0, 9, 12, 18)], [(0, 9, 12, 18)], [(0, 9, 12, 18)], [(0, 10, 13, 18)], [(0, 10, 13, 18)], [(0, 8, 11, 18)], [(0, 9, 12, 18)], [(0, 9, 12, 18)], [(0, 9, 12, 13)], [(0, 9, 12, 18)], [(0, 9, 12, 13)], []]
def p_ys : List MethodName := [yX0_init, yX0_add, yX0_execute, yX0_cellAt, yX0_join, yX1_init, yX2_init, yX2_copyFrom, yX2_registerAt, yX2_variableAt, yX2_snapshotAt, yX2_logAt, yX2_store, yX2_present, yX2_addToLog, yX2_goDown, yX2_clearVariables, yX2_saveVariables, yX2_restoreVariables, yX3_init, yX3_clear, yX3_remember, yX3_takeBack, yX4_init, yX4_copyFrom, yX4_add, yX4_valueAt, yX4_totalOf, yX5_init, yX5_commandAt, yX5_addCommand, yX6_init, yX6_readText, yX6_readQuery, yX6_takeWord, yX6_takeSign, yX6_takeNumber, yX6_readClause, yX6_readCommand, yX6_readName, yX6_readClass, yX6_readStores, yX6_readTest, yX6_readConjunction, yX6_readFactor, yX6_opens, yX6_takeComparison, yX6_readProperty, yX6_readSum, yX6_readProduct, yX6_readOperand, yX7_init, yX7_startAnew, yX7_copyFrom, yX7_isOver, yX7_deadline, yX7_takesCrash, yX7_end, yX7_valueOf, yX7_propertyOf, yX8_init, yX8_scan, yX8_endOf, yX8_add, yX8_numberOf, yX8_isLetter, yX8_isDigit, yX8_advance, yX8_atEnd, yX8_word, yX8_number, yX8_isNumber, yX8_isSign, yX8_isWord, yX8_isName, yX8_refuse, yX8_areSame, yX10_init, yX10_copyFrom, yX10_driverAt, yX10_requestAt, yX10_completions, yX10_addRequest, yX10_pass, yX10_step, yX10_restart, yX10_decide, yX10_failLate, yX10_begin, yX10_nextOf, yX10_work, yX10_doEffect, yX10_resultNow, yX10_doKeepings, yX10_complete, yX10_snapshot, yX10_crash, yX10_strike, yX10_die, yX10_delayFor, yX10_fail, yX10_enqueue, yX10_leaveQueue, yX10_matches, yX11_init, yX11_feed, yX11_append, yX11_load, yX11_errorPosition, yX11_driverCount, yX11_commandCount, yX11_requestCount, yX11_clock, yX11_classOf, yX11_timeOf, yX11_submit, yX11_cancel, yX11_plan, yX11_kill, yX11_replace, yX11_takeSnapshot, yX11_poke, yX11_run, yX11_driverState, yX11_downUntil, yX11_streak, yX11_register, yX11_variable, yX11_saved, yX11_logSize, yX11_logged, yX11_inFlight, yX11_nextRequest, yX11_queued, yX11_request, yX11_recordCount, yX11_record, yX11_total, yX11_availability, yX11_meanTime, yX11_forecast, yX11_bestDelay, yX11_freshTrial, yX11_decision, yX11_undoCount, yX11_undo, yX11_saveState, yX11_restoreState, yX11_query, yX11_countMatches, yX11_firstMatch, yX11_isWithin, yX12_init, yX12_thrown, yX12_in, yX12_fails, yX12_lesser, yX12_standard, yX12_shifts, yX12_takesOver, yX12_copy, yX12_lays, yX12_feed, yX12_errorPosition, yX12_byteAt, yX12_isLetter, yX12_isFigure, yX12_readsWord, yX12_readsNumber, yX12_next, yX12_starts, yX12_wrongs, yX12_isGood, yX12_isWord, yX12_passes, yX12_isByte, yX12_must, yX12_number, yX12_isClauseWord, yX12_isInnerWord, yX12_classHere, yX12_propertyHere, yX12_isName, yX12_isNamed, yX12_nameRead, yX12_adds, yX12_goesIn, yX12_operandRead, yX12_rank, yX12_sumSettles, yX12_hasBracket, yX12_operatorHere, yX12_sumRead, yX12_valueRead, yX12_sideRead, yX12_strength, yX12_settles, yX12_isInside, yX12_isOpening, yX12_comparisonRead, yX12_closes, yX12_testRead, yX12_classRead, yX12_storesRead, yX12_commandClause, yX12_clause, yX12_load, yX12_joined, yX12_cut, yX12_reckons, yX12_factOf, yX12_goesThrough, yX12_of, yX12_sets, yX12_isTrue, yX12_resultOf, yX12_keepsIn, yX12_notes, yX12_endsBadly, yX12_snaps, yX12_endsWell, yX12_loses, yX12_delayOf, yX12_crashes, yX12_decides, yX12_restarts, yX12_nextOf, yX12_dropsLate, yX12_begins, yX12_isPlanned, yX12_goesOn, yX12_ticksOf, yX12_tick, yX12_isDriver, yX12_isCommand, yX12_isRequest, yX12_driverCount, yX12_commandCount, yX12_requestCount, yX12_clock, yX12_classOf, yX12_timeOf, yX12_noDriver, yX12_driverState, yX12_downUntil, yX12_streak, yX12_register, yX12_variable, yX12_saved, yX12_logSize, yX12_logged, yX12_inFlight, yX12_nextRequest, yX12_queued, yX12_noRequest, yX12_request, yX12_recordCount, yX12_record, yX12_total, yX12_availability, yX12_meanTime, yX12_records, yX12_submit, yX12_cancel, yX12_plan, yX12_kill, yX12_replace, yX12_takeSnapshot, yX12_poke, yX12_run, yX12_undoCount, yX12_undo, yX12_saveState, yX12_restoreState, yX12_forecast, yX12_bestDelay, yX12_decision, yX12_propertyOf, yX12_holds, yX12_query, yL_load, yL_classOf, yL_timeOf, yL_submit, yL_cancel, yL_plan, yL_kill, yL_replace, yL_takeSnapshot, yL_poke, yL_run, yL_driverState, yL_downUntil, yL_streak, yL_register, yL_variable, yL_saved, yL_logSize, yL_logged, yL_inFlight, yL_nextRequest, yL_queued, yL_request, yL_record, yL_availability, yL_meanTime, yL_forecast, yL_bestDelay, yL_decision, yL_query, yL_law]
def p_bs : List ByteArray := [cX0_init, cX0_add, cX0_execute, cX0_cellAt, cX0_join, cX1_init, cX2_init, cX2_copyFrom, cX2_registerAt, cX2_variableAt, cX2_snapshotAt, cX2_logAt, cX2_store, cX2_present, cX2_addToLog, cX2_goDown, cX2_clearVariables, cX2_saveVariables, cX2_restoreVariables, cX3_init, cX3_clear, cX3_remember, cX3_takeBack, cX4_init, cX4_copyFrom, cX4_add, cX4_valueAt, cX4_totalOf, cX5_init, cX5_commandAt, cX5_addCommand, cX6_init, cX6_readText, cX6_readQuery, cX6_takeWord, cX6_takeSign, cX6_takeNumber, cX6_readClause, cX6_readCommand, cX6_readName, cX6_readClass, cX6_readStores, cX6_readTest, cX6_readConjunction, cX6_readFactor, cX6_opens, cX6_takeComparison, cX6_readProperty, cX6_readSum, cX6_readProduct, cX6_readOperand, cX7_init, cX7_startAnew, cX7_copyFrom, cX7_isOver, cX7_deadline, cX7_takesCrash, cX7_end, cX7_valueOf, cX7_propertyOf, cX8_init, cX8_scan, cX8_endOf, cX8_add, cX8_numberOf, cX8_isLetter, cX8_isDigit, cX8_advance, cX8_atEnd, cX8_word, cX8_number, cX8_isNumber, cX8_isSign, cX8_isWord, cX8_isName, cX8_refuse, cX8_areSame, cX10_init, cX10_copyFrom, cX10_driverAt, cX10_requestAt, cX10_completions, cX10_addRequest, cX10_pass, cX10_step, cX10_restart, cX10_decide, cX10_failLate, cX10_begin, cX10_nextOf, cX10_work, cX10_doEffect, cX10_resultNow, cX10_doKeepings, cX10_complete, cX10_snapshot, cX10_crash, cX10_strike, cX10_die, cX10_delayFor, cX10_fail, cX10_enqueue, cX10_leaveQueue, cX10_matches, cX11_init, cX11_feed, cX11_append, cX11_load, cX11_errorPosition, cX11_driverCount, cX11_commandCount, cX11_requestCount, cX11_clock, cX11_classOf, cX11_timeOf, cX11_submit, cX11_cancel, cX11_plan, cX11_kill, cX11_replace, cX11_takeSnapshot, cX11_poke, cX11_run, cX11_driverState, cX11_downUntil, cX11_streak, cX11_register, cX11_variable, cX11_saved, cX11_logSize, cX11_logged, cX11_inFlight, cX11_nextRequest, cX11_queued, cX11_request, cX11_recordCount, cX11_record, cX11_total, cX11_availability, cX11_meanTime, cX11_forecast, cX11_bestDelay, cX11_freshTrial, cX11_decision, cX11_undoCount, cX11_undo, cX11_saveState, cX11_restoreState, cX11_query, cX11_countMatches, cX11_firstMatch, cX11_isWithin, cX12_init, cX12_thrown, cX12_in, cX12_fails, cX12_lesser, cX12_standard, cX12_shifts, cX12_takesOver, cX12_copy, cX12_lays, cX12_feed, cX12_errorPosition, cX12_byteAt, cX12_isLetter, cX12_isFigure, cX12_readsWord, cX12_readsNumber, cX12_next, cX12_starts, cX12_wrongs, cX12_isGood, cX12_isWord, cX12_passes, cX12_isByte, cX12_must, cX12_number, cX12_isClauseWord, cX12_isInnerWord, cX12_classHere, cX12_propertyHere, cX12_isName, cX12_isNamed, cX12_nameRead, cX12_adds, cX12_goesIn, cX12_operandRead, cX12_rank, cX12_sumSettles, cX12_hasBracket, cX12_operatorHere, cX12_sumRead, cX12_valueRead, cX12_sideRead, cX12_strength, cX12_settles, cX12_isInside, cX12_isOpening, cX12_comparisonRead, cX12_closes, cX12_testRead, cX12_classRead, cX12_storesRead, cX12_commandClause, cX12_clause, cX12_load, cX12_joined, cX12_cut, cX12_reckons, cX12_factOf, cX12_goesThrough, cX12_of, cX12_sets, cX12_isTrue, cX12_resultOf, cX12_keepsIn, cX12_notes, cX12_endsBadly, cX12_snaps, cX12_endsWell, cX12_loses, cX12_delayOf, cX12_crashes, cX12_decides, cX12_restarts, cX12_nextOf, cX12_dropsLate, cX12_begins, cX12_isPlanned, cX12_goesOn, cX12_ticksOf, cX12_tick, cX12_isDriver, cX12_isCommand, cX12_isRequest, cX12_driverCount, cX12_commandCount, cX12_requestCount, cX12_clock, cX12_classOf, cX12_timeOf, cX12_noDriver, cX12_driverState, cX12_downUntil, cX12_streak, cX12_register, cX12_variable, cX12_saved, cX12_logSize, cX12_logged, cX12_inFlight, cX12_nextRequest, cX12_queued, cX12_noRequest, cX12_request, cX12_recordCount, cX12_record, cX12_total, cX12_availability, cX12_meanTime, cX12_records, cX12_submit, cX12_cancel, cX12_plan, cX12_kill, cX12_replace, cX12_takeSnapshot, cX12_poke, cX12_run, cX12_undoCount, cX12_undo, cX12_saveState, cX12_restoreState, cX12_forecast, cX12_bestDelay, cX12_decision, cX12_propertyOf, cX12_holds, cX12_query, cL_load, cL_classOf, cL_timeOf, cL_submit, cL_cancel, cL_plan, cL_kill, cL_replace, cL_takeSnapshot, cL_poke, cL_run, cL_driverState, cL_downUntil, cL_streak, cL_register, cL_variable, cL_saved, cL_logSize, cL_logged, cL_inFlight, cL_nextRequest, cL_queued, cL_request, cL_record, cL_availability, cL_meanTime, cL_forecast, cL_bestDelay, cL_decision, cL_query, cL_law]
def p_tts : List (Option FieldType) := [none, none, (some .int), (some .int), (some .int), none, none, none, (some .int), (some .int), (some .int), (some .int), none, none, none, none, none, none, none, none, none, none, (some .int), none, none, none, (some .int), (some .int), none, (some (.object "DriverHost$Command")), none, none, none, none, none, none, (some .int), none, none, none, none, none, none, none, none, (some .boolean), (some .int), none, none, none, none, none, none, none, (some .boolean), (some .int), (some .boolean), none, (some .int), (some .int), none, none, (some .int), none, (some .int), (some .boolean), (some .boolean), none, (some .boolean), (some (.object "DriverHost$Word")), (some .int), (some .boolean), (some .boolean), (some .boolean), (some .boolean), none, (some .boolean), none, none, (some (.object "DriverHost$Driver")), (some (.object "DriverHost$Request")), (some .int), (some (.object "DriverHost$Request")), none, none, none, (some .int), none, none, (some .int), none, (some .int), (some .int), none, none, none, none, none, none, (some .int), none, none, none, (some .boolean), none, (some .int), none, (some .int), (some .int), (some .int), (some .int), (some .int), (some .int), (some .int), (some .int), (some .int), (some .int), (some .int), (some .int), (some .int), (some .int), (some .int), (some .int), (some .int), (some .int), (some .int), (some .int), (some .int), (some .int), (some .int), (some .int), (some .int), (some .int), (some .int), (some .int), (some .int), (some .int), (some .int), (some .double), (some .float), (some .int), (some .int), (some (.object "DriverHost$World")), (some .int), (some .int), (some .int), none, (some .boolean), (some .int), (some .int), (some .int), (some .boolean), none, (some .int), (some .boolean), (some .boolean), (some .int), none, none, none, none, none, (some .int), (some .int), (some .int), (some .boolean), (some .boolean), none, none, none, none, (some .boolean), (some .boolean), (some .boolean), (some .boolean), (some .boolean), none, (some .int), (some .boolean), (some .boolean), (some .int), (some .int), (some .boolean), (some .boolean), none, none, (some .boolean), none, (some .int), none, (some .boolean), (some .int), none, none, none, (some .int), none, (some .boolean), (some .boolean), none, none, none, none, none, none, none, (some .int), (some .int), (some .int), (some .boolean), (some .int), (some .int), (some .int), none, (some .boolean), (some .int), none, none, none, none, none, none, (some .int), none, none, none, (some .int), none, none, (some .boolean), none, none, none, (some .boolean), (some .boolean), (some .boolean), (some .int), (some .int), (some .int), (some .int), (some .int), (some .int), (some .boolean), (some .int), (some .int), (some .int), (some .int), (some .int), (some .int), (some .int), (some .int), (some .int), (some .int), (some .int), (some .boolean), (some .int), (some .int), (some .int), (some .int), (some .double), (some .float), none, (some .int), (some .int), (some .int), (some .int), (some .int), (some .int), (some .int), (some .int), (some .int), (some .int), none, (some .boolean), (some .int), (some .int), (some .int), (some .int), (some .boolean), (some .int), (some .int), (some .int), (some .int), (some .int), (some .int), (some .int), (some .int), (some .int), (some .int), (some .int), (some .int), (some .int), (some .int), (some .int), (some .int), (some .int), (some .int), (some .int), (some .int), (some .int), (some .int), (some .int), (some .int), (some .int), (some .int), (some .int), (some .int), (some .int), (some .int), (some .int), (some .boolean)]
def p_ins : List Bool := [true, false, false, false, false, true, true, false, false, false, false, false, false, false, false, false, false, false, false, true, false, false, false, true, false, false, false, false, true, false, false, true, false, false, false, false, false, false, false, false, false, false, false, false, false, false, false, false, false, false, false, true, false, false, false, false, false, false, false, false, true, false, false, false, false, false, false, false, false, false, false, false, false, false, false, false, false, true, false, false, false, false, false, false, false, false, false, false, false, false, false, false, false, false, false, false, false, false, false, false, false, false, false, false, true, false, false, false, false, false, false, false, false, false, false, false, false, false, false, false, false, false, false, false, false, false, false, false, false, false, false, false, false, false, false, false, false, false, false, false, false, false, false, false, false, false, false, false, false, false, false, false, true, false, false, false, false, false, false, false, false, false, false, false, false, false, false, false, false, false, false, false, false, false, false, false, false, false, false, false, false, false, false, false, false, false, false, false, false, false, false, false, false, false, false, false, false, false, false, false, false, false, false, false, false, false, false, false, false, false, false, false, false, false, false, false, false, false, false, false, false, false, false, false, false, false, false, false, false, false, false, false, false, false, false, false, false, false, false, false, false, false, false, false, false, false, false, false, false, false, false, false, false, false, false, false, false, false, false, false, false, false, false, false, false, false, false, false, false, false, false, false, false, false, false, false, false, false, false, false, false, false, false, false, false, false, false, false, false, false, false, false, false, false, false, false, false, false, false, false, false, false, false, false, false, false, false, false, false, false, false]
def p_hd (z x : Nat) : Option (Nat × Nat) := (p_hds.find? (fun q => q.1 == z && q.2.1 == x)).map (fun q => q.2.2)
def p_P (L : Nat) (xs : Nat → Int32) : m_P := (fun z t => m_tgl (p_segs.getD z []) t, fun z => p_nas.getD z 0, fun z => p_nls.getD z 0, fun ci k => (p_fks.getD ci []).getD k 0, fun ci => p_nfs.getD ci 0, p_hd, fun _ _ => 0, fun z => p_rcs.getD z 999, fun _ _ _ _ => none, L, xs)
def p_Y (z : Nat) : MethodName := p_ys.getD z yX0_init
def p_B (z : Nat) : ByteArray := p_bs.getD z cX0_init
def p_TT (z : Nat) : Option FieldType := p_tts.getD z none
def p_INI (z : Nat) : Bool := p_ins.getD z false
def p_HH (z : Nat) : List (Nat × Nat × Nat × Nat) := p_hhs.getD z []
def p_TG (z t : Nat) : Prop := m_tgb (p_segs.getD z []) t = true
abbrev p_NM : Nat := 311
abbrev p_LAW : Nat := 310
def p_G : List Cond := (Cond.code x code maxLocals ret :: lw_tbl).filter goodWord
theorem inG_t {w : Cond} (i : Nat) (h : tables_1[i]? = some w) (hg : goodWord w = true) : w ∈ p_G := List.mem_filter.mpr ⟨List.mem_cons_of_mem _ (List.mem_append_right _ (List.mem_of_getElem? h)), hg⟩
theorem inG_s {w : Cond} (i : Nat) (h : (k2_sels lw_privs)[i]? = some w) (hg : goodWord w = true) : w ∈ p_G := List.mem_filter.mpr ⟨List.mem_cons_of_mem _ (List.mem_append_left _ (List.mem_of_getElem? h)), hg⟩
theorem inG_l : Cond.code x code maxLocals ret ∈ p_G := List.mem_filter.mpr ⟨List.mem_cons_self, by decide +kernel⟩
theorem p_good : ∀ w ∈ p_G, goodWord w = true := fun w h => (List.mem_filter.mp h).2
end
