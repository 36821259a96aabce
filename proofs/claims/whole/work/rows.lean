section
/-! ===== BEGIN words of one list among another's, by their places ===== -/
theorem goodIn_r {big : List Cond} (ws : List Cond) (ps : List Nat) (hp : ws = ps.filterMap (fun i => big[i]?)) (h : ws.all goodWord = true) : GoodIn big ws := by
  intro w hw
  have h1 := List.all_eq_true.mp h w hw
  rw [hp] at hw
  obtain ⟨i, -, hi⟩ := List.mem_filterMap.mp hw
  have hm : w ∈ big := by first | exact List.mem_of_getElem? hi | exact List.getElem?_mem hi
  exact ⟨hm, good_of_word h1⟩
theorem goodIn_app {big a b : List Cond} (ha : GoodIn big a) (hb : GoodIn big b) : GoodIn big (a ++ b) := fun w h => (List.mem_append.mp h).elim (ha w) (hb w)
theorem goodIn_ca {big a b : List Cond} {c : Cond} (ha : GoodIn big (c :: a)) (hb : GoodIn big b) : GoodIn big (c :: (a ++ b)) := fun w h => (List.mem_cons.mp h).elim (fun e => ha w (List.mem_cons.mpr (Or.inl e))) (fun h => (List.mem_append.mp h).elim (fun h => ha w (List.mem_cons.mpr (Or.inr h))) (hb w))
theorem goodIn_sub {big ws : List Cond} (hm : ∀ w ∈ ws, w ∈ big) (h : ws.all goodWord = true) : GoodIn big ws := fun w hw => ⟨hm w hw, good_of_word (List.all_eq_true.mp h w hw)⟩
/-! ===== END ===== -/
/-! ===== BEGIN exceptions that leave a method, and their catching by the caller (launches without stack traces) ===== -/
section VXA
/-! The laws vx_back, vx_callV, vx_callS, vx_callSW, vx_throw0, vx_throwS follow proofs of the library, with one case more: JvmDerived/Free/Laws.lean (Back.of_free), Shelf42/LK1.lean (callV, callS), Shelf/KitTraced.lean (throwNew0V, throwNewS). -/
/-- where a method has thrown q: the class by its name, the cell, what was written, the world -/
def vx_T (XC : String → State → State → Prop) (st : State) (q : Addr) (t : State) (mc ms : Nat) (free : Addr → Prop) : Prop :=
  ∃ (E : String) (ce : Cell) (L : List Loc), XC E st t ∧ t.heap[q]? = some ce ∧ ce.vm = .none ∧ st.vm.findClass E = some ce.cls ∧ st.WarmedH t.vm ∧ st.sameButNew ({ t with vm := st.vm } : State) L mc ms ∧ ∀ z ∈ L, free z.base
def vx_Q (Qc : Array Value → State → Outcome → State → Prop) (XC : String → State → State → Prop) (mc ms : Nat) (free : Addr → Prop) : Array Value → State → Outcome → State → Prop := fun a st o t =>
  (Qc a st o t ∧ ∃ L, FrameEnd st o t L mc ms ∧ ∀ q ∈ L, free q.base) ∨ ∃ q, o = .threw q ∧ vx_T XC st q t mc ms free
/-- a callee that returns or throws -/
def vx_Met (l : Launch) (y : MethodName) (ws : List Cond) (rm : Room) (Pc : Array Value → State → Prop) (Qc : Array Value → State → Outcome → State → Prop) (XC : String → State → State → Prop) (mc ms : Nat) (free : Addr → Prop) : Prop :=
  MetFree l y (headSpec ws rm) Pc (fun _ _ _ _ _ => True) (vx_Q Qc XC mc ms free)
def vx_Post (XC : String → State → State → Prop) (mc ms : Nat) (free : Addr → Prop) : Pt → Array Value → Addr → Pt → Prop := fun A a q B =>
  ∃ (g : JFrame) (mk : MethodId) (t : State) (L : List Loc) (E : String) (ce : Cell), B.U.heap = t.heap ∧ B.U.vm = t.vm ∧ XC E (A.U.calling g mk a) t ∧ t.heap[q]? = some ce ∧ ce.vm = .none ∧ A.U.vm.findClass E = some ce.cls ∧ B.locs = A.locs ++ L ∧ (∀ z ∈ L, free z.base) ∧ B.cells = A.cells + mc ∧ B.slots = A.slots + ms
def vx_Back (l : Launch) (R : Room) (p : Program) (e : Env) (below : List Frame) (s : State) (sargs : Array Value) (y : MethodName) (len W9 : Nat)
    (Pre : Pt → Array Value → Prop) (Post : Pt → Array Value → Option Value → Pt → Prop) (PostX : Pt → Array Value → Addr → Pt → Prop) : Prop :=
  ∀ (m : MethodId) (meth : Method) (c : Code) (A : Pt) (g : JFrame) (ig : Instr) (mk : MethodId) (a : Array Value),
    Stand p l e R s m sargs below meth c A.U A.locs A.cells A.slots → g.method = m → g.locals.size = c.maxLocals → decode c.code g.pc = .ok (ig, len) →
    2 * g.monitorRoom + (g.stack.map fun v => v.category).sum ≤ W9 → A.U.methodNamed? y = some mk → Pre A a →
    (∃ (v : Option Value) (B : Pt), Stand p l e R s m sargs below meth c B.U B.locs B.cells B.slots ∧ Post A a v B ∧
      Steps p.tables e below (doInvoke e (A.U.setTop g) [] mk a).1 (B.U.setTop { g with pc := g.pc + len, stack := v.toList ++ g.stack })) ∨
    (∃ (q : Addr) (B : Pt), Stand p l e R s m sargs below meth c B.U B.locs B.cells B.slots ∧ PostX A a q B ∧
      Steps p.tables e below (doInvoke e (A.U.setTop g) [] mk a).1 ((B.U.setTop g).pushFrame (.throwing q)))
section Payer
variable {l : Launch} {R : Room} {p : Program} {e : Env} {below : List Frame} {s : State} {sargs : Array Value} {y : MethodName} {len W9 : Nat}
theorem vx_back {ws : List Cond} {rm : Room} {Pc : Array Value → State → Prop} {Qc : Array Value → State → Outcome → State → Prop} {XC : String → State → State → Prop} {mc ms : Nat} {free : Addr → Prop} {bytes : ByteArray} {maxL : Nat} {ret : Option FieldType}
    (hM : vx_Met l y ws rm Pc Qc XC mc ms free) (hblind : FrameBlind Pc) (hrc : rm.cells = mc) (hrs : rm.slots = ms)
    (hframes : rm.frames + 1 ≤ R.frames) (hlocals : W9 + (maxL + 11) + rm.locals ≤ R.locals)
    (hws : ∀ w ∈ ws, ∀ a' U, s.WarmedH U.vm → w.before a' U = true) (hcode : Cond.code y bytes maxL ret ∈ ws) (hinit : ∀ a' U, s.WarmedH U.vm → (Cond.initialized y.cls).before a' U = true) :
    vx_Back l R p e below s sargs y len W9 (PreOf R mc ms Pc) (PostOf Qc mc ms free) (vx_Post XC mc ms free) := by
  intro m meth c A g ig mk a X hg hsize hdg hW hn hp
  have h1 : (headSpec ws rm).pre.before a A.U = true := atoms_intro fun w hw => hws w hw _ _ X.warmed
  have h2 : (Cond.code y bytes maxL ret).before a A.U = true := hws _ hcode _ _ X.warmed
  have h3 : (Cond.initialized y.cls).before a A.U = true := hinit _ _ X.warmed
  have h4 : A.cells + (headSpec ws rm).room.cells ≤ R.cells := by rw [show (headSpec ws rm).room.cells = mc from hrc]; exact hp.1
  have h5 : A.slots + (headSpec ws rm).room.slots ≤ R.slots := by rw [show (headSpec ws rm).room.slots = ms from hrs]; exact hp.2.1
  have hPc : Pc a (A.U.calling g mk a) := hblind _ _ _ _ hp.2.2
  obtain ⟨U, Ls, c0, s0⟩ := A
  dsimp only [Pt.U, Pt.locs, Pt.cells, Pt.slots] at h1 h2 h3 h4 h5 X hn hPc ⊢
  obtain ⟨methY, cY, hmY, hcY, -, hlY, -, -, -, -⟩ := Cond.code_spec hn h2
  obtain ⟨kY, hkY, -⟩ := className_of_methodNamed hn
  have hinitY : kY.init = .initialized := Cond.initialized_spec (findClass_of_methodNamed hn) hkY h3
  have h : At U g.method c below := by rw [hg]; exact X.here
  have hlocals9 : W9 + (maxL + 11) + (headSpec ws rm).room.locals ≤ R.locals := hlocals
  have happ : (headSpec ws rm).appliesLoose y e.platform (U.calling g mk a) = true :=
    Spec.appliesLoose_calling (g := g) h hdg hn hkY hinitY
      (X.room_calling (g := g) (R' := (headSpec ws rm).room) hsize hmY hcY hframes (by rw [hlY]; omega) h4 h5) h1
  obtain ⟨mid, hmid⟩ := h.above
  have hfr : (U.setTop g).frames = (.java g :: mid) ++ below := by rw [State.frames_setTop' g h.top, hmid]; rfl
  obtain ⟨o, s₂, hsteps, -, hend, hq⟩ := Steps.callFree hM p X.admits X.cas X.clock (acts := []) hfr happ hPc trivial
  have hq' : vx_Q Qc XC mc ms free a (U.calling g mk a) o s₂ := hq
  rw [State.frames_setTop' g h.top] at hend
  obtain ⟨g₀, hg0⟩ := Option.isSome_iff_exists.mp h.top
  obtain ⟨r, hr⟩ := State.topJava?_eq_some.mp hg0
  have hr' : (({ U with heap := s₂.heap, slotsUsed := s₂.slotsUsed } : State).setVm s₂.vm).frames = .java g₀ :: r := hr
  rcases hq' with ⟨hqc, L, hfe, hL⟩ | ⟨q, rfl, E, ce, L, hx, hce, hcv, hcl, hW₂, hsm, hL⟩
  · obtain ⟨⟨v, rfl⟩, hW₂, e2, q2, q3, q4, q5, q6⟩ := id hfe
    have e3 : s₂ = ({ (U.calling g mk a).setFrames s₂.frames with heap := s₂.heap, slotsUsed := s₂.slotsUsed } : State).setVm s₂.vm := by
      have : s₂ = ({ s₂ with vm := (U.calling g mk a).vm } : State).setVm s₂.vm := rfl
      rw [e2] at this
      exact this
    obtain ⟨c₂, i₂, len₂, hc₂, hd₂, hf₂⟩ := hend
    have hW' : U.WarmedH s₂.vm := hW₂
    have hcc : c₂ = c := by
      have h1 : s₂.code? g.method = U.code? g.method := by
        rw [State.code?_eq, State.code?_eq, hW'.alike.method?]
      exact Option.some.inj (hc₂.symm.trans (h1.trans h.code))
    subst hcc
    have hlen : len₂ = len := by rw [hdg] at hd₂; cases hd₂; rfl
    subst hlen
    have hs₂ : s₂ = (({ U with heap := s₂.heap, slotsUsed := s₂.slotsUsed } : State).setVm s₂.vm).setTop { g with pc := g.pc + len₂, stack := v.toList ++ g.stack } := by
      refine e3.trans ?_
      rw [hf₂, State.calling_eq h.top, State.setFrames_setFrames, State.setTop_of_frames _ hr', hr]
      rfl
    have hsame : U.sameButNew ({ U with heap := s₂.heap, slotsUsed := s₂.slotsUsed } : State) L mc ms := by
      refine ⟨?_, q2, q3, q4, q5, q6⟩
      obtain ⟨t, ht, -⟩ := State.frames_cons hr
      show ({ U with heap := s₂.heap, slotsUsed := s₂.slotsUsed } : State) = { U.setFrames U.frames with heap := s₂.heap, slotsUsed := s₂.slotsUsed }
      rw [State.setFrames_self ht]
    subst hg
    refine Or.inl ⟨v, ⟨(({ U with heap := s₂.heap, slotsUsed := s₂.slotsUsed } : State).setVm s₂.vm), Ls ++ L, c0 + mc, s0 + ms⟩,
      ⟨X.admits, X.cas, X.clock, X.frames, X.room, X.hears, X.method, X.code, (X.here.setHeapUsed s₂.heap s₂.slotsUsed).setVm hW'.alike, X.tail, State.WarmedH.trans X.warmed hW', X.limits, X.bytes, X.same.trans (hsame.setVm s.vm)⟩,
      ⟨g, mk, s₂, L, rfl, rfl, hqc, rfl, hL, rfl, rfl⟩, ?_⟩
    show Steps p.tables e below _ ((({ U with heap := s₂.heap, slotsUsed := s₂.slotsUsed } : State).setVm s₂.vm).setTop { g with pc := g.pc + len₂, stack := v.toList ++ g.stack })
    rw [← hs₂]
    exact hsteps
  · obtain ⟨e2, q2, q3, q4, q5, q6⟩ := id hsm
    have e3 : s₂ = ({ (U.calling g mk a).setFrames s₂.frames with heap := s₂.heap, slotsUsed := s₂.slotsUsed } : State).setVm s₂.vm := by
      have : s₂ = ({ s₂ with vm := (U.calling g mk a).vm } : State).setVm s₂.vm := rfl
      rw [e2] at this
      exact this
    have hf₂ : s₂.frames = .throwing q :: .java g :: U.frames.tail := hend
    have hW' : U.WarmedH s₂.vm := hW₂
    have hs₂ : s₂ = ((({ U with heap := s₂.heap, slotsUsed := s₂.slotsUsed } : State).setVm s₂.vm).setTop g).pushFrame (.throwing q) := by
      refine e3.trans ?_
      rw [hf₂, State.calling_eq h.top, State.setFrames_setFrames, State.pushFrame, State.frames_setTop _ hr', State.setTop_of_frames _ hr', State.setFrames_setFrames, hr]
      rfl
    have hsame : U.sameButNew ({ U with heap := s₂.heap, slotsUsed := s₂.slotsUsed } : State) L mc ms := by
      refine ⟨?_, q2, q3, q4, q5, q6⟩
      obtain ⟨t, ht, -⟩ := State.frames_cons hr
      show ({ U with heap := s₂.heap, slotsUsed := s₂.slotsUsed } : State) = { U.setFrames U.frames with heap := s₂.heap, slotsUsed := s₂.slotsUsed }
      rw [State.setFrames_self ht]
    subst hg
    refine Or.inr ⟨q, ⟨(({ U with heap := s₂.heap, slotsUsed := s₂.slotsUsed } : State).setVm s₂.vm), Ls ++ L, c0 + mc, s0 + ms⟩,
      ⟨X.admits, X.cas, X.clock, X.frames, X.room, X.hears, X.method, X.code, (X.here.setHeapUsed s₂.heap s₂.slotsUsed).setVm hW'.alike, X.tail, State.WarmedH.trans X.warmed hW', X.limits, X.bytes, X.same.trans (hsame.setVm s.vm)⟩,
      ⟨g, mk, s₂, L, E, ce, rfl, rfl, hx, hce, hcv, hcl, rfl, hL, rfl, rfl⟩, ?_⟩
    show Steps p.tables e below _ (((({ U with heap := s₂.heap, slotsUsed := s₂.slotsUsed } : State).setVm s₂.vm).setTop g).pushFrame (.throwing q))
    rw [← hs₂]
    exact hsteps
end Payer
section Calls
variable {p : Program} {l : Launch} {e : Env} {R : Room} {s : State} {m : MethodId} {args : Array Value} {below : List Frame} {meth : Method} {c : Code} {T : State} {locs : List Loc} {cells slots : Nat}
theorem vx_callV (X : Stand p l e R s m args below meth c T locs cells slots) (hexec : p.tables.exec = Jvm.exec) {own C : String} {index : Nat} {y : MethodName} {bytes : ByteArray} {maxL : Nat} {ret : Option FieldType}
    (hown : s.vm.findClass own = some m.cls) (hlink : (Cond.methodLink own index y).before args s = true) (hinst : (Cond.instanceMethod y).before args s = true) (hsel : (Cond.selects C y y).before args s = true)
    (hcode : (Cond.code y bytes maxL ret).before args s = true) (hy : y.cls ≠ "java/lang/invoke/MethodHandle" ∧ y.cls ≠ "java/lang/invoke/VarHandle")
    {W9 : Nat} {Pre : Pt → Array Value → Prop} {Post : Pt → Array Value → Option Value → Pt → Prop} {PostX : Pt → Array Value → Addr → Pt → Prop} (hK : vx_Back l R p e below s args y 3 W9 Pre Post PostX)
    {b : Addr} {cellB : Cell} (hcell : T.heap[b]? = some cellB) (hobj : cellB.vm.isStatics = false) (hcls : s.vm.findClass C = some cellB.cls)
    {g : JFrame} (hg : g.method = m) (hsize : g.locals.size = c.maxLocals) {argsL rest : List Value} (hlen : ∀ sig, parseMethodDescriptor y.desc = some sig → argsL.length = sig.parameters.length)
    (hstack : g.stack = argsL.reverse ++ .ref b :: rest) (hW : 2 * g.monitorRoom + (rest.map fun v => v.category).sum ≤ W9) (hdg : decode c.code g.pc = .ok (.invokevirtual index, 3))
    (hpre : ∀ vm₁, s.WarmedH vm₁ → Pre ⟨T.setVm vm₁, locs, cells, slots⟩ (Value.ref b :: argsL).toArray) :
    (∃ (v : Option Value) (vm₁ : Vm) (B : Pt), s.WarmedH vm₁ ∧ Stand p l e R s m args below meth c B.U B.locs B.cells B.slots ∧ Post ⟨T.setVm vm₁, locs, cells, slots⟩ (Value.ref b :: argsL).toArray v B ∧
      ∀ target, Steps p.tables e below (B.U.setTop { g with pc := g.pc + 3, stack := v.toList ++ rest }) target → Steps p.tables e below (T.setTop g) target) ∨
    (∃ (q : Addr) (vm₁ : Vm) (B : Pt), s.WarmedH vm₁ ∧ Stand p l e R s m args below meth c B.U B.locs B.cells B.slots ∧ PostX ⟨T.setVm vm₁, locs, cells, slots⟩ (Value.ref b :: argsL).toArray q B ∧
      Steps p.tables e below (T.setTop g) ((B.U.setTop { g with stack := rest }).pushFrame (.throwing q))) := by
  obtain ⟨mk, methM, hnamed, hmethM, hstM, habM⟩ := Cond.instanceMethod_spec hinst
  obtain ⟨methM', cM, hmethM', -, -, -, -, -, -, hsigM⟩ := Cond.code_spec hnamed hcode
  cases hmethM.symm.trans hmethM'
  obtain ⟨c2, r2, m2, q1, q2, q3, q4, kP, hkP, hkPi⟩ := Cond.selects_spec hsel
  cases hcls.symm.trans q1
  cases (State.methodFound?_of_named hnamed hy).symm.trans q2
  cases hnamed.symm.trans q3
  have hselP : selectMethod e.platform s.vm cellB.cls mk = .method mk := by rw [Launch.admits_selectMethod X.admits]; exact q4
  obtain ⟨vm₁, X₁, hstep₁⟩ := X.invokevirtual hexec hown hlink hnamed hmethM hstM hkP hkPi hy (a := b) (cell := cellB) hcell
    (fun z h => by rw [h] at hobj; cases hobj) hselP hmethM habM hkP hkPi (g := g) hg (argsL := argsL) (rest := rest) (hlen _ hsigM) hstack hdg
  rcases hK m meth c ⟨T.setVm vm₁, locs, cells, slots⟩ { g with stack := rest } (.invokevirtual index) mk (Value.ref b :: argsL).toArray X₁ hg hsize hdg hW (X₁.named hnamed) (hpre vm₁ X₁.warmed) with ⟨v, B, X', hpost, hsteps⟩ | ⟨q, B, X', hpost, hsteps⟩
  · exact Or.inl ⟨v, vm₁, B, X₁.warmed, X', hpost, fun target h => hstep₁ _ fun acts => by rw [doInvoke_state]; exact hsteps.trans h⟩
  · exact Or.inr ⟨q, vm₁, B, X₁.warmed, X', hpost, hstep₁ _ fun acts => by rw [doInvoke_state]; exact hsteps⟩
theorem vx_callS (X : Stand p l e R s m args below meth c T locs cells slots) (hexec : p.tables.exec = Jvm.exec) {own : String} {index : Nat} {y : MethodName} {bytes : ByteArray} {maxL : Nat} {ret : Option FieldType}
    (hown : s.vm.findClass own = some m.cls) (hlink : (Cond.methodLink own index y).before args s = true) (hstat : (Cond.static y).before args s = true) (hinit : (Cond.initialized y.cls).before args s = true)
    (hcode : (Cond.code y bytes maxL ret).before args s = true) (hy : y.cls ≠ "java/lang/invoke/MethodHandle" ∧ y.cls ≠ "java/lang/invoke/VarHandle")
    {W9 : Nat} {Pre : Pt → Array Value → Prop} {Post : Pt → Array Value → Option Value → Pt → Prop} {PostX : Pt → Array Value → Addr → Pt → Prop} (hK : vx_Back l R p e below s args y 3 W9 Pre Post PostX)
    {g : JFrame} (hg : g.method = m) (hsize : g.locals.size = c.maxLocals) {argsL rest : List Value} (hlen : ∀ sig, parseMethodDescriptor y.desc = some sig → argsL.length = sig.parameters.length)
    (hstack : g.stack = argsL.reverse ++ rest) (hW : 2 * g.monitorRoom + (rest.map fun v => v.category).sum ≤ W9) (hdg : decode c.code g.pc = .ok (.invokestatic index, 3))
    (hpre : ∀ vm₁, s.WarmedH vm₁ → Pre ⟨T.setVm vm₁, locs, cells, slots⟩ argsL.toArray) :
    (∃ (v : Option Value) (vm₁ : Vm) (B : Pt), s.WarmedH vm₁ ∧ Stand p l e R s m args below meth c B.U B.locs B.cells B.slots ∧ Post ⟨T.setVm vm₁, locs, cells, slots⟩ argsL.toArray v B ∧
      ∀ target, Steps p.tables e below (B.U.setTop { g with pc := g.pc + 3, stack := v.toList ++ rest }) target → Steps p.tables e below (T.setTop g) target) ∨
    (∃ (q : Addr) (vm₁ : Vm) (B : Pt), s.WarmedH vm₁ ∧ Stand p l e R s m args below meth c B.U B.locs B.cells B.slots ∧ PostX ⟨T.setVm vm₁, locs, cells, slots⟩ argsL.toArray q B ∧
      Steps p.tables e below (T.setTop g) ((B.U.setTop { g with stack := rest }).pushFrame (.throwing q))) := by
  obtain ⟨mk, hnamed⟩ := Cond.code_named hcode
  obtain ⟨methM, cM, hmethM, -, -, -, -, -, -, hsigM⟩ := Cond.code_spec hnamed hcode
  have hstatic : methM.isStatic = true := Cond.static_spec hnamed hmethM hstat
  obtain ⟨kP, hkP, -⟩ := className_of_methodNamed hnamed
  have hinitP : kP.init = .initialized := Cond.initialized_spec (findClass_of_methodNamed hnamed) hkP hinit
  obtain ⟨vm₁, X₁, hstep₁⟩ := X.invokestatic hexec hown hlink hnamed hmethM hstatic hkP hinitP hy (g := g) hg (argsL := argsL) (rest := rest) (hlen _ hsigM) hstack hdg
  rcases hK m meth c ⟨T.setVm vm₁, locs, cells, slots⟩ { g with stack := rest } (.invokestatic index) mk argsL.toArray X₁ hg hsize hdg hW (X₁.named hnamed) (hpre vm₁ X₁.warmed) with ⟨v, B, X', hpost, hsteps⟩ | ⟨q, B, X', hpost, hsteps⟩
  · exact Or.inl ⟨v, vm₁, B, X₁.warmed, X', hpost, fun target h => hstep₁ _ fun acts => by rw [doInvoke_state]; exact hsteps.trans h⟩
  · exact Or.inr ⟨q, vm₁, B, X₁.warmed, X', hpost, hstep₁ _ fun acts => by rw [doInvoke_state]; exact hsteps⟩
end Calls
theorem vx_cls {s : State} {T : State} {vm₁ : Vm} {E : String} {k : ClassId} (hW : s.WarmedH vm₁) (h : (T.setVm vm₁).vm.findClass E = some k) : s.vm.findClass E = some k := by
  have h1 : vm₁.findClass E = some k := h
  rw [hW.alike.findClass] at h1
  exact h1
/-- the method's frame g, with q thrown over it -/
def vx_W (p : Program) (l : Launch) (e : Env) (R : Room) (s : State) (m : MethodId) (args : Array Value) (below : List Frame) (meth : Method) (c : Code) (H : Heap) (locs : List Loc) (cells slots : Nat) (Q : State → Prop) (g : JFrame) (q : Addr) : Prop :=
  ∀ T : State, T.heap = H → Stand p l e R s m args below meth c T locs cells slots → ∃ t, Steps p.tables e below ((T.setTop g).pushFrame (.throwing q)) t ∧ Q t
def vx_Run (p : Program) (l : Launch) (e : Env) (R : Room) (s : State) (m : MethodId) (args : Array Value) (below : List Frame) (meth : Method) (c : Code) (H : Heap) (locs : List Loc) (cells slots mc ms : Nat) (g : JFrame) (rest : List Value) (Qa : State → Outcome → State → Prop) (XC : String → State → State → Prop) (free : Addr → Prop) : Prop :=
  ∀ T : State, T.heap = H → Stand p l e R s m args below meth c T locs cells slots →
    (∃ (v : Option Value) (st₀ t T' : State) (L : List Loc), st₀.heap = H ∧ Stand p l e R s m args below meth c T' (locs ++ L) (cells + mc) (slots + ms) ∧ (∀ q ∈ L, free q.base) ∧ T'.heap = t.heap ∧ T'.vm = t.vm ∧ Qa st₀ (.returned v) t ∧
      Goes p e below T g T' { g with pc := g.pc + 3, stack := v.toList ++ rest }) ∨
    (∃ (q : Addr) (st₀ t T' : State) (L : List Loc) (E : String) (ce : Cell), st₀.heap = H ∧ Stand p l e R s m args below meth c T' (locs ++ L) (cells + mc) (slots + ms) ∧ (∀ z ∈ L, free z.base) ∧ T'.heap = t.heap ∧ T'.vm = t.vm ∧ XC E st₀ t ∧ t.heap[q]? = some ce ∧ ce.vm = .none ∧ s.vm.findClass E = some ce.cls ∧
      Steps p.tables e below (T.setTop g) ((T'.setTop { g with stack := rest }).pushFrame (.throwing q)))
def vx_X {S : Type} (px : S → Prop) (B : String → S → State → Prop) (A : Nat → Prop) : String → State → State → Prop := fun E st t => ∃ u : S, px u ∧ B E u t ∧ va_F A st t
section Runs
variable {p : Program} {l : Launch} {e : Env} {R : Room} {s : State} {m : MethodId} {args : Array Value} {below : List Frame} {meth : Method} {c : Code} {H : Heap} {locs : List Loc} {cells slots : Nat}
variable {y : MethodName} {bytes cc : ByteArray} {maxL nL mc ms n index : Nat} {ret : Option FieldType} {ws : List Cond} {rm : Room} {Pc : Array Value → State → Prop} {Qc : Array Value → State → Outcome → State → Prop} {XC : String → State → State → Prop} {free : Addr → Prop} {Ts : List Cond} {own C : String} {b : Addr} {As rest : List Value} {g : JFrame}
theorem vx_callBack (cb : CallB R s args own index y bytes maxL ret ws rm mc ms n) (hM : vx_Met l y ws rm Pc Qc XC mc ms free) (hbl : FrameBlind Pc) : vx_Back l R p e below s args y 3 8 (PreOf R mc ms Pc) (PostOf Qc mc ms free) (vx_Post XC mc ms free) := by
  obtain ⟨hrc, hrs, hfr, hlo, hws, hcw, -, hini, -⟩ := cb
  exact vx_back (bytes := bytes) (maxL := maxL) (ret := ret) hM hbl hrc hrs hfr hlo hws hcw (fun a' U hW => word_at hW (Or.inl (by first | rfl | simp [Cond.onTables, Cond.keeps, Cond.steady])) hini)
theorem vx_runV (S : CallFix p m c cc nL s args Ts own) (hM : vx_Met l y ws rm Pc Qc XC mc ms free) (cw : CallW R s args own C index y bytes maxL ret ws rm mc ms n) (hp : PreV s H C b Pc As)
    (hg : g.method = m) (hn : As.length = n) (hsize : g.locals.size = nL) (hstack : g.stack = As.reverse ++ .ref b :: rest) (hW : 2 * g.monitorRoom + (rest.map fun v => v.category).sum ≤ 8) (hdg : decode cc g.pc = .ok (.invokevirtual index, 3)) (hf : cells + mc ≤ R.cells ∧ slots + ms ≤ R.slots) :
    vx_Run p l e R s m args below meth c H locs cells slots mc ms g rest (Qc (Value.ref b :: As).toArray) XC free := by
  have hK : vx_Back l R p e below s args y 3 8 (PreOf R mc ms Pc) (PostOf Qc mc ms free) (vx_Post XC mc ms free) := vx_callBack cw.1 hM hp.1
  obtain ⟨⟨-, -, -, -, -, -, hcode, -, hy, hlen, hl⟩, hin, hse⟩ := cw
  obtain ⟨hx, hb, hml, ho, -⟩ := S
  obtain ⟨-, ⟨cellB, hcB, hoB, hclB⟩, hPc⟩ := hp
  intro T hT X
  rcases vx_callV X hx (C := C) (bytes := bytes) (maxL := maxL) (ret := ret) ho hl hin hse hcode hy hK (by rw [hT]; exact hcB) hoB hclB hg (hsize.trans hml.symm) (argsL := As) (rest := rest) (fun sig h => hn.trans (hlen sig h)) hstack hW (by rw [hb]; exact hdg)
    (fun vm₁ hW₁ => ⟨hf.1, hf.2, hPc (T.setVm vm₁) hT hW₁⟩) with ⟨v, vm₁, ⟨U', l2, c2, s2⟩, hW₁, X', ⟨g', mk, t, L, e1, e2, hq, h1, hL, h2, h3⟩, st⟩ | ⟨q, vm₁, ⟨U', l2, c2, s2⟩, hW₁, X', ⟨g', mk, t, L, E, ce, e1, e2, hq, hce, hcv, hcl, h1, hL, h2, h3⟩, st⟩
  · dsimp only [Pt.U, Pt.locs, Pt.cells, Pt.slots] at X' e1 e2 h1 h2 h3 st
    subst h1; subst h2; subst h3
    exact Or.inl ⟨v, (T.setVm vm₁).calling g' mk (Value.ref b :: As).toArray, t, U', L, hT, X', hL, e1, e2, hq, st⟩
  · dsimp only [Pt.U, Pt.locs, Pt.cells, Pt.slots] at X' e1 e2 h1 h2 h3 st hcl
    subst h1; subst h2; subst h3
    exact Or.inr ⟨q, (T.setVm vm₁).calling g' mk (Value.ref b :: As).toArray, t, U', L, E, ce, hT, X', hL, e1, e2, hq, hce, hcv, vx_cls hW₁ hcl, st⟩
theorem vx_runS (S : CallFix p m c cc nL s args Ts own) (hM : vx_Met l y ws rm Pc Qc XC mc ms free) (cw : CallB R s args own index y bytes maxL ret ws rm mc ms n ∧ (Cond.static y).before args s = true) (hp : PreS s H Pc As)
    (hg : g.method = m) (hn : As.length = n) (hsize : g.locals.size = nL) (hstack : g.stack = As.reverse ++ rest) (hW : 2 * g.monitorRoom + (rest.map fun v => v.category).sum ≤ 8) (hdg : decode cc g.pc = .ok (.invokestatic index, 3)) (hf : cells + mc ≤ R.cells ∧ slots + ms ≤ R.slots) :
    vx_Run p l e R s m args below meth c H locs cells slots mc ms g rest (Qc As.toArray) XC free := by
  have hK : vx_Back l R p e below s args y 3 8 (PreOf R mc ms Pc) (PostOf Qc mc ms free) (vx_Post XC mc ms free) := vx_callBack cw.1 hM hp.1
  obtain ⟨⟨-, -, -, -, -, -, hcode, hini, hy, hlen, hl⟩, hstt⟩ := cw
  obtain ⟨hx, hb, hml, ho, -⟩ := S
  intro T hT X
  rcases vx_callS X hx (bytes := bytes) (maxL := maxL) (ret := ret) ho hl hstt hini hcode hy hK hg (hsize.trans hml.symm) (argsL := As) (rest := rest) (fun sig h => hn.trans (hlen sig h)) hstack hW (by rw [hb]; exact hdg)
    (fun vm₁ hW₁ => ⟨hf.1, hf.2, hp.2 (T.setVm vm₁) hT hW₁⟩) with ⟨v, vm₁, ⟨U', l2, c2, s2⟩, hW₁, X', ⟨g', mk, t, L, e1, e2, hq, h1, hL, h2, h3⟩, st⟩ | ⟨q, vm₁, ⟨U', l2, c2, s2⟩, hW₁, X', ⟨g', mk, t, L, E, ce, e1, e2, hq, hce, hcv, hcl, h1, hL, h2, h3⟩, st⟩
  · dsimp only [Pt.U, Pt.locs, Pt.cells, Pt.slots] at X' e1 e2 h1 h2 h3 st
    subst h1; subst h2; subst h3
    exact Or.inl ⟨v, (T.setVm vm₁).calling g' mk As.toArray, t, U', L, hT, X', hL, e1, e2, hq, st⟩
  · dsimp only [Pt.U, Pt.locs, Pt.cells, Pt.slots] at X' e1 e2 h1 h2 h3 st hcl
    subst h1; subst h2; subst h3
    exact Or.inr ⟨q, (T.setVm vm₁).calling g' mk As.toArray, t, U', L, E, ce, hT, X', hL, e1, e2, hq, hce, hcv, vx_cls hW₁ hcl, st⟩
end Runs
section Rows
variable {p : Program} {l : Launch} {e : Env} {R : Room} {s : State} {m : MethodId} {args : Array Value} {below : List Frame} {meth : Method} {c : Code} {H : Heap} {locs : List Loc} {cells slots : Nat} {Q : State → Prop}
variable {mc ms : Nat} {free : Addr → Prop} {A0 A1 : Nat → Prop} {H0 : Heap} {a : Array Value} {pc : Nat} {ls : Array Slot} {st0 rest : List Value}
theorem vx_keep {st₀ t T' : State} {L : List Loc} (h0 : st₀.heap = H) (e1 : T'.heap = t.heap) (hS : va_S A0 H0 H locs) (hA : ∀ q, q < H.size → A1 q → A0 q) (hf : ∀ q, free q → A0 q) (hL : ∀ q ∈ L, free q.base) (hF : va_F A1 st₀ t) :
    H.size ≤ T'.heap.size ∧ (∀ q : Nat, q < H.size → ¬ A1 q → T'.heap[q]? = H[q]?) ∧ va_S A0 H0 T'.heap (locs ++ L) := by
  obtain ⟨hz, hk⟩ := hF
  rw [h0] at hz hk
  exact ⟨by rw [e1]; exact hz, fun q h1 h2 => by rw [e1]; exact hk q h1 h2,
    ⟨Nat.le_trans hS.1 (by rw [e1]; exact hz), fun q h1 h2 => by rw [e1, hk q (Nat.lt_of_lt_of_le h1 hS.1) (fun z => h2 (hA q (Nat.lt_of_lt_of_le h1 hS.1) z))]; exact hS.2.1 q h1 h2, fun q hq => by
      rcases List.mem_append.mp hq with h | h
      · exact hS.2.2 q h
      · exact hf _ (hL q h)⟩⟩
theorem vx_calli {S SX : Type} {post : Int32 → S → Prop} {px : SX → Prop} {B : S → State → Prop} {BX : String → SX → State → Prop} {AX : Nat → Prop} (hr : vx_Run p l e R s m args below meth c H locs cells slots mc ms (F0 m pc ls st0) rest (va_Qi post B A1 a) (vx_X px BX AX) free) (hS : va_S A0 H0 H locs) (hA : ∀ q, q < H.size → A1 q → A0 q) (hf : ∀ q, free q → A0 q) (hAX : ∀ q, q < H.size → AX q → A0 q)
    (kx : ∀ (E : String) (ce : Cell) (q9 : Addr) (u : SX) (t : State) (H1 : Heap) (locs1 : List Loc), t.heap = H1 → s.vm.Alike t.vm → px u → BX E u t → H.size ≤ H1.size → (∀ q : Nat, q < H.size → ¬ AX q → H1[q]? = H[q]?) → va_S A0 H0 H1 locs1 → H1[q9]? = some ce → ce.vm = .none → s.vm.findClass E = some ce.cls → vx_W p l e R s m args below meth c H1 locs1 (cells + mc) (slots + ms) Q (F0 m pc ls rest) q9)
    (kk : ∀ (r : Int32) (u : S) (t : State) (H1 : Heap) (locs1 : List Loc), t.heap = H1 → s.vm.Alike t.vm → post r u → B u t → H.size ≤ H1.size → (∀ q : Nat, q < H.size → ¬ A1 q → H1[q]? = H[q]?) → va_S A0 H0 H1 locs1 → W p l e R s m args below meth c H1 locs1 (cells + mc) (slots + ms) Q (F0 m (pc + 3) ls (.int r :: rest))) : W p l e R s m args below meth c H locs cells slots Q (F0 m pc ls st0) := by
  intro T hT X
  rcases hr T hT X with ⟨v, st₀, t, T', L, h0, X', hL, e1, e2, ⟨⟨r, u, hv, hp, hb⟩, hF⟩, st⟩ | ⟨q, st₀, t, T', L, E, ce, h0, X', hL, e1, e2, ⟨u, hp, hb, hF⟩, hce, hcv, hcl, st⟩
  · cases hv
    obtain ⟨k1, k2, k3⟩ := vx_keep h0 e1 hS hA hf hL hF
    obtain ⟨t2, a1, b1⟩ := kk r u t T'.heap (locs ++ L) e1.symm (by rw [← e2]; exact X'.warmed.alike) hp hb k1 k2 k3 T' rfl X'
    exact ⟨t2, st t2 a1, b1⟩
  · obtain ⟨k1, k2, k3⟩ := vx_keep h0 e1 hS hAX hf hL hF
    obtain ⟨t2, a1, b1⟩ := kx E ce q u t T'.heap (locs ++ L) e1.symm (by rw [← e2]; exact X'.warmed.alike) hp hb k1 k2 k3 (by rw [e1]; exact hce) hcv hcl T' rfl X'
    exact ⟨t2, st.trans a1, b1⟩
theorem vx_calll {S SX : Type} {post : Int64 → S → Prop} {px : SX → Prop} {B : S → State → Prop} {BX : String → SX → State → Prop} {AX : Nat → Prop} (hr : vx_Run p l e R s m args below meth c H locs cells slots mc ms (F0 m pc ls st0) rest (va_Ql post B A1 a) (vx_X px BX AX) free) (hS : va_S A0 H0 H locs) (hA : ∀ q, q < H.size → A1 q → A0 q) (hf : ∀ q, free q → A0 q) (hAX : ∀ q, q < H.size → AX q → A0 q)
    (kx : ∀ (E : String) (ce : Cell) (q9 : Addr) (u : SX) (t : State) (H1 : Heap) (locs1 : List Loc), t.heap = H1 → s.vm.Alike t.vm → px u → BX E u t → H.size ≤ H1.size → (∀ q : Nat, q < H.size → ¬ AX q → H1[q]? = H[q]?) → va_S A0 H0 H1 locs1 → H1[q9]? = some ce → ce.vm = .none → s.vm.findClass E = some ce.cls → vx_W p l e R s m args below meth c H1 locs1 (cells + mc) (slots + ms) Q (F0 m pc ls rest) q9)
    (kk : ∀ (r : Int64) (u : S) (t : State) (H1 : Heap) (locs1 : List Loc), t.heap = H1 → s.vm.Alike t.vm → post r u → B u t → H.size ≤ H1.size → (∀ q : Nat, q < H.size → ¬ A1 q → H1[q]? = H[q]?) → va_S A0 H0 H1 locs1 → W p l e R s m args below meth c H1 locs1 (cells + mc) (slots + ms) Q (F0 m (pc + 3) ls (.long r :: rest))) : W p l e R s m args below meth c H locs cells slots Q (F0 m pc ls st0) := by
  intro T hT X
  rcases hr T hT X with ⟨v, st₀, t, T', L, h0, X', hL, e1, e2, ⟨⟨r, u, hv, hp, hb⟩, hF⟩, st⟩ | ⟨q, st₀, t, T', L, E, ce, h0, X', hL, e1, e2, ⟨u, hp, hb, hF⟩, hce, hcv, hcl, st⟩
  · cases hv
    obtain ⟨k1, k2, k3⟩ := vx_keep h0 e1 hS hA hf hL hF
    obtain ⟨t2, a1, b1⟩ := kk r u t T'.heap (locs ++ L) e1.symm (by rw [← e2]; exact X'.warmed.alike) hp hb k1 k2 k3 T' rfl X'
    exact ⟨t2, st t2 a1, b1⟩
  · obtain ⟨k1, k2, k3⟩ := vx_keep h0 e1 hS hAX hf hL hF
    obtain ⟨t2, a1, b1⟩ := kx E ce q u t T'.heap (locs ++ L) e1.symm (by rw [← e2]; exact X'.warmed.alike) hp hb k1 k2 k3 (by rw [e1]; exact hce) hcv hcl T' rfl X'
    exact ⟨t2, st.trans a1, b1⟩
theorem vx_callf {S SX : Type} {post : UInt32 → S → Prop} {px : SX → Prop} {B : S → State → Prop} {BX : String → SX → State → Prop} {AX : Nat → Prop} (hr : vx_Run p l e R s m args below meth c H locs cells slots mc ms (F0 m pc ls st0) rest (va_Qf post B A1 a) (vx_X px BX AX) free) (hS : va_S A0 H0 H locs) (hA : ∀ q, q < H.size → A1 q → A0 q) (hf : ∀ q, free q → A0 q) (hAX : ∀ q, q < H.size → AX q → A0 q)
    (kx : ∀ (E : String) (ce : Cell) (q9 : Addr) (u : SX) (t : State) (H1 : Heap) (locs1 : List Loc), t.heap = H1 → s.vm.Alike t.vm → px u → BX E u t → H.size ≤ H1.size → (∀ q : Nat, q < H.size → ¬ AX q → H1[q]? = H[q]?) → va_S A0 H0 H1 locs1 → H1[q9]? = some ce → ce.vm = .none → s.vm.findClass E = some ce.cls → vx_W p l e R s m args below meth c H1 locs1 (cells + mc) (slots + ms) Q (F0 m pc ls rest) q9)
    (kk : ∀ (r : UInt32) (u : S) (t : State) (H1 : Heap) (locs1 : List Loc), t.heap = H1 → s.vm.Alike t.vm → post r u → B u t → H.size ≤ H1.size → (∀ q : Nat, q < H.size → ¬ A1 q → H1[q]? = H[q]?) → va_S A0 H0 H1 locs1 → W p l e R s m args below meth c H1 locs1 (cells + mc) (slots + ms) Q (F0 m (pc + 3) ls (.float r :: rest))) : W p l e R s m args below meth c H locs cells slots Q (F0 m pc ls st0) := by
  intro T hT X
  rcases hr T hT X with ⟨v, st₀, t, T', L, h0, X', hL, e1, e2, ⟨⟨r, u, hv, hp, hb⟩, hF⟩, st⟩ | ⟨q, st₀, t, T', L, E, ce, h0, X', hL, e1, e2, ⟨u, hp, hb, hF⟩, hce, hcv, hcl, st⟩
  · cases hv
    obtain ⟨k1, k2, k3⟩ := vx_keep h0 e1 hS hA hf hL hF
    obtain ⟨t2, a1, b1⟩ := kk r u t T'.heap (locs ++ L) e1.symm (by rw [← e2]; exact X'.warmed.alike) hp hb k1 k2 k3 T' rfl X'
    exact ⟨t2, st t2 a1, b1⟩
  · obtain ⟨k1, k2, k3⟩ := vx_keep h0 e1 hS hAX hf hL hF
    obtain ⟨t2, a1, b1⟩ := kx E ce q u t T'.heap (locs ++ L) e1.symm (by rw [← e2]; exact X'.warmed.alike) hp hb k1 k2 k3 (by rw [e1]; exact hce) hcv hcl T' rfl X'
    exact ⟨t2, st.trans a1, b1⟩
theorem vx_calld {S SX : Type} {post : UInt64 → S → Prop} {px : SX → Prop} {B : S → State → Prop} {BX : String → SX → State → Prop} {AX : Nat → Prop} (hr : vx_Run p l e R s m args below meth c H locs cells slots mc ms (F0 m pc ls st0) rest (va_Qd post B A1 a) (vx_X px BX AX) free) (hS : va_S A0 H0 H locs) (hA : ∀ q, q < H.size → A1 q → A0 q) (hf : ∀ q, free q → A0 q) (hAX : ∀ q, q < H.size → AX q → A0 q)
    (kx : ∀ (E : String) (ce : Cell) (q9 : Addr) (u : SX) (t : State) (H1 : Heap) (locs1 : List Loc), t.heap = H1 → s.vm.Alike t.vm → px u → BX E u t → H.size ≤ H1.size → (∀ q : Nat, q < H.size → ¬ AX q → H1[q]? = H[q]?) → va_S A0 H0 H1 locs1 → H1[q9]? = some ce → ce.vm = .none → s.vm.findClass E = some ce.cls → vx_W p l e R s m args below meth c H1 locs1 (cells + mc) (slots + ms) Q (F0 m pc ls rest) q9)
    (kk : ∀ (r : UInt64) (u : S) (t : State) (H1 : Heap) (locs1 : List Loc), t.heap = H1 → s.vm.Alike t.vm → post r u → B u t → H.size ≤ H1.size → (∀ q : Nat, q < H.size → ¬ A1 q → H1[q]? = H[q]?) → va_S A0 H0 H1 locs1 → W p l e R s m args below meth c H1 locs1 (cells + mc) (slots + ms) Q (F0 m (pc + 3) ls (.double r :: rest))) : W p l e R s m args below meth c H locs cells slots Q (F0 m pc ls st0) := by
  intro T hT X
  rcases hr T hT X with ⟨v, st₀, t, T', L, h0, X', hL, e1, e2, ⟨⟨r, u, hv, hp, hb⟩, hF⟩, st⟩ | ⟨q, st₀, t, T', L, E, ce, h0, X', hL, e1, e2, ⟨u, hp, hb, hF⟩, hce, hcv, hcl, st⟩
  · cases hv
    obtain ⟨k1, k2, k3⟩ := vx_keep h0 e1 hS hA hf hL hF
    obtain ⟨t2, a1, b1⟩ := kk r u t T'.heap (locs ++ L) e1.symm (by rw [← e2]; exact X'.warmed.alike) hp hb k1 k2 k3 T' rfl X'
    exact ⟨t2, st t2 a1, b1⟩
  · obtain ⟨k1, k2, k3⟩ := vx_keep h0 e1 hS hAX hf hL hF
    obtain ⟨t2, a1, b1⟩ := kx E ce q u t T'.heap (locs ++ L) e1.symm (by rw [← e2]; exact X'.warmed.alike) hp hb k1 k2 k3 (by rw [e1]; exact hce) hcv hcl T' rfl X'
    exact ⟨t2, st.trans a1, b1⟩
theorem vx_callv {S SX : Type} {post : S → Prop} {px : SX → Prop} {B : S → State → Prop} {BX : String → SX → State → Prop} {AX : Nat → Prop} (hr : vx_Run p l e R s m args below meth c H locs cells slots mc ms (F0 m pc ls st0) rest (va_Qv post B A1 a) (vx_X px BX AX) free) (hS : va_S A0 H0 H locs) (hA : ∀ q, q < H.size → A1 q → A0 q) (hf : ∀ q, free q → A0 q) (hAX : ∀ q, q < H.size → AX q → A0 q)
    (kx : ∀ (E : String) (ce : Cell) (q9 : Addr) (u : SX) (t : State) (H1 : Heap) (locs1 : List Loc), t.heap = H1 → s.vm.Alike t.vm → px u → BX E u t → H.size ≤ H1.size → (∀ q : Nat, q < H.size → ¬ AX q → H1[q]? = H[q]?) → va_S A0 H0 H1 locs1 → H1[q9]? = some ce → ce.vm = .none → s.vm.findClass E = some ce.cls → vx_W p l e R s m args below meth c H1 locs1 (cells + mc) (slots + ms) Q (F0 m pc ls rest) q9)
    (kk : ∀ (u : S) (t : State) (H1 : Heap) (locs1 : List Loc), t.heap = H1 → s.vm.Alike t.vm → post u → B u t → H.size ≤ H1.size → (∀ q : Nat, q < H.size → ¬ A1 q → H1[q]? = H[q]?) → va_S A0 H0 H1 locs1 → W p l e R s m args below meth c H1 locs1 (cells + mc) (slots + ms) Q (F0 m (pc + 3) ls (rest))) : W p l e R s m args below meth c H locs cells slots Q (F0 m pc ls st0) := by
  intro T hT X
  rcases hr T hT X with ⟨v, st₀, t, T', L, h0, X', hL, e1, e2, ⟨⟨u, hv, hp, hb⟩, hF⟩, st⟩ | ⟨q, st₀, t, T', L, E, ce, h0, X', hL, e1, e2, ⟨u, hp, hb, hF⟩, hce, hcv, hcl, st⟩
  · cases hv
    obtain ⟨k1, k2, k3⟩ := vx_keep h0 e1 hS hA hf hL hF
    obtain ⟨t2, a1, b1⟩ := kk u t T'.heap (locs ++ L) e1.symm (by rw [← e2]; exact X'.warmed.alike) hp hb k1 k2 k3 T' rfl X'
    exact ⟨t2, st t2 a1, b1⟩
  · obtain ⟨k1, k2, k3⟩ := vx_keep h0 e1 hS hAX hf hL hF
    obtain ⟨t2, a1, b1⟩ := kx E ce q u t T'.heap (locs ++ L) e1.symm (by rw [← e2]; exact X'.warmed.alike) hp hb k1 k2 k3 (by rw [e1]; exact hce) hcv hcl T' rfl X'
    exact ⟨t2, st.trans a1, b1⟩
/-- caught by the row x of this method's table; the rows ahead don't take it -/
theorem vx_catch {own name : String} {E : String} {ce : Cell} {q : Addr} (hown : s.vm.findClass own = some m.cls) (pre : List ExceptionTableEntry) (x : ExceptionTableEntry) (suf : List ExceptionTableEntry) (hsplit : c.exceptionTable.toList = pre ++ x :: suf)
    (hpass : ∀ z ∈ pre, covers z pc = false ∨ (z.catchType ≠ 0 ∧ ∃ nm : String, (Cond.classLink own z.catchType nm).before args s = true ∧ va_Nc E nm s)) (hx : covers x pc = true) (h0 : x.catchType ≠ 0)
    (hlink : (Cond.classLink own x.catchType name).before args s = true) (hcast : (Cond.castable E name).before args s = true) (hcell : H[q]? = some ce) (hv : ce.vm = .none) (hcl : s.vm.findClass E = some ce.cls)
    (kk : W p l e R s m args below meth c H locs cells slots Q (F0 m x.handlerPc ls [.ref q])) : vx_W p l e R s m args below meth c H locs cells slots Q (F0 m pc ls rest) q := by
  intro T hT X
  have hpl : e.platform.magicAccessors = ({} : Platform).magicAccessors := by rw [X.admits.platform]
  obtain ⟨c3, c4, hc3, hc4, hasg⟩ := Cond.castable_spec hcast
  cases Option.some.inj (hc3.symm.trans hcl)
  obtain ⟨c5, hc5, hcl5⟩ := Cond.classLink_spec hown hlink e.platform hpl
  cases Option.some.inj (hc4.symm.trans hc5)
  obtain ⟨vm', X', st⟩ := X.thenCaughtThrough q (g := F0 m pc ls rest) rfl (Steps.refl _) (by rw [hT]; exact hcell) (by rw [hv]; rfl) (by obtain ⟨k9, h9, -⟩ := Vm.findClass_spec hcl; exact ⟨k9, h9⟩) pre x suf hsplit
    (fun z hz => by
      rcases hpass z hz with h | ⟨hz0, nm, hl1, hn1⟩
      · exact Or.inl h
      · obtain ⟨c6, hc6, hcl6⟩ := Cond.classLink_spec hown hl1 e.platform hpl
        obtain ⟨a8, b8, h1, h2, h3⟩ := hn1
        cases Option.some.inj (h1.symm.trans hcl)
        cases Option.some.inj (h2.symm.trans hc6)
        exact Or.inr ⟨hz0, _, hcl6, h3⟩) hx (Or.inr ⟨h0, c4, hcl5, hasg⟩)
  obtain ⟨t, a1, b1⟩ := kk (T.setVm vm') hT X'
  exact ⟨t, st.trans a1, b1⟩
end Rows
section Ends
variable {p : Program} {l : Launch} {e : Env} {R : Room} {s : State} {m : MethodId} {args : Array Value} {below : List Frame} {meth : Method} {c : Code} {H : Heap} {locs : List Loc} {cells slots : Nat} {Q : State → Prop}
variable {mc ms : Nat} {free : Addr → Prop} {A0 A1 : Nat → Prop} {H0 : Heap} {a : Array Value} {ls : Array Slot} {st0 rest : List Value}
variable {Qc : Array Value → State → Outcome → State → Prop} {XC : String → State → State → Prop}
/-- what a body that may throw owes at its end -/
def vx_MQ (below : List Frame) (Qc : Array Value → State → Outcome → State → Prop) (XC : String → State → State → Prop) (a : Array Value) (s : State) (mc ms : Nat) (free : Addr → Prop) : State → Prop := fun t =>
  ∃ o, t.status = .running ∧ Ended t below o ∧ vx_Q Qc XC mc ms free a s o t
theorem vx_ret {g : JFrame} {mc ms : Nat} (k : W p l e R s m args below meth c H locs cells slots (MQ below Qc args s mc ms free) g) : W p l e R s m args below meth c H locs cells slots (vx_MQ below Qc XC args s mc ms free) g := by
  intro T hT X
  obtain ⟨t, a1, o, b1, b2, b3, b4⟩ := k T hT X
  exact ⟨t, a1, o, b1, b2, Or.inl ⟨b3, b4⟩⟩
/-- not caught here: it goes on to the caller -/
theorem vx_widen {g : JFrame} {q : Addr} {k n : Nat} (h1 : cells ≤ k) (h2 : slots ≤ n) (kk : vx_W p l e R s m args below meth c H locs k n Q g q) : vx_W p l e R s m args below meth c H locs cells slots Q g q := fun T hT X => kk T hT (stand_widen X h1 h2)
theorem vx_out {pc : Nat} {E : String} {ce : Cell} {q : Addr} {mc ms : Nat} (hout : ∀ x ∈ c.exceptionTable.toList, covers x pc = false) (hlocks : meth.locks = false) (hcell : H[q]? = some ce) (hv : ce.vm = .none) (hcl : s.vm.findClass E = some ce.cls)
    (hx : ∀ t : State, t.heap = H → s.vm.Alike t.vm → XC E s t) (hf : ∀ z ∈ locs, free z.base) (hc : cells ≤ mc) (hs : slots ≤ ms) :
    vx_W p l e R s m args below meth c H locs cells slots (vx_MQ below Qc XC args s mc ms free) (F0 m pc ls rest) q := by
  intro T hT X
  obtain ⟨st1, hrun, hend, hW, hsm⟩ := X.leaveThrown q (g := F0 m pc ls rest) rfl rfl rfl hout hlocks
  have hcell9 : (T.setFrames (.throwing q :: below)).heap[q]? = some ce := by
    show T.heap[q]? = some ce
    rw [hT]; exact hcell
  exact ⟨_, st1, .threw q, hrun, hend, Or.inr ⟨q, rfl, E, ce, locs, hx _ hT hW.alike, hcell9, hv, hcl, hW, hsm.mono hc hs, hf⟩⟩
theorem vx_frame {U : State} {k n : Nat} (h : s.sameButNew ({ U with vm := s.vm } : State) locs k n) : s.heap.size ≤ U.heap.size ∧ ∀ q : Nat, q < s.heap.size → (∀ z ∈ locs, z.base ≠ q) → U.heap[q]? = s.heap[q]? := by
  obtain ⟨-, h2, -, -, -, h6⟩ := h
  refine ⟨h2, fun q hq hz => ?_⟩
  obtain ⟨c9, e1, e2, e3, e4⟩ := h6 q _ (Array.getElem?_eq_getElem hq)
  have hs : c9.slots = (s.heap[q]).slots := Array.ext_getElem? fun i => e4 i fun hm => hz _ hm rfl
  have h9 : c9 = s.heap[q] := by
    rw [hs] at e2
    exact e2
  have e5 : U.heap[q]? = some c9 := e1
  rw [e5, h9, Array.getElem?_eq_getElem hq]
/-- the words of a throw but the four that speak of the heap -/
def vx_no (w : Cond) : Bool := decide (w ≠ .isRef (.static Bundle.tN "UNASSIGNED_STACK" Bundle.steD)) && decide (w ≠ .isRef (.static Bundle.tN "SUPPRESSED_SENTINEL" Bundle.listD)) && decide (w ≠ .laysStatic Bundle.tN "UNASSIGNED_STACK" Bundle.steD) && decide (w ≠ .laysStatic Bundle.tN "SUPPRESSED_SENTINEL" Bundle.listD)
def vx_at0 (own : String) (ic : Nat) (X : String) (names : List String) : List Cond := (Bundle.ownAtoms0 own ic X names).filter vx_no
def vx_atS (own : String) (ic : Nat) (X : String) (names : List String) : List Cond := (Bundle.ownAtoms own ic X names).filter vx_no
/-- a word that the tables alone decide, or a good one -/
def vx_ot (w : Cond) : Bool := w.onTables || goodWord w
theorem vx_ot_at {args a' : Array Value} {s U : State} {w : Cond} (hW : s.WarmedH U.vm) (hvm : s.vm = U.vm) (hg : vx_ot w = true) (h : w.before args s = true) : w.before a' U = true := by
  simp only [vx_ot, Bool.or_eq_true] at hg
  rcases hg with hg | hg
  · exact va_tabs hg hvm h
  · exact word_at hW (good_of_word hg) h
/-- a list's words: the good ones out of the method's own list, the others by premises of their own -/
theorem vx_hat {args : Array Value} {s : State} {L B : List Cond} (h1 : ∀ w ∈ L.filter goodWord, w.before args s = true) (h2 : ∀ w ∈ L.filter (fun w => !goodWord w), w ∈ B) (h3 : ∀ w ∈ B, w.before args s = true) : ∀ w ∈ L, w.before args s = true := by
  intro w hw
  by_cases g : goodWord w = true
  · exact h1 w (List.mem_filter.mpr ⟨hw, g⟩)
  · refine h3 w (h2 w (List.mem_filter.mpr ⟨hw, ?_⟩))
    show (!goodWord w) = true
    cases hgw : goodWord w
    · rfl
    · exact absurd hgw g
theorem vx_c {args : Array Value} {s : State} {w : Cond} {B : List Cond} (h : w.before args s = true) (t : ∀ w ∈ B, w.before args s = true) : ∀ w' ∈ w :: B, w'.before args s = true := fun w' h' => (List.mem_cons.mp h').elim (fun e => by rw [e]; exact h) (t w')
theorem vx_n {args : Array Value} {s : State} : ∀ w ∈ ([] : List Cond), w.before args s = true := fun _ h => nomatch h
theorem vx_own {args : Array Value} {s : State} {L : List Cond} (h1 : ∀ w ∈ L.filter vx_no, w.before args s = true)
    (hU : (Cond.isRef (.static Bundle.tN "UNASSIGNED_STACK" Bundle.steD)).before args s = true) (hN : (Cond.isRef (.static Bundle.tN "SUPPRESSED_SENTINEL" Bundle.listD)).before args s = true)
    (lU : (Cond.laysStatic Bundle.tN "UNASSIGNED_STACK" Bundle.steD).before args s = true) (lN : (Cond.laysStatic Bundle.tN "SUPPRESSED_SENTINEL" Bundle.listD).before args s = true) : ∀ w ∈ L, w.before args s = true := by
  intro w hw
  by_cases e1 : w = .isRef (.static Bundle.tN "UNASSIGNED_STACK" Bundle.steD)
  · rw [e1]; exact hU
  · by_cases e2 : w = .isRef (.static Bundle.tN "SUPPRESSED_SENTINEL" Bundle.listD)
    · rw [e2]; exact hN
    · by_cases e3 : w = .laysStatic Bundle.tN "UNASSIGNED_STACK" Bundle.steD
      · rw [e3]; exact lU
      · by_cases e4 : w = .laysStatic Bundle.tN "SUPPRESSED_SENTINEL" Bundle.listD
        · rw [e4]; exact lN
        · exact h1 w (List.mem_filter.mpr ⟨hw, by unfold vx_no; rw [decide_eq_true e1, decide_eq_true e2, decide_eq_true e3, decide_eq_true e4]; rfl⟩)
/-- where a static field lies, its class's statics cell in H -/
def vx_L (C n d : String) (A : Nat → Prop) (U : State) (H : Heap) : Prop := ∃ (c : ClassId) (k : Class) (i : Nat) (f : Field) (a : Nat) (cell : Cell), U.vm.findClass C = some c ∧ U.fieldFound? C n d = some (c, k, i, f) ∧ f.isStatic = true ∧ k.statics = some a ∧ H[a]? = some cell ∧ cell.vm.isStatics = true ∧ cell.cls = c ∧ f.slot < cell.slots.size ∧ k.staticTypes[f.slot]? = some f.type ∧ ¬ A a
theorem vx_L.moved {C n d : String} {A : Nat → Prop} {u U : State} {H : Heap} (hvm : u.vm.Alike U.vm) (h : vx_L C n d A u H) : vx_L C n d A U H := by
  obtain ⟨c, k, i, f, a, cell, h1, h2, h3, h4, h5, h6, h7, h8, h9, h10⟩ := h
  obtain ⟨k', hi', he⟩ := State.fieldFound?_setVm hvm h2
  exact ⟨c, k', i, f, a, cell, by rw [hvm.findClass]; exact h1, hi', h3, by rw [he]; exact h4, h5, h6, h7, h8, by rw [he]; exact h9, h10⟩
theorem vx_L.kept {C n d : String} {A : Nat → Prop} {U : State} {H H1 : Heap} (h : vx_L C n d A U H) (hq : ∀ a : Nat, a < H.size → ¬ A a → H1[a]? = H[a]?) : vx_L C n d A U H1 := by
  obtain ⟨c, k, i, f, a, cell, h1, h2, h3, h4, h5, h6, h7, h8, h9, h10⟩ := h
  exact ⟨c, k, i, f, a, cell, h1, h2, h3, h4, by rw [hq a (Array.getElem?_eq_some_iff.mp h5).1 h10]; exact h5, h6, h7, h8, h9, h10⟩
theorem vx_L.narrow {C n d : String} {A B : Nat → Prop} {U : State} {H : Heap} (h : vx_L C n d A U H) (hAB : ∀ q, B q → A q) : vx_L C n d B U H := by
  obtain ⟨c, k, i, f, a, cell, h1, h2, h3, h4, h5, h6, h7, h8, h9, h10⟩ := h
  exact ⟨c, k, i, f, a, cell, h1, h2, h3, h4, h5, h6, h7, h8, h9, fun z => h10 (hAB _ z)⟩
theorem vx_L.word {C n d : String} {A : Nat → Prop} {s : State} {args : Array Value} (h : vx_L C n d A s s.heap) : (Cond.laysStatic C n d).before args s = true := by
  obtain ⟨c, k, i, f, a, cell, h1, h2, h3, h4, h5, h6, h7, h8, h9, -⟩ := h
  show (Cond.laysStatic C n d).holds args s none s [] = true
  exact Cond.laysStatic_of h1 h2 h3 h4 h5 h6 h7 h8 h9
/-- .. and what it holds: null or some reference -/
def vx_Zq (C n d : String) (A : Nat → Prop) (U : State) (H : Heap) : Prop := va_Zq C n d A U H ∧ vx_L C n d A U H
theorem vx_Zq.moved {C n d : String} {A : Nat → Prop} {u U : State} {H : Heap} (hvm : u.vm.Alike U.vm) (h : vx_Zq C n d A u H) : vx_Zq C n d A U H := ⟨va_Zq.moved hvm h.1, vx_L.moved hvm h.2⟩
theorem vx_Zq.kept {C n d : String} {A : Nat → Prop} {U : State} {H H1 : Heap} (h : vx_Zq C n d A U H) (hq : ∀ a : Nat, a < H.size → ¬ A a → H1[a]? = H[a]?) : vx_Zq C n d A U H1 := ⟨va_Zq.kept h.1 hq, vx_L.kept h.2 hq⟩
theorem vx_Zq.narrow {C n d : String} {A B : Nat → Prop} {U : State} {H : Heap} (h : vx_Zq C n d A U H) (hAB : ∀ q, B q → A q) : vx_Zq C n d B U H := ⟨va_Zq.narrow h.1 hAB, vx_L.narrow h.2 hAB⟩
theorem vx_Zqof {args : Array Value} {s : State} {C n d : String} {A : Nat → Prop} (hl : (Cond.laysStatic C n d).before args s = true) (hini : (Cond.initialized C).before args s = true) (h : (Cond.isRef (.static C n d)).before args s = true) (hA : ∀ a : Nat, a < s.heap.size → ¬ A a) : vx_Zq C n d A s s.heap := by
  refine ⟨va_Zqof hl hini h hA, ?_⟩
  obtain ⟨c, k, i, f, a, cell, h1, h2, h3, h4, h5, h6, h7, h8, h9⟩ := Cond.laysStatic_spec hl
  exact ⟨c, k, i, f, a, cell, h1, h2, h3, h4, h5, h6, h7, h8, h9, hA a (Array.getElem?_eq_some_iff.mp h5).1⟩
theorem vx_isRef {C n d : String} {v : Value} {A : Nat → Prop} {s : State} {args : Array Value} (h : va_Z C n d v A s s.heap) (hv : v.isRef = true) : (Cond.isRef (.static C n d)).before args s = true := by
  obtain ⟨cf, kf, fi, f, a, cell, h1, h2, h3, h4, h5, h6, h7, -⟩ := h
  have he : (Term.static C n d).eval args s none [] s = some v := by
    simp [Term.eval, State.fieldNamed?, h1, h2, h4, h5, h6, h7]
  simp only [Cond.before, Cond.holds, Cond.value, he]
  cases v <;> simp_all [Value.isRef]
theorem vx_isRefq {C n d : String} {A : Nat → Prop} {s : State} {args : Array Value} (h : va_Zq C n d A s s.heap) : (Cond.isRef (.static C n d)).before args s = true := by
  rcases h with h | ⟨t, h⟩
  · exact vx_isRef h rfl
  · exact vx_isRef h rfl
/-- the same frame, seen from here: as if the method were called anew in this heap -/
theorem vx_rebase {T : State} (X : Stand p l e R s m args below meth c T locs cells slots) {R' : Room} (hf : R'.frames ≤ R.frames) (hl : R'.locals ≤ R.locals) (hc : cells + R'.cells ≤ R.cells) (hs : slots + R'.slots ≤ R.slots) :
    Stand p l e R' ((T.setVm s.vm).setFrames (.invoking m args :: below)) m args below meth c T [] 0 0 := by
  have htop : (T.setVm s.vm).topJava?.isSome := X.here.top
  have hF : ((T.setVm s.vm).setFrames (.invoking m args :: below)).frames = .invoking m args :: below := State.frames_setFrames _ (State.cur_lt_of_top htop)
  obtain ⟨g₀, hg0⟩ := Option.isSome_iff_exists.mp htop
  obtain ⟨r, hr⟩ := State.topJava?_eq_some.mp hg0
  have hl9 : e.platform.stackLimits (T.setVm s.vm).me = e.platform.stackLimits s.me := X.limits
  have hb9 : (T.setVm s.vm).me.stackBytes = s.me.stackBytes := X.bytes
  refine ⟨X.admits, X.cas, X.clock, hF, ?_, X.hears, X.method, X.code, X.here, X.tail, X.warmed, ?_, ?_, ?_⟩
  · have h := X.room
    have hU : ((T.setVm s.vm).setFrames (.invoking m args :: below)).localsInUse = s.localsInUse := by
      rw [State.localsInUse_invoking hF (meth := meth) (c := c) X.method X.code, State.localsInUse_invoking X.frames X.method X.code]
    simp only [State.hasRoom, Bool.and_eq_true, decide_eq_true_eq] at h ⊢
    obtain ⟨⟨⟨⟨h1, h2, h3, h4, h5, h6⟩, h7⟩, h8⟩, h9⟩ := h
    rw [X.frames, List.length_cons] at h2 h3
    have q1 := X.heapSize
    have q2 := X.used
    simp only [hF, hU, List.length_cons, State.stackLimits_setFrames, State.stackBytes_setFrames, hl9, hb9]
    refine ⟨⟨⟨⟨by omega, by omega, by omega, by omega, by omega, h6⟩, ?_⟩, ?_⟩, X.book⟩
    · show T.heap.size + R'.cells ≤ e.platform.maxCells
      omega
    · show T.slotsUsed + R'.slots ≤ e.platform.maxSlots
      omega
  · rw [State.stackLimits_setFrames]; rfl
  · rw [State.stackBytes_setFrames]; rfl
  · refine ⟨?_, Nat.le_refl _, Nat.le_refl _, ?_, ?_, fun a c9 h9 => ⟨c9, h9, rfl, rfl, fun _ _ => rfl⟩⟩
    · obtain ⟨t, ht, -⟩ := State.frames_cons hr
      show T.setVm s.vm = { ((T.setVm s.vm).setFrames (.invoking m args :: below)).setFrames (T.setVm s.vm).frames with heap := T.heap, slotsUsed := T.slotsUsed }
      rw [State.setFrames_setFrames, State.setFrames_self ht]
      rfl
    · show T.slotsUsed = T.slotsUsed + ((T.heap.toList.drop T.heap.size).map (·.slots.size)).sum
      rw [List.drop_eq_nil_of_le (Nat.le_of_eq Array.length_toList)]
      rfl
    · show ((T.heap.toList.drop T.heap.size).map (·.slots.size)).sum ≤ 0
      rw [List.drop_eq_nil_of_le (Nat.le_of_eq Array.length_toList)]
      exact Nat.le_refl _
/-- 'throw new E()': new; dup; invokespecial; athrow -/
theorem vx_throw0 {cc : ByteArray} {pc : Nat} (hexec : p.tables.exec = Jvm.exec) (hb : c.code = cc) (hl : l.stackTraces = false) {own cls : String} {names : List String} {ik ic mc ms : Nat} {A : Nat → Prop}
    (hown : s.vm.findClass own = some m.cls) (hcls : Bundle.fit cls = true) (hnames : ∀ n ∈ names, Bundle.fit n = true)
    (hk : (Cond.classLink own ik cls).before args s = true) (hini : (Cond.initialized cls).before args s = true) (hat : ∀ w ∈ vx_at0 own ic cls names, w.before args s = true)
    (hgood : ∀ w ∈ Cond.classLink own ik cls :: Cond.initialized cls :: vx_at0 own ic cls names, vx_ot w = true)
    (hU : vx_Zq Bundle.tN "UNASSIGNED_STACK" Bundle.steD A s s.heap) (hN : vx_Zq Bundle.tN "SUPPRESSED_SENTINEL" Bundle.listD A s s.heap) (hS : va_S A s.heap H locs) (hsize : ls.size = c.maxLocals)
    (d0 : decode cc pc = .ok (.new ik, 3)) (d3 : decode cc (pc + 3) = .ok (.dup, 1)) (d4 : decode cc (pc + 4) = .ok (.invokespecial ic, 3)) (d7 : decode cc (pc + 7) = .ok (.athrow, 1))
    (hout : ∀ x ∈ c.exceptionTable.toList, covers x (pc + 7) = false)
    (hRframes : names.length + 3 < R.frames) (hRlocals : (rest.map fun v => v.category).sum + (13 * (names.length + 1) + 42) ≤ R.locals) (hRcells : cells + 1 ≤ R.cells) (hRslots : slots + 6 ≤ R.slots) (hlocks : meth.locks = false)
    (hx : ∀ t : State, s.vm.Alike t.vm → H.size ≤ t.heap.size → (∀ q : Nat, q < H.size → t.heap[q]? = H[q]?) → XC cls s t)
    (hf : ∀ z ∈ locs, free z.base) (hc : cells + 1 ≤ mc) (hs : slots + 6 ≤ ms) :
    W p l e R s m args below meth c H locs cells slots (vx_MQ below Qc XC args s mc ms free) (F0 m pc ls rest) := by
  intro T hT X
  have htr : e.platform.stackTraces = false := (show e.platform.stackTraces = l.stackTraces by rw [X.admits.platform]).trans hl
  have Y := vx_rebase X (R' := { frames := R.frames, locals := R.locals, cells := 1, slots := 6 }) (Nat.le_refl _) (Nat.le_refl _) hRcells hRslots
  obtain ⟨s', hA⟩ : ∃ z, z = (T.setVm s.vm).setFrames (.invoking m args :: below) := ⟨_, rfl⟩
  rw [← hA] at Y
  have hvm : s'.vm = s.vm := by rw [hA]; rfl
  have hhp : s'.heap = H := by rw [hA]; exact hT
  have hW0 : s.WarmedH s'.vm := by rw [hvm]; exact State.WarmedH.refl s
  have hat' : ∀ w ∈ vx_at0 own ic cls names, w.before args s' = true := fun w hw => vx_ot_at hW0 hvm.symm (hgood w (List.mem_cons_of_mem _ (List.mem_cons_of_mem _ hw))) (hat w hw)
  have hk' : (Cond.classLink own ik cls).before args s' = true := vx_ot_at hW0 hvm.symm (hgood _ List.mem_cons_self) hk
  have hini' : (Cond.initialized cls).before args s' = true := vx_ot_at hW0 hvm.symm (hgood _ (List.mem_cons_of_mem _ List.mem_cons_self)) hini
  have hU' : vx_Zq Bundle.tN "UNASSIGNED_STACK" Bundle.steD A s' s'.heap := by rw [hhp]; exact vx_Zq.moved hW0.alike (hU.kept hS.2.1)
  have hN' : vx_Zq Bundle.tN "SUPPRESSED_SENTINEL" Bundle.listD A s' s'.heap := by rw [hhp]; exact vx_Zq.moved hW0.alike (hN.kept hS.2.1)
  have h : ∀ w ∈ Bundle.ownAtoms0 own ic cls names, w.before args s' = true := vx_own hat' (vx_isRefq hU'.1) (vx_isRefq hN'.1) hU'.2.word hN'.2.word
  have hown' : s'.vm.findClass own = some m.cls := by rw [hvm]; exact hown
  have hins : (Cond.instantiable cls 6).before args s' = true := h _ (by simp [Bundle.ownAtoms0])
  obtain ⟨vm₁, cX, kX, hfX, hkX, -, -, X₁, st1⟩ := Y.newCold hexec (own := own) (C := cls) (index := ik) (n := 6) hown' hk' hins hini'
    (g := F0 m pc ls rest) rfl (by rw [hb]; exact d0) (Nat.le_refl _) (Nat.le_refl _)
  generalize hT1 : (T.setVm vm₁).pushCell { cls := cX, slots := kX.instanceTypes.map defaultValue, vm := .none } = T1 at X₁ st1
  have hcat : (Value.ref T.heap.size).category = 1 := rfl
  have hcellA : T1.heap[T.heap.size]? = some (freshCell cX kX) := by rw [← hT1]; exact State.heap_pushCell_size _ _
  have d3' : decode c.code (pc + 3) = .ok (.dup, 1) := by rw [hb]; exact d3
  obtain ⟨U, hsteps, hrun, hend, hW, hsame, ce, hce, hO⟩ := X₁.ctorThrow0 hexec htr (own := own) (cls := cls) (names := names) (ic := ic) hown' hcls hnames h (fun x hx => nomatch hx) hfX hkX hcellA (by rw [hhp, hT]; exact Nat.le_refl _)
    (g := { method := m, pc := pc + 4, locals := ls, stack := .ref T.heap.size :: .ref T.heap.size :: rest, locked := none }) rfl hsize rfl rfl (rest := rest) rfl
    (by rw [hb]; exact d4) (by rw [hb]; exact d7) hout hRframes (by simp only [List.map_cons, List.sum_cons, hcat]; omega) hlocks
  obtain ⟨f1, f2⟩ := vx_frame hsame
  rw [hhp] at f1 f2
  have hWs : s.WarmedH U.vm := State.WarmedH.trans hW0 hW
  have hcl : s.vm.findClass cls = some ce.cls := by
    have h9 := hO.cls
    rw [hvm] at h9
    exact h9
  have hall : s.sameButNew ({ U with vm := s.vm } : State) locs mc ms := by
    subst hA
    obtain ⟨e1, e2⟩ := hsame
    rw [State.setFrames_setFrames] at e1
    have h2 : (T.setVm s.vm).sameButNew ({ U with vm := s.vm } : State) [] (0 + 1) (0 + 6) := ⟨e1, e2⟩
    have h3 := X.same.trans h2
    rw [List.append_nil] at h3
    exact h3.mono hc hs
  refine ⟨U, ?_, .threw T.heap.size, hrun, hend, Or.inr ⟨T.heap.size, rfl, cls, ce, locs, hx U hWs.alike f1 (fun q hq => f2 q hq (fun z hz => nomatch hz)), hce, hO.vm, hcl, hWs, hall, hf⟩⟩
  refine st1 _ ?_
  show Steps p.tables e below (T1.setTop { method := m, pc := pc + 3, locals := ls, stack := .ref T.heap.size :: rest, locked := none }) _
  jvm_step X₁.here [X₁.here.top, hexec, d3', Value.category]
  exact hsteps
/-- 'throw new E("text")': new; dup; ldc; invokespecial; athrow -/
theorem vx_throwS {cc : ByteArray} {pc : Nat} (hexec : p.tables.exec = Jvm.exec) (hb : c.code = cc) (hl : l.stackTraces = false) {own cls text : String} {names : List String} {ik is ic mc ms sa : Nat} {A : Nat → Prop}
    (hown : s.vm.findClass own = some m.cls) (hcls : Bundle.fit cls = true) (hnames : ∀ n ∈ names, Bundle.fit n = true)
    (hk : (Cond.classLink own ik cls).before args s = true) (hini : (Cond.initialized cls).before args s = true) (hstr : vk_R own is text sa s) (hat : ∀ w ∈ vx_atS own ic cls names, w.before args s = true)
    (hgood : ∀ w ∈ Cond.classLink own ik cls :: Cond.initialized cls :: vx_atS own ic cls names, vx_ot w = true)
    (hU : vx_Zq Bundle.tN "UNASSIGNED_STACK" Bundle.steD A s s.heap) (hN : vx_Zq Bundle.tN "SUPPRESSED_SENTINEL" Bundle.listD A s s.heap) (hS : va_S A s.heap H locs) (hsize : ls.size = c.maxLocals)
    (d0 : decode cc pc = .ok (.new ik, 3)) (d3 : decode cc (pc + 3) = .ok (.dup, 1)) (d4 : decode cc (pc + 4) = .ok (.ldc is, 2)) (d6 : decode cc (pc + 6) = .ok (.invokespecial ic, 3)) (d9 : decode cc (pc + 9) = .ok (.athrow, 1))
    (hout : ∀ x ∈ c.exceptionTable.toList, covers x (pc + 9) = false)
    (hRframes : names.length + 3 < R.frames) (hRlocals : (rest.map fun v => v.category).sum + (13 * (names.length + 1) + 43) ≤ R.locals) (hRcells : cells + 1 ≤ R.cells) (hRslots : slots + 6 ≤ R.slots) (hlocks : meth.locks = false)
    (hx : ∀ t : State, s.vm.Alike t.vm → H.size ≤ t.heap.size → (∀ q : Nat, q < H.size → t.heap[q]? = H[q]?) → XC cls s t)
    (hf : ∀ z ∈ locs, free z.base) (hc : cells + 1 ≤ mc) (hs : slots + 6 ≤ ms) :
    W p l e R s m args below meth c H locs cells slots (vx_MQ below Qc XC args s mc ms free) (F0 m pc ls rest) := by
  intro T hT X
  have htr : e.platform.stackTraces = false := (show e.platform.stackTraces = l.stackTraces by rw [X.admits.platform]).trans hl
  have Y := vx_rebase X (R' := { frames := R.frames, locals := R.locals, cells := 1, slots := 6 }) (Nat.le_refl _) (Nat.le_refl _) hRcells hRslots
  obtain ⟨s', hA⟩ : ∃ z, z = (T.setVm s.vm).setFrames (.invoking m args :: below) := ⟨_, rfl⟩
  rw [← hA] at Y
  have hvm : s'.vm = s.vm := by rw [hA]; rfl
  have hhp : s'.heap = H := by rw [hA]; exact hT
  have hW0 : s.WarmedH s'.vm := by rw [hvm]; exact State.WarmedH.refl s
  have hat' : ∀ w ∈ vx_atS own ic cls names, w.before args s' = true := fun w hw => vx_ot_at hW0 hvm.symm (hgood w (List.mem_cons_of_mem _ (List.mem_cons_of_mem _ hw))) (hat w hw)
  have hk' : (Cond.classLink own ik cls).before args s' = true := vx_ot_at hW0 hvm.symm (hgood _ List.mem_cons_self) hk
  have hini' : (Cond.initialized cls).before args s' = true := vx_ot_at hW0 hvm.symm (hgood _ (List.mem_cons_of_mem _ List.mem_cons_self)) hini
  have hU' : vx_Zq Bundle.tN "UNASSIGNED_STACK" Bundle.steD A s' s'.heap := by rw [hhp]; exact vx_Zq.moved hW0.alike (hU.kept hS.2.1)
  have hN' : vx_Zq Bundle.tN "SUPPRESSED_SENTINEL" Bundle.listD A s' s'.heap := by rw [hhp]; exact vx_Zq.moved hW0.alike (hN.kept hS.2.1)
  have h : ∀ w ∈ Bundle.ownAtoms own ic cls names, w.before args s' = true := vx_own hat' (vx_isRefq hU'.1) (vx_isRefq hN'.1) hU'.2.word hN'.2.word
  have hown' : s'.vm.findClass own = some m.cls := by rw [hvm]; exact hown
  have hins : (Cond.instantiable cls 6).before args s' = true := h _ (by simp [Bundle.ownAtoms])
  obtain ⟨vm₁, cX, kX, hfX, hkX, -, -, X₁, st1⟩ := Y.newCold hexec (own := own) (C := cls) (index := ik) (n := 6) hown' hk' hins hini'
    (g := F0 m pc ls rest) rfl (by rw [hb]; exact d0) (Nat.le_refl _) (Nat.le_refl _)
  generalize hT1 : (T.setVm vm₁).pushCell { cls := cX, slots := kX.instanceTypes.map defaultValue, vm := .none } = T1 at X₁ st1
  have hcat : (Value.ref T.heap.size).category = 1 := rfl
  have hcellA : T1.heap[T.heap.size]? = some (freshCell cX kX) := by rw [← hT1]; exact State.heap_pushCell_size _ _
  have d3' : decode c.code (pc + 3) = .ok (.dup, 1) := by rw [hb]; exact d3
  have d4' : decode c.code (pc + 4) = .ok (.ldc is, 2) := by rw [hb]; exact d4
  have hstr' : vk_R own is text sa s' := vk_R.warm hW0 hstr
  obtain ⟨U, hsteps, hrun, hend, hW, hsame, ce, hce, hO⟩ := X₁.ctorThrowS hexec htr (own := own) (cls := cls) (names := names) (ic := ic) hown' hcls hnames h (fun x hx => nomatch hx) hfX hkX hcellA (by rw [hhp, hT]; exact Nat.le_refl _) (msg := .ref sa) rfl
    (g := { method := m, pc := pc + 6, locals := ls, stack := .ref sa :: .ref T.heap.size :: .ref T.heap.size :: rest, locked := none }) rfl hsize rfl rfl (rest := rest) rfl
    (by rw [hb]; exact d6) (by rw [hb]; exact d9) hout hRframes (by simp only [List.map_cons, List.sum_cons, hcat]; omega) hlocks
  obtain ⟨f1, f2⟩ := vx_frame hsame
  rw [hhp] at f1 f2
  have hWs : s.WarmedH U.vm := State.WarmedH.trans hW0 hW
  have hcl : s.vm.findClass cls = some ce.cls := by
    have h9 := hO.cls
    rw [hvm] at h9
    exact h9
  have hall : s.sameButNew ({ U with vm := s.vm } : State) locs mc ms := by
    subst hA
    obtain ⟨e1, e2⟩ := hsame
    rw [State.setFrames_setFrames] at e1
    have h2 : (T.setVm s.vm).sameButNew ({ U with vm := s.vm } : State) [] (0 + 1) (0 + 6) := ⟨e1, e2⟩
    have h3 := X.same.trans h2
    rw [List.append_nil] at h3
    exact h3.mono hc hs
  refine ⟨U, ?_, .threw T.heap.size, hrun, hend, Or.inr ⟨T.heap.size, rfl, cls, ce, locs, hx U hWs.alike f1 (fun q hq => f2 q hq (fun z hz => nomatch hz)), hce, hO.vm, hcl, hWs, hall, hf⟩⟩
  refine st1 _ ?_
  show Steps p.tables e below (T1.setTop { method := m, pc := pc + 3, locals := ls, stack := .ref T.heap.size :: rest, locked := none }) _
  jvm_step X₁.here [X₁.here.top, hexec, d3', Value.category]
  exact X₁.ldcString hexec (own := own) (text := text) (index := is) (a := sa) hown' hstr'.1 hstr'.2
    (g := { method := m, pc := pc + 4, locals := ls, stack := .ref T.heap.size :: .ref T.heap.size :: rest, locked := none }) rfl d4' _ hsteps
/-- 'throw new E("text")', the text by a wide index -/
theorem vx_throwSW {cc : ByteArray} {pc : Nat} (hexec : p.tables.exec = Jvm.exec) (hb : c.code = cc) (hl : l.stackTraces = false) {own cls text : String} {names : List String} {ik is ic mc ms sa : Nat} {A : Nat → Prop}
    (hown : s.vm.findClass own = some m.cls) (hcls : Bundle.fit cls = true) (hnames : ∀ n ∈ names, Bundle.fit n = true)
    (hk : (Cond.classLink own ik cls).before args s = true) (hini : (Cond.initialized cls).before args s = true) (hstr : vk_R own is text sa s) (hat : ∀ w ∈ vx_atS own ic cls names, w.before args s = true)
    (hgood : ∀ w ∈ Cond.classLink own ik cls :: Cond.initialized cls :: vx_atS own ic cls names, vx_ot w = true)
    (hU : vx_Zq Bundle.tN "UNASSIGNED_STACK" Bundle.steD A s s.heap) (hN : vx_Zq Bundle.tN "SUPPRESSED_SENTINEL" Bundle.listD A s s.heap) (hS : va_S A s.heap H locs) (hsize : ls.size = c.maxLocals)
    (d0 : decode cc pc = .ok (.new ik, 3)) (d3 : decode cc (pc + 3) = .ok (.dup, 1)) (d4 : decode cc (pc + 4) = .ok (.ldc_w is, 3)) (d7 : decode cc (pc + 7) = .ok (.invokespecial ic, 3)) (d10 : decode cc (pc + 10) = .ok (.athrow, 1))
    (hout : ∀ x ∈ c.exceptionTable.toList, covers x (pc + 10) = false)
    (hRframes : names.length + 3 < R.frames) (hRlocals : (rest.map fun v => v.category).sum + (13 * (names.length + 1) + 43) ≤ R.locals) (hRcells : cells + 1 ≤ R.cells) (hRslots : slots + 6 ≤ R.slots) (hlocks : meth.locks = false)
    (hx : ∀ t : State, s.vm.Alike t.vm → H.size ≤ t.heap.size → (∀ q : Nat, q < H.size → t.heap[q]? = H[q]?) → XC cls s t)
    (hf : ∀ z ∈ locs, free z.base) (hc : cells + 1 ≤ mc) (hs : slots + 6 ≤ ms) :
    W p l e R s m args below meth c H locs cells slots (vx_MQ below Qc XC args s mc ms free) (F0 m pc ls rest) := by
  intro T hT X
  have htr : e.platform.stackTraces = false := (show e.platform.stackTraces = l.stackTraces by rw [X.admits.platform]).trans hl
  have Y := vx_rebase X (R' := { frames := R.frames, locals := R.locals, cells := 1, slots := 6 }) (Nat.le_refl _) (Nat.le_refl _) hRcells hRslots
  obtain ⟨s', hA⟩ : ∃ z, z = (T.setVm s.vm).setFrames (.invoking m args :: below) := ⟨_, rfl⟩
  rw [← hA] at Y
  have hvm : s'.vm = s.vm := by rw [hA]; rfl
  have hhp : s'.heap = H := by rw [hA]; exact hT
  have hW0 : s.WarmedH s'.vm := by rw [hvm]; exact State.WarmedH.refl s
  have hat' : ∀ w ∈ vx_atS own ic cls names, w.before args s' = true := fun w hw => vx_ot_at hW0 hvm.symm (hgood w (List.mem_cons_of_mem _ (List.mem_cons_of_mem _ hw))) (hat w hw)
  have hk' : (Cond.classLink own ik cls).before args s' = true := vx_ot_at hW0 hvm.symm (hgood _ List.mem_cons_self) hk
  have hini' : (Cond.initialized cls).before args s' = true := vx_ot_at hW0 hvm.symm (hgood _ (List.mem_cons_of_mem _ List.mem_cons_self)) hini
  have hU' : vx_Zq Bundle.tN "UNASSIGNED_STACK" Bundle.steD A s' s'.heap := by rw [hhp]; exact vx_Zq.moved hW0.alike (hU.kept hS.2.1)
  have hN' : vx_Zq Bundle.tN "SUPPRESSED_SENTINEL" Bundle.listD A s' s'.heap := by rw [hhp]; exact vx_Zq.moved hW0.alike (hN.kept hS.2.1)
  have h : ∀ w ∈ Bundle.ownAtoms own ic cls names, w.before args s' = true := vx_own hat' (vx_isRefq hU'.1) (vx_isRefq hN'.1) hU'.2.word hN'.2.word
  have hown' : s'.vm.findClass own = some m.cls := by rw [hvm]; exact hown
  have hins : (Cond.instantiable cls 6).before args s' = true := h _ (by simp [Bundle.ownAtoms])
  obtain ⟨vm₁, cX, kX, hfX, hkX, -, -, X₁, st1⟩ := Y.newCold hexec (own := own) (C := cls) (index := ik) (n := 6) hown' hk' hins hini'
    (g := F0 m pc ls rest) rfl (by rw [hb]; exact d0) (Nat.le_refl _) (Nat.le_refl _)
  generalize hT1 : (T.setVm vm₁).pushCell { cls := cX, slots := kX.instanceTypes.map defaultValue, vm := .none } = T1 at X₁ st1
  have hcat : (Value.ref T.heap.size).category = 1 := rfl
  have hcellA : T1.heap[T.heap.size]? = some (freshCell cX kX) := by rw [← hT1]; exact State.heap_pushCell_size _ _
  have d3' : decode c.code (pc + 3) = .ok (.dup, 1) := by rw [hb]; exact d3
  have d4' : decode c.code (pc + 4) = .ok (.ldc_w is, 3) := by rw [hb]; exact d4
  have hstr' : vk_R own is text sa s' := vk_R.warm hW0 hstr
  obtain ⟨U, hsteps, hrun, hend, hW, hsame, ce, hce, hO⟩ := X₁.ctorThrowS hexec htr (own := own) (cls := cls) (names := names) (ic := ic) hown' hcls hnames h (fun x hx => nomatch hx) hfX hkX hcellA (by rw [hhp, hT]; exact Nat.le_refl _) (msg := .ref sa) rfl
    (g := { method := m, pc := pc + 7, locals := ls, stack := .ref sa :: .ref T.heap.size :: .ref T.heap.size :: rest, locked := none }) rfl hsize rfl rfl (rest := rest) rfl
    (by rw [hb]; exact d7) (by rw [hb]; exact d10) hout hRframes (by simp only [List.map_cons, List.sum_cons, hcat]; omega) hlocks
  obtain ⟨f1, f2⟩ := vx_frame hsame
  rw [hhp] at f1 f2
  have hWs : s.WarmedH U.vm := State.WarmedH.trans hW0 hW
  have hcl : s.vm.findClass cls = some ce.cls := by
    have h9 := hO.cls
    rw [hvm] at h9
    exact h9
  have hall : s.sameButNew ({ U with vm := s.vm } : State) locs mc ms := by
    subst hA
    obtain ⟨e1, e2⟩ := hsame
    rw [State.setFrames_setFrames] at e1
    have h2 : (T.setVm s.vm).sameButNew ({ U with vm := s.vm } : State) [] (0 + 1) (0 + 6) := ⟨e1, e2⟩
    have h3 := X.same.trans h2
    rw [List.append_nil] at h3
    exact h3.mono hc hs
  refine ⟨U, ?_, .threw T.heap.size, hrun, hend, Or.inr ⟨T.heap.size, rfl, cls, ce, locs, hx U hWs.alike f1 (fun q hq => f2 q hq (fun z hz => nomatch hz)), hce, hO.vm, hcl, hWs, hall, hf⟩⟩
  refine st1 _ ?_
  show Steps p.tables e below (T1.setTop { method := m, pc := pc + 3, locals := ls, stack := .ref T.heap.size :: rest, locked := none }) _
  jvm_step X₁.here [X₁.here.top, hexec, d3', Value.category]
  exact X₁.ldcStringW hexec (own := own) (text := text) (index := is) (a := sa) hown' hstr'.1 hstr'.2
    (g := { method := m, pc := pc + 4, locals := ls, stack := .ref T.heap.size :: .ref T.heap.size :: rest, locked := none }) rfl d4' _ hsteps
end Ends
section Bodies
variable {l : Launch}
theorem vx_ofW {y : MethodName} {ws ws' : List Cond} {rm : Room} {Pc : Array Value → State → Prop} {Qc : Array Value → State → Outcome → State → Prop} {XC : String → State → State → Prop} {mc ms : Nat} {free : Addr → Prop} {cc : ByteArray} {maxL : Nat} {ret : Option FieldType}
    (hy : plainName y.cls = true) (hw : ws = Cond.code y cc maxL ret :: ws')
    (body : ∀ p e s m args below meth c s₁, BodyLoose p l y (headSpec ws rm) cc maxL ret e s m args below meth c s₁ → c.maxLocals = maxL → (∀ x ∈ c.exceptionTable.toList, False) → Pc args s →
      W p l e (headSpec ws rm).room s m args below meth c s.heap [] 0 0 (vx_MQ below Qc XC args s mc ms free) (entryFrame m args maxL)) : vx_Met l y ws rm Pc Qc XC mc ms free := by
  refine MetFree.of_bodyS (code := cc) (maxLocals := maxL) (ret := ret) hy ?_ ?_
  · intro args s m h hn
    obtain ⟨meth, c, h1, h2, h3, h4, h5, h6, -, -⟩ := Cond.code_spec hn (atoms_spec (ws := ws) h _ (by rw [hw]; exact List.mem_cons_self))
    exact ⟨meth, c, h1, h2, h3, h4, h5, h6⟩
  · intro p e s m args below meth c s₁ B hml hP _
    have hh0 : s₁.heap = s.heap := by rw [B.state]; rfl
    have ht : ∀ x ∈ c.exceptionTable.toList, False := by
      obtain ⟨meth9, c9, h1, h2, -, -, -, -, h7, -⟩ := Cond.code_spec B.named (atoms_spec (ws := ws) B.pre _ (by rw [hw]; exact List.mem_cons_self))
      cases Option.some.inj (h1.symm.trans B.method)
      cases Option.some.inj (h2.symm.trans (Stand.of_body B).code)
      intro x hx
      rw [Array.isEmpty_iff.mp h7] at hx
      cases hx
    obtain ⟨t, a1, o, b1, b2, b3⟩ := body p e s m args below meth c s₁ B hml ht hP s₁ hh0 (Stand.of_body B)
    exact ⟨t, o, a1, b1, b2, b3⟩
/-- the table of a body with handlers -/
theorem vx_table {p : Program} {x y : MethodName} {S : Spec} {cc bytes : ByteArray} {maxL maxL' : Nat} {ret ret' : Option FieldType} {e : Env} {s s₁ : State} {m : MethodId} {args : Array Value} {below : List Frame} {meth : Method} {c : Code} {hh : List (Nat × Nat × Nat × Nat)}
    (B : BodyLoose p l y S cc maxL ret e s m args below meth c s₁) (h : (Cond.codeWith y bytes maxL' ret' hh).before args s = true) : c.exceptionTable.toList = tableOf hh := by
  obtain ⟨m9, meth9, c9, hn9, h1, h2, -, -, h6, -⟩ := Cond.codeWith_spec h
  cases Option.some.inj (hn9.symm.trans B.named)
  cases Option.some.inj (h1.symm.trans B.method)
  cases Option.some.inj (h2.symm.trans (Stand.of_body B).code)
  rw [← h6, table_eq]
end Bodies
end VXA
/-! ===== END ===== -/
/-! ===== BEGIN a static call of a method with an exception table ===== -/
section VXS
variable {p : Program} {l : Launch} {e : Env} {R : Room} {s : State} {m : MethodId} {args : Array Value} {below : List Frame} {meth : Method} {c : Code} {T : State} {H : Heap} {locs : List Loc} {cells slots : Nat}
abbrev vx_CSW (R : Room) (s : State) (args : Array Value) (own : String) (index : Nat) (y : MethodName) (bytes : ByteArray) (maxL : Nat) (ret : Option FieldType) (hh : List (Nat × Nat × Nat × Nat)) (ws : List Cond) (rm : Room) (mc ms n : Nat) : Prop :=
  (rm.cells = mc ∧ rm.slots = ms ∧ rm.frames + 1 ≤ R.frames ∧ 8 + (maxL + 11) + rm.locals ≤ R.locals ∧ (∀ w ∈ ws, ∀ (a' : Array Value) (U : State), s.WarmedH U.vm → w.before a' U = true) ∧ Cond.codeWith y bytes maxL ret hh ∈ ws) ∧
  (Cond.codeWith y bytes maxL ret hh).before args s = true ∧ (Cond.initialized y.cls).before args s = true ∧ (y.cls ≠ "java/lang/invoke/MethodHandle" ∧ y.cls ≠ "java/lang/invoke/VarHandle") ∧
  (∀ sig, parseMethodDescriptor y.desc = some sig → n = sig.parameters.length) ∧ (Cond.methodLink own index y).before args s = true ∧ (Cond.static y).before args s = true
theorem vx_cwSW {own : String} {index maxL mc ms : Nat} {y : MethodName} {bytes : ByteArray} {ret : Option FieldType} {hh : List (Nat × Nat × Nat × Nat)} {Ts ws ws' : List Cond} {rm : Room} (n : Nat) (ht : ∀ w ∈ Ts, w.before args s = true) (hT : GoodIn Ts (va_wsS own index y ws)) (hw : ws = Cond.codeWith y bytes maxL ret hh :: ws') (hrc : rm.cells = mc) (hrs : rm.slots = ms)
    (hd : y.cls ≠ "java/lang/invoke/MethodHandle" ∧ y.cls ≠ "java/lang/invoke/VarHandle" ∧ (parseMethodDescriptor y.desc).map (fun d => d.parameters.length) = some n) (hR : rm.frames + 1 ≤ R.frames ∧ 8 + (maxL + 11) + rm.locals ≤ R.locals) :
    vx_CSW R s args own index y bytes maxL ret hh ws rm mc ms n := by
  have ok : ∀ w ∈ va_wsS own index y ws, w.before args s = true := fun w h => ht w (hT w h).1
  have hG : GoodIn Ts ws := fun w h => hT w (by unfold va_wsS; exact List.mem_append_right _ h)
  have hc : Cond.codeWith y bytes maxL ret hh ∈ ws := by rw [hw]; exact List.mem_cons_self
  refine ⟨⟨hrc, hrs, hR.1, hR.2, pay_in ht hG, hc⟩, ht _ (hG _ hc).1, ok _ (by simp [va_wsS]), ⟨hd.1, hd.2.1⟩, fun sig h => ?_, ok _ (by simp [va_wsS]), ok _ (by simp [va_wsS])⟩
  have h2 := hd.2.2
  rw [h] at h2
  exact (Option.some.inj h2).symm
theorem vx_callSW (X : Stand p l e R s m args below meth c T locs cells slots) (hexec : p.tables.exec = Jvm.exec) {own : String} {index : Nat} {y : MethodName} {bytes : ByteArray} {maxL : Nat} {ret : Option FieldType} {hh : List (Nat × Nat × Nat × Nat)}
    (hown : s.vm.findClass own = some m.cls) (hlink : (Cond.methodLink own index y).before args s = true) (hstat : (Cond.static y).before args s = true) (hinit : (Cond.initialized y.cls).before args s = true)
    (hcode : (Cond.codeWith y bytes maxL ret hh).before args s = true) (hy : y.cls ≠ "java/lang/invoke/MethodHandle" ∧ y.cls ≠ "java/lang/invoke/VarHandle")
    {W9 : Nat} {Pre : Pt → Array Value → Prop} {Post : Pt → Array Value → Option Value → Pt → Prop} (hK : Back l R p e below s args y 3 W9 Pre Post)
    {g : JFrame} (hg : g.method = m) (hsize : g.locals.size = c.maxLocals) {argsL rest : List Value} (hlen : ∀ sig, parseMethodDescriptor y.desc = some sig → argsL.length = sig.parameters.length)
    (hstack : g.stack = argsL.reverse ++ rest) (hW : 2 * g.monitorRoom + (rest.map fun v => v.category).sum ≤ W9) (hdg : decode c.code g.pc = .ok (.invokestatic index, 3))
    (hpre : ∀ vm₁, s.WarmedH vm₁ → Pre ⟨T.setVm vm₁, locs, cells, slots⟩ argsL.toArray) :
    ∃ (v : Option Value) (vm₁ : Vm) (B : Pt), s.WarmedH vm₁ ∧ Stand p l e R s m args below meth c B.U B.locs B.cells B.slots ∧ Post ⟨T.setVm vm₁, locs, cells, slots⟩ argsL.toArray v B ∧
      ∀ target, Steps p.tables e below (B.U.setTop { g with pc := g.pc + 3, stack := v.toList ++ rest }) target → Steps p.tables e below (T.setTop g) target := by
  obtain ⟨mk, methM, cM, hnamed, hmethM, -, -, -, -, -, -, hsigM⟩ := Cond.codeWith_spec hcode
  have hstatic : methM.isStatic = true := Cond.static_spec hnamed hmethM hstat
  obtain ⟨kP, hkP, -⟩ := className_of_methodNamed hnamed
  have hinitP : kP.init = .initialized := Cond.initialized_spec (findClass_of_methodNamed hnamed) hkP hinit
  obtain ⟨vm₁, X₁, hstep₁⟩ := X.invokestatic hexec hown hlink hnamed hmethM hstatic hkP hinitP hy (g := g) hg (argsL := argsL) (rest := rest) (hlen _ hsigM) hstack hdg
  obtain ⟨v, B, X', hpost, hsteps⟩ := hK m meth c ⟨T.setVm vm₁, locs, cells, slots⟩ { g with stack := rest } (.invokestatic index) mk argsL.toArray X₁ hg hsize hdg hW (X₁.named hnamed) (hpre vm₁ X₁.warmed)
  exact ⟨v, vm₁, B, X₁.warmed, X', hpost, fun target h => hstep₁ _ fun acts => by rw [doInvoke_state]; exact hsteps.trans h⟩
theorem vx_runSW {y : MethodName} {bytes cc : ByteArray} {maxL nL mc ms n index : Nat} {ret : Option FieldType} {hh : List (Nat × Nat × Nat × Nat)} {ws : List Cond} {rm : Room} {Pc : Array Value → State → Prop} {Qc : Array Value → State → Outcome → State → Prop} {free : Addr → Prop} {Ts : List Cond} {own : String} {As rest : List Value} {g : JFrame}
    (S : CallFix p m c cc nL s args Ts own) (hM : Met l y ws rm Pc Qc mc ms free) (cw : vx_CSW R s args own index y bytes maxL ret hh ws rm mc ms n) (hp : PreS s H Pc As)
    (hg : g.method = m) (hn : As.length = n) (hsize : g.locals.size = nL) (hstack : g.stack = As.reverse ++ rest) (hW : 2 * g.monitorRoom + (rest.map fun v => v.category).sum ≤ 8) (hdg : decode cc g.pc = .ok (.invokestatic index, 3)) (hf : cells + mc ≤ R.cells ∧ slots + ms ≤ R.slots) :
    va_Run p l e R s m args below meth c H locs cells slots mc ms g rest (Qc As.toArray) (free) := by
  obtain ⟨⟨hrc, hrs, hfr, hlo, hws, hcw⟩, hcode, hini, hy, hlen, hl, hstt⟩ := cw
  have hK : Back l R p e below s args y 3 8 (PreOf R mc ms Pc) (PostOf Qc mc ms free) := va_backW (hh := hh) (bytes := bytes) (maxL := maxL) (ret := ret) hM hp.1 hrc hrs hfr hlo hws hcw (fun a' U hW => word_at hW (Or.inl (by first | rfl | simp [Cond.onTables, Cond.keeps, Cond.steady])) hini)
  obtain ⟨hx, hb, hml, ho, -⟩ := S
  intro T hT X
  obtain ⟨v, vm₁, ⟨U', l2, c2, s2⟩, hW₁, X', ⟨g', mk, t, L, e1, e2, hq, h1, hL, h2, h3⟩, st⟩ := vx_callSW X hx (hh := hh) (bytes := bytes) (maxL := maxL) (ret := ret) ho hl hstt hini hcode hy hK hg (hsize.trans hml.symm) (argsL := As) (rest := rest) (fun sig h => hn.trans (hlen sig h)) hstack hW (by rw [hb]; exact hdg)
    (fun vm₁ hW₁ => ⟨hf.1, hf.2, hp.2 (T.setVm vm₁) hT hW₁⟩)
  dsimp only [Pt.U, Pt.locs, Pt.cells, Pt.slots] at X' e1 e2 h1 h2 h3 st
  subst h1; subst h2; subst h3
  exact ⟨v, (T.setVm vm₁).calling g' mk As.toArray, t, U', L, hT, X', hL, e1, e2, hq, st⟩
/-- not caught here, past rows that name other classes: it goes on to the caller -/
theorem vx_outP {p : Program} {l : Launch} {e : Env} {R : Room} {s : State} {m : MethodId} {args : Array Value} {below : List Frame} {meth : Method} {c : Code} {H : Heap} {locs : List Loc} {cells slots : Nat} {free : Addr → Prop} {ls : Array Slot} {rest : List Value} {Qc : Array Value → State → Outcome → State → Prop} {XC : String → State → State → Prop}
    {pc : Nat} {own E : String} {ce : Cell} {q : Addr} {mc ms : Nat} (hown : s.vm.findClass own = some m.cls) (hlocks : meth.locks = false)
    (hpass : ∀ z ∈ c.exceptionTable.toList, covers z pc = false ∨ (z.catchType ≠ 0 ∧ ∃ nm : String, (Cond.classLink own z.catchType nm).before args s = true ∧ va_Nc E nm s)) (hcell : H[q]? = some ce) (hv : ce.vm = .none) (hcl : s.vm.findClass E = some ce.cls)
    (hx : ∀ t : State, t.heap = H → s.vm.Alike t.vm → XC E s t) (hf : ∀ z ∈ locs, free z.base) (hc : cells ≤ mc) (hs : slots ≤ ms) :
    vx_W p l e R s m args below meth c H locs cells slots (vx_MQ below Qc XC args s mc ms free) (F0 m pc ls rest) q := by
  intro T hT X
  have hpl : e.platform.magicAccessors = ({} : Platform).magicAccessors := by rw [X.admits.platform]
  obtain ⟨vm', hW', X', st⟩ := X.outThrough hlocks q (g := F0 m pc ls rest) rfl rfl rfl (cell := ce) (by rw [hT]; exact hcell) (by rw [hv]; rfl)
    (by obtain ⟨k9, h9, -⟩ := Vm.findClass_spec hcl; exact ⟨k9, h9⟩) (fun z hz => by
      rcases hpass z hz with h | ⟨hz0, nm, hl1, hn1⟩
      · exact Or.inl h
      · obtain ⟨c6, hc6, hcl6⟩ := Cond.classLink_spec hown hl1 e.platform hpl
        obtain ⟨a8, b8, h1, h2, h3⟩ := hn1
        cases Option.some.inj (h1.symm.trans hcl)
        cases Option.some.inj (h2.symm.trans hc6)
        exact Or.inr ⟨hz0, _, hcl6, h3⟩)
  obtain ⟨g₀, hfr⟩ := X'.frames_eq
  have hcell9 : ((T.setVm vm').setFrames (.throwing q :: below)).heap[q]? = some ce := by
    show T.heap[q]? = some ce
    rw [hT]; exact hcell
  have hend : Ended ((T.setVm vm').setFrames (.throwing q :: below)) below (.threw q) := State.frames_setFrames _ (State.cur_lt_of_frames hfr)
  refine ⟨(T.setVm vm').setFrames (.throwing q :: below), ?_, .threw q, X'.here.running, hend, Or.inr ⟨q, rfl, E, ce, locs, hx _ hT (X'.ends _).1.alike, hcell9, hv, hcl, (X'.ends _).1, (X'.ends _).2.mono hc hs, hf⟩⟩
  rw [X.pushThrowing_eq]
  exact st
/-- a thing of a world lies in the heap -/
theorem vx_lt {D : va_G} {cl : List vw_C} {ws : va_W} {H1 : Heap} (h : va_P D cl ws H1) {k : Nat} {q : Nat × va_E} (hk : ws[k]? = some q) : q.1 < H1.size := (h k q hk).lt
end VXS
/-! ===== END ===== -/
/-! ===== BEGIN methods with a table of their own: called by a name, returning or throwing ===== -/
section VXH
/-! vx_backW, vx_callVX, vx_callSX, vx_callVW, vx_runVW, vx_runVX, vx_runSX, vx_ofWH follow the same proofs as their sisters above (Free/Laws.lean, Shelf42/LK1.lean); vx_outP calls Shelf42/NT130.lean (outThrough). -/
section
variable {l : Launch} {R : Room} {p : Program} {e : Env} {below : List Frame} {s : State} {sargs : Array Value} {y : MethodName} {len W9 : Nat}
theorem vx_backW {ws : List Cond} {rm : Room} {Pc : Array Value → State → Prop} {Qc : Array Value → State → Outcome → State → Prop} {XC : String → State → State → Prop} {mc ms : Nat} {free : Addr → Prop} {bytes : ByteArray} {maxL : Nat} {ret : Option FieldType} {hh : List (Nat × Nat × Nat × Nat)}
    (hM : vx_Met l y ws rm Pc Qc XC mc ms free) (hblind : FrameBlind Pc) (hrc : rm.cells = mc) (hrs : rm.slots = ms)
    (hframes : rm.frames + 1 ≤ R.frames) (hlocals : W9 + (maxL + 11) + rm.locals ≤ R.locals)
    (hws : ∀ w ∈ ws, ∀ a' U, s.WarmedH U.vm → w.before a' U = true) (hcode : Cond.codeWith y bytes maxL ret hh ∈ ws) (hinit : ∀ a' U, s.WarmedH U.vm → (Cond.initialized y.cls).before a' U = true) :
    vx_Back l R p e below s sargs y len W9 (PreOf R mc ms Pc) (PostOf Qc mc ms free) (vx_Post XC mc ms free) := by
  intro m meth c A g ig mk a X hg hsize hdg hW hn hp
  have h1 : (headSpec ws rm).pre.before a A.U = true := atoms_intro fun w hw => hws w hw _ _ X.warmed
  have h2 : (Cond.codeWith y bytes maxL ret hh).before a A.U = true := hws _ hcode _ _ X.warmed
  have h3 : (Cond.initialized y.cls).before a A.U = true := hinit _ _ X.warmed
  have h4 : A.cells + (headSpec ws rm).room.cells ≤ R.cells := by rw [show (headSpec ws rm).room.cells = mc from hrc]; exact hp.1
  have h5 : A.slots + (headSpec ws rm).room.slots ≤ R.slots := by rw [show (headSpec ws rm).room.slots = ms from hrs]; exact hp.2.1
  have hPc : Pc a (A.U.calling g mk a) := hblind _ _ _ _ hp.2.2
  obtain ⟨U, Ls, c0, s0⟩ := A
  dsimp only [Pt.U, Pt.locs, Pt.cells, Pt.slots] at h1 h2 h3 h4 h5 X hn hPc ⊢
  obtain ⟨m9, methY, cY, hn9, hmY, hcY, -, hlY, -⟩ := Cond.codeWith_spec h2
  cases Option.some.inj (hn9.symm.trans hn)
  obtain ⟨kY, hkY, -⟩ := className_of_methodNamed hn
  have hinitY : kY.init = .initialized := Cond.initialized_spec (findClass_of_methodNamed hn) hkY h3
  have h : At U g.method c below := by rw [hg]; exact X.here
  have hlocals9 : W9 + (maxL + 11) + (headSpec ws rm).room.locals ≤ R.locals := hlocals
  have happ : (headSpec ws rm).appliesLoose y e.platform (U.calling g mk a) = true :=
    Spec.appliesLoose_calling (g := g) h hdg hn hkY hinitY
      (X.room_calling (g := g) (R' := (headSpec ws rm).room) hsize hmY hcY hframes (by rw [hlY]; omega) h4 h5) h1
  obtain ⟨mid, hmid⟩ := h.above
  have hfr : (U.setTop g).frames = (.java g :: mid) ++ below := by rw [State.frames_setTop' g h.top, hmid]; rfl
  obtain ⟨o, s₂, hsteps, -, hend, hq⟩ := Steps.callFree hM p X.admits X.cas X.clock (acts := []) hfr happ hPc trivial
  have hq' : vx_Q Qc XC mc ms free a (U.calling g mk a) o s₂ := hq
  rw [State.frames_setTop' g h.top] at hend
  obtain ⟨g₀, hg0⟩ := Option.isSome_iff_exists.mp h.top
  obtain ⟨r, hr⟩ := State.topJava?_eq_some.mp hg0
  have hr' : (({ U with heap := s₂.heap, slotsUsed := s₂.slotsUsed } : State).setVm s₂.vm).frames = .java g₀ :: r := hr
  rcases hq' with ⟨hqc, L, hfe, hL⟩ | ⟨q, rfl, E, ce, L, hx, hce, hcv, hcl, hW₂, hsm, hL⟩
  · obtain ⟨⟨v, rfl⟩, hW₂, e2, q2, q3, q4, q5, q6⟩ := id hfe
    have e3 : s₂ = ({ (U.calling g mk a).setFrames s₂.frames with heap := s₂.heap, slotsUsed := s₂.slotsUsed } : State).setVm s₂.vm := by
      have : s₂ = ({ s₂ with vm := (U.calling g mk a).vm } : State).setVm s₂.vm := rfl
      rw [e2] at this
      exact this
    obtain ⟨c₂, i₂, len₂, hc₂, hd₂, hf₂⟩ := hend
    have hW' : U.WarmedH s₂.vm := hW₂
    have hcc : c₂ = c := by
      have h1 : s₂.code? g.method = U.code? g.method := by
        rw [State.code?_eq, State.code?_eq, hW'.alike.method?]
      exact Option.some.inj (hc₂.symm.trans (h1.trans h.code))
    subst hcc
    have hlen : len₂ = len := by rw [hdg] at hd₂; cases hd₂; rfl
    subst hlen
    have hs₂ : s₂ = (({ U with heap := s₂.heap, slotsUsed := s₂.slotsUsed } : State).setVm s₂.vm).setTop { g with pc := g.pc + len₂, stack := v.toList ++ g.stack } := by
      refine e3.trans ?_
      rw [hf₂, State.calling_eq h.top, State.setFrames_setFrames, State.setTop_of_frames _ hr', hr]
      rfl
    have hsame : U.sameButNew ({ U with heap := s₂.heap, slotsUsed := s₂.slotsUsed } : State) L mc ms := by
      refine ⟨?_, q2, q3, q4, q5, q6⟩
      obtain ⟨t, ht, -⟩ := State.frames_cons hr
      show ({ U with heap := s₂.heap, slotsUsed := s₂.slotsUsed } : State) = { U.setFrames U.frames with heap := s₂.heap, slotsUsed := s₂.slotsUsed }
      rw [State.setFrames_self ht]
    subst hg
    refine Or.inl ⟨v, ⟨(({ U with heap := s₂.heap, slotsUsed := s₂.slotsUsed } : State).setVm s₂.vm), Ls ++ L, c0 + mc, s0 + ms⟩,
      ⟨X.admits, X.cas, X.clock, X.frames, X.room, X.hears, X.method, X.code, (X.here.setHeapUsed s₂.heap s₂.slotsUsed).setVm hW'.alike, X.tail, State.WarmedH.trans X.warmed hW', X.limits, X.bytes, X.same.trans (hsame.setVm s.vm)⟩,
      ⟨g, mk, s₂, L, rfl, rfl, hqc, rfl, hL, rfl, rfl⟩, ?_⟩
    show Steps p.tables e below _ ((({ U with heap := s₂.heap, slotsUsed := s₂.slotsUsed } : State).setVm s₂.vm).setTop { g with pc := g.pc + len₂, stack := v.toList ++ g.stack })
    rw [← hs₂]
    exact hsteps
  · obtain ⟨e2, q2, q3, q4, q5, q6⟩ := id hsm
    have e3 : s₂ = ({ (U.calling g mk a).setFrames s₂.frames with heap := s₂.heap, slotsUsed := s₂.slotsUsed } : State).setVm s₂.vm := by
      have : s₂ = ({ s₂ with vm := (U.calling g mk a).vm } : State).setVm s₂.vm := rfl
      rw [e2] at this
      exact this
    have hf₂ : s₂.frames = .throwing q :: .java g :: U.frames.tail := hend
    have hW' : U.WarmedH s₂.vm := hW₂
    have hs₂ : s₂ = ((({ U with heap := s₂.heap, slotsUsed := s₂.slotsUsed } : State).setVm s₂.vm).setTop g).pushFrame (.throwing q) := by
      refine e3.trans ?_
      rw [hf₂, State.calling_eq h.top, State.setFrames_setFrames, State.pushFrame, State.frames_setTop _ hr', State.setTop_of_frames _ hr', State.setFrames_setFrames, hr]
      rfl
    have hsame : U.sameButNew ({ U with heap := s₂.heap, slotsUsed := s₂.slotsUsed } : State) L mc ms := by
      refine ⟨?_, q2, q3, q4, q5, q6⟩
      obtain ⟨t, ht, -⟩ := State.frames_cons hr
      show ({ U with heap := s₂.heap, slotsUsed := s₂.slotsUsed } : State) = { U.setFrames U.frames with heap := s₂.heap, slotsUsed := s₂.slotsUsed }
      rw [State.setFrames_self ht]
    subst hg
    refine Or.inr ⟨q, ⟨(({ U with heap := s₂.heap, slotsUsed := s₂.slotsUsed } : State).setVm s₂.vm), Ls ++ L, c0 + mc, s0 + ms⟩,
      ⟨X.admits, X.cas, X.clock, X.frames, X.room, X.hears, X.method, X.code, (X.here.setHeapUsed s₂.heap s₂.slotsUsed).setVm hW'.alike, X.tail, State.WarmedH.trans X.warmed hW', X.limits, X.bytes, X.same.trans (hsame.setVm s.vm)⟩,
      ⟨g, mk, s₂, L, E, ce, rfl, rfl, hx, hce, hcv, hcl, rfl, hL, rfl, rfl⟩, ?_⟩
    show Steps p.tables e below _ (((({ U with heap := s₂.heap, slotsUsed := s₂.slotsUsed } : State).setVm s₂.vm).setTop g).pushFrame (.throwing q))
    rw [← hs₂]
    exact hsteps
end
variable {p : Program} {l : Launch} {e : Env} {R : Room} {s : State} {m : MethodId} {args : Array Value} {below : List Frame} {meth : Method} {c : Code} {T : State} {H : Heap} {locs : List Loc} {cells slots : Nat}
theorem vx_callVX (X : Stand p l e R s m args below meth c T locs cells slots) (hexec : p.tables.exec = Jvm.exec) {own C : String} {index : Nat} {y : MethodName} {bytes : ByteArray} {maxL : Nat} {ret : Option FieldType} {hh : List (Nat × Nat × Nat × Nat)}
    (hown : s.vm.findClass own = some m.cls) (hlink : (Cond.methodLink own index y).before args s = true) (hinst : (Cond.instanceMethod y).before args s = true) (hsel : (Cond.selects C y y).before args s = true)
    (hcode : (Cond.codeWith y bytes maxL ret hh).before args s = true) (hy : y.cls ≠ "java/lang/invoke/MethodHandle" ∧ y.cls ≠ "java/lang/invoke/VarHandle")
    {W9 : Nat} {Pre : Pt → Array Value → Prop} {Post : Pt → Array Value → Option Value → Pt → Prop} {PostX : Pt → Array Value → Addr → Pt → Prop} (hK : vx_Back l R p e below s args y 3 W9 Pre Post PostX)
    {b : Addr} {cellB : Cell} (hcell : T.heap[b]? = some cellB) (hobj : cellB.vm.isStatics = false) (hcls : s.vm.findClass C = some cellB.cls)
    {g : JFrame} (hg : g.method = m) (hsize : g.locals.size = c.maxLocals) {argsL rest : List Value} (hlen : ∀ sig, parseMethodDescriptor y.desc = some sig → argsL.length = sig.parameters.length)
    (hstack : g.stack = argsL.reverse ++ .ref b :: rest) (hW : 2 * g.monitorRoom + (rest.map fun v => v.category).sum ≤ W9) (hdg : decode c.code g.pc = .ok (.invokevirtual index, 3))
    (hpre : ∀ vm₁, s.WarmedH vm₁ → Pre ⟨T.setVm vm₁, locs, cells, slots⟩ (Value.ref b :: argsL).toArray) :
    (∃ (v : Option Value) (vm₁ : Vm) (B : Pt), s.WarmedH vm₁ ∧ Stand p l e R s m args below meth c B.U B.locs B.cells B.slots ∧ Post ⟨T.setVm vm₁, locs, cells, slots⟩ (Value.ref b :: argsL).toArray v B ∧
      ∀ target, Steps p.tables e below (B.U.setTop { g with pc := g.pc + 3, stack := v.toList ++ rest }) target → Steps p.tables e below (T.setTop g) target) ∨
    (∃ (q : Addr) (vm₁ : Vm) (B : Pt), s.WarmedH vm₁ ∧ Stand p l e R s m args below meth c B.U B.locs B.cells B.slots ∧ PostX ⟨T.setVm vm₁, locs, cells, slots⟩ (Value.ref b :: argsL).toArray q B ∧
      Steps p.tables e below (T.setTop g) ((B.U.setTop { g with stack := rest }).pushFrame (.throwing q))) := by
  obtain ⟨mk, methM, hnamed, hmethM, hstM, habM⟩ := Cond.instanceMethod_spec hinst
  obtain ⟨m8, methM', cM, hn8, hmethM', -, -, -, -, -, -, hsigM⟩ := Cond.codeWith_spec hcode
  cases Option.some.inj (hn8.symm.trans hnamed)
  cases hmethM.symm.trans hmethM'
  obtain ⟨c2, r2, m2, q1, q2, q3, q4, kP, hkP, hkPi⟩ := Cond.selects_spec hsel
  cases hcls.symm.trans q1
  cases (State.methodFound?_of_named hnamed hy).symm.trans q2
  cases hnamed.symm.trans q3
  have hselP : selectMethod e.platform s.vm cellB.cls mk = .method mk := by rw [Launch.admits_selectMethod X.admits]; exact q4
  obtain ⟨vm₁, X₁, hstep₁⟩ := X.invokevirtual hexec hown hlink hnamed hmethM hstM hkP hkPi hy (a := b) (cell := cellB) hcell
    (fun z h => by rw [h] at hobj; cases hobj) hselP hmethM habM hkP hkPi (g := g) hg (argsL := argsL) (rest := rest) (hlen _ hsigM) hstack hdg
  rcases hK m meth c ⟨T.setVm vm₁, locs, cells, slots⟩ { g with stack := rest } (.invokevirtual index) mk (Value.ref b :: argsL).toArray X₁ hg hsize hdg hW (X₁.named hnamed) (hpre vm₁ X₁.warmed) with ⟨v, B, X', hpost, hsteps⟩ | ⟨q, B, X', hpost, hsteps⟩
  · exact Or.inl ⟨v, vm₁, B, X₁.warmed, X', hpost, fun target h => hstep₁ _ fun acts => by rw [doInvoke_state]; exact hsteps.trans h⟩
  · exact Or.inr ⟨q, vm₁, B, X₁.warmed, X', hpost, hstep₁ _ fun acts => by rw [doInvoke_state]; exact hsteps⟩
theorem vx_callSX (X : Stand p l e R s m args below meth c T locs cells slots) (hexec : p.tables.exec = Jvm.exec) {own : String} {index : Nat} {y : MethodName} {bytes : ByteArray} {maxL : Nat} {ret : Option FieldType} {hh : List (Nat × Nat × Nat × Nat)}
    (hown : s.vm.findClass own = some m.cls) (hlink : (Cond.methodLink own index y).before args s = true) (hstat : (Cond.static y).before args s = true) (hinit : (Cond.initialized y.cls).before args s = true)
    (hcode : (Cond.codeWith y bytes maxL ret hh).before args s = true) (hy : y.cls ≠ "java/lang/invoke/MethodHandle" ∧ y.cls ≠ "java/lang/invoke/VarHandle")
    {W9 : Nat} {Pre : Pt → Array Value → Prop} {Post : Pt → Array Value → Option Value → Pt → Prop} {PostX : Pt → Array Value → Addr → Pt → Prop} (hK : vx_Back l R p e below s args y 3 W9 Pre Post PostX)
    {g : JFrame} (hg : g.method = m) (hsize : g.locals.size = c.maxLocals) {argsL rest : List Value} (hlen : ∀ sig, parseMethodDescriptor y.desc = some sig → argsL.length = sig.parameters.length)
    (hstack : g.stack = argsL.reverse ++ rest) (hW : 2 * g.monitorRoom + (rest.map fun v => v.category).sum ≤ W9) (hdg : decode c.code g.pc = .ok (.invokestatic index, 3))
    (hpre : ∀ vm₁, s.WarmedH vm₁ → Pre ⟨T.setVm vm₁, locs, cells, slots⟩ argsL.toArray) :
    (∃ (v : Option Value) (vm₁ : Vm) (B : Pt), s.WarmedH vm₁ ∧ Stand p l e R s m args below meth c B.U B.locs B.cells B.slots ∧ Post ⟨T.setVm vm₁, locs, cells, slots⟩ argsL.toArray v B ∧
      ∀ target, Steps p.tables e below (B.U.setTop { g with pc := g.pc + 3, stack := v.toList ++ rest }) target → Steps p.tables e below (T.setTop g) target) ∨
    (∃ (q : Addr) (vm₁ : Vm) (B : Pt), s.WarmedH vm₁ ∧ Stand p l e R s m args below meth c B.U B.locs B.cells B.slots ∧ PostX ⟨T.setVm vm₁, locs, cells, slots⟩ argsL.toArray q B ∧
      Steps p.tables e below (T.setTop g) ((B.U.setTop { g with stack := rest }).pushFrame (.throwing q))) := by
  obtain ⟨mk, methM, cM, hnamed, hmethM, -, -, -, -, -, -, hsigM⟩ := Cond.codeWith_spec hcode
  have hstatic : methM.isStatic = true := Cond.static_spec hnamed hmethM hstat
  obtain ⟨kP, hkP, -⟩ := className_of_methodNamed hnamed
  have hinitP : kP.init = .initialized := Cond.initialized_spec (findClass_of_methodNamed hnamed) hkP hinit
  obtain ⟨vm₁, X₁, hstep₁⟩ := X.invokestatic hexec hown hlink hnamed hmethM hstatic hkP hinitP hy (g := g) hg (argsL := argsL) (rest := rest) (hlen _ hsigM) hstack hdg
  rcases hK m meth c ⟨T.setVm vm₁, locs, cells, slots⟩ { g with stack := rest } (.invokestatic index) mk argsL.toArray X₁ hg hsize hdg hW (X₁.named hnamed) (hpre vm₁ X₁.warmed) with ⟨v, B, X', hpost, hsteps⟩ | ⟨q, B, X', hpost, hsteps⟩
  · exact Or.inl ⟨v, vm₁, B, X₁.warmed, X', hpost, fun target h => hstep₁ _ fun acts => by rw [doInvoke_state]; exact hsteps.trans h⟩
  · exact Or.inr ⟨q, vm₁, B, X₁.warmed, X', hpost, hstep₁ _ fun acts => by rw [doInvoke_state]; exact hsteps⟩
theorem vx_callVW (X : Stand p l e R s m args below meth c T locs cells slots) (hexec : p.tables.exec = Jvm.exec) {own C : String} {index : Nat} {y : MethodName} {bytes : ByteArray} {maxL : Nat} {ret : Option FieldType} {hh : List (Nat × Nat × Nat × Nat)}
    (hown : s.vm.findClass own = some m.cls) (hlink : (Cond.methodLink own index y).before args s = true) (hinst : (Cond.instanceMethod y).before args s = true) (hsel : (Cond.selects C y y).before args s = true)
    (hcode : (Cond.codeWith y bytes maxL ret hh).before args s = true) (hy : y.cls ≠ "java/lang/invoke/MethodHandle" ∧ y.cls ≠ "java/lang/invoke/VarHandle")
    {W9 : Nat} {Pre : Pt → Array Value → Prop} {Post : Pt → Array Value → Option Value → Pt → Prop} (hK : Back l R p e below s args y 3 W9 Pre Post)
    {b : Addr} {cellB : Cell} (hcell : T.heap[b]? = some cellB) (hobj : cellB.vm.isStatics = false) (hcls : s.vm.findClass C = some cellB.cls)
    {g : JFrame} (hg : g.method = m) (hsize : g.locals.size = c.maxLocals) {argsL rest : List Value} (hlen : ∀ sig, parseMethodDescriptor y.desc = some sig → argsL.length = sig.parameters.length)
    (hstack : g.stack = argsL.reverse ++ .ref b :: rest) (hW : 2 * g.monitorRoom + (rest.map fun v => v.category).sum ≤ W9) (hdg : decode c.code g.pc = .ok (.invokevirtual index, 3))
    (hpre : ∀ vm₁, s.WarmedH vm₁ → Pre ⟨T.setVm vm₁, locs, cells, slots⟩ (Value.ref b :: argsL).toArray) :
    ∃ (v : Option Value) (vm₁ : Vm) (B : Pt), s.WarmedH vm₁ ∧ Stand p l e R s m args below meth c B.U B.locs B.cells B.slots ∧ Post ⟨T.setVm vm₁, locs, cells, slots⟩ (Value.ref b :: argsL).toArray v B ∧
      ∀ target, Steps p.tables e below (B.U.setTop { g with pc := g.pc + 3, stack := v.toList ++ rest }) target → Steps p.tables e below (T.setTop g) target := by
  obtain ⟨mk, methM, hnamed, hmethM, hstM, habM⟩ := Cond.instanceMethod_spec hinst
  obtain ⟨m8, methM', cM, hn8, hmethM', -, -, -, -, -, -, hsigM⟩ := Cond.codeWith_spec hcode
  cases Option.some.inj (hn8.symm.trans hnamed)
  cases hmethM.symm.trans hmethM'
  obtain ⟨c2, r2, m2, q1, q2, q3, q4, kP, hkP, hkPi⟩ := Cond.selects_spec hsel
  cases hcls.symm.trans q1
  cases (State.methodFound?_of_named hnamed hy).symm.trans q2
  cases hnamed.symm.trans q3
  have hselP : selectMethod e.platform s.vm cellB.cls mk = .method mk := by rw [Launch.admits_selectMethod X.admits]; exact q4
  obtain ⟨vm₁, X₁, hstep₁⟩ := X.invokevirtual hexec hown hlink hnamed hmethM hstM hkP hkPi hy (a := b) (cell := cellB) hcell
    (fun z h => by rw [h] at hobj; cases hobj) hselP hmethM habM hkP hkPi (g := g) hg (argsL := argsL) (rest := rest) (hlen _ hsigM) hstack hdg
  obtain ⟨v, B, X', hpost, hsteps⟩ := hK m meth c ⟨T.setVm vm₁, locs, cells, slots⟩ { g with stack := rest } (.invokevirtual index) mk (Value.ref b :: argsL).toArray X₁ hg hsize hdg hW (X₁.named hnamed) (hpre vm₁ X₁.warmed)
  exact ⟨v, vm₁, B, X₁.warmed, X', hpost, fun target h => hstep₁ _ fun acts => by rw [doInvoke_state]; exact hsteps.trans h⟩
abbrev vx_CVW (R : Room) (s : State) (args : Array Value) (own C : String) (index : Nat) (y : MethodName) (bytes : ByteArray) (maxL : Nat) (ret : Option FieldType) (hh : List (Nat × Nat × Nat × Nat)) (ws : List Cond) (rm : Room) (mc ms n : Nat) : Prop :=
  (rm.cells = mc ∧ rm.slots = ms ∧ rm.frames + 1 ≤ R.frames ∧ 8 + (maxL + 11) + rm.locals ≤ R.locals ∧ (∀ w ∈ ws, ∀ (a' : Array Value) (U : State), s.WarmedH U.vm → w.before a' U = true) ∧ Cond.codeWith y bytes maxL ret hh ∈ ws) ∧
  (Cond.codeWith y bytes maxL ret hh).before args s = true ∧ (Cond.initialized y.cls).before args s = true ∧ (y.cls ≠ "java/lang/invoke/MethodHandle" ∧ y.cls ≠ "java/lang/invoke/VarHandle") ∧
  (∀ sig, parseMethodDescriptor y.desc = some sig → n = sig.parameters.length) ∧ (Cond.methodLink own index y).before args s = true ∧ (Cond.instanceMethod y).before args s = true ∧ (Cond.selects C y y).before args s = true
theorem vx_cwVW {own C : String} {index maxL mc ms : Nat} {y : MethodName} {bytes : ByteArray} {ret : Option FieldType} {hh : List (Nat × Nat × Nat × Nat)} {Ts ws ws' : List Cond} {rm : Room} (n : Nat) (ht : ∀ w ∈ Ts, w.before args s = true) (hT : GoodIn Ts (wsV own index C y ws)) (hw : ws = Cond.codeWith y bytes maxL ret hh :: ws') (hrc : rm.cells = mc) (hrs : rm.slots = ms)
    (hd : y.cls = C ∧ y.cls ≠ "java/lang/invoke/MethodHandle" ∧ y.cls ≠ "java/lang/invoke/VarHandle" ∧ (parseMethodDescriptor y.desc).map (fun d => d.parameters.length) = some n) (hR : rm.frames + 1 ≤ R.frames ∧ 8 + (maxL + 11) + rm.locals ≤ R.locals) :
    vx_CVW R s args own C index y bytes maxL ret hh ws rm mc ms n := by
  obtain ⟨hC, hd⟩ := hd
  subst hC
  have ok : ∀ w ∈ wsV own index y.cls y ws, w.before args s = true := fun w h => ht w (hT w h).1
  have hG : GoodIn Ts ws := fun w h => hT w (by unfold wsV; exact List.mem_append_right _ h)
  have hc : Cond.codeWith y bytes maxL ret hh ∈ ws := by rw [hw]; exact List.mem_cons_self
  refine ⟨⟨hrc, hrs, hR.1, hR.2, pay_in ht hG, hc⟩, ht _ (hG _ hc).1, ok _ (by simp [wsV]), ⟨hd.1, hd.2.1⟩, fun sig h => ?_, ok _ (by simp [wsV]), ok _ (by simp [wsV]), ok _ (by simp [wsV])⟩
  have h2 := hd.2.2
  rw [h] at h2
  exact (Option.some.inj h2).symm
theorem vx_runVW {y : MethodName} {bytes cc : ByteArray} {maxL nL mc ms n index : Nat} {ret : Option FieldType} {hh : List (Nat × Nat × Nat × Nat)} {ws : List Cond} {rm : Room} {Pc : Array Value → State → Prop} {Qc : Array Value → State → Outcome → State → Prop} {free : Addr → Prop} {Ts : List Cond} {own C : String} {b : Addr} {As rest : List Value} {g : JFrame}
    (S : CallFix p m c cc nL s args Ts own) (hM : Met l y ws rm Pc Qc mc ms free) (cw : vx_CVW R s args own C index y bytes maxL ret hh ws rm mc ms n) (hp : PreV s H C b Pc As)
    (hg : g.method = m) (hn : As.length = n) (hsize : g.locals.size = nL) (hstack : g.stack = As.reverse ++ .ref b :: rest) (hW : 2 * g.monitorRoom + (rest.map fun v => v.category).sum ≤ 8) (hdg : decode cc g.pc = .ok (.invokevirtual index, 3)) (hf : cells + mc ≤ R.cells ∧ slots + ms ≤ R.slots) :
    va_Run p l e R s m args below meth c H locs cells slots mc ms g rest (Qc (Value.ref b :: As).toArray) free := by
  obtain ⟨⟨hrc, hrs, hfr, hlo, hws, hcw⟩, hcode, hini, hy, hlen, hl, hin, hse⟩ := cw
  have hK : Back l R p e below s args y 3 8 (PreOf R mc ms Pc) (PostOf Qc mc ms free) := va_backW (hh := hh) (bytes := bytes) (maxL := maxL) (ret := ret) hM hp.1 hrc hrs hfr hlo hws hcw (fun a' U hW => word_at hW (Or.inl (by first | rfl | simp [Cond.onTables, Cond.keeps, Cond.steady])) hini)
  obtain ⟨hx, hb, hml, ho, -⟩ := S
  obtain ⟨-, ⟨cellB, hcB, hoB, hclB⟩, hPc⟩ := hp
  intro T hT X
  obtain ⟨v, vm₁, ⟨U', l2, c2, s2⟩, hW₁, X', ⟨g', mk, t, L, e1, e2, hq, h1, hL, h2, h3⟩, st⟩ := vx_callVW X hx (C := C) (hh := hh) (bytes := bytes) (maxL := maxL) (ret := ret) ho hl hin hse hcode hy hK (by rw [hT]; exact hcB) hoB hclB hg (hsize.trans hml.symm) (argsL := As) (rest := rest) (fun sig h => hn.trans (hlen sig h)) hstack hW (by rw [hb]; exact hdg)
    (fun vm₁ hW₁ => ⟨hf.1, hf.2, hPc (T.setVm vm₁) hT hW₁⟩)
  dsimp only [Pt.U, Pt.locs, Pt.cells, Pt.slots] at X' e1 e2 h1 h2 h3 st
  subst h1; subst h2; subst h3
  exact ⟨v, (T.setVm vm₁).calling g' mk (Value.ref b :: As).toArray, t, U', L, hT, X', hL, e1, e2, hq, st⟩
section
variable {y : MethodName} {bytes cc : ByteArray} {maxL nL mc ms n index : Nat} {ret : Option FieldType} {ws : List Cond} {rm : Room} {Pc : Array Value → State → Prop} {Qc : Array Value → State → Outcome → State → Prop} {XC : String → State → State → Prop} {free : Addr → Prop} {Ts : List Cond} {own C : String} {b : Addr} {As rest : List Value} {g : JFrame}
theorem vx_runVX {hh : List (Nat × Nat × Nat × Nat)} (S : CallFix p m c cc nL s args Ts own) (hM : vx_Met l y ws rm Pc Qc XC mc ms free) (cw : vx_CVW R s args own C index y bytes maxL ret hh ws rm mc ms n) (hp : PreV s H C b Pc As)
    (hg : g.method = m) (hn : As.length = n) (hsize : g.locals.size = nL) (hstack : g.stack = As.reverse ++ .ref b :: rest) (hW : 2 * g.monitorRoom + (rest.map fun v => v.category).sum ≤ 8) (hdg : decode cc g.pc = .ok (.invokevirtual index, 3)) (hf : cells + mc ≤ R.cells ∧ slots + ms ≤ R.slots) :
    vx_Run p l e R s m args below meth c H locs cells slots mc ms g rest (Qc (Value.ref b :: As).toArray) XC free := by
  obtain ⟨⟨hrc, hrs, hfr, hlo, hws, hcw⟩, hcode, hini, hy, hlen, hl, hin, hse⟩ := cw
  have hK : vx_Back l R p e below s args y 3 8 (PreOf R mc ms Pc) (PostOf Qc mc ms free) (vx_Post XC mc ms free) := vx_backW (hh := hh) (bytes := bytes) (maxL := maxL) (ret := ret) hM hp.1 hrc hrs hfr hlo hws hcw (fun a' U hW => word_at hW (Or.inl (by first | rfl | simp [Cond.onTables, Cond.keeps, Cond.steady])) hini)
  obtain ⟨hx, hb, hml, ho, -⟩ := S
  obtain ⟨-, ⟨cellB, hcB, hoB, hclB⟩, hPc⟩ := hp
  intro T hT X
  rcases vx_callVX X hx (C := C) (hh := hh) (bytes := bytes) (maxL := maxL) (ret := ret) ho hl hin hse hcode hy hK (by rw [hT]; exact hcB) hoB hclB hg (hsize.trans hml.symm) (argsL := As) (rest := rest) (fun sig h => hn.trans (hlen sig h)) hstack hW (by rw [hb]; exact hdg)
    (fun vm₁ hW₁ => ⟨hf.1, hf.2, hPc (T.setVm vm₁) hT hW₁⟩) with ⟨v, vm₁, ⟨U', l2, c2, s2⟩, hW₁, X', ⟨g', mk, t, L, e1, e2, hq, h1, hL, h2, h3⟩, st⟩ | ⟨q, vm₁, ⟨U', l2, c2, s2⟩, hW₁, X', ⟨g', mk, t, L, E, ce, e1, e2, hq, hce, hcv, hcl, h1, hL, h2, h3⟩, st⟩
  · dsimp only [Pt.U, Pt.locs, Pt.cells, Pt.slots] at X' e1 e2 h1 h2 h3 st
    subst h1; subst h2; subst h3
    exact Or.inl ⟨v, (T.setVm vm₁).calling g' mk (Value.ref b :: As).toArray, t, U', L, hT, X', hL, e1, e2, hq, st⟩
  · dsimp only [Pt.U, Pt.locs, Pt.cells, Pt.slots] at X' e1 e2 h1 h2 h3 st hcl
    subst h1; subst h2; subst h3
    exact Or.inr ⟨q, (T.setVm vm₁).calling g' mk (Value.ref b :: As).toArray, t, U', L, E, ce, hT, X', hL, e1, e2, hq, hce, hcv, vx_cls hW₁ hcl, st⟩
theorem vx_runSX {hh : List (Nat × Nat × Nat × Nat)} (S : CallFix p m c cc nL s args Ts own) (hM : vx_Met l y ws rm Pc Qc XC mc ms free) (cw : vx_CSW R s args own index y bytes maxL ret hh ws rm mc ms n) (hp : PreS s H Pc As)
    (hg : g.method = m) (hn : As.length = n) (hsize : g.locals.size = nL) (hstack : g.stack = As.reverse ++ rest) (hW : 2 * g.monitorRoom + (rest.map fun v => v.category).sum ≤ 8) (hdg : decode cc g.pc = .ok (.invokestatic index, 3)) (hf : cells + mc ≤ R.cells ∧ slots + ms ≤ R.slots) :
    vx_Run p l e R s m args below meth c H locs cells slots mc ms g rest (Qc As.toArray) XC free := by
  obtain ⟨⟨hrc, hrs, hfr, hlo, hws, hcw⟩, hcode, hini, hy, hlen, hl, hstt⟩ := cw
  have hK : vx_Back l R p e below s args y 3 8 (PreOf R mc ms Pc) (PostOf Qc mc ms free) (vx_Post XC mc ms free) := vx_backW (hh := hh) (bytes := bytes) (maxL := maxL) (ret := ret) hM hp.1 hrc hrs hfr hlo hws hcw (fun a' U hW => word_at hW (Or.inl (by first | rfl | simp [Cond.onTables, Cond.keeps, Cond.steady])) hini)
  obtain ⟨hx, hb, hml, ho, -⟩ := S
  intro T hT X
  rcases vx_callSX X hx (hh := hh) (bytes := bytes) (maxL := maxL) (ret := ret) ho hl hstt hini hcode hy hK hg (hsize.trans hml.symm) (argsL := As) (rest := rest) (fun sig h => hn.trans (hlen sig h)) hstack hW (by rw [hb]; exact hdg)
    (fun vm₁ hW₁ => ⟨hf.1, hf.2, hp.2 (T.setVm vm₁) hT hW₁⟩) with ⟨v, vm₁, ⟨U', l2, c2, s2⟩, hW₁, X', ⟨g', mk, t, L, e1, e2, hq, h1, hL, h2, h3⟩, st⟩ | ⟨q, vm₁, ⟨U', l2, c2, s2⟩, hW₁, X', ⟨g', mk, t, L, E, ce, e1, e2, hq, hce, hcv, hcl, h1, hL, h2, h3⟩, st⟩
  · dsimp only [Pt.U, Pt.locs, Pt.cells, Pt.slots] at X' e1 e2 h1 h2 h3 st
    subst h1; subst h2; subst h3
    exact Or.inl ⟨v, (T.setVm vm₁).calling g' mk As.toArray, t, U', L, hT, X', hL, e1, e2, hq, st⟩
  · dsimp only [Pt.U, Pt.locs, Pt.cells, Pt.slots] at X' e1 e2 h1 h2 h3 st hcl
    subst h1; subst h2; subst h3
    exact Or.inr ⟨q, (T.setVm vm₁).calling g' mk As.toArray, t, U', L, E, ce, hT, X', hL, e1, e2, hq, hce, hcv, vx_cls hW₁ hcl, st⟩
end
end VXH
theorem vx_ofWH {l : Launch} {y : MethodName} {ws ws' : List Cond} {rm : Room} {Pc : Array Value → State → Prop} {Qc : Array Value → State → Outcome → State → Prop} {XC : String → State → State → Prop} {mc ms : Nat} {free : Addr → Prop} {cc : ByteArray} {maxL : Nat} {ret : Option FieldType} {hh : List (Nat × Nat × Nat × Nat)}
    (hy : plainName y.cls = true) (hw : ws = Cond.codeWith y cc maxL ret hh :: ws')
    (body : ∀ p e s m args below meth c s₁, BodyLoose p l y (headSpec ws rm) cc maxL ret e s m args below meth c s₁ → c.maxLocals = maxL → Pc args s →
      W p l e (headSpec ws rm).room s m args below meth c s.heap [] 0 0 (vx_MQ below Qc XC args s mc ms free) (entryFrame m args maxL)) : vx_Met l y ws rm Pc Qc XC mc ms free := by
  refine MetFree.of_bodyS (code := cc) (maxLocals := maxL) (ret := ret) hy ?_ ?_
  · intro args s m h hn
    obtain ⟨m9, meth, c, hn9, h1, h2, h3, h4, -, h5, h6, -⟩ := Cond.codeWith_spec (atoms_spec (ws := ws) h _ (by rw [hw]; exact List.mem_cons_self))
    cases hn.symm.trans hn9
    exact ⟨meth, c, h1, h2, h3, h4, h5, h6⟩
  · intro p e s m args below meth c s₁ B hml hP _
    have hh0 : s₁.heap = s.heap := by rw [B.state]; rfl
    obtain ⟨t, a1, o, b1, b2, b3⟩ := body p e s m args below meth c s₁ B hml hP s₁ hh0 (Stand.of_body B)
    exact ⟨t, o, a1, b1, b2, b3⟩
/-! ===== END ===== -/
end
section
/-! THE SMALL MACHINE. Its heap: cells by number; ints, longs, doubles and references by cell and place. No types of its own. -/
abbrev m_H : Type := (Nat × Nat × Nat) × (Nat → Nat) × (Nat → Nat) × (Nat → Nat → Int32) × (Nat → Nat → Int64) × (Nat → Nat → UInt64) × (Nat → Nat → Option Nat)
/-- how many cells -/
def m_n (h : m_H) : Nat := h.1.1
/-- cells and slots that were made, as the room counts them -/
def m_c (h : m_H) : Nat := h.1.2.1
def m_s (h : m_H) : Nat := h.1.2.2
/-- a cell's kind: below 100 an object of that class; 100 int[], 101 byte[], 102 long[], 103 double[]; from 200 on rows of references -/
def m_k (h : m_H) : Nat → Nat := h.2.1
def m_l (h : m_H) : Nat → Nat := h.2.2.1
def m_I (h : m_H) : Nat → Nat → Int32 := h.2.2.2.1
def m_L (h : m_H) : Nat → Nat → Int64 := h.2.2.2.2.1
def m_D (h : m_H) : Nat → Nat → UInt64 := h.2.2.2.2.2.1
def m_R (h : m_H) : Nat → Nat → Option Nat := h.2.2.2.2.2.2
def m_up {α : Type} (f : Nat → Nat → α) (a k : Nat) (v : α) : Nat → Nat → α := fun x y => if x = a ∧ y = k then v else f x y
def m_zr {α : Type} (f : Nat → Nat → α) (a : Nat) (v : α) : Nat → Nat → α := fun x y => if x = a then v else f x y
def m_u1 {α : Type} (f : Nat → α) (a : Nat) (v : α) : Nat → α := fun x => if x = a then v else f x
def m_setI (h : m_H) (a k : Nat) (v : Int32) : m_H := (h.1, m_k h, m_l h, m_up (m_I h) a k v, m_L h, m_D h, m_R h)
def m_setL (h : m_H) (a k : Nat) (v : Int64) : m_H := (h.1, m_k h, m_l h, m_I h, m_up (m_L h) a k v, m_D h, m_R h)
def m_setD (h : m_H) (a k : Nat) (v : UInt64) : m_H := (h.1, m_k h, m_l h, m_I h, m_L h, m_up (m_D h) a k v, m_R h)
def m_setR (h : m_H) (a k : Nat) (v : Option Nat) : m_H := (h.1, m_k h, m_l h, m_I h, m_L h, m_D h, m_up (m_R h) a k v)
/-- a new cell of kind kd, of length len, of z slots -/
def m_mk (h : m_H) (kd len z : Nat) : m_H := ((m_n h + 1, m_c h + 1, m_s h + z), m_u1 (m_k h) (m_n h) kd, m_u1 (m_l h) (m_n h) len, m_zr (m_I h) (m_n h) 0, m_zr (m_L h) (m_n h) 0, m_zr (m_D h) (m_n h) 0, m_zr (m_R h) (m_n h) none)
/-- what a throw makes -/
def m_bump (h : m_H) : m_H := ((m_n h, m_c h + 1, m_s h + 6), m_k h, m_l h, m_I h, m_L h, m_D h, m_R h)
/-- n ints copied from a row to a row -/
def m_cpy (h : m_H) (a i b j n : Nat) : m_H := (h.1, m_k h, m_l h, (fun x y => if x = b ∧ j ≤ y ∧ y < j + n then m_I h a (i + (y - j)) else m_I h x y), m_L h, m_D h, m_R h)
abbrev m_F : Type := List (Option Value)
/-- a program: code from a place on, arguments, locals, kinds of fields, fields, handlers, ints of constants, receivers' classes, the search for a word -/
abbrev m_P : Type := (Nat → Nat → List Instr) × (Nat → Nat) × (Nat → Nat) × (Nat → Nat → Nat) × (Nat → Nat) × (Nat → Nat → Option (Nat × Nat)) × (Nat → Nat → Int32) × (Nat → Nat) × ((Nat → Int32) → Nat → Int32 → Int32 → Option Nat) × Nat × (Nat → Int32)
def m_tg (P : m_P) : Nat → Nat → List Instr := P.1
def m_na (P : m_P) : Nat → Nat := P.2.1
def m_nl (P : m_P) : Nat → Nat := P.2.2.1
def m_fk (P : m_P) : Nat → Nat → Nat := P.2.2.2.1
def m_nf (P : m_P) : Nat → Nat := P.2.2.2.2.1
def m_hd (P : m_P) : Nat → Nat → Option (Nat × Nat) := P.2.2.2.2.2.1
def m_xf (P : m_P) : Nat → Nat → Int32 := P.2.2.2.2.2.2.1
def m_rc (P : m_P) : Nat → Nat := P.2.2.2.2.2.2.2.1
def m_wd (P : m_P) : (Nat → Int32) → Nat → Int32 → Int32 → Option Nat := P.2.2.2.2.2.2.2.2.1
/-- the law's script: its length, its ints -/
def m_xl (P : m_P) : Nat := P.2.2.2.2.2.2.2.2.2.1
def m_xs (P : m_P) : Nat → Int32 := P.2.2.2.2.2.2.2.2.2.2
/-- constants have numbers from here on -/
abbrev m_X : Nat := 1000000000
abbrev m_R1 : Type := (List Instr × m_F × List Value × m_H) ⊕ (Nat × List Value × List Value) ⊕ (Option Value) ⊕ Nat
def m_nx (is : List Instr) (ls : m_F) (st : List Value) (h : m_H) : Option m_R1 := some (.inl (is, ls, st, h))
def m_rv (r : Option Nat) : Value := match r with | none => .null | some a => .ref a
/-- no long or double stands just ahead of place k -/
def m_ok1 (ls : m_F) (k : Nat) : Bool := match k with | 0 => true | j + 1 => match ls[j]? with | some (some v) => v.category == 1 | _ => true
def m_cat (st : List Value) : Nat := (st.map fun v => v.category).sum
def m_pop (k : Nat) (st : List Value) : Option (List Value × List Value) := if k ≤ st.length then some ((st.take k).reverse, st.drop k) else none
def m_icond (c : Jvm.ClassFile.Cond) (a b : Int32) : Bool := match c with
  | .eq => decide (a = b) | .ne => decide (¬ a = b) | .lt => decide (a < b) | .ge => decide (b ≤ a) | .gt => decide (b < a) | .le => decide (a ≤ b)
end
section
/-- the locals at a method's start -/
def m_sl : List Value → m_F
  | [] => []
  | v :: vs => if v.category = 2 then some v :: none :: m_sl vs else some v :: m_sl vs
/-- one instruction of the small machine: the next place, a call, a return, a throw; none: it doesn't go on -/
def m_st (P : m_P) (y : Nat) (i : Instr) (is : List Instr) (ls : m_F) (st : List Value) (h : m_H) : Option m_R1 :=
  match i with
  | .aconst_null => m_nx is ls (.null :: st) h
  | .iconst v => m_nx is ls (.int (Int32.ofInt v) :: st) h
  | .ldc2_w v => m_nx is ls (.long (Int64.ofNat v) :: st) h
  | .fconst k => if k = 0 then m_nx is ls (.float FP.fconst0 :: st) h else none
  | .dconst k => if k = 0 then m_nx is ls (.double FP.dconst0 :: st) h else m_nx is ls (.double FP.dconst1 :: st) h
  | .iload k => match ls[k]? with
    | some (some (.int x)) => m_nx is ls (.int x :: st) h
    | _ => none
  | .lload k => match ls[k]? with
    | some (some (.long x)) => m_nx is ls (.long x :: st) h
    | _ => none
  | .fload k => match ls[k]? with
    | some (some (.float x)) => m_nx is ls (.float x :: st) h
    | _ => none
  | .dload k => match ls[k]? with
    | some (some (.double x)) => m_nx is ls (.double x :: st) h
    | _ => none
  | .aload k => match ls[k]? with
    | some (some (.ref x)) => m_nx is ls (.ref x :: st) h
    | some (some .null) => m_nx is ls (.null :: st) h
    | _ => none
  | .istore k => match st with
    | .int x :: st => if m_ok1 ls k = true ∧ k < ls.length then m_nx is (ls.set k (some (.int x))) st h else none
    | _ => none
  | .fstore k => match st with
    | .float x :: st => if m_ok1 ls k = true ∧ k < ls.length then m_nx is (ls.set k (some (.float x))) st h else none
    | _ => none
  | .dstore k => match st with
    | .double x :: st => if m_ok1 ls k = true ∧ k + 1 < ls.length then m_nx is ((ls.set k (some (.double x))).set (k + 1) none) st h else none
    | _ => none
  | .astore k => match st with
    | .ref x :: st => if m_ok1 ls k = true ∧ k < ls.length then m_nx is (ls.set k (some (.ref x))) st h else none
    | .null :: st => if m_ok1 ls k = true ∧ k < ls.length then m_nx is (ls.set k (some .null)) st h else none
    | _ => none
  | .iinc k v => match ls[k]? with
    | some (some (.int x)) => if m_ok1 ls k = true then m_nx is (ls.set k (some (.int (x + Int32.ofInt v)))) st h else none
    | _ => none
  | .dup => match st with
    | v :: st => if v.category = 1 then m_nx is ls (v :: v :: st) h else none
    | _ => none
  | .pop => match st with
    | v :: st => if v.category = 1 then m_nx is ls st h else none
    | _ => none
  | .dup2 => match st with
    | v :: w :: st => if v.category = 1 ∧ w.category = 1 then m_nx is ls (v :: w :: v :: w :: st) h else none
    | _ => none
  | .iadd => match st with
    | .int b :: .int a :: st => m_nx is ls (.int (a + b) :: st) h
    | _ => none
  | .isub => match st with
    | .int b :: .int a :: st => m_nx is ls (.int (a - b) :: st) h
    | _ => none
  | .imul => match st with
    | .int b :: .int a :: st => m_nx is ls (.int (a * b) :: st) h
    | _ => none
  | .iand => match st with
    | .int b :: .int a :: st => m_nx is ls (.int (a &&& b) :: st) h
    | _ => none
  | .ior => match st with
    | .int b :: .int a :: st => m_nx is ls (.int (a ||| b) :: st) h
    | _ => none
  | .ishr => match st with
    | .int b :: .int a :: st => m_nx is ls (.int (a >>> (b &&& 31)) :: st) h
    | _ => none
  | .idiv => match st with
    | .int b :: .int a :: st => if b = 0 then none else m_nx is ls (.int (a / b) :: st) h
    | _ => none
  | .irem => match st with
    | .int b :: .int a :: st => if b = 0 then none else m_nx is ls (.int (a - a / b * b) :: st) h
    | _ => none
  | .i2b => match st with
    | .int a :: st => m_nx is ls (.int a.toInt8.toInt32 :: st) h
    | _ => none
  | .i2l => match st with
    | .int a :: st => m_nx is ls (.long a.toInt64 :: st) h
    | _ => none
  | .i2d => match st with
    | .int a :: st => m_nx is ls (.double (FP.i2d a) :: st) h
    | _ => none
  | .i2f => match st with
    | .int a :: st => m_nx is ls (.float (FP.i2f a) :: st) h
    | _ => none
  | .ladd => match st with
    | .long b :: .long a :: st => m_nx is ls (.long (a + b) :: st) h
    | _ => none
  | .lsub => match st with
    | .long b :: .long a :: st => m_nx is ls (.long (a - b) :: st) h
    | _ => none
  | .lmul => match st with
    | .long b :: .long a :: st => m_nx is ls (.long (a * b) :: st) h
    | _ => none
  | .lcmp => match st with
    | .long b :: .long a :: st => m_nx is ls (.int (lg_cmp a b) :: st) h
    | _ => none
  | .ddiv => match st with
    | .double b :: .double a :: st => if isNaN64 (FP.ddiv a b) = false then m_nx is ls (.double (FP.ddiv a b) :: st) h else none
    | _ => none
  | .fdiv => match st with
    | .float b :: .float a :: st => if isNaN32 (FP.fdiv a b) = false then m_nx is ls (.float (FP.fdiv a b) :: st) h else none
    | _ => none
  | .f2d => match st with
    | .float a :: st => if isNaN64 (FP.f2d a) = false then m_nx is ls (.double (FP.f2d a) :: st) h else none
    | _ => none
  | .d2f => match st with
    | .double a :: st => if isNaN32 (FP.d2f a) = false then m_nx is ls (.float (FP.d2f a) :: st) h else none
    | _ => none
  | .dcmp op => match st with
    | .double b :: .double a :: st => m_nx is ls (.int (Op.cmpValue (FP.dcmp a b) op) :: st) h
    | _ => none
  | .fcmp op => match st with
    | .float b :: .float a :: st => m_nx is ls (.int (Op.cmpValue (FP.fcmp a b) op) :: st) h
    | _ => none
  | .goto t => m_nx (m_tg P y t.toNat) ls st h
  | .ifCond c t => match st with
    | .int a :: st => if m_icond c a 0 = true then m_nx (m_tg P y t.toNat) ls st h else m_nx is ls st h
    | _ => none
  | .if_icmp c t => match st with
    | .int b :: .int a :: st => if m_icond c a b = true then m_nx (m_tg P y t.toNat) ls st h else m_nx is ls st h
    | _ => none
  | .ifnull t => match st with
    | .null :: st => m_nx (m_tg P y t.toNat) ls st h
    | .ref _ :: st => m_nx is ls st h
    | _ => none
  | .ifnonnull t => match st with
    | .ref _ :: st => m_nx (m_tg P y t.toNat) ls st h
    | .null :: st => m_nx is ls st h
    | _ => none
  | .tableswitch d lo hi offs => match st with
    | .int x :: st => if x.toInt < lo ∨ hi < x.toInt then m_nx (m_tg P y d.toNat) ls st h
      else match offs[(x.toInt - lo).toNat]? with
        | some t => m_nx (m_tg P y t.toNat) ls st h
        | none => none
    | _ => none
  | .getfield x => match st with
    | .ref a :: st => if a < m_n h ∧ m_k h a = x / 64 ∧ x % 64 < m_nf P (x / 64) ∧ x / 64 < 100 then
        (if m_fk P (x / 64) (x % 64) = 1 then m_nx is ls (m_rv (m_R h a (x % 64)) :: st) h
        else if m_fk P (x / 64) (x % 64) = 2 then m_nx is ls (.long (m_L h a (x % 64)) :: st) h
        else m_nx is ls (.int (m_I h a (x % 64)) :: st) h) else none
    | _ => none
  | .putfield x => match st with
    | .int v :: .ref a :: st => if a < m_n h ∧ m_k h a = x / 64 ∧ x % 64 < m_nf P (x / 64) ∧ x / 64 < 100 ∧ (m_fk P (x / 64) (x % 64) = 0 ∨ m_fk P (x / 64) (x % 64) = 3 ∧ (v = 0 ∨ v = 1)) then m_nx is ls st (m_setI h a (x % 64) v) else none
    | .long v :: .ref a :: st => if a < m_n h ∧ m_k h a = x / 64 ∧ x % 64 < m_nf P (x / 64) ∧ x / 64 < 100 ∧ m_fk P (x / 64) (x % 64) = 2 then m_nx is ls st (m_setL h a (x % 64) v) else none
    | .ref v :: .ref a :: st => if a < m_n h ∧ m_k h a = x / 64 ∧ x % 64 < m_nf P (x / 64) ∧ x / 64 < 100 ∧ m_fk P (x / 64) (x % 64) = 1 then m_nx is ls st (m_setR h a (x % 64) (some v)) else none
    | .null :: .ref a :: st => if a < m_n h ∧ m_k h a = x / 64 ∧ x % 64 < m_nf P (x / 64) ∧ x / 64 < 100 ∧ m_fk P (x / 64) (x % 64) = 1 then m_nx is ls st (m_setR h a (x % 64) none) else none
    | _ => none
  | .iaload => match st with
    | .int i :: .ref a :: st => if a = m_X then (if i < 0 ∨ m_xl P ≤ i.toNatClampNeg then none else m_nx is ls (.int (m_xs P i.toNatClampNeg) :: st) h) else if a < m_n h ∧ m_k h a = 100 ∧ ¬ (i < 0 ∨ m_l h a ≤ i.toNatClampNeg) then m_nx is ls (.int (m_I h a i.toNatClampNeg) :: st) h else none
    | _ => none
  | .baload => match st with
    | .int i :: .ref a :: st => if a < m_n h ∧ m_k h a = 101 ∧ ¬ (i < 0 ∨ m_l h a ≤ i.toNatClampNeg) then m_nx is ls (.int (m_I h a i.toNatClampNeg) :: st) h else none
    | _ => none
  | .laload => match st with
    | .int i :: .ref a :: st => if a < m_n h ∧ m_k h a = 102 ∧ ¬ (i < 0 ∨ m_l h a ≤ i.toNatClampNeg) then m_nx is ls (.long (m_L h a i.toNatClampNeg) :: st) h else none
    | _ => none
  | .daload => match st with
    | .int i :: .ref a :: st => if a < m_n h ∧ m_k h a = 103 ∧ ¬ (i < 0 ∨ m_l h a ≤ i.toNatClampNeg) then m_nx is ls (.double (m_D h a i.toNatClampNeg) :: st) h else none
    | _ => none
  | .checkcast ci => match st with
    | .int i :: .ref a :: st => if a < m_n h ∧ m_k h a = 200 + ci ∧ ¬ (i < 0 ∨ m_l h a ≤ i.toNatClampNeg) then m_nx is ls (m_rv (m_R h a i.toNatClampNeg) :: st) h else none
    | _ => none
  | .iastore => match st with
    | .int v :: .int i :: .ref a :: st => if a < m_n h ∧ m_k h a = 100 ∧ ¬ (i < 0 ∨ m_l h a ≤ i.toNatClampNeg) then m_nx is ls st (m_setI h a i.toNatClampNeg v) else none
    | _ => none
  | .bastore => match st with
    | .int v :: .int i :: .ref a :: st => if a < m_n h ∧ m_k h a = 101 ∧ ¬ (i < 0 ∨ m_l h a ≤ i.toNatClampNeg) then m_nx is ls st (m_setI h a i.toNatClampNeg v.toInt8.toInt32) else none
    | _ => none
  | .lastore => match st with
    | .long v :: .int i :: .ref a :: st => if a < m_n h ∧ m_k h a = 102 ∧ ¬ (i < 0 ∨ m_l h a ≤ i.toNatClampNeg) then m_nx is ls st (m_setL h a i.toNatClampNeg v) else none
    | _ => none
  | .dastore => match st with
    | .double v :: .int i :: .ref a :: st => if a < m_n h ∧ m_k h a = 103 ∧ ¬ (i < 0 ∨ m_l h a ≤ i.toNatClampNeg) then m_nx is ls st (m_setD h a i.toNatClampNeg v) else none
    | _ => none
  | .instanceof ci => match st with
    | .ref v :: .int i :: .ref a :: st => if a < m_n h ∧ m_k h a = 200 + ci ∧ v < m_n h ∧ m_k h v = ci ∧ ci < 100 ∧ ¬ (i < 0 ∨ m_l h a ≤ i.toNatClampNeg) then m_nx is ls st (m_setR h a i.toNatClampNeg (some v)) else none
    | _ => none
  | .ldc_w z => match st with
    | .ref a :: st => if a = m_X then m_nx is ls (.int (Int32.ofNat (m_xl P)) :: st) h else if a < m_n h ∧ m_k h a = z ∧ 100 ≤ z then m_nx is ls (.int (Int32.ofNat (m_l h a)) :: st) h else none
    | _ => none
  | .newarray .int => match st with
    | .int n :: st => if n < 0 ∨ 60000000 < n.toNatClampNeg ∨ m_X ≤ m_n h then none else m_nx is ls (.ref (m_n h) :: st) (m_mk h 100 n.toNatClampNeg n.toNatClampNeg)
    | _ => none
  | .newarray .byte => match st with
    | .int n :: st => if n < 0 ∨ 60000000 < n.toNatClampNeg ∨ m_X ≤ m_n h then none else m_nx is ls (.ref (m_n h) :: st) (m_mk h 101 n.toNatClampNeg n.toNatClampNeg)
    | _ => none
  | .newarray .long => match st with
    | .int n :: st => if n < 0 ∨ 60000000 < n.toNatClampNeg ∨ m_X ≤ m_n h then none else m_nx is ls (.ref (m_n h) :: st) (m_mk h 102 n.toNatClampNeg n.toNatClampNeg)
    | _ => none
  | .newarray .double => match st with
    | .int n :: st => if n < 0 ∨ 60000000 < n.toNatClampNeg ∨ m_X ≤ m_n h then none else m_nx is ls (.ref (m_n h) :: st) (m_mk h 103 n.toNatClampNeg n.toNatClampNeg)
    | _ => none
  | .anewarray ci => match st with
    | .int n :: st => if n < 0 ∨ 60000000 < n.toNatClampNeg ∨ 100 ≤ ci ∨ m_X ≤ m_n h then none else m_nx is ls (.ref (m_n h) :: st) (m_mk h (200 + ci) n.toNatClampNeg n.toNatClampNeg)
    | _ => none
  | .getstatic k => if m_X ≤ k then m_nx is ls (.ref k :: st) h else none
  | .new ci => if ci < 100 ∧ m_n h < m_X then m_nx is ls (.ref (m_n h) :: st) (m_mk h ci 0 (m_nf P ci)) else none
  | .invokevirtual z => match m_pop (m_na P z) st with
    | some (.ref a :: as, st') => if a < m_n h ∧ m_k h a = m_rc P z ∧ m_cat st' ≤ 8 ∧ (m_sl (.ref a :: as)).length ≤ m_nl P z then some (.inr (.inl (z, .ref a :: as, st'))) else none
    | _ => none
  | .invokespecial z => if z = 9000 then (match st with
      | .ref a :: st => if a < m_n h ∧ m_cat st ≤ 8 then m_nx is ls st h else none
      | _ => none)
    else match m_pop (m_na P z) st with
    | some (.ref a :: as, st') => if a < m_n h ∧ m_k h a = m_rc P z ∧ m_cat st' ≤ 8 ∧ (m_sl (.ref a :: as)).length ≤ m_nl P z then some (.inr (.inl (z, .ref a :: as, st'))) else none
    | _ => none
  | .invokestatic z => if z = 9001 then (match st with
      | .int b :: .int a :: st => if m_cat st ≤ 8 then m_nx is ls (.int (if b < a then b else a) :: st) h else none
      | _ => none)
    else if z = 9002 then (match st with
      | .int b :: .int a :: st => if m_cat st ≤ 8 then m_nx is ls (.int (if a < b then b else a) :: st) h else none
      | _ => none)
    else if z = 9003 then (match st with
      | .int n :: .int j :: .ref b :: .int i :: .ref a :: st => if a < m_n h ∧ m_k h a = 100 ∧ b < m_n h ∧ m_k h b = 100 ∧ ¬ i < 0 ∧ ¬ j < 0 ∧ ¬ n < 0 ∧ i.toNatClampNeg + n.toNatClampNeg ≤ m_l h a ∧ j.toNatClampNeg + n.toNatClampNeg ≤ m_l h b ∧ m_cat st ≤ 8 then m_nx is ls st (m_cpy h a i.toNatClampNeg b j.toNatClampNeg n.toNatClampNeg) else none
      | _ => none)
    else match m_pop (m_na P z) st with
    | some (as, st') => if m_cat st' ≤ 8 ∧ (m_sl as).length ≤ m_nl P z then some (.inr (.inl (z, as, st'))) else none
    | _ => none
  | .invokedynamic k => match m_hd P y k with
    | none => if m_cat st ≤ 8 then some (.inr (.inr (.inr k))) else none
    | _ => none
  | .ireturn => match st with
    | [.int v] => some (.inr (.inr (.inl (some (.int v)))))
    | _ => none
  | .ret _ => match st with
    | [.int v] => if v = 0 ∨ v = 1 then some (.inr (.inr (.inl (some (.int v))))) else none
    | _ => none
  | .areturn => match st with
    | [.ref v] => some (.inr (.inr (.inl (some (.ref v)))))
    | [.null] => some (.inr (.inr (.inl (some .null))))
    | _ => none
  | .freturn => match st with
    | [.float v] => some (.inr (.inr (.inl (some (.float v)))))
    | _ => none
  | .dreturn => match st with
    | [.double v] => some (.inr (.inr (.inl (some (.double v)))))
    | _ => none
  | .return_ => match st with
    | [] => some (.inr (.inr (.inl none)))
    | _ => none
  | _ => none
/-- the locals at a method's start, filled up -/
def m_ent (nl : Nat) (as : List Value) : m_F := m_sl as ++ List.replicate (nl - (m_sl as).length) none
/-- a method with handlers -/
def m_hh (P : m_P) (y : Nat) : Bool := (m_hd P y 0).isSome || (m_hd P y 1).isSome
def m_isp (i : Instr) : Bool := match i with | .invokespecial _ => true | _ => false
/-- the small machine, n steps at the most, calls d deep at the most -/
def m_ex (P : m_P) : Nat → Nat → Nat → List Instr → m_F → List Value → m_H → Option ((Option Value ⊕ Nat) × m_H)
  | 0, _, _, _, _, _, _ => none
  | _ + 1, _, _, [], _, _, _ => none
  | n + 1, d, y, i :: is, ls, st, h =>
    match m_st P y i is ls st h with
    | none => none
    | some (.inl q) => m_ex P n d y q.1 q.2.1 q.2.2.1 q.2.2.2
    | some (.inr (.inl q)) => match d with
      | 0 => none
      | d' + 1 => match m_ex P n d' q.1 (m_tg P q.1 0) (m_ent (m_nl P q.1) q.2.1) [] h with
        | none => none
        | some (.inl v, h') => m_ex P n (d' + 1) y is ls (v.toList ++ q.2.2) h'
        | some (.inr e, h') => if m_isp i = true then none else match m_hd P y e with
          | none => if m_hh P y = true then none else some (.inr e, h')
          | some r => if m_ok1 ls r.1 = true then m_ex P n (d' + 1) y (m_tg P y r.2) (ls.set r.1 none) [] h' else none
    | some (.inr (.inr (.inl v))) => some (.inl v, h)
    | some (.inr (.inr (.inr e))) => some (.inr e, m_bump h)
end
section
/-! WHAT A HEAP OF THE SMALL MACHINE IS IN THE MACHINE'S: ad gives the address of each cell and constant -/
def m_cv (ad : Nat → Nat) (v : Value) : Value := match v with | .ref a => .ref (ad a) | v => v
def m_in (n : Nat) (v : Value) : Prop := match v with | .ref a => a < n ∨ m_X ≤ a | .retAddr _ => False | _ => True
def m_fv (P : m_P) (ad : Nat → Nat) (h : m_H) (a ci k : Nat) : Value := if m_fk P ci k = 1 then va_rf ((m_R h a k).map ad) else if m_fk P ci k = 2 then .long (m_L h a k) else .int (m_I h a k)
def m_cell (P : m_P) (cA : Nat → ClassId) (ad : Nat → Nat) (h : m_H) (a : Nat) : va_E :=
  if m_k h a < 100 then .inr (m_k h a, (List.range (m_nf P (m_k h a))).map (fun k => m_fv P ad h a (m_k h a) k))
  else if m_k h a = 102 then .inl (cA 102, m_l h a, .inr (.inl (m_L h a)))
  else if m_k h a = 103 then .inl (cA 103, m_l h a, .inr (.inr (.inr (.inl (m_D h a)))))
  else if m_k h a < 200 then .inl (cA (m_k h a), m_l h a, .inl (m_I h a))
  else .inl (cA (m_k h a), m_l h a, .inr (.inr (.inr (.inr (fun i => (m_R h a i).map ad)))))
def m_ws (P : m_P) (cA : Nat → ClassId) (ad : Nat → Nat) (h : m_H) : va_W := (List.range (m_n h)).map (fun a => (ad a, m_cell P cA ad h a))
/-- references lead to cells or constants -/
def m_wf (h : m_H) : Prop := m_n h ≤ m_X ∧ ∀ a k j, a < m_n h → m_R h a k = some j → j < m_n h ∨ m_X ≤ j
theorem m_ws_at {P : m_P} {cA : Nat → ClassId} {ad : Nat → Nat} {h : m_H} {a : Nat} (ha : a < m_n h) : (m_ws P cA ad h)[a]? = some (ad a, m_cell P cA ad h a) := by
  unfold m_ws
  rw [List.getElem?_map, List.getElem?_range ha]
  rfl
theorem m_map_set {α : Type} {f g : Nat → α} {N k : Nat} (hk : k < N) (h : ∀ j, j ≠ k → g j = f j) : ((List.range N).map f).set k (g k) = (List.range N).map g := by
  apply List.ext_getElem?
  intro i
  by_cases hi : i = k
  · subst hi
    rw [List.getElem?_set_self (by simpa using hk), List.getElem?_map, List.getElem?_range hk]
    rfl
  · rw [List.getElem?_set_ne (Ne.symm hi), List.getElem?_map, List.getElem?_map]
    by_cases hN : i < N
    · rw [List.getElem?_range hN]
      simp [h i hi]
    · rw [List.getElem?_eq_none (by simpa using Nat.le_of_not_lt hN)]
      rfl
theorem m_ws_set {P : m_P} {cA : Nat → ClassId} {ad : Nat → Nat} {h h' : m_H} {a : Nat} (ha : a < m_n h) (hn : m_n h' = m_n h) (ho : ∀ b, b ≠ a → m_cell P cA ad h' b = m_cell P cA ad h b) : (m_ws P cA ad h).set a (ad a, m_cell P cA ad h' a) = m_ws P cA ad h' := by
  unfold m_ws
  rw [hn]
  exact m_map_set (f := fun a => (ad a, m_cell P cA ad h a)) (g := fun a => (ad a, m_cell P cA ad h' a)) ha (fun j hj => by simp [ho j hj])
theorem m_range_succ (n : Nat) : List.range (n + 1) = List.range n ++ [n] := List.range_succ
theorem m_map_ref {h : m_H} (hw : m_wf h) {a : Nat} (ha : a < m_n h) {ad ad' : Nat → Nat} (hd : ∀ j, j < m_n h ∨ m_X ≤ j → ad' j = ad j) (k : Nat) : (m_R h a k).map ad' = (m_R h a k).map ad := by
  cases hr : m_R h a k with
  | none => rfl
  | some j => simp [hd j (hw.2 a k j ha hr)]
theorem m_cell_ad {P : m_P} {cA : Nat → ClassId} {ad ad' : Nat → Nat} {h : m_H} {a : Nat} (hw : m_wf h) (ha : a < m_n h) (hd : ∀ j, j < m_n h ∨ m_X ≤ j → ad' j = ad j) : m_cell P cA ad' h a = m_cell P cA ad h a := by
  unfold m_cell m_fv
  simp only [m_map_ref hw ha hd]
/-- a value is the same under an address table that is longer -/
theorem m_cv_ad {ad ad' : Nat → Nat} {n : Nat} {v : Value} (hv : m_in n v) (hd : ∀ j, j < n ∨ m_X ≤ j → ad' j = ad j) : m_cv ad' v = m_cv ad v := by
  cases v <;> simp only [m_cv]
  case ref a => rw [hd a hv]
theorem m_cv_map {ad ad' : Nat → Nat} {n : Nat} {st : List Value} (hv : ∀ v ∈ st, m_in n v) (hd : ∀ j, j < n ∨ m_X ≤ j → ad' j = ad j) : st.map (m_cv ad') = st.map (m_cv ad) :=
  List.map_congr_left (fun v h => m_cv_ad (hv v h) hd)
theorem m_in_mono {n n' : Nat} {v : Value} (h : m_in n v) (hn : n ≤ n') : m_in n' v := by
  cases v <;> simp only [m_in] at h ⊢
  case ref a => exact h.imp (fun z => Nat.lt_of_lt_of_le z hn) id
theorem m_rv_cv (ad : Nat → Nat) (r : Option Nat) : m_cv ad (m_rv r) = va_rf (r.map ad) := by cases r <;> rfl
theorem m_cat_cv (ad : Nat → Nat) (v : Value) : (m_cv ad v).category = v.category := by cases v <;> rfl
theorem m_cat_map (ad : Nat → Nat) (st : List Value) : ((st.map (m_cv ad)).map fun v => v.category).sum = m_cat st := by
  unfold m_cat
  rw [List.map_map]
  congr 1
  exact List.map_congr_left (fun v _ => m_cat_cv ad v)
/-- the locals -/
def m_lR (ad : Nat → Nat) (n : Nat) (ls : m_F) (la : Array Slot) (nL : Nat) : Prop :=
  la.size = nL ∧ ls.length = nL ∧ lv_wf la ∧ ∀ (i : Nat) (v : Value), ls[i]? = some (some v) → la[i]? = some (.val (m_cv ad v)) ∧ m_in n v
theorem m_lR_ad {ad ad' : Nat → Nat} {n n' : Nat} {ls : m_F} {la : Array Slot} {nL : Nat} (h : m_lR ad n ls la nL) (hn : n ≤ n') (hd : ∀ j, j < n ∨ m_X ≤ j → ad' j = ad j) : m_lR ad' n' ls la nL := by
  obtain ⟨h1, h2, h3, h4⟩ := h
  refine ⟨h1, h2, h3, fun i v hi => ?_⟩
  obtain ⟨a1, a2⟩ := h4 i v hi
  exact ⟨by rw [m_cv_ad a2 hd]; exact a1, m_in_mono a2 hn⟩
/-- the locals as the kit lists them -/
def m_ll (ad : Nat → Nat) (ls : m_F) : List (Nat × Value) := (List.range ls.length).filterMap (fun i => match ls[i]? with | some (some v) => some (i, m_cv ad v) | _ => none)
theorem m_ll_mem {ad : Nat → Nat} {ls : m_F} {q : Nat × Value} : q ∈ m_ll ad ls ↔ ∃ v, ls[q.1]? = some (some v) ∧ q.2 = m_cv ad v := by
  unfold m_ll
  rw [List.mem_filterMap]
  constructor
  · rintro ⟨i, -, h⟩
    split at h
    · next v hv => cases h; exact ⟨v, hv, rfl⟩
    · cases h
  · rintro ⟨v, hv, h2⟩
    refine ⟨q.1, List.mem_range.mpr (List.getElem?_eq_some_iff.mp hv).1, ?_⟩
    rw [hv]
    simp only
    rw [← h2]
theorem m_lR_has {ad : Nat → Nat} {n : Nat} {ls : m_F} {la : Array Slot} {nL : Nat} (h : m_lR ad n ls la nL) : lv_has la nL (m_ll ad ls) := by
  obtain ⟨h1, h2, h3, h4⟩ := h
  refine ⟨h1, h3, fun q hq => ?_⟩
  obtain ⟨v, hv, h5⟩ := m_ll_mem.mp hq
  rw [h5]
  exact (h4 _ _ hv).1
theorem m_lR_st1 {ad : Nat → Nat} {n : Nat} {ls : m_F} {la la' : Array Slot} {nL k : Nat} {v : Value} (h : m_lR ad n ls la nL) (hk : m_ok1 ls k = true) (hl : k < ls.length) (hv : m_in n v)
    (h' : lv_has la' nL ((k, m_cv ad v) :: (m_ll ad ls).filter (fun q => !(q.1 == k) && !(q.1 + 1 == k && q.2.category == 2)))) : m_lR ad n (ls.set k (some v)) la' nL := by
  obtain ⟨h1, h2, h3, h4⟩ := h
  obtain ⟨g1, g2, g3⟩ := h'
  refine ⟨g1, by rw [List.length_set]; exact h2, g2, fun i w hi => ?_⟩
  by_cases hik : i = k
  · subst hik
    rw [List.getElem?_set_self hl] at hi
    cases hi
    exact ⟨g3 (i, m_cv ad v) List.mem_cons_self, hv⟩
  · rw [List.getElem?_set_ne (Ne.symm hik)] at hi
    refine ⟨g3 (i, m_cv ad w) (List.mem_cons_of_mem _ (List.mem_filter.mpr ⟨m_ll_mem.mpr ⟨w, hi, rfl⟩, ?_⟩)), (h4 i w hi).2⟩
    simp only [Bool.and_eq_true, Bool.not_eq_true', beq_eq_false_iff_ne, ne_eq, Bool.and_eq_false_iff]
    refine ⟨hik, ?_⟩
    by_cases hj : i + 1 = k
    · right
      subst hj
      simp only [m_ok1, hi, beq_iff_eq] at hk
      rw [m_cat_cv, hk]
      decide
    · exact Or.inl hj
theorem m_lR_st2 {ad : Nat → Nat} {n : Nat} {ls : m_F} {la la' : Array Slot} {nL k : Nat} {v : Value} (h : m_lR ad n ls la nL) (hk : m_ok1 ls k = true) (hl : k + 1 < ls.length) (hv : m_in n v)
    (h' : lv_has la' nL ((k, m_cv ad v) :: (m_ll ad ls).filter (fun q => !(q.1 == k) && (!(q.1 == k + 1) && !(q.1 + 1 == k && q.2.category == 2))))) : m_lR ad n ((ls.set k (some v)).set (k + 1) none) la' nL := by
  obtain ⟨h1, h2, h3, h4⟩ := h
  obtain ⟨g1, g2, g3⟩ := h'
  refine ⟨g1, by rw [List.length_set, List.length_set]; exact h2, g2, fun i w hi => ?_⟩
  by_cases hi1 : i = k + 1
  · subst hi1
    rw [List.getElem?_set_self (by rw [List.length_set]; exact hl)] at hi
    cases hi
  rw [List.getElem?_set_ne (Ne.symm hi1)] at hi
  by_cases hik : i = k
  · subst hik
    rw [List.getElem?_set_self (by omega)] at hi
    cases hi
    exact ⟨g3 (i, m_cv ad v) List.mem_cons_self, hv⟩
  · rw [List.getElem?_set_ne (Ne.symm hik)] at hi
    refine ⟨g3 (i, m_cv ad w) (List.mem_cons_of_mem _ (List.mem_filter.mpr ⟨m_ll_mem.mpr ⟨w, hi, rfl⟩, ?_⟩)), (h4 i w hi).2⟩
    simp only [Bool.and_eq_true, Bool.not_eq_true', beq_eq_false_iff_ne, ne_eq, Bool.and_eq_false_iff]
    refine ⟨hik, hi1, ?_⟩
    by_cases hj : i + 1 = k
    · right
      subst hj
      simp only [m_ok1, hi, beq_iff_eq] at hk
      rw [m_cat_cv, hk]
      decide
    · exact Or.inl hj
theorem m_lR_stN {ad : Nat → Nat} {n : Nat} {ls : m_F} {la la' : Array Slot} {nL k : Nat} {w : Value} (h : m_lR ad n ls la nL) (hk : m_ok1 ls k = true)
    (h' : lv_has la' nL ((k, w) :: (m_ll ad ls).filter (fun q => !(q.1 == k) && !(q.1 + 1 == k && q.2.category == 2)))) : m_lR ad n (ls.set k none) la' nL := by
  obtain ⟨h1, h2, h3, h4⟩ := h
  obtain ⟨g1, g2, g3⟩ := h'
  refine ⟨g1, by rw [List.length_set]; exact h2, g2, fun i v hi => ?_⟩
  by_cases hik : i = k
  · subst hik
    by_cases hl : i < ls.length
    · rw [List.getElem?_set_self hl] at hi
      cases hi
    · rw [List.getElem?_eq_none (by rw [List.length_set]; omega)] at hi
      cases hi
  · rw [List.getElem?_set_ne (Ne.symm hik)] at hi
    refine ⟨g3 (i, m_cv ad v) (List.mem_cons_of_mem _ (List.mem_filter.mpr ⟨m_ll_mem.mpr ⟨v, hi, rfl⟩, ?_⟩)), (h4 i v hi).2⟩
    simp only [Bool.and_eq_true, Bool.not_eq_true', beq_eq_false_iff_ne, ne_eq, Bool.and_eq_false_iff]
    refine ⟨hik, ?_⟩
    by_cases hj : i + 1 = k
    · right
      subst hj
      simp only [m_ok1, hi, beq_iff_eq] at hk
      rw [m_cat_cv, hk]
      decide
    · exact Or.inl hj
end
section
/-! THE SMALL MACHINE'S INSTRUCTIONS IN THE MACHINE: stack, locals, arithmetic, branches -/
def m_rel (s : State) (P : m_P) (cl : List vw_C) (D : va_G) (cA : Nat → ClassId) (A : Nat → Prop) (xa : Nat × (Nat → Nat)) (ad : Nat → Nat) (H : Heap) (locs : List Loc) (h : m_H) : Prop :=
  va_P D cl (m_ws P cA ad h) H ∧ va_D A (m_ws P cA ad h) ∧ va_S A s.heap H locs ∧ m_wf h ∧ xa.1 ≤ m_n h ∧ ∀ j, j < xa.1 ∨ m_X ≤ j → ad j = xa.2 j
def m_go (p : Program) (l : Launch) (e : Env) (R : Room) (s : State) (m : MethodId) (args : Array Value) (below : List Frame) (meth : Method) (c : Code) (Q : State → Prop) (P : m_P) (cl : List vw_C) (D : va_G) (cA : Nat → ClassId) (A : Nat → Prop) (xa : Nat × (Nat → Nat)) (nL c0 s0 : Nat) (pc : Nat) (ls : m_F) (st : List Value) (h : m_H) : Prop :=
  ∀ (H : Heap) (locs : List Loc) (ad : Nat → Nat) (la : Array Slot), m_rel s P cl D cA A xa ad H locs h → m_lR ad (m_n h) ls la nL → (∀ v ∈ st, m_in (m_n h) v) → W p l e R s m args below meth c H locs (m_c h - c0) (m_s h - s0) Q (F0 m pc la (st.map (m_cv ad)))
section GO
variable {p : Program} {l : Launch} {e : Env} {R : Room} {s : State} {m : MethodId} {args : Array Value} {below : List Frame} {meth : Method} {c : Code} {Q : State → Prop} {P : m_P} {cl : List vw_C} {D : va_G} {cA : Nat → ClassId} {A : Nat → Prop} {xa : Nat × (Nat → Nat)} {nL c0 s0 : Nat} {pc : Nat} {ls : m_F} {st : List Value} {h : m_H} {cc : ByteArray}
theorem g_tl {n : Nat} {v : Value} {st : List Value} (h : ∀ w ∈ v :: st, m_in n w) : ∀ w ∈ st, m_in n w := fun w hw => h w (List.mem_cons_of_mem _ hw)
theorem g_hd {n : Nat} {v : Value} {st : List Value} (h : ∀ w ∈ v :: st, m_in n w) : m_in n v := h v List.mem_cons_self
theorem g_cs {n : Nat} {v : Value} {st : List Value} (hv : m_in n v) (h : ∀ w ∈ st, m_in n w) : ∀ w ∈ v :: st, m_in n w := List.forall_mem_cons.mpr ⟨hv, h⟩
theorem g_null (hx : p.tables.exec = Jvm.exec) (hb : c.code = cc) (hd : decode cc pc = .ok (.aconst_null, 1)) (k : m_go p l e R s m args below meth c Q P cl D cA A xa nL c0 s0 (pc + 1) ls (.null :: st) h) : m_go p l e R s m args below meth c Q P cl D cA A xa nL c0 s0 pc ls st h :=
  fun H locs ad la hr hl hs => lv_null hx hb hd (k H locs ad la hr hl (g_cs trivial hs))
theorem g_iconst (hx : p.tables.exec = Jvm.exec) (hb : c.code = cc) {n : Int} {v : Int32} (hv : Int32.ofInt n = v) (hd : decode cc pc = .ok (.iconst n, 1)) (k : m_go p l e R s m args below meth c Q P cl D cA A xa nL c0 s0 (pc + 1) ls (.int v :: st) h) : m_go p l e R s m args below meth c Q P cl D cA A xa nL c0 s0 pc ls st h :=
  fun H locs ad la hr hl hs => lv_iconst hx hb hd hv (k H locs ad la hr hl (g_cs trivial hs))
theorem g_bipush (hx : p.tables.exec = Jvm.exec) (hb : c.code = cc) {n : Int} {v : Int32} (hv : (Int8.ofInt n).toInt32 = v) (hd : decode cc pc = .ok (.bipush n, 2)) (k : m_go p l e R s m args below meth c Q P cl D cA A xa nL c0 s0 (pc + 2) ls (.int v :: st) h) : m_go p l e R s m args below meth c Q P cl D cA A xa nL c0 s0 pc ls st h :=
  fun H locs ad la hr hl hs => lv_bipush hx hb hd hv (k H locs ad la hr hl (g_cs trivial hs))
theorem g_sipush (hx : p.tables.exec = Jvm.exec) (hb : c.code = cc) {n : Int} {v : Int32} (hv : (Int16.ofInt n).toInt32 = v) (hd : decode cc pc = .ok (.sipush n, 3)) (k : m_go p l e R s m args below meth c Q P cl D cA A xa nL c0 s0 (pc + 3) ls (.int v :: st) h) : m_go p l e R s m args below meth c Q P cl D cA A xa nL c0 s0 pc ls st h :=
  fun H locs ad la hr hl hs => lv_sipush hx hb hd hv (k H locs ad la hr hl (g_cs trivial hs))
theorem g_ldc (hx : p.tables.exec = Jvm.exec) (hb : c.code = cc) {own : String} {index : Nat} {v : Int32} (hown : s.vm.findClass own = some m.cls) (hc : (Jvm.Cond.constant own index v).before args s = true) (hd : decode cc pc = .ok (.ldc index, 2)) (k : m_go p l e R s m args below meth c Q P cl D cA A xa nL c0 s0 (pc + 2) ls (.int v :: st) h) : m_go p l e R s m args below meth c Q P cl D cA A xa nL c0 s0 pc ls st h :=
  fun H locs ad la hr hl hs => lv_ldc hx hb hown hc hd (k H locs ad la hr hl (g_cs trivial hs))
theorem g_ldcw (hx : p.tables.exec = Jvm.exec) (hb : c.code = cc) {own : String} {index : Nat} {v : Int32} (hown : s.vm.findClass own = some m.cls) (hc : (Jvm.Cond.constant own index v).before args s = true) (hd : decode cc pc = .ok (.ldc_w index, 3)) (k : m_go p l e R s m args below meth c Q P cl D cA A xa nL c0 s0 (pc + 3) ls (.int v :: st) h) : m_go p l e R s m args below meth c Q P cl D cA A xa nL c0 s0 pc ls st h :=
  fun H locs ad la hr hl hs => lv_ldcw hx hb hown hc hd (k H locs ad la hr hl (g_cs trivial hs))
theorem g_ldc2 (hx : p.tables.exec = Jvm.exec) (hb : c.code = cc) {own : String} {index : Nat} {v : Int64} (hown : s.vm.findClass own = some m.cls) (hc : (Jvm.Cond.constantLong own index v).before args s = true) (hd : decode cc pc = .ok (.ldc2_w index, 3)) (k : m_go p l e R s m args below meth c Q P cl D cA A xa nL c0 s0 (pc + 3) ls (.long v :: st) h) : m_go p l e R s m args below meth c Q P cl D cA A xa nL c0 s0 pc ls st h :=
  fun H locs ad la hr hl hs => lv_ldc2 hx hb hown hc hd (k H locs ad la hr hl (g_cs trivial hs))
theorem g_lconst (hx : p.tables.exec = Jvm.exec) (hb : c.code = cc) {n : Fin 2} {v : Int64} (hv : Int64.ofNat (n : Nat) = v) (hd : decode cc pc = .ok (.lconst n, 1)) (k : m_go p l e R s m args below meth c Q P cl D cA A xa nL c0 s0 (pc + 1) ls (.long v :: st) h) : m_go p l e R s m args below meth c Q P cl D cA A xa nL c0 s0 pc ls st h :=
  fun H locs ad la hr hl hs => lv_lconst hx hb hd hv (k H locs ad la hr hl (g_cs trivial hs))
theorem g_fconst (hx : p.tables.exec = Jvm.exec) (hb : c.code = cc) (hd : decode cc pc = .ok (.fconst 0, 1)) (k : m_go p l e R s m args below meth c Q P cl D cA A xa nL c0 s0 (pc + 1) ls (.float FP.fconst0 :: st) h) : m_go p l e R s m args below meth c Q P cl D cA A xa nL c0 s0 pc ls st h :=
  fun H locs ad la hr hl hs => lv_fconst0 hx hb hd (k H locs ad la hr hl (g_cs trivial hs))
theorem g_dconst0 (hx : p.tables.exec = Jvm.exec) (hb : c.code = cc) (hd : decode cc pc = .ok (.dconst 0, 1)) (k : m_go p l e R s m args below meth c Q P cl D cA A xa nL c0 s0 (pc + 1) ls (.double FP.dconst0 :: st) h) : m_go p l e R s m args below meth c Q P cl D cA A xa nL c0 s0 pc ls st h :=
  fun H locs ad la hr hl hs => lv_dconst0 hx hb hd (k H locs ad la hr hl (g_cs trivial hs))
theorem g_dconst1 (hx : p.tables.exec = Jvm.exec) (hb : c.code = cc) (hd : decode cc pc = .ok (.dconst 1, 1)) (k : m_go p l e R s m args below meth c Q P cl D cA A xa nL c0 s0 (pc + 1) ls (.double FP.dconst1 :: st) h) : m_go p l e R s m args below meth c Q P cl D cA A xa nL c0 s0 pc ls st h :=
  fun H locs ad la hr hl hs => lv_dconst1 hx hb hd (k H locs ad la hr hl (g_cs trivial hs))
theorem g_iload (hx : p.tables.exec = Jvm.exec) (hb : c.code = cc) {i : Nat} {x : Int32} (hi : ls[i]? = some (some (.int x))) (hd : decode cc pc = .ok (.iload i, 2)) (k : m_go p l e R s m args below meth c Q P cl D cA A xa nL c0 s0 (pc + 2) ls (.int x :: st) h) : m_go p l e R s m args below meth c Q P cl D cA A xa nL c0 s0 pc ls st h :=
  fun H locs ad la hr hl hs => lv_iload hx hb hd (hl.2.2.2 i _ hi).1 (k H locs ad la hr hl (g_cs trivial hs))
theorem g_iload_n (hx : p.tables.exec = Jvm.exec) (hb : c.code = cc) {i : Fin 4} {x : Int32} (hi : ls[(i : Nat)]? = some (some (.int x))) (hd : decode cc pc = .ok (.iload_n i, 1)) (k : m_go p l e R s m args below meth c Q P cl D cA A xa nL c0 s0 (pc + 1) ls (.int x :: st) h) : m_go p l e R s m args below meth c Q P cl D cA A xa nL c0 s0 pc ls st h :=
  fun H locs ad la hr hl hs => lv_iload_n hx hb hd rfl (hl.2.2.2 _ _ hi).1 (k H locs ad la hr hl (g_cs trivial hs))
theorem g_lload (hx : p.tables.exec = Jvm.exec) (hb : c.code = cc) {i : Nat} {x : Int64} (hi : ls[i]? = some (some (.long x))) (hd : decode cc pc = .ok (.lload i, 2)) (k : m_go p l e R s m args below meth c Q P cl D cA A xa nL c0 s0 (pc + 2) ls (.long x :: st) h) : m_go p l e R s m args below meth c Q P cl D cA A xa nL c0 s0 pc ls st h :=
  fun H locs ad la hr hl hs => lv_lload hx hb hd (hl.2.2.2 i _ hi).1 (k H locs ad la hr hl (g_cs trivial hs))
theorem g_lload_n (hx : p.tables.exec = Jvm.exec) (hb : c.code = cc) {i : Fin 4} {x : Int64} (hi : ls[(i : Nat)]? = some (some (.long x))) (hd : decode cc pc = .ok (.lload_n i, 1)) (k : m_go p l e R s m args below meth c Q P cl D cA A xa nL c0 s0 (pc + 1) ls (.long x :: st) h) : m_go p l e R s m args below meth c Q P cl D cA A xa nL c0 s0 pc ls st h :=
  fun H locs ad la hr hl hs => lv_lload_n hx hb hd rfl (hl.2.2.2 _ _ hi).1 (k H locs ad la hr hl (g_cs trivial hs))
theorem g_fload (hx : p.tables.exec = Jvm.exec) (hb : c.code = cc) {i : Nat} {x : UInt32} (hi : ls[i]? = some (some (.float x))) (hd : decode cc pc = .ok (.fload i, 2)) (k : m_go p l e R s m args below meth c Q P cl D cA A xa nL c0 s0 (pc + 2) ls (.float x :: st) h) : m_go p l e R s m args below meth c Q P cl D cA A xa nL c0 s0 pc ls st h :=
  fun H locs ad la hr hl hs => lv_fload hx hb hd (hl.2.2.2 i _ hi).1 (k H locs ad la hr hl (g_cs trivial hs))
theorem g_dload (hx : p.tables.exec = Jvm.exec) (hb : c.code = cc) {i : Nat} {x : UInt64} (hi : ls[i]? = some (some (.double x))) (hd : decode cc pc = .ok (.dload i, 2)) (k : m_go p l e R s m args below meth c Q P cl D cA A xa nL c0 s0 (pc + 2) ls (.double x :: st) h) : m_go p l e R s m args below meth c Q P cl D cA A xa nL c0 s0 pc ls st h :=
  fun H locs ad la hr hl hs => lv_dload hx hb hd (hl.2.2.2 i _ hi).1 (k H locs ad la hr hl (g_cs trivial hs))
theorem g_aload (hx : p.tables.exec = Jvm.exec) (hb : c.code = cc) {i : Nat} {x : Nat} (hi : ls[i]? = some (some (.ref x))) (hd : decode cc pc = .ok (.aload i, 2)) (k : m_go p l e R s m args below meth c Q P cl D cA A xa nL c0 s0 (pc + 2) ls (.ref x :: st) h) : m_go p l e R s m args below meth c Q P cl D cA A xa nL c0 s0 pc ls st h :=
  fun H locs ad la hr hl hs => lv_aload hx hb hd (hl.2.2.2 i _ hi).1 (k H locs ad la hr hl (g_cs (hl.2.2.2 i _ hi).2 hs))
theorem g_aload_n (hx : p.tables.exec = Jvm.exec) (hb : c.code = cc) {i : Fin 4} {x : Nat} (hi : ls[(i : Nat)]? = some (some (.ref x))) (hd : decode cc pc = .ok (.aload_n i, 1)) (k : m_go p l e R s m args below meth c Q P cl D cA A xa nL c0 s0 (pc + 1) ls (.ref x :: st) h) : m_go p l e R s m args below meth c Q P cl D cA A xa nL c0 s0 pc ls st h :=
  fun H locs ad la hr hl hs => lv_aload_n hx hb hd rfl (hl.2.2.2 _ _ hi).1 (k H locs ad la hr hl (g_cs (hl.2.2.2 _ _ hi).2 hs))
theorem g_aloadN (hx : p.tables.exec = Jvm.exec) (hb : c.code = cc) {i : Nat} (hi : ls[i]? = some (some .null)) (hd : decode cc pc = .ok (.aload i, 2)) (k : m_go p l e R s m args below meth c Q P cl D cA A xa nL c0 s0 (pc + 2) ls (.null :: st) h) : m_go p l e R s m args below meth c Q P cl D cA A xa nL c0 s0 pc ls st h :=
  fun H locs ad la hr hl hs => lv_aloadN hx hb hd (hl.2.2.2 i _ hi).1 (k H locs ad la hr hl (g_cs trivial hs))
theorem g_aload_nN (hx : p.tables.exec = Jvm.exec) (hb : c.code = cc) {i : Fin 4} (hi : ls[(i : Nat)]? = some (some .null)) (hd : decode cc pc = .ok (.aload_n i, 1)) (k : m_go p l e R s m args below meth c Q P cl D cA A xa nL c0 s0 (pc + 1) ls (.null :: st) h) : m_go p l e R s m args below meth c Q P cl D cA A xa nL c0 s0 pc ls st h :=
  fun H locs ad la hr hl hs => lv_aload_nN hx hb hd rfl (hl.2.2.2 _ _ hi).1 (k H locs ad la hr hl (g_cs trivial hs))
theorem g_istore (hx : p.tables.exec = Jvm.exec) (hb : c.code = cc) {i : Nat} {x : Int32} (h1 : m_ok1 ls i = true) (h2 : i < ls.length) (hd : decode cc pc = .ok (.istore i, 2)) (k : m_go p l e R s m args below meth c Q P cl D cA A xa nL c0 s0 (pc + 2) (ls.set i (some (.int x))) st h) : m_go p l e R s m args below meth c Q P cl D cA A xa nL c0 s0 pc ls (.int x :: st) h :=
  fun H locs ad la hr hl hs => lv_istore hx hb hd (m_lR_has hl) (hl.2.1 ▸ h2) rfl (fun la' hl' => k H locs ad la' hr (m_lR_st1 hl h1 h2 trivial hl') (g_tl hs))
theorem g_istore_n (hx : p.tables.exec = Jvm.exec) (hb : c.code = cc) {i : Fin 4} {x : Int32} (h1 : m_ok1 ls i = true) (h2 : (i : Nat) < ls.length) (hd : decode cc pc = .ok (.istore_n i, 1)) (k : m_go p l e R s m args below meth c Q P cl D cA A xa nL c0 s0 (pc + 1) (ls.set i (some (.int x))) st h) : m_go p l e R s m args below meth c Q P cl D cA A xa nL c0 s0 pc ls (.int x :: st) h :=
  fun H locs ad la hr hl hs => lv_istore_n hx hb hd rfl (m_lR_has hl) (hl.2.1 ▸ h2) rfl (fun la' hl' => k H locs ad la' hr (m_lR_st1 hl h1 h2 trivial hl') (g_tl hs))
theorem g_fstore (hx : p.tables.exec = Jvm.exec) (hb : c.code = cc) {i : Nat} {x : UInt32} (h1 : m_ok1 ls i = true) (h2 : i < ls.length) (hd : decode cc pc = .ok (.fstore i, 2)) (k : m_go p l e R s m args below meth c Q P cl D cA A xa nL c0 s0 (pc + 2) (ls.set i (some (.float x))) st h) : m_go p l e R s m args below meth c Q P cl D cA A xa nL c0 s0 pc ls (.float x :: st) h :=
  fun H locs ad la hr hl hs => lv_fstore hx hb hd (m_lR_has hl) (hl.2.1 ▸ h2) rfl (fun la' hl' => k H locs ad la' hr (m_lR_st1 hl h1 h2 trivial hl') (g_tl hs))
theorem g_dstore (hx : p.tables.exec = Jvm.exec) (hb : c.code = cc) {i : Nat} {x : UInt64} (h1 : m_ok1 ls i = true) (h2 : i + 1 < ls.length) (hd : decode cc pc = .ok (.dstore i, 2)) (k : m_go p l e R s m args below meth c Q P cl D cA A xa nL c0 s0 (pc + 2) ((ls.set i (some (.double x))).set (i + 1) none) st h) : m_go p l e R s m args below meth c Q P cl D cA A xa nL c0 s0 pc ls (.double x :: st) h :=
  fun H locs ad la hr hl hs => lv_dstore hx hb hd (m_lR_has hl) (hl.2.1 ▸ h2) rfl (fun la' hl' => k H locs ad la' hr (m_lR_st2 hl h1 h2 trivial hl') (g_tl hs))
theorem g_astore (hx : p.tables.exec = Jvm.exec) (hb : c.code = cc) {i : Nat} {x : Nat} (h1 : m_ok1 ls i = true) (h2 : i < ls.length) (hd : decode cc pc = .ok (.astore i, 2)) (k : m_go p l e R s m args below meth c Q P cl D cA A xa nL c0 s0 (pc + 2) (ls.set i (some (.ref x))) st h) : m_go p l e R s m args below meth c Q P cl D cA A xa nL c0 s0 pc ls (.ref x :: st) h :=
  fun H locs ad la hr hl hs => lv_astore hx hb hd (m_lR_has hl) (hl.2.1 ▸ h2) rfl (fun la' hl' => k H locs ad la' hr (m_lR_st1 hl h1 h2 (g_hd hs) hl') (g_tl hs))
theorem g_astore_n (hx : p.tables.exec = Jvm.exec) (hb : c.code = cc) {i : Fin 4} {x : Nat} (h1 : m_ok1 ls i = true) (h2 : (i : Nat) < ls.length) (hd : decode cc pc = .ok (.astore_n i, 1)) (k : m_go p l e R s m args below meth c Q P cl D cA A xa nL c0 s0 (pc + 1) (ls.set i (some (.ref x))) st h) : m_go p l e R s m args below meth c Q P cl D cA A xa nL c0 s0 pc ls (.ref x :: st) h :=
  fun H locs ad la hr hl hs => lv_astore_n hx hb hd rfl (m_lR_has hl) (hl.2.1 ▸ h2) rfl (fun la' hl' => k H locs ad la' hr (m_lR_st1 hl h1 h2 (g_hd hs) hl') (g_tl hs))
theorem g_astoreN (hx : p.tables.exec = Jvm.exec) (hb : c.code = cc) {i : Nat} (h1 : m_ok1 ls i = true) (h2 : i < ls.length) (hd : decode cc pc = .ok (.astore i, 2)) (k : m_go p l e R s m args below meth c Q P cl D cA A xa nL c0 s0 (pc + 2) (ls.set i (some .null)) st h) : m_go p l e R s m args below meth c Q P cl D cA A xa nL c0 s0 pc ls (.null :: st) h :=
  fun H locs ad la hr hl hs => lv_astoreN hx hb hd (m_lR_has hl) (hl.2.1 ▸ h2) rfl (fun la' hl' => k H locs ad la' hr (m_lR_st1 hl h1 h2 trivial hl') (g_tl hs))
theorem g_astore_nN (hx : p.tables.exec = Jvm.exec) (hb : c.code = cc) {i : Fin 4} (h1 : m_ok1 ls i = true) (h2 : (i : Nat) < ls.length) (hd : decode cc pc = .ok (.astore_n i, 1)) (k : m_go p l e R s m args below meth c Q P cl D cA A xa nL c0 s0 (pc + 1) (ls.set i (some .null)) st h) : m_go p l e R s m args below meth c Q P cl D cA A xa nL c0 s0 pc ls (.null :: st) h :=
  fun H locs ad la hr hl hs => lv_astore_nN hx hb hd rfl (m_lR_has hl) (hl.2.1 ▸ h2) rfl (fun la' hl' => k H locs ad la' hr (m_lR_st1 hl h1 h2 trivial hl') (g_tl hs))
theorem g_iinc (hx : p.tables.exec = Jvm.exec) (hb : c.code = cc) {i : Nat} {n : Int} {x : Int32} (h1 : m_ok1 ls i = true) (hi : ls[i]? = some (some (.int x))) (hd : decode cc pc = .ok (.iinc i n, 3)) (k : m_go p l e R s m args below meth c Q P cl D cA A xa nL c0 s0 (pc + 3) (ls.set i (some (.int (x + Int32.ofInt n)))) st h) : m_go p l e R s m args below meth c Q P cl D cA A xa nL c0 s0 pc ls st h := by
  intro H locs ad la hr hl hs
  have h2 : i < ls.length := (List.getElem?_eq_some_iff.mp hi).1
  obtain ⟨j, hj⟩ := List.getElem?_of_mem (m_ll_mem (ad := ad) (ls := ls) (q := (i, .int x)) |>.mpr ⟨_, hi, rfl⟩)
  exact lv_iinc hx hb hd (m_lR_has hl) hj rfl (hl.2.1 ▸ h2) rfl (fun la' hl' => k H locs ad la' hr (m_lR_st1 hl h1 h2 trivial hl') hs)
end GO
end
section
/-! arithmetic, stack and branches -/
section GOA
variable {p : Program} {l : Launch} {e : Env} {R : Room} {s : State} {m : MethodId} {args : Array Value} {below : List Frame} {meth : Method} {c : Code} {Q : State → Prop} {P : m_P} {cl : List vw_C} {D : va_G} {cA : Nat → ClassId} {A : Nat → Prop} {xa : Nat × (Nat → Nat)} {nL c0 s0 : Nat} {pc : Nat} {ls : m_F} {st : List Value} {h : m_H} {cc : ByteArray}
theorem g_iadd (hx : p.tables.exec = Jvm.exec) (hb : c.code = cc) {a b : Int32} (hd : decode cc pc = .ok (.iadd, 1)) (k : m_go p l e R s m args below meth c Q P cl D cA A xa nL c0 s0 (pc + 1) ls (.int (a + b) :: st) h) : m_go p l e R s m args below meth c Q P cl D cA A xa nL c0 s0 pc ls (.int b :: .int a :: st) h :=
  fun H locs ad la hr hl hs => lv_iadd hx hb hd (k H locs ad la hr hl (g_cs trivial (g_tl (g_tl hs))))
theorem g_isub (hx : p.tables.exec = Jvm.exec) (hb : c.code = cc) {a b : Int32} (hd : decode cc pc = .ok (.isub, 1)) (k : m_go p l e R s m args below meth c Q P cl D cA A xa nL c0 s0 (pc + 1) ls (.int (a - b) :: st) h) : m_go p l e R s m args below meth c Q P cl D cA A xa nL c0 s0 pc ls (.int b :: .int a :: st) h :=
  fun H locs ad la hr hl hs => lv_isub hx hb hd (k H locs ad la hr hl (g_cs trivial (g_tl (g_tl hs))))
theorem g_imul (hx : p.tables.exec = Jvm.exec) (hb : c.code = cc) {a b : Int32} (hd : decode cc pc = .ok (.imul, 1)) (k : m_go p l e R s m args below meth c Q P cl D cA A xa nL c0 s0 (pc + 1) ls (.int (a * b) :: st) h) : m_go p l e R s m args below meth c Q P cl D cA A xa nL c0 s0 pc ls (.int b :: .int a :: st) h :=
  fun H locs ad la hr hl hs => lv_imul hx hb hd (k H locs ad la hr hl (g_cs trivial (g_tl (g_tl hs))))
theorem g_iand (hx : p.tables.exec = Jvm.exec) (hb : c.code = cc) {a b : Int32} (hd : decode cc pc = .ok (.iand, 1)) (k : m_go p l e R s m args below meth c Q P cl D cA A xa nL c0 s0 (pc + 1) ls (.int (a &&& b) :: st) h) : m_go p l e R s m args below meth c Q P cl D cA A xa nL c0 s0 pc ls (.int b :: .int a :: st) h :=
  fun H locs ad la hr hl hs => lv_iand hx hb hd (k H locs ad la hr hl (g_cs trivial (g_tl (g_tl hs))))
theorem g_ior (hx : p.tables.exec = Jvm.exec) (hb : c.code = cc) {a b : Int32} (hd : decode cc pc = .ok (.ior, 1)) (k : m_go p l e R s m args below meth c Q P cl D cA A xa nL c0 s0 (pc + 1) ls (.int (a ||| b) :: st) h) : m_go p l e R s m args below meth c Q P cl D cA A xa nL c0 s0 pc ls (.int b :: .int a :: st) h :=
  fun H locs ad la hr hl hs => lv_ior hx hb hd (k H locs ad la hr hl (g_cs trivial (g_tl (g_tl hs))))
theorem g_ishr (hx : p.tables.exec = Jvm.exec) (hb : c.code = cc) {a b : Int32} (hd : decode cc pc = .ok (.ishr, 1)) (k : m_go p l e R s m args below meth c Q P cl D cA A xa nL c0 s0 (pc + 1) ls (.int (a >>> (b &&& 31)) :: st) h) : m_go p l e R s m args below meth c Q P cl D cA A xa nL c0 s0 pc ls (.int b :: .int a :: st) h :=
  fun H locs ad la hr hl hs => lv_ishr hx hb hd (k H locs ad la hr hl (g_cs trivial (g_tl (g_tl hs))))
theorem g_idiv (hx : p.tables.exec = Jvm.exec) (hb : c.code = cc) {a b : Int32} (h0 : ¬ b = 0) (hd : decode cc pc = .ok (.idiv, 1)) (k : m_go p l e R s m args below meth c Q P cl D cA A xa nL c0 s0 (pc + 1) ls (.int (a / b) :: st) h) : m_go p l e R s m args below meth c Q P cl D cA A xa nL c0 s0 pc ls (.int b :: .int a :: st) h :=
  fun H locs ad la hr hl hs => lv_idiv hx hb hd h0 (k H locs ad la hr hl (g_cs trivial (g_tl (g_tl hs))))
theorem g_irem (hx : p.tables.exec = Jvm.exec) (hb : c.code = cc) {a b : Int32} (h0 : ¬ b = 0) (hd : decode cc pc = .ok (.irem, 1)) (k : m_go p l e R s m args below meth c Q P cl D cA A xa nL c0 s0 (pc + 1) ls (.int (a - a / b * b) :: st) h) : m_go p l e R s m args below meth c Q P cl D cA A xa nL c0 s0 pc ls (.int b :: .int a :: st) h :=
  fun H locs ad la hr hl hs => lv_irem hx hb hd h0 (k H locs ad la hr hl (g_cs trivial (g_tl (g_tl hs))))
theorem g_ladd (hx : p.tables.exec = Jvm.exec) (hb : c.code = cc) {a b : Int64} (hd : decode cc pc = .ok (.ladd, 1)) (k : m_go p l e R s m args below meth c Q P cl D cA A xa nL c0 s0 (pc + 1) ls (.long (a + b) :: st) h) : m_go p l e R s m args below meth c Q P cl D cA A xa nL c0 s0 pc ls (.long b :: .long a :: st) h :=
  fun H locs ad la hr hl hs => lv_ladd hx hb hd (k H locs ad la hr hl (g_cs trivial (g_tl (g_tl hs))))
theorem g_lsub (hx : p.tables.exec = Jvm.exec) (hb : c.code = cc) {a b : Int64} (hd : decode cc pc = .ok (.lsub, 1)) (k : m_go p l e R s m args below meth c Q P cl D cA A xa nL c0 s0 (pc + 1) ls (.long (a - b) :: st) h) : m_go p l e R s m args below meth c Q P cl D cA A xa nL c0 s0 pc ls (.long b :: .long a :: st) h :=
  fun H locs ad la hr hl hs => lv_lsub hx hb hd (k H locs ad la hr hl (g_cs trivial (g_tl (g_tl hs))))
theorem g_lmul (hx : p.tables.exec = Jvm.exec) (hb : c.code = cc) {a b : Int64} (hd : decode cc pc = .ok (.lmul, 1)) (k : m_go p l e R s m args below meth c Q P cl D cA A xa nL c0 s0 (pc + 1) ls (.long (a * b) :: st) h) : m_go p l e R s m args below meth c Q P cl D cA A xa nL c0 s0 pc ls (.long b :: .long a :: st) h :=
  fun H locs ad la hr hl hs => lv_lmul hx hb hd (k H locs ad la hr hl (g_cs trivial (g_tl (g_tl hs))))
theorem g_i2b (hx : p.tables.exec = Jvm.exec) (hb : c.code = cc) {a : Int32} (hd : decode cc pc = .ok (.i2b, 1)) (k : m_go p l e R s m args below meth c Q P cl D cA A xa nL c0 s0 (pc + 1) ls (.int a.toInt8.toInt32 :: st) h) : m_go p l e R s m args below meth c Q P cl D cA A xa nL c0 s0 pc ls (.int a :: st) h :=
  fun H locs ad la hr hl hs => lv_i2b hx hb hd rfl (k H locs ad la hr hl (g_cs trivial (g_tl hs)))
theorem g_i2l (hx : p.tables.exec = Jvm.exec) (hb : c.code = cc) {a : Int32} (hd : decode cc pc = .ok (.i2l, 1)) (k : m_go p l e R s m args below meth c Q P cl D cA A xa nL c0 s0 (pc + 1) ls (.long a.toInt64 :: st) h) : m_go p l e R s m args below meth c Q P cl D cA A xa nL c0 s0 pc ls (.int a :: st) h :=
  fun H locs ad la hr hl hs => lv_i2l hx hb hd rfl (k H locs ad la hr hl (g_cs trivial (g_tl hs)))
theorem g_i2d (hx : p.tables.exec = Jvm.exec) (hb : c.code = cc) {a : Int32} (hd : decode cc pc = .ok (.i2d, 1)) (k : m_go p l e R s m args below meth c Q P cl D cA A xa nL c0 s0 (pc + 1) ls (.double (FP.i2d a) :: st) h) : m_go p l e R s m args below meth c Q P cl D cA A xa nL c0 s0 pc ls (.int a :: st) h :=
  fun H locs ad la hr hl hs => lv_i2d hx hb hd (k H locs ad la hr hl (g_cs trivial (g_tl hs)))
theorem g_i2f (hx : p.tables.exec = Jvm.exec) (hb : c.code = cc) {a : Int32} (hd : decode cc pc = .ok (.i2f, 1)) (k : m_go p l e R s m args below meth c Q P cl D cA A xa nL c0 s0 (pc + 1) ls (.float (FP.i2f a) :: st) h) : m_go p l e R s m args below meth c Q P cl D cA A xa nL c0 s0 pc ls (.int a :: st) h :=
  fun H locs ad la hr hl hs => lv_i2f hx hb hd (k H locs ad la hr hl (g_cs trivial (g_tl hs)))
theorem g_dup (hx : p.tables.exec = Jvm.exec) (hb : c.code = cc) {v : Value} (hv : v.category = 1) (hd : decode cc pc = .ok (.dup, 1)) (k : m_go p l e R s m args below meth c Q P cl D cA A xa nL c0 s0 (pc + 1) ls (v :: v :: st) h) : m_go p l e R s m args below meth c Q P cl D cA A xa nL c0 s0 pc ls (v :: st) h :=
  fun H locs ad la hr hl hs => lv_dup hx hb hd (by rw [m_cat_cv]; exact hv) (k H locs ad la hr hl (g_cs (g_hd hs) hs))
theorem g_pop (hx : p.tables.exec = Jvm.exec) (hb : c.code = cc) {v : Value} (hv : v.category = 1) (hd : decode cc pc = .ok (.pop, 1)) (k : m_go p l e R s m args below meth c Q P cl D cA A xa nL c0 s0 (pc + 1) ls st h) : m_go p l e R s m args below meth c Q P cl D cA A xa nL c0 s0 pc ls (v :: st) h :=
  fun H locs ad la hr hl hs => lv_pop hx hb hd (by rw [m_cat_cv]; exact hv) (k H locs ad la hr hl (g_tl hs))
theorem g_dup2 (hx : p.tables.exec = Jvm.exec) (hb : c.code = cc) {v w : Value} (hv : v.category = 1) (hw : w.category = 1) (hd : decode cc pc = .ok (.dup2, 1)) (k : m_go p l e R s m args below meth c Q P cl D cA A xa nL c0 s0 (pc + 1) ls (v :: w :: v :: w :: st) h) : m_go p l e R s m args below meth c Q P cl D cA A xa nL c0 s0 pc ls (v :: w :: st) h :=
  fun H locs ad la hr hl hs => lv_dup2_11 hx hb hd (by rw [m_cat_cv]; exact hv) (by rw [m_cat_cv]; exact hw) (k H locs ad la hr hl (g_cs (g_hd hs) (g_cs (g_hd (g_tl hs)) hs)))
theorem g_goto (hx : p.tables.exec = Jvm.exec) (hb : c.code = cc) {off : Int} {tgt : Nat} (hd : decode cc pc = .ok (.goto off, 3)) (ht : (pc : Int) + off = (tgt : Int)) (k : m_go p l e R s m args below meth c Q P cl D cA A xa nL c0 s0 tgt ls st h) : m_go p l e R s m args below meth c Q P cl D cA A xa nL c0 s0 pc ls st h :=
  fun H locs ad la hr hl hs => lv_goto hx hb hd ht (k H locs ad la hr hl hs)
theorem g_if_eq (hx : p.tables.exec = Jvm.exec) (hb : c.code = cc) {a : Int32} {off : Int} {tgt : Nat} (hd : decode cc pc = .ok (.ifCond .eq off, 3)) (ht : (pc : Int) + off = (tgt : Int)) (kt : a = 0 → m_go p l e R s m args below meth c Q P cl D cA A xa nL c0 s0 tgt ls st h) (kf : ¬ (a = 0) → m_go p l e R s m args below meth c Q P cl D cA A xa nL c0 s0 (pc + 3) ls st h) : m_go p l e R s m args below meth c Q P cl D cA A xa nL c0 s0 pc ls (.int a :: st) h :=
  fun H locs ad la hr hl hs => lv_if_eq hx hb hd ht (fun z => kt (by exact z) H locs ad la hr hl (g_tl hs)) (fun z => kf (by first | exact z | exact fun y => y z) H locs ad la hr hl (g_tl hs))
theorem g_if_ne (hx : p.tables.exec = Jvm.exec) (hb : c.code = cc) {a : Int32} {off : Int} {tgt : Nat} (hd : decode cc pc = .ok (.ifCond .ne off, 3)) (ht : (pc : Int) + off = (tgt : Int)) (kt : ¬ a = 0 → m_go p l e R s m args below meth c Q P cl D cA A xa nL c0 s0 tgt ls st h) (kf : ¬ (¬ a = 0) → m_go p l e R s m args below meth c Q P cl D cA A xa nL c0 s0 (pc + 3) ls st h) : m_go p l e R s m args below meth c Q P cl D cA A xa nL c0 s0 pc ls (.int a :: st) h :=
  fun H locs ad la hr hl hs => lv_if_ne hx hb hd ht (fun z => kt (by exact z) H locs ad la hr hl (g_tl hs)) (fun z => kf (by first | exact z | exact fun y => y z) H locs ad la hr hl (g_tl hs))
theorem g_if_lt (hx : p.tables.exec = Jvm.exec) (hb : c.code = cc) {a : Int32} {off : Int} {tgt : Nat} (hd : decode cc pc = .ok (.ifCond .lt off, 3)) (ht : (pc : Int) + off = (tgt : Int)) (kt : a < 0 → m_go p l e R s m args below meth c Q P cl D cA A xa nL c0 s0 tgt ls st h) (kf : ¬ (a < 0) → m_go p l e R s m args below meth c Q P cl D cA A xa nL c0 s0 (pc + 3) ls st h) : m_go p l e R s m args below meth c Q P cl D cA A xa nL c0 s0 pc ls (.int a :: st) h :=
  fun H locs ad la hr hl hs => lv_if_lt hx hb hd ht (fun z => kt (by exact z) H locs ad la hr hl (g_tl hs)) (fun z => kf (by first | exact z | exact fun y => y z) H locs ad la hr hl (g_tl hs))
theorem g_if_ge (hx : p.tables.exec = Jvm.exec) (hb : c.code = cc) {a : Int32} {off : Int} {tgt : Nat} (hd : decode cc pc = .ok (.ifCond .ge off, 3)) (ht : (pc : Int) + off = (tgt : Int)) (kt : 0 ≤ a → m_go p l e R s m args below meth c Q P cl D cA A xa nL c0 s0 tgt ls st h) (kf : ¬ (0 ≤ a) → m_go p l e R s m args below meth c Q P cl D cA A xa nL c0 s0 (pc + 3) ls st h) : m_go p l e R s m args below meth c Q P cl D cA A xa nL c0 s0 pc ls (.int a :: st) h :=
  fun H locs ad la hr hl hs => lv_if_ge hx hb hd ht (fun z => kt (by exact z) H locs ad la hr hl (g_tl hs)) (fun z => kf (by first | exact z | exact fun y => y z) H locs ad la hr hl (g_tl hs))
theorem g_if_gt (hx : p.tables.exec = Jvm.exec) (hb : c.code = cc) {a : Int32} {off : Int} {tgt : Nat} (hd : decode cc pc = .ok (.ifCond .gt off, 3)) (ht : (pc : Int) + off = (tgt : Int)) (kt : 0 < a → m_go p l e R s m args below meth c Q P cl D cA A xa nL c0 s0 tgt ls st h) (kf : ¬ (0 < a) → m_go p l e R s m args below meth c Q P cl D cA A xa nL c0 s0 (pc + 3) ls st h) : m_go p l e R s m args below meth c Q P cl D cA A xa nL c0 s0 pc ls (.int a :: st) h :=
  fun H locs ad la hr hl hs => lv_if_gt hx hb hd ht (fun z => kt (by exact z) H locs ad la hr hl (g_tl hs)) (fun z => kf (by first | exact z | exact fun y => y z) H locs ad la hr hl (g_tl hs))
theorem g_if_le (hx : p.tables.exec = Jvm.exec) (hb : c.code = cc) {a : Int32} {off : Int} {tgt : Nat} (hd : decode cc pc = .ok (.ifCond .le off, 3)) (ht : (pc : Int) + off = (tgt : Int)) (kt : a ≤ 0 → m_go p l e R s m args below meth c Q P cl D cA A xa nL c0 s0 tgt ls st h) (kf : ¬ (a ≤ 0) → m_go p l e R s m args below meth c Q P cl D cA A xa nL c0 s0 (pc + 3) ls st h) : m_go p l e R s m args below meth c Q P cl D cA A xa nL c0 s0 pc ls (.int a :: st) h :=
  fun H locs ad la hr hl hs => lv_if_le hx hb hd ht (fun z => kt (by exact z) H locs ad la hr hl (g_tl hs)) (fun z => kf (by first | exact z | exact fun y => y z) H locs ad la hr hl (g_tl hs))
theorem g_icmp_eq (hx : p.tables.exec = Jvm.exec) (hb : c.code = cc) {a b : Int32} {off : Int} {tgt : Nat} (hd : decode cc pc = .ok (.if_icmp .eq off, 3)) (ht : (pc : Int) + off = (tgt : Int)) (kt : a = b → m_go p l e R s m args below meth c Q P cl D cA A xa nL c0 s0 tgt ls st h) (kf : ¬ (a = b) → m_go p l e R s m args below meth c Q P cl D cA A xa nL c0 s0 (pc + 3) ls st h) : m_go p l e R s m args below meth c Q P cl D cA A xa nL c0 s0 pc ls (.int b :: .int a :: st) h :=
  fun H locs ad la hr hl hs => lv_icmp_eq hx hb hd ht (fun z => kt (by exact z) H locs ad la hr hl (g_tl (g_tl hs))) (fun z => kf (by first | exact z | exact fun y => y z) H locs ad la hr hl (g_tl (g_tl hs)))
theorem g_icmp_ne (hx : p.tables.exec = Jvm.exec) (hb : c.code = cc) {a b : Int32} {off : Int} {tgt : Nat} (hd : decode cc pc = .ok (.if_icmp .ne off, 3)) (ht : (pc : Int) + off = (tgt : Int)) (kt : ¬ a = b → m_go p l e R s m args below meth c Q P cl D cA A xa nL c0 s0 tgt ls st h) (kf : ¬ (¬ a = b) → m_go p l e R s m args below meth c Q P cl D cA A xa nL c0 s0 (pc + 3) ls st h) : m_go p l e R s m args below meth c Q P cl D cA A xa nL c0 s0 pc ls (.int b :: .int a :: st) h :=
  fun H locs ad la hr hl hs => lv_icmp_ne hx hb hd ht (fun z => kt (by exact z) H locs ad la hr hl (g_tl (g_tl hs))) (fun z => kf (by first | exact z | exact fun y => y z) H locs ad la hr hl (g_tl (g_tl hs)))
theorem g_icmp_lt (hx : p.tables.exec = Jvm.exec) (hb : c.code = cc) {a b : Int32} {off : Int} {tgt : Nat} (hd : decode cc pc = .ok (.if_icmp .lt off, 3)) (ht : (pc : Int) + off = (tgt : Int)) (kt : a < b → m_go p l e R s m args below meth c Q P cl D cA A xa nL c0 s0 tgt ls st h) (kf : ¬ (a < b) → m_go p l e R s m args below meth c Q P cl D cA A xa nL c0 s0 (pc + 3) ls st h) : m_go p l e R s m args below meth c Q P cl D cA A xa nL c0 s0 pc ls (.int b :: .int a :: st) h :=
  fun H locs ad la hr hl hs => lv_icmp_lt hx hb hd ht (fun z => kt (by exact z) H locs ad la hr hl (g_tl (g_tl hs))) (fun z => kf (by first | exact z | exact fun y => y z) H locs ad la hr hl (g_tl (g_tl hs)))
theorem g_icmp_ge (hx : p.tables.exec = Jvm.exec) (hb : c.code = cc) {a b : Int32} {off : Int} {tgt : Nat} (hd : decode cc pc = .ok (.if_icmp .ge off, 3)) (ht : (pc : Int) + off = (tgt : Int)) (kt : b ≤ a → m_go p l e R s m args below meth c Q P cl D cA A xa nL c0 s0 tgt ls st h) (kf : ¬ (b ≤ a) → m_go p l e R s m args below meth c Q P cl D cA A xa nL c0 s0 (pc + 3) ls st h) : m_go p l e R s m args below meth c Q P cl D cA A xa nL c0 s0 pc ls (.int b :: .int a :: st) h :=
  fun H locs ad la hr hl hs => lv_icmp_ge hx hb hd ht (fun z => kt (by exact z) H locs ad la hr hl (g_tl (g_tl hs))) (fun z => kf (by first | exact z | exact fun y => y z) H locs ad la hr hl (g_tl (g_tl hs)))
theorem g_icmp_gt (hx : p.tables.exec = Jvm.exec) (hb : c.code = cc) {a b : Int32} {off : Int} {tgt : Nat} (hd : decode cc pc = .ok (.if_icmp .gt off, 3)) (ht : (pc : Int) + off = (tgt : Int)) (kt : b < a → m_go p l e R s m args below meth c Q P cl D cA A xa nL c0 s0 tgt ls st h) (kf : ¬ (b < a) → m_go p l e R s m args below meth c Q P cl D cA A xa nL c0 s0 (pc + 3) ls st h) : m_go p l e R s m args below meth c Q P cl D cA A xa nL c0 s0 pc ls (.int b :: .int a :: st) h :=
  fun H locs ad la hr hl hs => lv_icmp_gt hx hb hd ht (fun z => kt (by exact z) H locs ad la hr hl (g_tl (g_tl hs))) (fun z => kf (by first | exact z | exact fun y => y z) H locs ad la hr hl (g_tl (g_tl hs)))
theorem g_icmp_le (hx : p.tables.exec = Jvm.exec) (hb : c.code = cc) {a b : Int32} {off : Int} {tgt : Nat} (hd : decode cc pc = .ok (.if_icmp .le off, 3)) (ht : (pc : Int) + off = (tgt : Int)) (kt : a ≤ b → m_go p l e R s m args below meth c Q P cl D cA A xa nL c0 s0 tgt ls st h) (kf : ¬ (a ≤ b) → m_go p l e R s m args below meth c Q P cl D cA A xa nL c0 s0 (pc + 3) ls st h) : m_go p l e R s m args below meth c Q P cl D cA A xa nL c0 s0 pc ls (.int b :: .int a :: st) h :=
  fun H locs ad la hr hl hs => lv_icmp_le hx hb hd ht (fun z => kt (by exact z) H locs ad la hr hl (g_tl (g_tl hs))) (fun z => kf (by first | exact z | exact fun y => y z) H locs ad la hr hl (g_tl (g_tl hs)))
theorem g_ifnull (hx : p.tables.exec = Jvm.exec) (hb : c.code = cc) {x : Nat} {off : Int} (hd : decode cc pc = .ok (.ifnull off, 3)) (k : m_go p l e R s m args below meth c Q P cl D cA A xa nL c0 s0 (pc + 3) ls st h) : m_go p l e R s m args below meth c Q P cl D cA A xa nL c0 s0 pc ls (.ref x :: st) h :=
  fun H locs ad la hr hl hs => lv_ifnull hx hb hd (k H locs ad la hr hl (g_tl hs))
theorem g_ifnullN (hx : p.tables.exec = Jvm.exec) (hb : c.code = cc) {off : Int} {tgt : Nat} (hd : decode cc pc = .ok (.ifnull off, 3)) (ht : (pc : Int) + off = (tgt : Int)) (k : m_go p l e R s m args below meth c Q P cl D cA A xa nL c0 s0 tgt ls st h) : m_go p l e R s m args below meth c Q P cl D cA A xa nL c0 s0 pc ls (.null :: st) h :=
  fun H locs ad la hr hl hs => lv_ifnullN hx hb hd ht (k H locs ad la hr hl (g_tl hs))
theorem g_ifnonnull (hx : p.tables.exec = Jvm.exec) (hb : c.code = cc) {x : Nat} {off : Int} {tgt : Nat} (hd : decode cc pc = .ok (.ifnonnull off, 3)) (ht : (pc : Int) + off = (tgt : Int)) (k : m_go p l e R s m args below meth c Q P cl D cA A xa nL c0 s0 tgt ls st h) : m_go p l e R s m args below meth c Q P cl D cA A xa nL c0 s0 pc ls (.ref x :: st) h :=
  fun H locs ad la hr hl hs => lv_ifnonnull hx hb hd ht (k H locs ad la hr hl (g_tl hs))
theorem g_ifnonnullN (hx : p.tables.exec = Jvm.exec) (hb : c.code = cc) {off : Int} (hd : decode cc pc = .ok (.ifnonnull off, 3)) (k : m_go p l e R s m args below meth c Q P cl D cA A xa nL c0 s0 (pc + 3) ls st h) : m_go p l e R s m args below meth c Q P cl D cA A xa nL c0 s0 pc ls (.null :: st) h :=
  fun H locs ad la hr hl hs => lv_ifnonnullN hx hb hd (k H locs ad la hr hl (g_tl hs))
theorem g_tableIn (hx : p.tables.exec = Jvm.exec) (hb : c.code = cc) {dflt lo hi : Int} {offs : Array Int} {len : Nat} {x : Int32} {off : Int} {tgt : Nat} (hd : decode cc pc = .ok (.tableswitch dflt lo hi offs, len)) (h1 : ¬ x.toInt < lo) (h2 : ¬ hi < x.toInt) (ho : offs[(x.toInt - lo).toNat]? = some off) (ht : (pc : Int) + off = (tgt : Int)) (k : m_go p l e R s m args below meth c Q P cl D cA A xa nL c0 s0 tgt ls st h) : m_go p l e R s m args below meth c Q P cl D cA A xa nL c0 s0 pc ls (.int x :: st) h :=
  fun H locs ad la hr hl hs => lv_tableIn hx hb hd h1 h2 ho ht (k H locs ad la hr hl (g_tl hs))
theorem g_tableOut (hx : p.tables.exec = Jvm.exec) (hb : c.code = cc) {dflt lo hi : Int} {offs : Array Int} {len : Nat} {x : Int32} {tgt : Nat} (hd : decode cc pc = .ok (.tableswitch dflt lo hi offs, len)) (h1 : x.toInt < lo ∨ hi < x.toInt) (ht : (pc : Int) + dflt = (tgt : Int)) (k : m_go p l e R s m args below meth c Q P cl D cA A xa nL c0 s0 tgt ls st h) : m_go p l e R s m args below meth c Q P cl D cA A xa nL c0 s0 pc ls (.int x :: st) h :=
  fun H locs ad la hr hl hs => lv_tableOut hx hb hd h1 ht (k H locs ad la hr hl (g_tl hs))
end GOA
end
section
/-! fields and rows -/
theorem m_upne {α : Type} {f : Nat → Nat → α} {a b k : Nat} {v : α} (hb : b ≠ a) : m_up f a k v b = f b := by
  funext y
  simp [m_up, hb]
theorem m_upeq {α : Type} {f : Nat → Nat → α} {a k j : Nat} {v : α} : m_up f a k v a j = if j = k then v else f a j := by simp [m_up]
theorem m_upI {f : Nat → Nat → Int32} {a k : Nat} {v : Int32} : m_up f a k v a = upd (f a) k v := by
  funext y
  simp [m_up, upd]
theorem m_upL {f : Nat → Nat → Int64} {a k : Nat} {v : Int64} : m_up f a k v a = vp_updL (f a) k v := by
  funext y
  simp [m_up, vp_updL]
theorem m_upD {f : Nat → Nat → UInt64} {a k : Nat} {v : UInt64} : m_up f a k v a = vf_upd (f a) k v := by
  funext y
  simp [m_up, vf_upd]
theorem m_I_setI (h : m_H) (a k : Nat) (v : Int32) : m_I (m_setI h a k v) = m_up (m_I h) a k v := rfl
theorem m_L_setL (h : m_H) (a k : Nat) (v : Int64) : m_L (m_setL h a k v) = m_up (m_L h) a k v := rfl
theorem m_D_setD (h : m_H) (a k : Nat) (v : UInt64) : m_D (m_setD h a k v) = m_up (m_D h) a k v := rfl
theorem m_R_setR (h : m_H) (a k : Nat) (v : Option Nat) : m_R (m_setR h a k v) = m_up (m_R h) a k v := rfl
section CELLS
variable {P : m_P} {cA : Nat → ClassId} {ad : Nat → Nat} {h : m_H} {a b k : Nat}
theorem m_cI_ne {v : Int32} (hb : b ≠ a) : m_cell P cA ad (m_setI h a k v) b = m_cell P cA ad h b := by
  have e1 : m_I (m_setI h a k v) b = m_I h b := m_upne hb
  unfold m_cell m_fv
  rw [e1]
  rfl
theorem m_cL_ne {v : Int64} (hb : b ≠ a) : m_cell P cA ad (m_setL h a k v) b = m_cell P cA ad h b := by
  have e1 : m_L (m_setL h a k v) b = m_L h b := m_upne hb
  unfold m_cell m_fv
  rw [e1]
  rfl
theorem m_cD_ne {v : UInt64} (hb : b ≠ a) : m_cell P cA ad (m_setD h a k v) b = m_cell P cA ad h b := by
  have e1 : m_D (m_setD h a k v) b = m_D h b := m_upne hb
  unfold m_cell m_fv
  rw [e1]
  rfl
theorem m_cR_ne {v : Option Nat} (hb : b ≠ a) : m_cell P cA ad (m_setR h a k v) b = m_cell P cA ad h b := by
  have e1 : m_R (m_setR h a k v) b = m_R h b := m_upne hb
  unfold m_cell m_fv
  rw [e1]
  rfl
theorem m_cell_obj {ci : Nat} (hk : m_k h a = ci) (hc : ci < 100) : m_cell P cA ad h a = .inr (ci, (List.range (m_nf P ci)).map (fun k => m_fv P ad h a ci k)) := by
  unfold m_cell
  rw [hk, if_pos hc]
theorem m_cell_I {ci : Nat} (hk : m_k h a = ci) (h1 : 100 ≤ ci) (h2 : ci ≠ 102) (h3 : ci ≠ 103) (h4 : ci < 200) : m_cell P cA ad h a = .inl (cA ci, m_l h a, .inl (m_I h a)) := by
  unfold m_cell
  rw [hk, if_neg (by omega), if_neg h2, if_neg h3, if_pos h4]
theorem m_cell_L (hk : m_k h a = 102) : m_cell P cA ad h a = .inl (cA 102, m_l h a, .inr (.inl (m_L h a))) := by
  unfold m_cell
  rw [hk]
  rfl
theorem m_cell_D (hk : m_k h a = 103) : m_cell P cA ad h a = .inl (cA 103, m_l h a, .inr (.inr (.inr (.inl (m_D h a))))) := by
  unfold m_cell
  rw [hk]
  rfl
theorem m_cell_R {ci : Nat} (hk : m_k h a = ci) (h1 : 200 ≤ ci) : m_cell P cA ad h a = .inl (cA ci, m_l h a, .inr (.inr (.inr (.inr (fun i => (m_R h a i).map ad))))) := by
  unfold m_cell
  rw [hk, if_neg (by omega), if_neg (by omega), if_neg (by omega), if_neg (by omega)]
end CELLS
/-- a field as the small machine reads it -/
def m_gv (P : m_P) (h : m_H) (a ci k : Nat) : Value := if m_fk P ci k = 1 then m_rv (m_R h a k) else if m_fk P ci k = 2 then .long (m_L h a k) else .int (m_I h a k)
theorem m_gv_cv {P : m_P} {ad : Nat → Nat} {h : m_H} {a ci k : Nat} : m_cv ad (m_gv P h a ci k) = m_fv P ad h a ci k := by
  unfold m_gv m_fv
  split
  · exact m_rv_cv ad _
  · split <;> rfl
theorem m_rv_in {h : m_H} (hw : m_wf h) {a k : Nat} (ha : a < m_n h) : m_in (m_n h) (m_rv (m_R h a k)) := by
  cases hr : m_R h a k with
  | none => trivial
  | some j => exact hw.2 a k j ha hr
theorem m_gv_in {P : m_P} {h : m_H} {a ci k : Nat} (hw : m_wf h) (ha : a < m_n h) : m_in (m_n h) (m_gv P h a ci k) := by
  unfold m_gv
  split
  · exact m_rv_in hw ha
  · split <;> trivial
theorem m_wf_I {h : m_H} {a k : Nat} {v : Int32} (hw : m_wf h) : m_wf (m_setI h a k v) := hw
theorem m_wf_L {h : m_H} {a k : Nat} {v : Int64} (hw : m_wf h) : m_wf (m_setL h a k v) := hw
theorem m_wf_D {h : m_H} {a k : Nat} {v : UInt64} (hw : m_wf h) : m_wf (m_setD h a k v) := hw
theorem m_wf_R {h : m_H} {a k : Nat} {v : Option Nat} (hw : m_wf h) (hv : ∀ j, v = some j → j < m_n h ∨ m_X ≤ j) : m_wf (m_setR h a k v) := by
  refine ⟨hw.1, fun b i j hb hj => ?_⟩
  rw [m_R_setR] at hj
  unfold m_up at hj
  split at hj
  · exact hv j hj
  · exact hw.2 b i j hb hj
/-- what is known of a class: its row, its words, its fields' kinds -/
def m_tyok (z : Nat) (ty : FieldType) : Prop := (z = 0 ∧ ty = .int) ∨ (z = 1 ∧ ((∃ n, ty = .object n) ∨ ∃ t, ty = .array t)) ∨ (z = 2 ∧ ty = .long) ∨ (z = 3 ∧ ty = .boolean)
def m_cok (P : m_P) (cl : List vw_C) (G : List Cond) (ci : Nat) (C : String) (T : u_T) : Prop :=
  ci < 100 ∧ cl[ci]? = some (C, T, m_nf P ci) ∧ (∀ w ∈ u_ws C T (m_nf P ci), w ∈ G) ∧ (∀ a, a < m_nf P ci → ∀ b, b < m_nf P ci → a ≠ b → (T a).2.1 ≠ (T b).2.1) ∧ ∃ ty : Nat → FieldType, (∀ k, k < m_nf P ci → parseFieldDescriptor (T k).2.2.1 = some (ty k)) ∧ ∀ k, k < m_nf P ci → m_tyok (m_fk P ci k) (ty k)
section GOH
variable {p : Program} {l : Launch} {e : Env} {R : Room} {s : State} {m : MethodId} {args : Array Value} {below : List Frame} {meth : Method} {c : Code} {Q : State → Prop} {P : m_P} {cl : List vw_C} {D : va_G} {cA : Nat → ClassId} {A : Nat → Prop} {xa : Nat × (Nat → Nat)} {nL c0 s0 : Nat} {pc : Nat} {ls : m_F} {st : List Value} {h : m_H} {cc : ByteArray} {tys : List (ClassId × FieldType)} {G : List Cond} {own : String}
theorem g_get (hx : p.tables.exec = Jvm.exec) (hb : c.code = cc) (hts : ∀ w ∈ G, w.before args s = true) (hown : s.vm.findClass own = some m.cls) (hK : va_K D cl tys s) {ci : Nat} {C : String} {T : u_T} (hc : m_cok P cl G ci C T) {k index a : Nat} (hlink : Cond.fieldLink own index (T k).1 (T k).2.1 (T k).2.2.1 ∈ G) (ha : a < m_n h) (hk : m_k h a = ci) (hkN : k < m_nf P ci) (hd : decode cc pc = .ok (.getfield index, 3))
    (kk : m_go p l e R s m args below meth c Q P cl D cA A xa nL c0 s0 (pc + 3) ls (m_gv P h a ci k :: st) h) : m_go p l e R s m args below meth c Q P cl D cA A xa nL c0 s0 pc ls (.ref a :: st) h := by
  intro H locs ad la hr hl hs
  obtain ⟨hP, hD, hS, hw, hX⟩ := id hr
  obtain ⟨h0, h1, h2, h3, h4⟩ := hc
  have he := m_ws_at (P := P) (cA := cA) (ad := ad) ha
  rw [m_cell_obj hk h0] at he
  refine va_get hx hb hts h2 hown hK hP a he h1 k hkN (hts _ hlink) (fun _ z => z) (v := m_cv ad (m_gv P h a ci k)) ?_ hd (kk H locs ad la hr hl (g_cs (m_gv_in hw ha) (g_tl hs)))
  rw [List.getElem?_map, List.getElem?_range hkN, m_gv_cv]
  rfl
/-- an object's cell with one field changed -/
theorem m_obj_set {P : m_P} {cA : Nat → ClassId} {ad : Nat → Nat} {h h' : m_H} {a ci k : Nat} {v : Value} (hk : m_k h a = ci) (hk' : m_k h' a = ci) (hc : ci < 100) (hkN : k < m_nf P ci) (hv : m_fv P ad h' a ci k = v) (ho : ∀ j, j ≠ k → m_fv P ad h' a ci j = m_fv P ad h a ci j) :
    m_cell P cA ad h' a = .inr (ci, ((List.range (m_nf P ci)).map (fun k => m_fv P ad h a ci k)).set k v) := by
  rw [m_cell_obj hk' hc, ← hv, m_map_set (f := fun k => m_fv P ad h a ci k) (g := fun k => m_fv P ad h' a ci k) hkN ho]
theorem g_put (hx : p.tables.exec = Jvm.exec) (hb : c.code = cc) (hts : ∀ w ∈ G, w.before args s = true) (hown : s.vm.findClass own = some m.cls) (hK : va_K D cl tys s) {ci : Nat} {C : String} {T : u_T} (hc : m_cok P cl G ci C T) {k index a : Nat} (hlink : Cond.fieldLink own index (T k).1 (T k).2.1 (T k).2.2.1 ∈ G) (hfin : (T k).2.2.2 = false ∨ ((T k).2.2.2 = true ∧ meth.name = "<init>" ∧ (T k).1 = own)) (ha : a < m_n h) (hk : m_k h a = ci) (hkN : k < m_nf P ci) (hd : decode cc pc = .ok (.putfield index, 3))
    {v : Value} {h' : m_H} (hn : m_n h' = m_n h) (hcs : m_c h' = m_c h) (hss : m_s h' = m_s h) (hk' : m_k h' a = ci) (hw' : m_wf h → m_wf h') (hty : ∀ (ad : Nat → Nat) (ty : FieldType), m_tyok (m_fk P ci k) ty → narrow ty (m_cv ad v) = m_cv ad v ∧ fits ty (m_cv ad v) = true)
    (hv : ∀ ad, m_fv P ad h' a ci k = m_cv ad v) (ho : ∀ ad j, j ≠ k → m_fv P ad h' a ci j = m_fv P ad h a ci j) (hob : ∀ ad b, b ≠ a → m_cell P cA ad h' b = m_cell P cA ad h b)
    (kk : m_go p l e R s m args below meth c Q P cl D cA A xa nL c0 s0 (pc + 3) ls st h') : m_go p l e R s m args below meth c Q P cl D cA A xa nL c0 s0 pc ls (v :: .ref a :: st) h := by
  intro H locs ad la hr hl hs
  obtain ⟨hP, hD, hS, hw, hX⟩ := id hr
  obtain ⟨h0, h1, h2, h3, ty, h4, h5⟩ := hc
  have he := m_ws_at (P := P) (cA := cA) (ad := ad) ha
  rw [m_cell_obj hk h0] at he
  obtain ⟨q1, q2⟩ := hty ad (ty k) (h5 k hkN)
  have hnew := m_obj_set (P := P) (cA := cA) (ad := ad) hk hk' h0 hkN (hv ad) (ho ad)
  have hset : (m_ws P cA ad h).set a (ad a, .inr (ci, ((List.range (m_nf P ci)).map (fun k => m_fv P ad h a ci k)).set k (m_cv ad v))) = m_ws P cA ad h' := by
    rw [← hnew]
    exact m_ws_set ha hn (hob ad)
  have fin : ∀ (H1 : Heap) (locs1 : List Loc), va_P D cl (m_ws P cA ad h') H1 → va_D A (m_ws P cA ad h') → va_S A s.heap H1 locs1 → W p l e R s m args below meth c H1 locs1 (m_c h - c0) (m_s h - s0) Q (F0 m (pc + 3) la (st.map (m_cv ad))) := by
    intro H1 locs1 a1 a2 a3
    have := kk H1 locs1 ad la ⟨a1, a2, a3, hw' hw, by rw [hn]; exact hX⟩ (hn ▸ hl) (by rw [hn]; exact g_tl (g_tl hs))
    rw [hcs, hss] at this
    exact this
  rcases hfin with hfin | ⟨hfin, hin, hdc⟩
  · refine va_put hx hb hts h2 ty h4 h3 hown hK hP hD hS a he h1 k hkN (hts _ hlink) (fun _ z => z) hfin (h4 k hkN) q1 q2 (by simpa using hkN) hd (fun H1 locs1 a1 a2 a3 => ?_)
    rw [hset] at a1 a2
    exact fin H1 locs1 a1 a2 a3
  · refine va_putF hx hb hts h2 ty h4 h3 hown hK hP hD hS a he h1 k hkN (hts _ hlink) (fun _ z => z) hfin hin hdc (h4 k hkN) q1 q2 (by simpa using hkN) hd (fun H1 locs1 a1 a2 a3 => ?_)
    rw [hset] at a1 a2
    exact fin H1 locs1 a1 a2 a3
end GOH
end
section
/-! rows and new cells -/
/-- the class of a kind of rows is in the list -/
def m_aok (tys : List (ClassId × FieldType)) (cA : Nat → ClassId) (z : Nat) (ty : FieldType) : Prop := ∃ t0 : Nat, tys[t0]? = some (cA z, ty)
section GOR
variable {p : Program} {l : Launch} {e : Env} {R : Room} {s : State} {m : MethodId} {args : Array Value} {below : List Frame} {meth : Method} {c : Code} {Q : State → Prop} {P : m_P} {cl : List vw_C} {D : va_G} {cA : Nat → ClassId} {A : Nat → Prop} {xa : Nat × (Nat → Nat)} {nL c0 s0 : Nat} {pc : Nat} {ls : m_F} {st : List Value} {h : m_H} {cc : ByteArray} {tys : List (ClassId × FieldType)} {G : List Cond} {own : String} {a : Nat} {i : Int32}
theorem g_iald (hx : p.tables.exec = Jvm.exec) (hb : c.code = cc) (hK : va_K D cl tys s) (ht : m_aok tys cA 100 .int) (ha : a < m_n h) (hk : m_k h a = 100) (hi : ¬ (i < 0 ∨ m_l h a ≤ i.toNatClampNeg)) (hd : decode cc pc = .ok (.iaload, 1)) (kk : m_go p l e R s m args below meth c Q P cl D cA A xa nL c0 s0 (pc + 1) ls (.int (m_I h a i.toNatClampNeg) :: st) h) : m_go p l e R s m args below meth c Q P cl D cA A xa nL c0 s0 pc ls (.int i :: .ref a :: st) h := by
  intro H locs ad la hr hl hs
  obtain ⟨t0, ht⟩ := ht
  have he := m_ws_at (P := P) (cA := cA) (ad := ad) ha
  rw [m_cell_I (ci := 100) hk (by decide) (by decide) (by decide) (by decide)] at he
  exact va_iald hx hb hK hr.1 a t0 he ht hi hd (kk H locs ad la hr hl (g_cs trivial (g_tl (g_tl hs))))
theorem g_iast (hx : p.tables.exec = Jvm.exec) (hb : c.code = cc) (hK : va_K D cl tys s) (ht : m_aok tys cA 100 .int) {v : Int32} (ha : a < m_n h) (hk : m_k h a = 100) (hi : ¬ (i < 0 ∨ m_l h a ≤ i.toNatClampNeg)) (hd : decode cc pc = .ok (.iastore, 1)) (kk : m_go p l e R s m args below meth c Q P cl D cA A xa nL c0 s0 (pc + 1) ls st (m_setI h a i.toNatClampNeg v)) : m_go p l e R s m args below meth c Q P cl D cA A xa nL c0 s0 pc ls (.int v :: .int i :: .ref a :: st) h := by
  intro H locs ad la hr hl hs
  obtain ⟨hP, hD, hS, hw, hX⟩ := id hr
  obtain ⟨t0, ht⟩ := ht
  have he := m_ws_at (P := P) (cA := cA) (ad := ad) ha
  rw [m_cell_I (ci := 100) hk (by decide) (by decide) (by decide) (by decide)] at he
  have hset := m_ws_set (P := P) (cA := cA) (ad := ad) (h' := m_setI h a i.toNatClampNeg v) ha rfl (fun b hb => m_cI_ne hb)
  rw [m_cell_I (ci := 100) (show m_k (m_setI h a i.toNatClampNeg v) a = 100 from hk) (by decide) (by decide) (by decide) (by decide), m_I_setI, m_upI] at hset
  refine va_iast hx hb hK hP hD hS a t0 he ht hi hd (fun H1 locs1 a1 a2 a3 => ?_)
  · have a1 : va_P D cl (m_ws P cA ad (m_setI h a i.toNatClampNeg v)) H1 := by rw [← hset]; exact a1
    have a2 : va_D A (m_ws P cA ad (m_setI h a i.toNatClampNeg v)) := by rw [← hset]; exact a2
    exact kk H1 locs1 ad la ⟨a1, a2, a3, hw, hX⟩ hl (g_tl (g_tl (g_tl hs)))
theorem g_bald (hx : p.tables.exec = Jvm.exec) (hb : c.code = cc) (hK : va_K D cl tys s) (ht : m_aok tys cA 101 .byte) (ha : a < m_n h) (hk : m_k h a = 101) (hi : ¬ (i < 0 ∨ m_l h a ≤ i.toNatClampNeg)) (hd : decode cc pc = .ok (.baload, 1)) (kk : m_go p l e R s m args below meth c Q P cl D cA A xa nL c0 s0 (pc + 1) ls (.int (m_I h a i.toNatClampNeg) :: st) h) : m_go p l e R s m args below meth c Q P cl D cA A xa nL c0 s0 pc ls (.int i :: .ref a :: st) h := by
  intro H locs ad la hr hl hs
  obtain ⟨t0, ht⟩ := ht
  have he := m_ws_at (P := P) (cA := cA) (ad := ad) ha
  rw [m_cell_I (ci := 101) hk (by decide) (by decide) (by decide) (by decide)] at he
  exact va_bald hx hb hK hr.1 a t0 he ht hi hd (kk H locs ad la hr hl (g_cs trivial (g_tl (g_tl hs))))
theorem g_bast (hx : p.tables.exec = Jvm.exec) (hb : c.code = cc) (hK : va_K D cl tys s) (ht : m_aok tys cA 101 .byte) {v : Int32} (ha : a < m_n h) (hk : m_k h a = 101) (hi : ¬ (i < 0 ∨ m_l h a ≤ i.toNatClampNeg)) (hd : decode cc pc = .ok (.bastore, 1)) (kk : m_go p l e R s m args below meth c Q P cl D cA A xa nL c0 s0 (pc + 1) ls st (m_setI h a i.toNatClampNeg v.toInt8.toInt32)) : m_go p l e R s m args below meth c Q P cl D cA A xa nL c0 s0 pc ls (.int v :: .int i :: .ref a :: st) h := by
  intro H locs ad la hr hl hs
  obtain ⟨hP, hD, hS, hw, hX⟩ := id hr
  obtain ⟨t0, ht⟩ := ht
  have he := m_ws_at (P := P) (cA := cA) (ad := ad) ha
  rw [m_cell_I (ci := 101) hk (by decide) (by decide) (by decide) (by decide)] at he
  have hset := m_ws_set (P := P) (cA := cA) (ad := ad) (h' := m_setI h a i.toNatClampNeg v.toInt8.toInt32) ha rfl (fun b hb => m_cI_ne hb)
  rw [m_cell_I (ci := 101) (show m_k (m_setI h a i.toNatClampNeg v.toInt8.toInt32) a = 101 from hk) (by decide) (by decide) (by decide) (by decide), m_I_setI, m_upI] at hset
  refine va_bast hx hb hK hP hD hS a t0 he ht hi hd (fun H1 locs1 a1 a2 a3 => ?_)
  · rw [vp_nar_byte] at a1 a2
    have a1 : va_P D cl (m_ws P cA ad (m_setI h a i.toNatClampNeg v.toInt8.toInt32)) H1 := by rw [← hset]; exact a1
    have a2 : va_D A (m_ws P cA ad (m_setI h a i.toNatClampNeg v.toInt8.toInt32)) := by rw [← hset]; exact a2
    exact kk H1 locs1 ad la ⟨a1, a2, a3, hw, hX⟩ hl (g_tl (g_tl (g_tl hs)))
theorem g_lald (hx : p.tables.exec = Jvm.exec) (hb : c.code = cc) (hK : va_K D cl tys s) (ht : m_aok tys cA 102 .long) (ha : a < m_n h) (hk : m_k h a = 102) (hi : ¬ (i < 0 ∨ m_l h a ≤ i.toNatClampNeg)) (hd : decode cc pc = .ok (.laload, 1)) (kk : m_go p l e R s m args below meth c Q P cl D cA A xa nL c0 s0 (pc + 1) ls (.long (m_L h a i.toNatClampNeg) :: st) h) : m_go p l e R s m args below meth c Q P cl D cA A xa nL c0 s0 pc ls (.int i :: .ref a :: st) h := by
  intro H locs ad la hr hl hs
  obtain ⟨t0, ht⟩ := ht
  have he := m_ws_at (P := P) (cA := cA) (ad := ad) ha
  rw [m_cell_L hk] at he
  exact va_lald hx hb hK hr.1 a t0 he ht hi hd (kk H locs ad la hr hl (g_cs trivial (g_tl (g_tl hs))))
theorem g_last (hx : p.tables.exec = Jvm.exec) (hb : c.code = cc) (hK : va_K D cl tys s) (ht : m_aok tys cA 102 .long) {v : Int64} (ha : a < m_n h) (hk : m_k h a = 102) (hi : ¬ (i < 0 ∨ m_l h a ≤ i.toNatClampNeg)) (hd : decode cc pc = .ok (.lastore, 1)) (kk : m_go p l e R s m args below meth c Q P cl D cA A xa nL c0 s0 (pc + 1) ls st (m_setL h a i.toNatClampNeg v)) : m_go p l e R s m args below meth c Q P cl D cA A xa nL c0 s0 pc ls (.long v :: .int i :: .ref a :: st) h := by
  intro H locs ad la hr hl hs
  obtain ⟨hP, hD, hS, hw, hX⟩ := id hr
  obtain ⟨t0, ht⟩ := ht
  have he := m_ws_at (P := P) (cA := cA) (ad := ad) ha
  rw [m_cell_L hk] at he
  have hset := m_ws_set (P := P) (cA := cA) (ad := ad) (h' := m_setL h a i.toNatClampNeg v) ha rfl (fun b hb => m_cL_ne hb)
  rw [m_cell_L (show m_k (m_setL h a i.toNatClampNeg v) a = 102 from hk), m_L_setL, m_upL] at hset
  refine va_last hx hb hK hP hD hS a t0 he ht hi hd (fun H1 locs1 a1 a2 a3 => ?_)
  · have a1 : va_P D cl (m_ws P cA ad (m_setL h a i.toNatClampNeg v)) H1 := by rw [← hset]; exact a1
    have a2 : va_D A (m_ws P cA ad (m_setL h a i.toNatClampNeg v)) := by rw [← hset]; exact a2
    exact kk H1 locs1 ad la ⟨a1, a2, a3, hw, hX⟩ hl (g_tl (g_tl (g_tl hs)))
theorem g_dald (hx : p.tables.exec = Jvm.exec) (hb : c.code = cc) (hK : va_K D cl tys s) (ht : m_aok tys cA 103 .double) (ha : a < m_n h) (hk : m_k h a = 103) (hi : ¬ (i < 0 ∨ m_l h a ≤ i.toNatClampNeg)) (hd : decode cc pc = .ok (.daload, 1)) (kk : m_go p l e R s m args below meth c Q P cl D cA A xa nL c0 s0 (pc + 1) ls (.double (m_D h a i.toNatClampNeg) :: st) h) : m_go p l e R s m args below meth c Q P cl D cA A xa nL c0 s0 pc ls (.int i :: .ref a :: st) h := by
  intro H locs ad la hr hl hs
  obtain ⟨t0, ht⟩ := ht
  have he := m_ws_at (P := P) (cA := cA) (ad := ad) ha
  rw [m_cell_D hk] at he
  exact va_dald hx hb hK hr.1 a t0 he ht hi hd (kk H locs ad la hr hl (g_cs trivial (g_tl (g_tl hs))))
theorem g_dast (hx : p.tables.exec = Jvm.exec) (hb : c.code = cc) (hK : va_K D cl tys s) (ht : m_aok tys cA 103 .double) {v : UInt64} (ha : a < m_n h) (hk : m_k h a = 103) (hi : ¬ (i < 0 ∨ m_l h a ≤ i.toNatClampNeg)) (hd : decode cc pc = .ok (.dastore, 1)) (kk : m_go p l e R s m args below meth c Q P cl D cA A xa nL c0 s0 (pc + 1) ls st (m_setD h a i.toNatClampNeg v)) : m_go p l e R s m args below meth c Q P cl D cA A xa nL c0 s0 pc ls (.double v :: .int i :: .ref a :: st) h := by
  intro H locs ad la hr hl hs
  obtain ⟨hP, hD, hS, hw, hX⟩ := id hr
  obtain ⟨t0, ht⟩ := ht
  have he := m_ws_at (P := P) (cA := cA) (ad := ad) ha
  rw [m_cell_D hk] at he
  have hset := m_ws_set (P := P) (cA := cA) (ad := ad) (h' := m_setD h a i.toNatClampNeg v) ha rfl (fun b hb => m_cD_ne hb)
  rw [m_cell_D (show m_k (m_setD h a i.toNatClampNeg v) a = 103 from hk), m_D_setD, m_upD] at hset
  refine va_dast hx hb hK hP hD hS a t0 he ht hi hd (fun H1 locs1 a1 a2 a3 => ?_)
  · have a1 : va_P D cl (m_ws P cA ad (m_setD h a i.toNatClampNeg v)) H1 := by rw [← hset]; exact a1
    have a2 : va_D A (m_ws P cA ad (m_setD h a i.toNatClampNeg v)) := by rw [← hset]; exact a2
    exact kk H1 locs1 ad la ⟨a1, a2, a3, hw, hX⟩ hl (g_tl (g_tl (g_tl hs)))
theorem g_aald (hx : p.tables.exec = Jvm.exec) (hb : c.code = cc) (hK : va_K D cl tys s) {z : Nat} {C : String} (ht : m_aok tys cA z (.object C)) (hz : 200 ≤ z) (ha : a < m_n h) (hk : m_k h a = z) (hi : ¬ (i < 0 ∨ m_l h a ≤ i.toNatClampNeg)) (hd : decode cc pc = .ok (.aaload, 1)) (kk : m_go p l e R s m args below meth c Q P cl D cA A xa nL c0 s0 (pc + 1) ls (m_rv (m_R h a i.toNatClampNeg) :: st) h) : m_go p l e R s m args below meth c Q P cl D cA A xa nL c0 s0 pc ls (.int i :: .ref a :: st) h := by
  intro H locs ad la hr hl hs
  obtain ⟨t0, ht⟩ := ht
  have he := m_ws_at (P := P) (cA := cA) (ad := ad) ha
  rw [m_cell_R hk hz] at he
  refine va_aldq hx hb hK hr.1 a t0 he ht hi hd ?_
  have := kk H locs ad la hr hl (g_cs (m_rv_in hr.2.2.2.1 ha) (g_tl (g_tl hs)))
  rw [List.map_cons, m_rv_cv] at this
  exact this
theorem g_aast (hx : p.tables.exec = Jvm.exec) (hb : c.code = cc) (hK : va_K D cl tys s) {z v ci : Nat} {r : vw_C} (hc : cl[ci]? = some r) (ht : m_aok tys cA z (.object r.1)) (hz : 200 ≤ z) (ha : a < m_n h) (hk : m_k h a = z) (hv : v < m_n h) (hkv : m_k h v = ci) (hci : ci < 100) (hi : ¬ (i < 0 ∨ m_l h a ≤ i.toNatClampNeg)) (hd : decode cc pc = .ok (.aastore, 1)) (kk : m_go p l e R s m args below meth c Q P cl D cA A xa nL c0 s0 (pc + 1) ls st (m_setR h a i.toNatClampNeg (some v))) : m_go p l e R s m args below meth c Q P cl D cA A xa nL c0 s0 pc ls (.ref v :: .int i :: .ref a :: st) h := by
  intro H locs ad la hr hl hs
  obtain ⟨hP, hD, hS, hw, hX⟩ := id hr
  obtain ⟨t0, ht⟩ := ht
  have he := m_ws_at (P := P) (cA := cA) (ad := ad) ha
  rw [m_cell_R hk hz] at he
  have hev := m_ws_at (P := P) (cA := cA) (ad := ad) hv
  rw [m_cell_obj hkv hci] at hev
  have hset := m_ws_set (P := P) (cA := cA) (ad := ad) (h' := m_setR h a i.toNatClampNeg (some v)) ha rfl (fun b hb => m_cR_ne hb)
  rw [m_cell_R (show m_k (m_setR h a i.toNatClampNeg (some v)) a = z from hk) hz] at hset
  have hf : (fun j => (m_R (m_setR h a i.toNatClampNeg (some v)) a j).map ad) = va_up (fun j => (m_R h a j).map ad) i.toNatClampNeg (some (ad v)) := by
    funext j
    rw [m_R_setR, m_upeq]
    unfold va_up
    split <;> rfl
  rw [hf] at hset
  refine va_astq hx hb hK hP hD hS a t0 v ci he ht hev hc hi hd (fun H1 locs1 a1 a2 a3 => ?_)
  have a1 : va_P D cl (m_ws P cA ad (m_setR h a i.toNatClampNeg (some v))) H1 := by rw [← hset]; exact a1
  have a2 : va_D A (m_ws P cA ad (m_setR h a i.toNatClampNeg (some v))) := by rw [← hset]; exact a2
  exact kk H1 locs1 ad la ⟨a1, a2, a3, m_wf_R hw (fun j hj => by cases hj; exact Or.inl hv), hX⟩ hl (g_tl (g_tl (g_tl hs)))
theorem g_alen (hx : p.tables.exec = Jvm.exec) (hb : c.code = cc) (hK : va_K D cl tys s) {z : Nat} {ty : FieldType} (ht : m_aok tys cA z ty) (hz : 100 ≤ z) (ha : a < m_n h) (hk : m_k h a = z) (hd : decode cc pc = .ok (.arraylength, 1)) (kk : m_go p l e R s m args below meth c Q P cl D cA A xa nL c0 s0 (pc + 1) ls (.int (Int32.ofNat (m_l h a)) :: st) h) : m_go p l e R s m args below meth c Q P cl D cA A xa nL c0 s0 pc ls (.ref a :: st) h := by
  intro H locs ad la hr hl hs
  obtain ⟨t0, ht⟩ := ht
  have he := m_ws_at (P := P) (cA := cA) (ad := ad) ha
  have hq : ∃ x : vp_A, m_cell P cA ad h a = .inl (cA z, x) ∧ x.1 = m_l h a := by
    by_cases h2 : z = 102
    · subst h2; exact ⟨_, m_cell_L hk, rfl⟩
    by_cases h3 : z = 103
    · subst h3; exact ⟨_, m_cell_D hk, rfl⟩
    by_cases h4 : z < 200
    · exact ⟨_, m_cell_I hk hz h2 h3 h4, rfl⟩
    · exact ⟨_, m_cell_R hk (by omega), rfl⟩
  obtain ⟨x, hx1, hx2⟩ := hq
  rw [hx1] at he
  exact va_alen hx hb hK hr.1 a t0 he ht (by rw [hx2]) hd (kk H locs ad la hr hl (g_cs trivial (g_tl hs)))
theorem m_mk_ne {kd len z b : Nat} {ad : Nat → Nat} (hb : b ≠ m_n h) : m_cell P cA ad (m_mk h kd len z) b = m_cell P cA ad h b := by
  have e1 : m_k (m_mk h kd len z) b = m_k h b := by show m_u1 (m_k h) (m_n h) kd b = m_k h b; unfold m_u1; rw [if_neg hb]
  have e2 : m_l (m_mk h kd len z) b = m_l h b := by show m_u1 (m_l h) (m_n h) len b = m_l h b; unfold m_u1; rw [if_neg hb]
  have e3 : m_I (m_mk h kd len z) b = m_I h b := by funext y; show m_zr (m_I h) (m_n h) 0 b y = m_I h b y; unfold m_zr; rw [if_neg hb]
  have e4 : m_L (m_mk h kd len z) b = m_L h b := by funext y; show m_zr (m_L h) (m_n h) 0 b y = m_L h b y; unfold m_zr; rw [if_neg hb]
  have e5 : m_D (m_mk h kd len z) b = m_D h b := by funext y; show m_zr (m_D h) (m_n h) 0 b y = m_D h b y; unfold m_zr; rw [if_neg hb]
  have e6 : m_R (m_mk h kd len z) b = m_R h b := by funext y; show m_zr (m_R h) (m_n h) none b y = m_R h b y; unfold m_zr; rw [if_neg hb]
  unfold m_cell m_fv
  rw [e1, e2, e3, e4, e5, e6]
theorem m_ws_push {kd len z q : Nat} {ad : Nat → Nat} {ev : va_E} (hw : m_wf h) (hn : m_n h < m_X) (hc : m_cell P cA (m_u1 ad (m_n h) q) (m_mk h kd len z) (m_n h) = ev) : m_ws P cA ad h ++ [(q, ev)] = m_ws P cA (m_u1 ad (m_n h) q) (m_mk h kd len z) := by
  have hd : ∀ j, j < m_n h ∨ m_X ≤ j → m_u1 ad (m_n h) q j = ad j := fun j hj => by unfold m_u1; rw [if_neg (by omega)]
  unfold m_ws
  rw [show m_n (m_mk h kd len z) = m_n h + 1 from rfl, List.range_succ, List.map_append]
  congr 1
  · refine List.map_congr_left (fun b hb => ?_)
    have hb := List.mem_range.mp hb
    rw [m_mk_ne (Nat.ne_of_lt hb), m_cell_ad hw hb hd, hd b (Or.inl hb)]
  · rw [List.map_cons, List.map_nil, hc]
    unfold m_u1
    rw [if_pos rfl]
theorem m_wf_mk {kd len z : Nat} (hw : m_wf h) (hn : m_n h < m_X) : m_wf (m_mk h kd len z) := by
  refine ⟨hn, fun b k j hb hj => ?_⟩
  have hj : m_zr (m_R h) (m_n h) none b k = some j := hj
  unfold m_zr at hj
  split at hj
  · cases hj
  · next hne =>
    have hb : b < m_n h + 1 := hb
    rcases hw.2 b k j (by omega) hj with q | q
    · exact Or.inl (Nat.lt_succ_of_lt q)
    · exact Or.inr q
theorem m_mk_k {kd len z : Nat} : m_k (m_mk h kd len z) (m_n h) = kd := by show m_u1 (m_k h) (m_n h) kd (m_n h) = kd; simp [m_u1]
theorem m_mk_l {kd len z : Nat} : m_l (m_mk h kd len z) (m_n h) = len := by show m_u1 (m_l h) (m_n h) len (m_n h) = len; simp [m_u1]
theorem m_mk_I {kd len z : Nat} : m_I (m_mk h kd len z) (m_n h) = fun _ => 0 := by funext y; show m_zr (m_I h) (m_n h) 0 (m_n h) y = 0; simp [m_zr]
theorem m_mk_L {kd len z : Nat} : m_L (m_mk h kd len z) (m_n h) = fun _ => 0 := by funext y; show m_zr (m_L h) (m_n h) 0 (m_n h) y = 0; simp [m_zr]
theorem m_mk_D {kd len z : Nat} : m_D (m_mk h kd len z) (m_n h) = fun _ => 0 := by funext y; show m_zr (m_D h) (m_n h) 0 (m_n h) y = 0; simp [m_zr]
theorem m_mk_R {kd len z : Nat} : m_R (m_mk h kd len z) (m_n h) = fun _ => none := by funext y; show m_zr (m_R h) (m_n h) none (m_n h) y = none; simp [m_zr]
theorem m_go_mk {kd len z : Nat} {pc' : Nat} {H1 : Heap} {locs : List Loc} {ad : Nat → Nat} {la : Array Slot} {q : Nat} {H : Heap} {ev : va_E} (hr : m_rel s P cl D cA A xa ad H locs h) (hl : m_lR ad (m_n h) ls la nL) (hs : ∀ v ∈ st, m_in (m_n h) v) (hn : m_n h < m_X) (h0 : c0 ≤ m_c h) (h1 : s0 ≤ m_s h) (hc : m_cell P cA (m_u1 ad (m_n h) q) (m_mk h kd len z) (m_n h) = ev) (a1 : va_P D cl (m_ws P cA ad h ++ [(q, ev)]) H1) (a2 : va_D A (m_ws P cA ad h ++ [(q, ev)])) (a3 : va_S A s.heap H1 locs)
    (kk : m_go p l e R s m args below meth c Q P cl D cA A xa nL c0 s0 pc' ls (.ref (m_n h) :: st) (m_mk h kd len z)) : W p l e R s m args below meth c H1 locs (m_c h - c0 + 1) (m_s h - s0 + z) Q (F0 m pc' la (.ref q :: st.map (m_cv ad))) := by
  obtain ⟨hP, hD, hS, hw, hX⟩ := hr
  rw [m_ws_push hw hn hc] at a1 a2
  have hd : ∀ j, j < m_n h ∨ m_X ≤ j → m_u1 ad (m_n h) q j = ad j := fun j hj => by unfold m_u1; rw [if_neg (by omega)]
  have := kk H1 locs (m_u1 ad (m_n h) q) la ⟨a1, a2, a3, m_wf_mk hw hn, Nat.le_succ_of_le hX.1, fun j hj => by rw [hd j (hj.imp (fun z => Nat.lt_of_lt_of_le z hX.1) id)]; exact hX.2 j hj⟩ (m_lR_ad hl (Nat.le_succ _) hd) (g_cs (Or.inl (Nat.lt_succ_self _)) (fun v hv => m_in_mono (hs v hv) (Nat.le_succ _)))
  rw [List.map_cons, m_cv_map hs hd, show m_cv (m_u1 ad (m_n h) q) (.ref (m_n h)) = .ref q by simp [m_cv, m_u1], show m_c (m_mk h kd len z) - c0 = m_c h - c0 + 1 by show m_c h + 1 - c0 = _; omega, show m_s (m_mk h kd len z) - s0 = m_s h - s0 + z by show m_s h + z - s0 = _; omega] at this
  exact this
theorem m_RA_eq {z : Nat} {ty : FieldType} {cB : ClassId} (hK : va_K D cl (tys ++ [(cB, ty)]) s) (ht : m_aok tys cA z ty) : cB = cA z := by
  obtain ⟨t0, ht⟩ := ht
  have q1 := (hK.2 t0 _ (by rw [List.getElem?_append_left (List.getElem?_eq_some_iff.mp ht).1]; exact ht)).2
  have q2 := (hK.2 tys.length (cB, ty) (by rw [List.getElem?_append_right (Nat.le_refl _), Nat.sub_self]; rfl)).2
  cases ty with
  | object C =>
    obtain ⟨_, _, _, _, _, g1⟩ := q1
    obtain ⟨_, _, _, _, _, g2⟩ := q2
    exact Option.some.inj (g2.symm.trans g1)
  | _ => exact Option.some.inj (q2.symm.trans q1)
theorem g_new_i (hx : p.tables.exec = Jvm.exec) (hb : c.code = cc) (hK : va_K D cl tys s) (hA : ∀ q, s.heap.size ≤ q → A q) (ht : m_aok tys cA 100 .int) (harr : (Cond.arrayClass .int).before args s = true) (hn : m_n h < m_X) (h0 : c0 ≤ m_c h) (h1 : s0 ≤ m_s h) (hi : ¬ i < 0) (hz : i.toNatClampNeg ≤ 60000000) (hc1 : m_c h - c0 + 1 ≤ R.cells) (hc2 : m_s h - s0 + i.toNatClampNeg ≤ R.slots) (hd : decode cc pc = .ok (.newarray .int, 2)) (kk : m_go p l e R s m args below meth c Q P cl D cA A xa nL c0 s0 (pc + 2) ls (.ref (m_n h) :: st) (m_mk h 100 i.toNatClampNeg i.toNatClampNeg)) : m_go p l e R s m args below meth c Q P cl D cA A xa nL c0 s0 pc ls (.int i :: st) h := by
  intro H locs ad la hr hl hs
  refine va_newa (atype := .int) (ty := .int) (a0 := (i.toNatClampNeg, .inl (fun _ => 0))) hx hb harr rfl hK hr.1 hr.2.1 hr.2.2.1 hA (fun _ => rfl) hi rfl (by show i.toNatClampNeg * 4 ≤ 536870912; omega) hc1 hc2 hd (fun q cB H1 hK' a1 a2 a3 => ?_)
  have hcB := m_RA_eq hK' ht
  subst hcB
  refine m_go_mk hr hl (g_tl hs) hn h0 h1 ?_ a1 a2 a3 kk
  show m_cell P cA (m_u1 ad (m_n h) q) (m_mk h 100 i.toNatClampNeg i.toNatClampNeg) (m_n h) = _
  rw [m_cell_I (ci := 100) m_mk_k (by decide) (by decide) (by decide) (by decide), m_mk_l, m_mk_I]
theorem g_new_b (hx : p.tables.exec = Jvm.exec) (hb : c.code = cc) (hK : va_K D cl tys s) (hA : ∀ q, s.heap.size ≤ q → A q) (ht : m_aok tys cA 101 .byte) (harr : (Cond.arrayClass .byte).before args s = true) (hn : m_n h < m_X) (h0 : c0 ≤ m_c h) (h1 : s0 ≤ m_s h) (hi : ¬ i < 0) (hz : i.toNatClampNeg ≤ 60000000) (hc1 : m_c h - c0 + 1 ≤ R.cells) (hc2 : m_s h - s0 + i.toNatClampNeg ≤ R.slots) (hd : decode cc pc = .ok (.newarray .byte, 2)) (kk : m_go p l e R s m args below meth c Q P cl D cA A xa nL c0 s0 (pc + 2) ls (.ref (m_n h) :: st) (m_mk h 101 i.toNatClampNeg i.toNatClampNeg)) : m_go p l e R s m args below meth c Q P cl D cA A xa nL c0 s0 pc ls (.int i :: st) h := by
  intro H locs ad la hr hl hs
  refine va_newa (atype := .byte) (ty := .byte) (a0 := (i.toNatClampNeg, .inl (fun _ => 0))) hx hb harr rfl hK hr.1 hr.2.1 hr.2.2.1 hA (fun _ => rfl) hi rfl (by show i.toNatClampNeg * 1 ≤ 536870912; omega) hc1 hc2 hd (fun q cB H1 hK' a1 a2 a3 => ?_)
  have hcB := m_RA_eq hK' ht
  subst hcB
  refine m_go_mk hr hl (g_tl hs) hn h0 h1 ?_ a1 a2 a3 kk
  show m_cell P cA (m_u1 ad (m_n h) q) (m_mk h 101 i.toNatClampNeg i.toNatClampNeg) (m_n h) = _
  rw [m_cell_I (ci := 101) m_mk_k (by decide) (by decide) (by decide) (by decide), m_mk_l, m_mk_I]
theorem g_new_l (hx : p.tables.exec = Jvm.exec) (hb : c.code = cc) (hK : va_K D cl tys s) (hA : ∀ q, s.heap.size ≤ q → A q) (ht : m_aok tys cA 102 .long) (harr : (Cond.arrayClass .long).before args s = true) (hn : m_n h < m_X) (h0 : c0 ≤ m_c h) (h1 : s0 ≤ m_s h) (hi : ¬ i < 0) (hz : i.toNatClampNeg ≤ 60000000) (hc1 : m_c h - c0 + 1 ≤ R.cells) (hc2 : m_s h - s0 + i.toNatClampNeg ≤ R.slots) (hd : decode cc pc = .ok (.newarray .long, 2)) (kk : m_go p l e R s m args below meth c Q P cl D cA A xa nL c0 s0 (pc + 2) ls (.ref (m_n h) :: st) (m_mk h 102 i.toNatClampNeg i.toNatClampNeg)) : m_go p l e R s m args below meth c Q P cl D cA A xa nL c0 s0 pc ls (.int i :: st) h := by
  intro H locs ad la hr hl hs
  refine va_newa (atype := .long) (ty := .long) (a0 := (i.toNatClampNeg, .inr (.inl (fun _ => 0)))) hx hb harr rfl hK hr.1 hr.2.1 hr.2.2.1 hA (fun _ => rfl) hi rfl (by show i.toNatClampNeg * 8 ≤ 536870912; omega) hc1 hc2 hd (fun q cB H1 hK' a1 a2 a3 => ?_)
  have hcB := m_RA_eq hK' ht
  subst hcB
  refine m_go_mk hr hl (g_tl hs) hn h0 h1 ?_ a1 a2 a3 kk
  show m_cell P cA (m_u1 ad (m_n h) q) (m_mk h 102 i.toNatClampNeg i.toNatClampNeg) (m_n h) = _
  rw [m_cell_L m_mk_k, m_mk_l, m_mk_L]
theorem g_new_d (hx : p.tables.exec = Jvm.exec) (hb : c.code = cc) (hK : va_K D cl tys s) (hA : ∀ q, s.heap.size ≤ q → A q) (ht : m_aok tys cA 103 .double) (harr : (Cond.arrayClass .double).before args s = true) (hn : m_n h < m_X) (h0 : c0 ≤ m_c h) (h1 : s0 ≤ m_s h) (hi : ¬ i < 0) (hz : i.toNatClampNeg ≤ 60000000) (hc1 : m_c h - c0 + 1 ≤ R.cells) (hc2 : m_s h - s0 + i.toNatClampNeg ≤ R.slots) (hd : decode cc pc = .ok (.newarray .double, 2)) (kk : m_go p l e R s m args below meth c Q P cl D cA A xa nL c0 s0 (pc + 2) ls (.ref (m_n h) :: st) (m_mk h 103 i.toNatClampNeg i.toNatClampNeg)) : m_go p l e R s m args below meth c Q P cl D cA A xa nL c0 s0 pc ls (.int i :: st) h := by
  intro H locs ad la hr hl hs
  refine va_newa (atype := .double) (ty := .double) (a0 := (i.toNatClampNeg, .inr (.inr (.inr (.inl (fun _ => 0)))))) hx hb harr rfl hK hr.1 hr.2.1 hr.2.2.1 hA (fun _ => rfl) hi rfl (by show i.toNatClampNeg * 8 ≤ 536870912; omega) hc1 hc2 hd (fun q cB H1 hK' a1 a2 a3 => ?_)
  have hcB := m_RA_eq hK' ht
  subst hcB
  refine m_go_mk hr hl (g_tl hs) hn h0 h1 ?_ a1 a2 a3 kk
  show m_cell P cA (m_u1 ad (m_n h) q) (m_mk h 103 i.toNatClampNeg i.toNatClampNeg) (m_n h) = _
  rw [m_cell_D m_mk_k, m_mk_l, m_mk_D]
theorem g_new_q (hx : p.tables.exec = Jvm.exec) (hb : c.code = cc) (hown : s.vm.findClass own = some m.cls) (hK : va_K D cl tys s) (hA : ∀ q, s.heap.size ≤ q → A q) {z index : Nat} {C : String} (hz2 : 200 ≤ z) (ht : m_aok tys cA z (.object C)) (hlink : (Cond.classLink own index C).before args s = true) (hov : va_AO C s) (hn : m_n h < m_X) (h0 : c0 ≤ m_c h) (h1 : s0 ≤ m_s h) (hi : ¬ i < 0) (hz : i.toNatClampNeg ≤ 60000000) (hc1 : m_c h - c0 + 1 ≤ R.cells) (hc2 : m_s h - s0 + i.toNatClampNeg ≤ R.slots) (hd : decode cc pc = .ok (.anewarray index, 3)) (kk : m_go p l e R s m args below meth c Q P cl D cA A xa nL c0 s0 (pc + 3) ls (.ref (m_n h) :: st) (m_mk h z i.toNatClampNeg i.toNatClampNeg)) : m_go p l e R s m args below meth c Q P cl D cA A xa nL c0 s0 pc ls (.int i :: st) h := by
  intro H locs ad la hr hl hs
  refine va_newq hx hb hown hlink hov hK hr.1 hr.2.1 hr.2.2.1 hA hi rfl (by omega) hc1 hc2 hd (fun q cB H1 hK' a1 a2 a3 => ?_)
  have hcB := m_RA_eq hK' ht
  subst hcB
  refine m_go_mk hr hl (g_tl hs) hn h0 h1 ?_ a1 a2 a3 kk
  rw [m_cell_R m_mk_k hz2, m_mk_l, m_mk_R]
  rfl
theorem g_new (hx : p.tables.exec = Jvm.exec) (hb : c.code = cc) (hts : ∀ w ∈ G, w.before args s = true) (hown : s.vm.findClass own = some m.cls) (hK : va_K D cl tys s) (hA : ∀ q, s.heap.size ≤ q → A q) {ci index : Nat} {C : String} {T : u_T} (hc : m_cok P cl G ci C T) (hlink : (Cond.classLink own index C).before args s = true) (hinst : (Cond.instantiable C (m_nf P ci)).before args s = true) (hini : (Cond.initialized C).before args s = true) (hn : m_n h < m_X) (h0 : c0 ≤ m_c h) (h1 : s0 ≤ m_s h) (hc1 : m_c h - c0 + 1 ≤ R.cells) (hc2 : m_s h - s0 + m_nf P ci ≤ R.slots) (hd : decode cc pc = .ok (.new index, 3)) (kk : m_go p l e R s m args below meth c Q P cl D cA A xa nL c0 s0 (pc + 3) ls (.ref (m_n h) :: st) (m_mk h ci 0 (m_nf P ci))) : m_go p l e R s m args below meth c Q P cl D cA A xa nL c0 s0 pc ls st h := by
  intro H locs ad la hr hl hs
  obtain ⟨q0, q1, q2, q3, ty, q4, q5⟩ := hc
  refine va_new (fs := (List.range (m_nf P ci)).map (fun k => m_fv P (m_u1 ad (m_n h) 0) (m_mk h ci 0 (m_nf P ci)) (m_n h) ci k)) hx hb hts q2 ty q4 hown hlink hinst hini hK hr.1 hr.2.1 hr.2.2.1 hA q1 (fun j hj => ?_) hc1 hc2 hd (fun q H1 a1 a2 a3 => ?_)
  · have ev : vp_V ((List.range (m_nf P ci)).map (fun k => m_fv P (m_u1 ad (m_n h) 0) (m_mk h ci 0 (m_nf P ci)) (m_n h) ci k)) j = m_fv P (m_u1 ad (m_n h) 0) (m_mk h ci 0 (m_nf P ci)) (m_n h) ci j := by
      unfold vp_V
      simp [hj]
    rw [ev]
    unfold m_fv
    rw [m_mk_I, m_mk_L, m_mk_R]
    rcases q5 j hj with ⟨z1, z2⟩ | ⟨z1, ⟨n, z2⟩ | ⟨t, z2⟩⟩ | ⟨z1, z2⟩ | ⟨z1, z2⟩ <;> rw [z1, z2] <;> rfl
  · refine m_go_mk hr hl hs hn h0 h1 ?_ a1 a2 a3 kk
    rw [m_cell_obj m_mk_k q0]
    congr 2
    refine List.map_congr_left (fun k _ => ?_)
    unfold m_fv
    rw [m_mk_R]
    rfl
end GOR
end
section
/-! the library's own: Math.min, Math.max, arraycopy, Object's constructor; comparisons of longs; floats -/
/-- the room of a method from which calls go d deep -/
def m_rm (d cs ss : Nat) : Room := { frames := d + 8, cells := cs, slots := ss, locals := 40 * d + 200 }
section GON
variable {p : Program} {l : Launch} {e : Env} {R : Room} {s : State} {m : MethodId} {args : Array Value} {below : List Frame} {meth : Method} {c : Code} {Q : State → Prop} {P : m_P} {cl : List vw_C} {D : va_G} {cA : Nat → ClassId} {A : Nat → Prop} {xa : Nat × (Nat → Nat)} {nL c0 s0 : Nat} {pc : Nat} {ls : m_F} {st : List Value} {h : m_H} {cc : ByteArray} {tys : List (ClassId × FieldType)} {G : List Cond} {own : String} {index : Nat}
theorem g_lcmp (hx : p.tables.exec = Jvm.exec) (hb : c.code = cc) {a b : Int64} (hd : decode cc pc = .ok (.lcmp, 1)) (k : m_go p l e R s m args below meth c Q P cl D cA A xa nL c0 s0 (pc + 1) ls (.int (lg_cmp a b) :: st) h) : m_go p l e R s m args below meth c Q P cl D cA A xa nL c0 s0 pc ls (.long b :: .long a :: st) h :=
  fun H locs ad la hr hl hs => W.lcmp hx hb hd (k H locs ad la hr hl (g_cs trivial (g_tl (g_tl hs))))
theorem m_n64 {r : UInt64} (h : isNaN64 r = false) : vf_n64 r := by
  unfold isNaN64 at h
  exact UInt64.not_lt.mp (of_decide_eq_false h)
theorem m_n32 {r : UInt32} (h : isNaN32 r = false) : vf_n32 r := by
  unfold isNaN32 at h
  exact UInt32.not_lt.mp (of_decide_eq_false h)
theorem g_ddiv (hx : p.tables.exec = Jvm.exec) (hb : c.code = cc) {a b : UInt64} (hn : isNaN64 (FP.ddiv a b) = false) (hd : decode cc pc = .ok (.ddiv, 1)) (k : m_go p l e R s m args below meth c Q P cl D cA A xa nL c0 s0 (pc + 1) ls (.double (FP.ddiv a b) :: st) h) : m_go p l e R s m args below meth c Q P cl D cA A xa nL c0 s0 pc ls (.double b :: .double a :: st) h :=
  fun H locs ad la hr hl hs => lv_ddiv hx hb hd (m_n64 hn) (k H locs ad la hr hl (g_cs trivial (g_tl (g_tl hs))))
theorem g_fdiv (hx : p.tables.exec = Jvm.exec) (hb : c.code = cc) {a b : UInt32} (hn : isNaN32 (FP.fdiv a b) = false) (hd : decode cc pc = .ok (.fdiv, 1)) (k : m_go p l e R s m args below meth c Q P cl D cA A xa nL c0 s0 (pc + 1) ls (.float (FP.fdiv a b) :: st) h) : m_go p l e R s m args below meth c Q P cl D cA A xa nL c0 s0 pc ls (.float b :: .float a :: st) h :=
  fun H locs ad la hr hl hs => lv_fdiv hx hb hd (m_n32 hn) (k H locs ad la hr hl (g_cs trivial (g_tl (g_tl hs))))
theorem g_f2d (hx : p.tables.exec = Jvm.exec) (hb : c.code = cc) {a : UInt32} (hn : isNaN64 (FP.f2d a) = false) (hd : decode cc pc = .ok (.f2d, 1)) (k : m_go p l e R s m args below meth c Q P cl D cA A xa nL c0 s0 (pc + 1) ls (.double (FP.f2d a) :: st) h) : m_go p l e R s m args below meth c Q P cl D cA A xa nL c0 s0 pc ls (.float a :: st) h :=
  fun H locs ad la hr hl hs => lv_f2d hx hb hd (m_n64 hn) (k H locs ad la hr hl (g_cs trivial (g_tl hs)))
theorem g_d2f (hx : p.tables.exec = Jvm.exec) (hb : c.code = cc) {a : UInt64} (hn : isNaN32 (FP.d2f a) = false) (hd : decode cc pc = .ok (.d2f, 1)) (k : m_go p l e R s m args below meth c Q P cl D cA A xa nL c0 s0 (pc + 1) ls (.float (FP.d2f a) :: st) h) : m_go p l e R s m args below meth c Q P cl D cA A xa nL c0 s0 pc ls (.double a :: st) h :=
  fun H locs ad la hr hl hs => lv_d2f hx hb hd (m_n32 hn) (k H locs ad la hr hl (g_cs trivial (g_tl hs)))
theorem g_dcmp (hx : p.tables.exec = Jvm.exec) (hb : c.code = cc) {a b : UInt64} {op : CmpOp} (hd : decode cc pc = .ok (.dcmp op, 1)) (k : m_go p l e R s m args below meth c Q P cl D cA A xa nL c0 s0 (pc + 1) ls (.int (Op.cmpValue (FP.dcmp a b) op) :: st) h) : m_go p l e R s m args below meth c Q P cl D cA A xa nL c0 s0 pc ls (.double b :: .double a :: st) h :=
  fun H locs ad la hr hl hs => lv_dcmp hx hb hd (k H locs ad la hr hl (g_cs trivial (g_tl (g_tl hs))))
theorem g_fcmp (hx : p.tables.exec = Jvm.exec) (hb : c.code = cc) {a b : UInt32} {op : CmpOp} (hd : decode cc pc = .ok (.fcmp op, 1)) (k : m_go p l e R s m args below meth c Q P cl D cA A xa nL c0 s0 (pc + 1) ls (.int (Op.cmpValue (FP.fcmp a b) op) :: st) h) : m_go p l e R s m args below meth c Q P cl D cA A xa nL c0 s0 pc ls (.float b :: .float a :: st) h :=
  fun H locs ad la hr hl hs => lv_fcmp hx hb hd (k H locs ad la hr hl (g_cs trivial (g_tl (g_tl hs))))
theorem g_min (hx : p.tables.exec = Jvm.exec) (hb : c.code = cc) (hml : c.maxLocals = nL) (hown : s.vm.findClass own = some m.cls) (hlink : (Cond.methodLink own index Lib.Math.min.name).before args s = true) (hstat : (Cond.static Lib.Math.min.name).before args s = true) (hini : (Cond.initialized "java/lang/Math").before args s = true) (hcode : (Cond.code Lib.Math.min.name Lib.Math.min.code 2 (some .int)).before args s = true) (hf : 1 ≤ R.frames) (hlo : m_cat st + 13 ≤ R.locals) (hc : m_c h - c0 ≤ R.cells) (hsl : m_s h - s0 ≤ R.slots) {a b : Int32} (hd : decode cc pc = .ok (.invokestatic index, 3)) (k : m_go p l e R s m args below meth c Q P cl D cA A xa nL c0 s0 (pc + 3) ls (.int (if b < a then b else a) :: st) h) : m_go p l e R s m args below meth c Q P cl D cA A xa nL c0 s0 pc ls (.int b :: .int a :: st) h :=
  fun H locs ad la hr hl hs => va_mmin hx hb (hml.trans hl.1.symm) hown hlink hstat hini hcode hf (by rw [m_cat_map]; exact hlo) hc hsl hd (k H locs ad la hr hl (g_cs trivial (g_tl (g_tl hs))))
theorem g_max (hx : p.tables.exec = Jvm.exec) (hb : c.code = cc) (hml : c.maxLocals = nL) (hown : s.vm.findClass own = some m.cls) (hlink : (Cond.methodLink own index Lib.Math.max.name).before args s = true) (hstat : (Cond.static Lib.Math.max.name).before args s = true) (hini : (Cond.initialized "java/lang/Math").before args s = true) (hcode : (Cond.code Lib.Math.max.name Lib.Math.max.code 2 (some .int)).before args s = true) (hf : 1 ≤ R.frames) (hlo : m_cat st + 13 ≤ R.locals) (hc : m_c h - c0 ≤ R.cells) (hsl : m_s h - s0 ≤ R.slots) {a b : Int32} (hd : decode cc pc = .ok (.invokestatic index, 3)) (k : m_go p l e R s m args below meth c Q P cl D cA A xa nL c0 s0 (pc + 3) ls (.int (if a < b then b else a) :: st) h) : m_go p l e R s m args below meth c Q P cl D cA A xa nL c0 s0 pc ls (.int b :: .int a :: st) h :=
  fun H locs ad la hr hl hs => va_mmax hx hb (hml.trans hl.1.symm) hown hlink hstat hini hcode hf (by rw [m_cat_map]; exact hlo) hc hsl hd (k H locs ad la hr hl (g_cs trivial (g_tl (g_tl hs))))
theorem g_objInit (hx : p.tables.exec = Jvm.exec) (hb : c.code = cc) (hml : c.maxLocals = nL) (hown : s.vm.findClass own = some m.cls) (hlink : (Cond.methodLink own index Lib.objectInit).before args s = true) (hinst : (Cond.instanceMethod Lib.objectInit).before args s = true) (hcode : (Cond.code Lib.objectInit ⟨#[0xb1]⟩ 1 none).before args s = true) (hf : 1 ≤ R.frames) (hlo : m_cat st + 12 ≤ R.locals) {a : Nat} (hd : decode cc pc = .ok (.invokespecial index, 3)) (k : m_go p l e R s m args below meth c Q P cl D cA A xa nL c0 s0 (pc + 3) ls st h) : m_go p l e R s m args below meth c Q P cl D cA A xa nL c0 s0 pc ls (.ref a :: st) h := by
  intro H locs ad la hr hl hs
  refine W.objInit hx hb hown hlink hinst hcode rfl (by rw [hml]; exact hl.1) rfl hd hf ?_ (k H locs ad la hr hl (g_tl hs))
  show 2 * 0 + _ + 12 ≤ _
  rw [m_cat_map]
  omega
theorem m_cpy_I (h : m_H) (a i b j n : Nat) : m_I (m_cpy h a i b j n) b = va_cpy (m_I h a) (m_I h b) i j n := by
  funext y
  show (if b = b ∧ j ≤ y ∧ y < j + n then m_I h a (i + (y - j)) else m_I h b y) = _
  unfold va_cpy
  simp
theorem m_cpy_ne {a i b j n z : Nat} {ad : Nat → Nat} (hz : z ≠ b) : m_cell P cA ad (m_cpy h a i b j n) z = m_cell P cA ad h z := by
  have e1 : m_I (m_cpy h a i b j n) z = m_I h z := by
    funext y
    show (if z = b ∧ j ≤ y ∧ y < j + n then m_I h a (i + (y - j)) else m_I h z y) = _
    rw [if_neg (fun q => hz q.1)]
  unfold m_cell m_fv
  rw [e1]
  rfl
theorem g_copy (hx : p.tables.exec = Jvm.exec) (hb : c.code = cc) (hml : c.maxLocals = nL) (hown : s.vm.findClass own = some m.cls) (hlink : (Cond.methodLink own index arraycopyName).before args s = true) (hnat : (Cond.native arraycopyName).before args s = true) (hstat : (Cond.static arraycopyName).before args s = true) (hini : (Cond.initialized "java/lang/System").before args s = true) (hK : va_K D cl tys s) (ht : m_aok tys cA 100 .int) (hf : 1 ≤ R.frames) (hlo : m_cat st + (nativeFrameWords "java/lang/System" "arraycopy" 5 + 11) ≤ R.locals) {a b : Nat} {i j n : Int32} (ha : a < m_n h) (hka : m_k h a = 100) (hbn : b < m_n h) (hkb : m_k h b = 100) (h1 : ¬ i < 0) (h2 : ¬ j < 0) (h3 : ¬ n < 0) (h4 : i.toNatClampNeg + n.toNatClampNeg ≤ m_l h a) (h5 : j.toNatClampNeg + n.toNatClampNeg ≤ m_l h b) (hd : decode cc pc = .ok (.invokestatic index, 3)) (kk : m_go p l e R s m args below meth c Q P cl D cA A xa nL c0 s0 (pc + 3) ls st (m_cpy h a i.toNatClampNeg b j.toNatClampNeg n.toNatClampNeg)) : m_go p l e R s m args below meth c Q P cl D cA A xa nL c0 s0 pc ls (.int n :: .int j :: .ref b :: .int i :: .ref a :: st) h := by
  intro H locs ad la hr hl hs
  obtain ⟨hP, hD, hS, hw, hX⟩ := id hr
  obtain ⟨t0, ht⟩ := ht
  have he := m_ws_at (P := P) (cA := cA) (ad := ad) ha
  rw [m_cell_I (ci := 100) hka (by decide) (by decide) (by decide) (by decide)] at he
  have he2 := m_ws_at (P := P) (cA := cA) (ad := ad) hbn
  rw [m_cell_I (ci := 100) hkb (by decide) (by decide) (by decide) (by decide)] at he2
  have hset := m_ws_set (P := P) (cA := cA) (ad := ad) (h' := m_cpy h a i.toNatClampNeg b j.toNatClampNeg n.toNatClampNeg) hbn rfl (fun z hz => m_cpy_ne hz)
  rw [m_cell_I (ci := 100) (show m_k (m_cpy h a i.toNatClampNeg b j.toNatClampNeg n.toNatClampNeg) b = 100 from hkb) (by decide) (by decide) (by decide) (by decide), m_cpy_I] at hset
  refine va_copyi hx hb (hml.trans hl.1.symm) hown hlink hnat hstat hini hK hP hD hS a b t0 t0 he he2 ht ht rfl h1 h2 h3 h4 h5 (fun _ _ => rfl) hf (by rw [m_cat_map]; exact hlo) hd (fun H1 locs1 a1 a2 a3 => ?_)
  have a1 : va_P D cl (m_ws P cA ad (m_cpy h a i.toNatClampNeg b j.toNatClampNeg n.toNatClampNeg)) H1 := by rw [← hset]; exact a1
  have a2 : va_D A (m_ws P cA ad (m_cpy h a i.toNatClampNeg b j.toNatClampNeg n.toNatClampNeg)) := by rw [← hset]; exact a2
  exact kk H1 locs1 ad la ⟨a1, a2, a3, hw, hX⟩ hl (g_tl (g_tl (g_tl (g_tl (g_tl hs)))))
end GON
end
section
/-! CALLS: what a method of the small machine owes, and what its caller has behind the call -/
/-- the exceptions, by number -/
def m_en (x : Nat) : String := if x = 0 then "java/util/NoSuchElementException" else "java/lang/IllegalArgumentException"
def m_Pc (P : m_P) (cl : List vw_C) (D : va_G) (cA : Nat → ClassId) (tys : List (ClassId × FieldType)) (XT : (Nat → Prop) → State → Heap → Prop) (ad : Nat → Nat) (h : m_H) (as : List Value) (sz : Nat) : Array Value → State → Prop := fun v U =>
  v = (as.map (m_cv ad)).toArray ∧ U.heap.size = sz ∧ va_P D cl (m_ws P cA ad h) U.heap ∧ va_K D cl tys U ∧ va_D (fun _ => True) (m_ws P cA ad h) ∧ XT (va_A (m_ws P cA ad h) sz) U U.heap
/-- the world behind a method -/
def m_Bh (P : m_P) (cl : List vw_C) (D : va_G) (cA : Nat → ClassId) (A : Nat → Prop) (xa : Nat × (Nat → Nat)) (h' : m_H) (ad' : Nat → Nat) (st t : State) : Prop :=
  va_P D cl (m_ws P cA ad' h') t.heap ∧ va_D A (m_ws P cA ad' h') ∧ m_wf h' ∧ xa.1 ≤ m_n h' ∧ (∀ j, j < xa.1 ∨ m_X ≤ j → ad' j = xa.2 j) ∧ va_F A st t
def m_Qc (P : m_P) (cl : List vw_C) (D : va_G) (cA : Nat → ClassId) (A : Nat → Prop) (xa : Nat × (Nat → Nat)) (o : Option Value ⊕ Nat) (h' : m_H) : Array Value → State → Outcome → State → Prop := fun _ st oc t =>
  ∃ (v : Option Value) (ad' : Nat → Nat), o = .inl v ∧ oc = .returned (v.map (m_cv ad')) ∧ (∀ w, v = some w → m_in (m_n h') w) ∧ m_Bh P cl D cA A xa h' ad' st t
def m_XC (P : m_P) (cl : List vw_C) (D : va_G) (cA : Nat → ClassId) (A : Nat → Prop) (xa : Nat × (Nat → Nat)) (o : Option Value ⊕ Nat) (h' : m_H) : String → State → State → Prop := fun E st t =>
  ∃ (x : Nat) (ad' : Nat → Nat), o = .inr x ∧ E = m_en x ∧ m_Bh P cl D cA A xa h' ad' st t
/-- what is said of the things outside stays -/
def m_XTok (XT : (Nat → Prop) → State → Heap → Prop) : Prop :=
  (∀ (A : Nat → Prop) (u U : State) (H : Heap), u.WarmedH U.vm → XT A u H → XT A U H) ∧ (∀ (A : Nat → Prop) (U : State) (H H1 : Heap), H.size ≤ H1.size → (∀ a : Nat, a < H.size → ¬ A a → H1[a]? = H[a]?) → XT A U H → XT A U H1) ∧ ∀ (A B : Nat → Prop) (U : State) (H : Heap), (∀ q, B q → A q) → XT A U H → XT B U H
theorem m_Pc_blind {P : m_P} {cl : List vw_C} {D : va_G} {cA : Nat → ClassId} {tys : List (ClassId × FieldType)} {XT : (Nat → Prop) → State → Heap → Prop} {ad : Nat → Nat} {h : m_H} {as : List Value} {sz : Nat} (hXT : m_XTok XT) : FrameBlind (m_Pc P cl D cA tys XT ad h as sz) := by
  intro a U g mk q
  obtain ⟨q0, q1, q2, q3, q4, q5⟩ := q
  exact ⟨q0, q1, q2, va_K.moved (u := U) (U := U.calling g mk a) (Vm.Alike.refl U.vm) q3, q4, hXT.1 _ U _ _ (State.WarmedH.refl U) q5⟩
section GOC
variable {p : Program} {l : Launch} {e : Env} {R : Room} {s : State} {m : MethodId} {args : Array Value} {below : List Frame} {meth : Method} {c : Code} {Q : State → Prop} {P : m_P} {cl : List vw_C} {D : va_G} {cA : Nat → ClassId} {A : Nat → Prop} {xa : Nat × (Nat → Nat)} {nL c0 s0 : Nat} {pc : Nat} {ls : m_F} {st : List Value} {h : m_H} {cc : ByteArray} {tys : List (ClassId × FieldType)} {G : List Cond} {own : String} {index : Nat} {XT : (Nat → Prop) → State → Heap → Prop} {ad : Nat → Nat} {H : Heap} {locs : List Loc}
/-- the callee's cells are the caller's, or new -/
theorem m_sub (hr : m_rel s P cl D cA A xa ad H locs h) (hA : ∀ q, s.heap.size ≤ q → A q) : ∀ q, va_A (m_ws P cA ad h) H.size q → A q := by
  intro q hq
  rcases hq with ⟨k, ev, hk⟩ | hq
  · exact hr.2.1.2 k (q, ev) hk
  · exact hA q (Nat.le_trans hr.2.2.1.1 hq)
theorem m_pre (hr : m_rel s P cl D cA A xa ad H locs h) (hA : ∀ q, s.heap.size ≤ q → A q) (hK : va_K D cl tys s) (hXT : m_XTok XT) (hX : XT A s s.heap) {as : List Value} (U : State) (hU : U.heap = H) (hW : s.WarmedH U.vm) : m_Pc P cl D cA tys XT ad h as H.size (as.map (m_cv ad)).toArray U :=
  ⟨rfl, by rw [hU], by rw [hU]; exact hr.1, va_K.moved hW.alike hK, hr.2.1.weaken (fun _ _ _ _ => trivial), by
    rw [hU]
    exact hXT.2.2 _ _ _ _ (m_sub hr hA) (hXT.1 _ _ _ _ hW (hXT.2.1 _ _ _ _ hr.2.2.1.1 hr.2.2.1.2.1 hX))⟩
/-- behind a call -/
theorem m_back (hr : m_rel s P cl D cA A xa ad H locs h) (hA : ∀ q, s.heap.size ≤ q → A q) {h' : m_H} {ad' : Nat → Nat} {st0 t T' : State} {L : List Loc} (h0 : st0.heap = H) (e1 : T'.heap = t.heap) (hL : ∀ q ∈ L, va_A (m_ws P cA ad h) H.size q.base) (hB : m_Bh P cl D cA (va_A (m_ws P cA ad h) H.size) (m_n h, ad) h' ad' st0 t) : m_rel s P cl D cA A xa ad' T'.heap (locs ++ L) h' ∧ m_n h ≤ m_n h' ∧ ∀ j, j < m_n h ∨ m_X ≤ j → ad' j = ad j := by
  obtain ⟨b1, b2, b3, b4, b5, b6⟩ := hB
  obtain ⟨r1, r2, r3, r4, r5, r6⟩ := id hr
  obtain ⟨k1, k2, k3⟩ := vx_keep (A0 := A) (A1 := va_A (m_ws P cA ad h) H.size) (free := va_A (m_ws P cA ad h) H.size) h0 e1 r3 (fun q _ z => m_sub hr hA q z) (fun q z => m_sub hr hA q z) hL b6
  exact ⟨⟨by rw [e1]; exact b1, b2.weaken (fun _ _ _ z => m_sub hr hA _ z), k3, b3, Nat.le_trans r5 b4, fun j hj => (b5 j (hj.imp (fun z => Nat.lt_of_lt_of_le z r5) id)).trans (r6 j hj)⟩, b4, b5⟩
/-- a call, as it came back: it goes on behind it, or is thrown over its frame -/
theorem m_call (hr : m_rel s P cl D cA A xa ad H locs h) (hA : ∀ q, s.heap.size ≤ q → A q) {la : Array Slot} (hl : m_lR ad (m_n h) ls la nL) (hs : ∀ v ∈ st, m_in (m_n h) v) {o : Option Value ⊕ Nat} {h' : m_H} {a : Array Value} {st0 : List Value} (h0 : c0 ≤ m_c h) (h1 : s0 ≤ m_s h) (g0 : m_c h ≤ m_c h') (g1 : m_s h ≤ m_s h')
    (hrun : vx_Run p l e R s m args below meth c H locs (m_c h - c0) (m_s h - s0) (m_c h' - m_c h) (m_s h' - m_s h) (F0 m pc la st0) (st.map (m_cv ad)) (m_Qc P cl D cA (va_A (m_ws P cA ad h) H.size) (m_n h, ad) o h' a) (m_XC P cl D cA (va_A (m_ws P cA ad h) H.size) (m_n h, ad) o h') (va_A (m_ws P cA ad h) H.size))
    (kk : ∀ v, o = .inl v → m_go p l e R s m args below meth c Q P cl D cA A xa nL c0 s0 (pc + 3) ls (v.toList ++ st) h')
    (kx : ∀ x, o = .inr x → ∀ (H1 : Heap) (locs1 : List Loc) (ad' : Nat → Nat) (q : Addr) (ce : Cell), m_rel s P cl D cA A xa ad' H1 locs1 h' → m_lR ad' (m_n h') ls la nL → H1[q]? = some ce → ce.vm = .none → s.vm.findClass (m_en x) = some ce.cls → vx_W p l e R s m args below meth c H1 locs1 (m_c h' - c0) (m_s h' - s0) Q (F0 m pc la (st.map (m_cv ad))) q) :
    W p l e R s m args below meth c H locs (m_c h - c0) (m_s h - s0) Q (F0 m pc la st0) := by
  have n1 : m_c h - c0 + (m_c h' - m_c h) = m_c h' - c0 := by omega
  have n2 : m_s h - s0 + (m_s h' - m_s h) = m_s h' - s0 := by omega
  intro T hT X
  rcases hrun T hT X with ⟨v, st₀, t, T', L, q0, X', hL, e1, e2, ⟨w, ad', ho, hv, hin, hB⟩, stp⟩ | ⟨q, st₀, t, T', L, E, ce, q0, X', hL, e1, e2, ⟨x, ad', ho, hE, hB⟩, hce, hcv, hcl, stp⟩
  · obtain ⟨r', hn, hd⟩ := m_back hr hA q0 e1 hL hB
    cases hv
    rw [n1, n2] at X'
    have := kk w ho T'.heap (locs ++ L) ad' la r' (m_lR_ad hl hn hd) (fun z hz => by
      rcases List.mem_append.mp hz with q | q
      · exact hin z (by simpa using q)
      · exact m_in_mono (hs z q) hn) T' rfl X'
    obtain ⟨t2, a1, b1⟩ := this
    refine ⟨t2, stp t2 ?_, b1⟩
    rw [List.map_append, m_cv_map hs hd] at a1
    have ew : (w.toList).map (m_cv ad') = (w.map (m_cv ad')).toList := by cases w <;> rfl
    rw [ew] at a1
    exact a1
  · obtain ⟨r', hn, hd⟩ := m_back hr hA q0 e1 hL hB
    subst hE
    rw [n1, n2] at X'
    obtain ⟨t2, a1, b1⟩ := kx x ho T'.heap (locs ++ L) ad' q ce r' (m_lR_ad hl hn hd) (by rw [e1]; exact hce) hcv hcl T' rfl X'
    exact ⟨t2, stp.trans a1, b1⟩
end GOC
end
section
/-! WHICH INSTRUCTION STANDS FOR WHICH, and each step of the small machine as one of the machine -/
/-- what holds all through a method's body -/
def m_env (p : Program) (s : State) (m : MethodId) (args : Array Value) (meth : Method) (c : Code) (R : Room) (P : m_P) (cl : List vw_C) (D : va_G) (cA : Nat → ClassId) (A : Nat → Prop) (tys : List (ClassId × FieldType)) (G : List Cond) (own : String) (ini : Bool) (nL : Nat) (cc : ByteArray) : Prop :=
  p.tables.exec = Jvm.exec ∧ c.code = cc ∧ c.maxLocals = nL ∧ s.vm.findClass own = some m.cls ∧ (∀ w ∈ G, w.before args s = true) ∧ va_K D cl tys s ∧ (∀ q, s.heap.size ≤ q → A q) ∧ (m_aok tys cA 100 .int ∧ m_aok tys cA 101 .byte ∧ m_aok tys cA 102 .long ∧ m_aok tys cA 103 .double) ∧ (ini = true → meth.name = "<init>") ∧ 8 ≤ R.frames ∧ 200 ≤ R.locals
/-- what must be so for a word of the library to be called -/
def m_lib (G : List Cond) (own : String) (ix z : Nat) : Prop :=
  (z = 9001 ∧ Cond.methodLink own ix Lib.Math.min.name ∈ G ∧ Cond.static Lib.Math.min.name ∈ G ∧ Cond.initialized "java/lang/Math" ∈ G ∧ Cond.code Lib.Math.min.name Lib.Math.min.code 2 (some .int) ∈ G) ∨
  (z = 9002 ∧ Cond.methodLink own ix Lib.Math.max.name ∈ G ∧ Cond.static Lib.Math.max.name ∈ G ∧ Cond.initialized "java/lang/Math" ∈ G ∧ Cond.code Lib.Math.max.name Lib.Math.max.code 2 (some .int) ∈ G) ∨
  (z = 9003 ∧ Cond.methodLink own ix arraycopyName ∈ G ∧ Cond.native arraycopyName ∈ G ∧ Cond.static arraycopyName ∈ G ∧ Cond.initialized "java/lang/System" ∈ G)
def m_sim (P : m_P) (cl : List vw_C) (G : List Cond) (own : String) (ini : Bool) (TG : Nat → Prop) (cc : ByteArray) (pc len : Nat) (i : Instr) : Prop := match i with
  | .aconst_null => len = 1 ∧ decode cc pc = .ok (.aconst_null, 1)
  | .iadd => len = 1 ∧ decode cc pc = .ok (.iadd, 1)
  | .isub => len = 1 ∧ decode cc pc = .ok (.isub, 1)
  | .imul => len = 1 ∧ decode cc pc = .ok (.imul, 1)
  | .iand => len = 1 ∧ decode cc pc = .ok (.iand, 1)
  | .ior => len = 1 ∧ decode cc pc = .ok (.ior, 1)
  | .ishr => len = 1 ∧ decode cc pc = .ok (.ishr, 1)
  | .idiv => len = 1 ∧ decode cc pc = .ok (.idiv, 1)
  | .irem => len = 1 ∧ decode cc pc = .ok (.irem, 1)
  | .i2b => len = 1 ∧ decode cc pc = .ok (.i2b, 1)
  | .i2l => len = 1 ∧ decode cc pc = .ok (.i2l, 1)
  | .i2d => len = 1 ∧ decode cc pc = .ok (.i2d, 1)
  | .i2f => len = 1 ∧ decode cc pc = .ok (.i2f, 1)
  | .ladd => len = 1 ∧ decode cc pc = .ok (.ladd, 1)
  | .lsub => len = 1 ∧ decode cc pc = .ok (.lsub, 1)
  | .lmul => len = 1 ∧ decode cc pc = .ok (.lmul, 1)
  | .lcmp => len = 1 ∧ decode cc pc = .ok (.lcmp, 1)
  | .ddiv => len = 1 ∧ decode cc pc = .ok (.ddiv, 1)
  | .fdiv => len = 1 ∧ decode cc pc = .ok (.fdiv, 1)
  | .f2d => len = 1 ∧ decode cc pc = .ok (.f2d, 1)
  | .d2f => len = 1 ∧ decode cc pc = .ok (.d2f, 1)
  | .dup => len = 1 ∧ decode cc pc = .ok (.dup, 1)
  | .pop => len = 1 ∧ decode cc pc = .ok (.pop, 1)
  | .dup2 => len = 1 ∧ decode cc pc = .ok (.dup2, 1)
  | .iaload => len = 1 ∧ decode cc pc = .ok (.iaload, 1)
  | .baload => len = 1 ∧ decode cc pc = .ok (.baload, 1)
  | .laload => len = 1 ∧ decode cc pc = .ok (.laload, 1)
  | .daload => len = 1 ∧ decode cc pc = .ok (.daload, 1)
  | .iastore => len = 1 ∧ decode cc pc = .ok (.iastore, 1)
  | .bastore => len = 1 ∧ decode cc pc = .ok (.bastore, 1)
  | .lastore => len = 1 ∧ decode cc pc = .ok (.lastore, 1)
  | .dastore => len = 1 ∧ decode cc pc = .ok (.dastore, 1)
  | .ireturn => len = 1 ∧ decode cc pc = .ok (.ireturn, 1)
  | .areturn => len = 1 ∧ decode cc pc = .ok (.areturn, 1)
  | .freturn => len = 1 ∧ decode cc pc = .ok (.freturn, 1)
  | .dreturn => len = 1 ∧ decode cc pc = .ok (.dreturn, 1)
  | .return_ => len = 1 ∧ decode cc pc = .ok (.return_, 1)
  | .ret _ => len = 1 ∧ decode cc pc = .ok (.ireturn, 1)
  | .dcmp op => len = 1 ∧ decode cc pc = .ok (.dcmp op, 1)
  | .fcmp op => len = 1 ∧ decode cc pc = .ok (.fcmp op, 1)
  | .fconst k => len = 1 ∧ k = 0 ∧ decode cc pc = .ok (.fconst 0, 1)
  | .dconst k => len = 1 ∧ (k = 0 ∧ decode cc pc = .ok (.dconst 0, 1) ∨ k = 1 ∧ decode cc pc = .ok (.dconst 1, 1))
  | .iconst v => (len = 1 ∧ ∃ n : Int, Int32.ofInt n = Int32.ofInt v ∧ decode cc pc = .ok (.iconst n, 1)) ∨ (len = 2 ∧ ∃ n : Int, (Int8.ofInt n).toInt32 = Int32.ofInt v ∧ decode cc pc = .ok (.bipush n, 2)) ∨ (len = 3 ∧ ∃ n : Int, (Int16.ofInt n).toInt32 = Int32.ofInt v ∧ decode cc pc = .ok (.sipush n, 3)) ∨ (len = 2 ∧ ∃ ix : Nat, Jvm.Cond.constant own ix (Int32.ofInt v) ∈ G ∧ decode cc pc = .ok (.ldc ix, 2)) ∨ (len = 3 ∧ ∃ ix : Nat, Jvm.Cond.constant own ix (Int32.ofInt v) ∈ G ∧ decode cc pc = .ok (.ldc_w ix, 3))
  | .ldc2_w v => (len = 1 ∧ ∃ n : Fin 2, Int64.ofNat (n : Nat) = Int64.ofNat v ∧ decode cc pc = .ok (.lconst n, 1)) ∨ (len = 3 ∧ ∃ ix : Nat, Jvm.Cond.constantLong own ix (Int64.ofNat v) ∈ G ∧ decode cc pc = .ok (.ldc2_w ix, 3))
  | .iload k => (len = 2 ∧ decode cc pc = .ok (.iload k, 2)) ∨ (len = 1 ∧ ∃ j : Fin 4, (j : Nat) = k ∧ decode cc pc = .ok (.iload_n j, 1))
  | .lload k => (len = 2 ∧ decode cc pc = .ok (.lload k, 2)) ∨ (len = 1 ∧ ∃ j : Fin 4, (j : Nat) = k ∧ decode cc pc = .ok (.lload_n j, 1))
  | .aload k => (len = 2 ∧ decode cc pc = .ok (.aload k, 2)) ∨ (len = 1 ∧ ∃ j : Fin 4, (j : Nat) = k ∧ decode cc pc = .ok (.aload_n j, 1))
  | .istore k => (len = 2 ∧ decode cc pc = .ok (.istore k, 2)) ∨ (len = 1 ∧ ∃ j : Fin 4, (j : Nat) = k ∧ decode cc pc = .ok (.istore_n j, 1))
  | .astore k => (len = 2 ∧ decode cc pc = .ok (.astore k, 2)) ∨ (len = 1 ∧ ∃ j : Fin 4, (j : Nat) = k ∧ decode cc pc = .ok (.astore_n j, 1))
  | .fload k => len = 2 ∧ decode cc pc = .ok (.fload k, 2)
  | .dload k => len = 2 ∧ decode cc pc = .ok (.dload k, 2)
  | .fstore k => len = 2 ∧ decode cc pc = .ok (.fstore k, 2)
  | .dstore k => len = 2 ∧ decode cc pc = .ok (.dstore k, 2)
  | .iinc k v => len = 3 ∧ decode cc pc = .ok (.iinc k v, 3)
  | .goto t => len = 3 ∧ (∃ off : Int, (pc : Int) + off = (t.toNat : Int) ∧ decode cc pc = .ok (.goto off, 3)) ∧ TG t.toNat
  | .ifnull t => len = 3 ∧ (∃ off : Int, (pc : Int) + off = (t.toNat : Int) ∧ decode cc pc = .ok (.ifnull off, 3)) ∧ TG t.toNat
  | .ifnonnull t => len = 3 ∧ (∃ off : Int, (pc : Int) + off = (t.toNat : Int) ∧ decode cc pc = .ok (.ifnonnull off, 3)) ∧ TG t.toNat
  | .ifCond z t => len = 3 ∧ (∃ off : Int, (pc : Int) + off = (t.toNat : Int) ∧ decode cc pc = .ok (.ifCond z off, 3)) ∧ TG t.toNat
  | .if_icmp z t => len = 3 ∧ (∃ off : Int, (pc : Int) + off = (t.toNat : Int) ∧ decode cc pc = .ok (.if_icmp z off, 3)) ∧ TG t.toNat
  | .tableswitch d lo hi ts => (∃ (dflt : Int) (offs : Array Int), (pc : Int) + dflt = (d.toNat : Int) ∧ TG d.toNat ∧ (∀ (k : Nat) (t : Int), ts[k]? = some t → TG t.toNat ∧ ∃ off : Int, offs[k]? = some off ∧ (pc : Int) + off = (t.toNat : Int)) ∧ decode cc pc = .ok (.tableswitch dflt lo hi offs, len))
  | .getfield x => len = 3 ∧ ∃ (ix : Nat) (C : String) (T : u_T), m_cok P cl G (x / 64) C T ∧ Cond.fieldLink own ix (T (x % 64)).1 (T (x % 64)).2.1 (T (x % 64)).2.2.1 ∈ G ∧ decode cc pc = .ok (.getfield ix, 3)
  | .putfield x => len = 3 ∧ ∃ (ix : Nat) (C : String) (T : u_T), m_cok P cl G (x / 64) C T ∧ Cond.fieldLink own ix (T (x % 64)).1 (T (x % 64)).2.1 (T (x % 64)).2.2.1 ∈ G ∧ ((T (x % 64)).2.2.2 = false ∨ ((T (x % 64)).2.2.2 = true ∧ ini = true ∧ (T (x % 64)).1 = own)) ∧ decode cc pc = .ok (.putfield ix, 3)
  | .nop => True
  | .newarray .int => len = 2 ∧ Cond.arrayClass .int ∈ G ∧ decode cc pc = .ok (.newarray .int, 2)
  | .newarray .byte => len = 2 ∧ Cond.arrayClass .byte ∈ G ∧ decode cc pc = .ok (.newarray .byte, 2)
  | .newarray .long => len = 2 ∧ Cond.arrayClass .long ∈ G ∧ decode cc pc = .ok (.newarray .long, 2)
  | .newarray .double => len = 2 ∧ Cond.arrayClass .double ∈ G ∧ decode cc pc = .ok (.newarray .double, 2)
  | .new ci => len = 3 ∧ ∃ (ix : Nat) (C : String) (T : u_T), m_cok P cl G ci C T ∧ Cond.classLink own ix C ∈ G ∧ Cond.instantiable C (m_nf P ci) ∈ G ∧ Cond.initialized C ∈ G ∧ decode cc pc = .ok (.new ix, 3)
  | .invokestatic z => len = 3 ∧ ∃ ix : Nat, m_lib G own ix z ∧ decode cc pc = .ok (.invokestatic ix, 3)
  | .invokespecial z => len = 3 ∧ z = 9000 ∧ ∃ ix : Nat, Cond.methodLink own ix Lib.objectInit ∈ G ∧ Cond.instanceMethod Lib.objectInit ∈ G ∧ Cond.code Lib.objectInit ⟨#[0xb1]⟩ 1 none ∈ G ∧ decode cc pc = .ok (.invokespecial ix, 3)
  | _ => False
section STEP
variable {p : Program} {l : Launch} {e : Env} {R : Room} {s : State} {m : MethodId} {args : Array Value} {below : List Frame} {meth : Method} {c : Code} {Q : State → Prop} {P : m_P} {cl : List vw_C} {D : va_G} {cA : Nat → ClassId} {A : Nat → Prop} {xa : Nat × (Nat → Nat)} {nL c0 s0 : Nat} {pc len y : Nat} {is : List Instr} {ls : m_F} {st : List Value} {h : m_H} {cc : ByteArray} {tys : List (ClassId × FieldType)} {G : List Cond} {own : String} {ini : Bool} {TG : Nat → Prop} {AT : Nat → List Instr → Prop} {q : List Instr × m_F × List Value × m_H}
theorem s_iadd (E : m_env p s m args meth c R P cl D cA A tys G own ini nL cc) (hq : m_st P y (.iadd) is ls st h = some (.inl q)) (hm : m_sim P cl G own ini TG cc pc len (.iadd)) (hn : AT (pc + len) is) (k : ∀ pc', AT pc' q.1 → m_go p l e R s m args below meth c Q P cl D cA A xa nL c0 s0 pc' q.2.1 q.2.2.1 q.2.2.2) : m_go p l e R s m args below meth c Q P cl D cA A xa nL c0 s0 pc ls st h := by
  obtain ⟨hx, hb, hml, hown, hts, hK, hA, ⟨hAI, hAB, hAL, hAD⟩, hini, hfr, hlo⟩ := E
  obtain ⟨rfl, hd⟩ := hm
  simp only [m_st, m_nx] at hq
  split at hq
  · cases hq
    exact g_iadd hx hb hd (k _ hn)
  · cases hq
theorem s_isub (E : m_env p s m args meth c R P cl D cA A tys G own ini nL cc) (hq : m_st P y (.isub) is ls st h = some (.inl q)) (hm : m_sim P cl G own ini TG cc pc len (.isub)) (hn : AT (pc + len) is) (k : ∀ pc', AT pc' q.1 → m_go p l e R s m args below meth c Q P cl D cA A xa nL c0 s0 pc' q.2.1 q.2.2.1 q.2.2.2) : m_go p l e R s m args below meth c Q P cl D cA A xa nL c0 s0 pc ls st h := by
  obtain ⟨hx, hb, hml, hown, hts, hK, hA, ⟨hAI, hAB, hAL, hAD⟩, hini, hfr, hlo⟩ := E
  obtain ⟨rfl, hd⟩ := hm
  simp only [m_st, m_nx] at hq
  split at hq
  · cases hq
    exact g_isub hx hb hd (k _ hn)
  · cases hq
theorem s_imul (E : m_env p s m args meth c R P cl D cA A tys G own ini nL cc) (hq : m_st P y (.imul) is ls st h = some (.inl q)) (hm : m_sim P cl G own ini TG cc pc len (.imul)) (hn : AT (pc + len) is) (k : ∀ pc', AT pc' q.1 → m_go p l e R s m args below meth c Q P cl D cA A xa nL c0 s0 pc' q.2.1 q.2.2.1 q.2.2.2) : m_go p l e R s m args below meth c Q P cl D cA A xa nL c0 s0 pc ls st h := by
  obtain ⟨hx, hb, hml, hown, hts, hK, hA, ⟨hAI, hAB, hAL, hAD⟩, hini, hfr, hlo⟩ := E
  obtain ⟨rfl, hd⟩ := hm
  simp only [m_st, m_nx] at hq
  split at hq
  · cases hq
    exact g_imul hx hb hd (k _ hn)
  · cases hq
theorem s_iand (E : m_env p s m args meth c R P cl D cA A tys G own ini nL cc) (hq : m_st P y (.iand) is ls st h = some (.inl q)) (hm : m_sim P cl G own ini TG cc pc len (.iand)) (hn : AT (pc + len) is) (k : ∀ pc', AT pc' q.1 → m_go p l e R s m args below meth c Q P cl D cA A xa nL c0 s0 pc' q.2.1 q.2.2.1 q.2.2.2) : m_go p l e R s m args below meth c Q P cl D cA A xa nL c0 s0 pc ls st h := by
  obtain ⟨hx, hb, hml, hown, hts, hK, hA, ⟨hAI, hAB, hAL, hAD⟩, hini, hfr, hlo⟩ := E
  obtain ⟨rfl, hd⟩ := hm
  simp only [m_st, m_nx] at hq
  split at hq
  · cases hq
    exact g_iand hx hb hd (k _ hn)
  · cases hq
theorem s_ior (E : m_env p s m args meth c R P cl D cA A tys G own ini nL cc) (hq : m_st P y (.ior) is ls st h = some (.inl q)) (hm : m_sim P cl G own ini TG cc pc len (.ior)) (hn : AT (pc + len) is) (k : ∀ pc', AT pc' q.1 → m_go p l e R s m args below meth c Q P cl D cA A xa nL c0 s0 pc' q.2.1 q.2.2.1 q.2.2.2) : m_go p l e R s m args below meth c Q P cl D cA A xa nL c0 s0 pc ls st h := by
  obtain ⟨hx, hb, hml, hown, hts, hK, hA, ⟨hAI, hAB, hAL, hAD⟩, hini, hfr, hlo⟩ := E
  obtain ⟨rfl, hd⟩ := hm
  simp only [m_st, m_nx] at hq
  split at hq
  · cases hq
    exact g_ior hx hb hd (k _ hn)
  · cases hq
theorem s_ishr (E : m_env p s m args meth c R P cl D cA A tys G own ini nL cc) (hq : m_st P y (.ishr) is ls st h = some (.inl q)) (hm : m_sim P cl G own ini TG cc pc len (.ishr)) (hn : AT (pc + len) is) (k : ∀ pc', AT pc' q.1 → m_go p l e R s m args below meth c Q P cl D cA A xa nL c0 s0 pc' q.2.1 q.2.2.1 q.2.2.2) : m_go p l e R s m args below meth c Q P cl D cA A xa nL c0 s0 pc ls st h := by
  obtain ⟨hx, hb, hml, hown, hts, hK, hA, ⟨hAI, hAB, hAL, hAD⟩, hini, hfr, hlo⟩ := E
  obtain ⟨rfl, hd⟩ := hm
  simp only [m_st, m_nx] at hq
  split at hq
  · cases hq
    exact g_ishr hx hb hd (k _ hn)
  · cases hq
theorem s_ladd (E : m_env p s m args meth c R P cl D cA A tys G own ini nL cc) (hq : m_st P y (.ladd) is ls st h = some (.inl q)) (hm : m_sim P cl G own ini TG cc pc len (.ladd)) (hn : AT (pc + len) is) (k : ∀ pc', AT pc' q.1 → m_go p l e R s m args below meth c Q P cl D cA A xa nL c0 s0 pc' q.2.1 q.2.2.1 q.2.2.2) : m_go p l e R s m args below meth c Q P cl D cA A xa nL c0 s0 pc ls st h := by
  obtain ⟨hx, hb, hml, hown, hts, hK, hA, ⟨hAI, hAB, hAL, hAD⟩, hini, hfr, hlo⟩ := E
  obtain ⟨rfl, hd⟩ := hm
  simp only [m_st, m_nx] at hq
  split at hq
  · cases hq
    exact g_ladd hx hb hd (k _ hn)
  · cases hq
theorem s_lsub (E : m_env p s m args meth c R P cl D cA A tys G own ini nL cc) (hq : m_st P y (.lsub) is ls st h = some (.inl q)) (hm : m_sim P cl G own ini TG cc pc len (.lsub)) (hn : AT (pc + len) is) (k : ∀ pc', AT pc' q.1 → m_go p l e R s m args below meth c Q P cl D cA A xa nL c0 s0 pc' q.2.1 q.2.2.1 q.2.2.2) : m_go p l e R s m args below meth c Q P cl D cA A xa nL c0 s0 pc ls st h := by
  obtain ⟨hx, hb, hml, hown, hts, hK, hA, ⟨hAI, hAB, hAL, hAD⟩, hini, hfr, hlo⟩ := E
  obtain ⟨rfl, hd⟩ := hm
  simp only [m_st, m_nx] at hq
  split at hq
  · cases hq
    exact g_lsub hx hb hd (k _ hn)
  · cases hq
theorem s_lmul (E : m_env p s m args meth c R P cl D cA A tys G own ini nL cc) (hq : m_st P y (.lmul) is ls st h = some (.inl q)) (hm : m_sim P cl G own ini TG cc pc len (.lmul)) (hn : AT (pc + len) is) (k : ∀ pc', AT pc' q.1 → m_go p l e R s m args below meth c Q P cl D cA A xa nL c0 s0 pc' q.2.1 q.2.2.1 q.2.2.2) : m_go p l e R s m args below meth c Q P cl D cA A xa nL c0 s0 pc ls st h := by
  obtain ⟨hx, hb, hml, hown, hts, hK, hA, ⟨hAI, hAB, hAL, hAD⟩, hini, hfr, hlo⟩ := E
  obtain ⟨rfl, hd⟩ := hm
  simp only [m_st, m_nx] at hq
  split at hq
  · cases hq
    exact g_lmul hx hb hd (k _ hn)
  · cases hq
theorem s_lcmp (E : m_env p s m args meth c R P cl D cA A tys G own ini nL cc) (hq : m_st P y (.lcmp) is ls st h = some (.inl q)) (hm : m_sim P cl G own ini TG cc pc len (.lcmp)) (hn : AT (pc + len) is) (k : ∀ pc', AT pc' q.1 → m_go p l e R s m args below meth c Q P cl D cA A xa nL c0 s0 pc' q.2.1 q.2.2.1 q.2.2.2) : m_go p l e R s m args below meth c Q P cl D cA A xa nL c0 s0 pc ls st h := by
  obtain ⟨hx, hb, hml, hown, hts, hK, hA, ⟨hAI, hAB, hAL, hAD⟩, hini, hfr, hlo⟩ := E
  obtain ⟨rfl, hd⟩ := hm
  simp only [m_st, m_nx] at hq
  split at hq
  · cases hq
    exact g_lcmp hx hb hd (k _ hn)
  · cases hq
theorem s_i2b (E : m_env p s m args meth c R P cl D cA A tys G own ini nL cc) (hq : m_st P y (.i2b) is ls st h = some (.inl q)) (hm : m_sim P cl G own ini TG cc pc len (.i2b)) (hn : AT (pc + len) is) (k : ∀ pc', AT pc' q.1 → m_go p l e R s m args below meth c Q P cl D cA A xa nL c0 s0 pc' q.2.1 q.2.2.1 q.2.2.2) : m_go p l e R s m args below meth c Q P cl D cA A xa nL c0 s0 pc ls st h := by
  obtain ⟨hx, hb, hml, hown, hts, hK, hA, ⟨hAI, hAB, hAL, hAD⟩, hini, hfr, hlo⟩ := E
  obtain ⟨rfl, hd⟩ := hm
  simp only [m_st, m_nx] at hq
  split at hq
  · cases hq
    exact g_i2b hx hb hd (k _ hn)
  · cases hq
theorem s_i2l (E : m_env p s m args meth c R P cl D cA A tys G own ini nL cc) (hq : m_st P y (.i2l) is ls st h = some (.inl q)) (hm : m_sim P cl G own ini TG cc pc len (.i2l)) (hn : AT (pc + len) is) (k : ∀ pc', AT pc' q.1 → m_go p l e R s m args below meth c Q P cl D cA A xa nL c0 s0 pc' q.2.1 q.2.2.1 q.2.2.2) : m_go p l e R s m args below meth c Q P cl D cA A xa nL c0 s0 pc ls st h := by
  obtain ⟨hx, hb, hml, hown, hts, hK, hA, ⟨hAI, hAB, hAL, hAD⟩, hini, hfr, hlo⟩ := E
  obtain ⟨rfl, hd⟩ := hm
  simp only [m_st, m_nx] at hq
  split at hq
  · cases hq
    exact g_i2l hx hb hd (k _ hn)
  · cases hq
theorem s_i2d (E : m_env p s m args meth c R P cl D cA A tys G own ini nL cc) (hq : m_st P y (.i2d) is ls st h = some (.inl q)) (hm : m_sim P cl G own ini TG cc pc len (.i2d)) (hn : AT (pc + len) is) (k : ∀ pc', AT pc' q.1 → m_go p l e R s m args below meth c Q P cl D cA A xa nL c0 s0 pc' q.2.1 q.2.2.1 q.2.2.2) : m_go p l e R s m args below meth c Q P cl D cA A xa nL c0 s0 pc ls st h := by
  obtain ⟨hx, hb, hml, hown, hts, hK, hA, ⟨hAI, hAB, hAL, hAD⟩, hini, hfr, hlo⟩ := E
  obtain ⟨rfl, hd⟩ := hm
  simp only [m_st, m_nx] at hq
  split at hq
  · cases hq
    exact g_i2d hx hb hd (k _ hn)
  · cases hq
theorem s_i2f (E : m_env p s m args meth c R P cl D cA A tys G own ini nL cc) (hq : m_st P y (.i2f) is ls st h = some (.inl q)) (hm : m_sim P cl G own ini TG cc pc len (.i2f)) (hn : AT (pc + len) is) (k : ∀ pc', AT pc' q.1 → m_go p l e R s m args below meth c Q P cl D cA A xa nL c0 s0 pc' q.2.1 q.2.2.1 q.2.2.2) : m_go p l e R s m args below meth c Q P cl D cA A xa nL c0 s0 pc ls st h := by
  obtain ⟨hx, hb, hml, hown, hts, hK, hA, ⟨hAI, hAB, hAL, hAD⟩, hini, hfr, hlo⟩ := E
  obtain ⟨rfl, hd⟩ := hm
  simp only [m_st, m_nx] at hq
  split at hq
  · cases hq
    exact g_i2f hx hb hd (k _ hn)
  · cases hq
theorem s_aconst_null (E : m_env p s m args meth c R P cl D cA A tys G own ini nL cc) (hq : m_st P y (.aconst_null) is ls st h = some (.inl q)) (hm : m_sim P cl G own ini TG cc pc len (.aconst_null)) (hn : AT (pc + len) is) (k : ∀ pc', AT pc' q.1 → m_go p l e R s m args below meth c Q P cl D cA A xa nL c0 s0 pc' q.2.1 q.2.2.1 q.2.2.2) : m_go p l e R s m args below meth c Q P cl D cA A xa nL c0 s0 pc ls st h := by
  obtain ⟨hx, hb, hml, hown, hts, hK, hA, ⟨hAI, hAB, hAL, hAD⟩, hini, hfr, hlo⟩ := E
  obtain ⟨rfl, hd⟩ := hm
  cases hq
  exact g_null hx hb hd (k _ hn)
theorem s_idiv (E : m_env p s m args meth c R P cl D cA A tys G own ini nL cc) (hq : m_st P y (.idiv) is ls st h = some (.inl q)) (hm : m_sim P cl G own ini TG cc pc len (.idiv)) (hn : AT (pc + len) is) (k : ∀ pc', AT pc' q.1 → m_go p l e R s m args below meth c Q P cl D cA A xa nL c0 s0 pc' q.2.1 q.2.2.1 q.2.2.2) : m_go p l e R s m args below meth c Q P cl D cA A xa nL c0 s0 pc ls st h := by
  obtain ⟨hx, hb, hml, hown, hts, hK, hA, ⟨hAI, hAB, hAL, hAD⟩, hini, hfr, hlo⟩ := E
  obtain ⟨rfl, hd⟩ := hm
  simp only [m_st, m_nx] at hq
  split at hq
  · split at hq
    · first | (cases hq; done) | (next z => cases hq; exact g_idiv hx hb z hd (k _ hn))
    · first | (cases hq; done) | (next z => cases hq; exact g_idiv hx hb z hd (k _ hn))
  · cases hq
theorem s_irem (E : m_env p s m args meth c R P cl D cA A tys G own ini nL cc) (hq : m_st P y (.irem) is ls st h = some (.inl q)) (hm : m_sim P cl G own ini TG cc pc len (.irem)) (hn : AT (pc + len) is) (k : ∀ pc', AT pc' q.1 → m_go p l e R s m args below meth c Q P cl D cA A xa nL c0 s0 pc' q.2.1 q.2.2.1 q.2.2.2) : m_go p l e R s m args below meth c Q P cl D cA A xa nL c0 s0 pc ls st h := by
  obtain ⟨hx, hb, hml, hown, hts, hK, hA, ⟨hAI, hAB, hAL, hAD⟩, hini, hfr, hlo⟩ := E
  obtain ⟨rfl, hd⟩ := hm
  simp only [m_st, m_nx] at hq
  split at hq
  · split at hq
    · first | (cases hq; done) | (next z => cases hq; exact g_irem hx hb z hd (k _ hn))
    · first | (cases hq; done) | (next z => cases hq; exact g_irem hx hb z hd (k _ hn))
  · cases hq
theorem s_ddiv (E : m_env p s m args meth c R P cl D cA A tys G own ini nL cc) (hq : m_st P y (.ddiv) is ls st h = some (.inl q)) (hm : m_sim P cl G own ini TG cc pc len (.ddiv)) (hn : AT (pc + len) is) (k : ∀ pc', AT pc' q.1 → m_go p l e R s m args below meth c Q P cl D cA A xa nL c0 s0 pc' q.2.1 q.2.2.1 q.2.2.2) : m_go p l e R s m args below meth c Q P cl D cA A xa nL c0 s0 pc ls st h := by
  obtain ⟨hx, hb, hml, hown, hts, hK, hA, ⟨hAI, hAB, hAL, hAD⟩, hini, hfr, hlo⟩ := E
  obtain ⟨rfl, hd⟩ := hm
  simp only [m_st, m_nx] at hq
  split at hq
  · split at hq
    · first | (cases hq; done) | (next z => cases hq; exact g_ddiv hx hb z hd (k _ hn))
    · first | (cases hq; done) | (next z => cases hq; exact g_ddiv hx hb z hd (k _ hn))
  · cases hq
theorem s_fdiv (E : m_env p s m args meth c R P cl D cA A tys G own ini nL cc) (hq : m_st P y (.fdiv) is ls st h = some (.inl q)) (hm : m_sim P cl G own ini TG cc pc len (.fdiv)) (hn : AT (pc + len) is) (k : ∀ pc', AT pc' q.1 → m_go p l e R s m args below meth c Q P cl D cA A xa nL c0 s0 pc' q.2.1 q.2.2.1 q.2.2.2) : m_go p l e R s m args below meth c Q P cl D cA A xa nL c0 s0 pc ls st h := by
  obtain ⟨hx, hb, hml, hown, hts, hK, hA, ⟨hAI, hAB, hAL, hAD⟩, hini, hfr, hlo⟩ := E
  obtain ⟨rfl, hd⟩ := hm
  simp only [m_st, m_nx] at hq
  split at hq
  · split at hq
    · first | (cases hq; done) | (next z => cases hq; exact g_fdiv hx hb z hd (k _ hn))
    · first | (cases hq; done) | (next z => cases hq; exact g_fdiv hx hb z hd (k _ hn))
  · cases hq
theorem s_f2d (E : m_env p s m args meth c R P cl D cA A tys G own ini nL cc) (hq : m_st P y (.f2d) is ls st h = some (.inl q)) (hm : m_sim P cl G own ini TG cc pc len (.f2d)) (hn : AT (pc + len) is) (k : ∀ pc', AT pc' q.1 → m_go p l e R s m args below meth c Q P cl D cA A xa nL c0 s0 pc' q.2.1 q.2.2.1 q.2.2.2) : m_go p l e R s m args below meth c Q P cl D cA A xa nL c0 s0 pc ls st h := by
  obtain ⟨hx, hb, hml, hown, hts, hK, hA, ⟨hAI, hAB, hAL, hAD⟩, hini, hfr, hlo⟩ := E
  obtain ⟨rfl, hd⟩ := hm
  simp only [m_st, m_nx] at hq
  split at hq
  · split at hq
    · first | (cases hq; done) | (next z => cases hq; exact g_f2d hx hb z hd (k _ hn))
    · first | (cases hq; done) | (next z => cases hq; exact g_f2d hx hb z hd (k _ hn))
  · cases hq
theorem s_d2f (E : m_env p s m args meth c R P cl D cA A tys G own ini nL cc) (hq : m_st P y (.d2f) is ls st h = some (.inl q)) (hm : m_sim P cl G own ini TG cc pc len (.d2f)) (hn : AT (pc + len) is) (k : ∀ pc', AT pc' q.1 → m_go p l e R s m args below meth c Q P cl D cA A xa nL c0 s0 pc' q.2.1 q.2.2.1 q.2.2.2) : m_go p l e R s m args below meth c Q P cl D cA A xa nL c0 s0 pc ls st h := by
  obtain ⟨hx, hb, hml, hown, hts, hK, hA, ⟨hAI, hAB, hAL, hAD⟩, hini, hfr, hlo⟩ := E
  obtain ⟨rfl, hd⟩ := hm
  simp only [m_st, m_nx] at hq
  split at hq
  · split at hq
    · first | (cases hq; done) | (next z => cases hq; exact g_d2f hx hb z hd (k _ hn))
    · first | (cases hq; done) | (next z => cases hq; exact g_d2f hx hb z hd (k _ hn))
  · cases hq
theorem s_dup (E : m_env p s m args meth c R P cl D cA A tys G own ini nL cc) (hq : m_st P y (.dup) is ls st h = some (.inl q)) (hm : m_sim P cl G own ini TG cc pc len (.dup)) (hn : AT (pc + len) is) (k : ∀ pc', AT pc' q.1 → m_go p l e R s m args below meth c Q P cl D cA A xa nL c0 s0 pc' q.2.1 q.2.2.1 q.2.2.2) : m_go p l e R s m args below meth c Q P cl D cA A xa nL c0 s0 pc ls st h := by
  obtain ⟨hx, hb, hml, hown, hts, hK, hA, ⟨hAI, hAB, hAL, hAD⟩, hini, hfr, hlo⟩ := E
  obtain ⟨rfl, hd⟩ := hm
  simp only [m_st, m_nx] at hq
  split at hq
  · split at hq
    · first | (cases hq; done) | (next z => cases hq; exact g_dup hx hb z hd (k _ hn))
    · first | (cases hq; done) | (next z => cases hq; exact g_dup hx hb z hd (k _ hn))
  · cases hq
theorem s_pop (E : m_env p s m args meth c R P cl D cA A tys G own ini nL cc) (hq : m_st P y (.pop) is ls st h = some (.inl q)) (hm : m_sim P cl G own ini TG cc pc len (.pop)) (hn : AT (pc + len) is) (k : ∀ pc', AT pc' q.1 → m_go p l e R s m args below meth c Q P cl D cA A xa nL c0 s0 pc' q.2.1 q.2.2.1 q.2.2.2) : m_go p l e R s m args below meth c Q P cl D cA A xa nL c0 s0 pc ls st h := by
  obtain ⟨hx, hb, hml, hown, hts, hK, hA, ⟨hAI, hAB, hAL, hAD⟩, hini, hfr, hlo⟩ := E
  obtain ⟨rfl, hd⟩ := hm
  simp only [m_st, m_nx] at hq
  split at hq
  · split at hq
    · first | (cases hq; done) | (next z => cases hq; exact g_pop hx hb z hd (k _ hn))
    · first | (cases hq; done) | (next z => cases hq; exact g_pop hx hb z hd (k _ hn))
  · cases hq
theorem s_dup2 (E : m_env p s m args meth c R P cl D cA A tys G own ini nL cc) (hq : m_st P y (.dup2) is ls st h = some (.inl q)) (hm : m_sim P cl G own ini TG cc pc len (.dup2)) (hn : AT (pc + len) is) (k : ∀ pc', AT pc' q.1 → m_go p l e R s m args below meth c Q P cl D cA A xa nL c0 s0 pc' q.2.1 q.2.2.1 q.2.2.2) : m_go p l e R s m args below meth c Q P cl D cA A xa nL c0 s0 pc ls st h := by
  obtain ⟨hx, hb, hml, hown, hts, hK, hA, ⟨hAI, hAB, hAL, hAD⟩, hini, hfr, hlo⟩ := E
  obtain ⟨rfl, hd⟩ := hm
  simp only [m_st, m_nx] at hq
  split at hq
  · split at hq
    · next z => cases hq; exact g_dup2 hx hb z.1 z.2 hd (k _ hn)
    · cases hq
  · cases hq
theorem s_dcmp {op : CmpOp} (E : m_env p s m args meth c R P cl D cA A tys G own ini nL cc) (hq : m_st P y (.dcmp op) is ls st h = some (.inl q)) (hm : m_sim P cl G own ini TG cc pc len (.dcmp op)) (hn : AT (pc + len) is) (k : ∀ pc', AT pc' q.1 → m_go p l e R s m args below meth c Q P cl D cA A xa nL c0 s0 pc' q.2.1 q.2.2.1 q.2.2.2) : m_go p l e R s m args below meth c Q P cl D cA A xa nL c0 s0 pc ls st h := by
  obtain ⟨hx, hb, -⟩ := E
  obtain ⟨rfl, hd⟩ := hm
  simp only [m_st, m_nx] at hq
  split at hq
  · cases hq
    exact g_dcmp hx hb hd (k _ hn)
  · cases hq
theorem s_fcmp {op : CmpOp} (E : m_env p s m args meth c R P cl D cA A tys G own ini nL cc) (hq : m_st P y (.fcmp op) is ls st h = some (.inl q)) (hm : m_sim P cl G own ini TG cc pc len (.fcmp op)) (hn : AT (pc + len) is) (k : ∀ pc', AT pc' q.1 → m_go p l e R s m args below meth c Q P cl D cA A xa nL c0 s0 pc' q.2.1 q.2.2.1 q.2.2.2) : m_go p l e R s m args below meth c Q P cl D cA A xa nL c0 s0 pc ls st h := by
  obtain ⟨hx, hb, -⟩ := E
  obtain ⟨rfl, hd⟩ := hm
  simp only [m_st, m_nx] at hq
  split at hq
  · cases hq
    exact g_fcmp hx hb hd (k _ hn)
  · cases hq
theorem s_fconst {z : Fin 3} (E : m_env p s m args meth c R P cl D cA A tys G own ini nL cc) (hq : m_st P y (.fconst z) is ls st h = some (.inl q)) (hm : m_sim P cl G own ini TG cc pc len (.fconst z)) (hT : ∀ t, TG t → AT t (m_tg P y t)) (hn : AT (pc + len) is) (k : ∀ pc', AT pc' q.1 → m_go p l e R s m args below meth c Q P cl D cA A xa nL c0 s0 pc' q.2.1 q.2.2.1 q.2.2.2) : m_go p l e R s m args below meth c Q P cl D cA A xa nL c0 s0 pc ls st h := by
  obtain ⟨hx, hb, hml, hown, hts, hK, hA, ⟨hAI, hAB, hAL, hAD⟩, hini, hfr, hlo⟩ := E
  obtain ⟨rfl, rfl, hd⟩ := hm
  cases hq
  exact g_fconst hx hb hd (k _ hn)
theorem s_dconst {z : Fin 2} (E : m_env p s m args meth c R P cl D cA A tys G own ini nL cc) (hq : m_st P y (.dconst z) is ls st h = some (.inl q)) (hm : m_sim P cl G own ini TG cc pc len (.dconst z)) (hT : ∀ t, TG t → AT t (m_tg P y t)) (hn : AT (pc + len) is) (k : ∀ pc', AT pc' q.1 → m_go p l e R s m args below meth c Q P cl D cA A xa nL c0 s0 pc' q.2.1 q.2.2.1 q.2.2.2) : m_go p l e R s m args below meth c Q P cl D cA A xa nL c0 s0 pc ls st h := by
  obtain ⟨hx, hb, hml, hown, hts, hK, hA, ⟨hAI, hAB, hAL, hAD⟩, hini, hfr, hlo⟩ := E
  obtain ⟨rfl, ⟨rfl, hd⟩ | ⟨rfl, hd⟩⟩ := hm
  · cases hq
    exact g_dconst0 hx hb hd (k _ hn)
  · cases hq
    exact g_dconst1 hx hb hd (k _ hn)
theorem s_iconst {v : Int} (E : m_env p s m args meth c R P cl D cA A tys G own ini nL cc) (hq : m_st P y (.iconst v) is ls st h = some (.inl q)) (hm : m_sim P cl G own ini TG cc pc len (.iconst v)) (hT : ∀ t, TG t → AT t (m_tg P y t)) (hn : AT (pc + len) is) (k : ∀ pc', AT pc' q.1 → m_go p l e R s m args below meth c Q P cl D cA A xa nL c0 s0 pc' q.2.1 q.2.2.1 q.2.2.2) : m_go p l e R s m args below meth c Q P cl D cA A xa nL c0 s0 pc ls st h := by
  obtain ⟨hx, hb, hml, hown, hts, hK, hA, ⟨hAI, hAB, hAL, hAD⟩, hini, hfr, hlo⟩ := E
  cases hq
  rcases hm with ⟨rfl, n, hv, hd⟩ | ⟨rfl, n, hv, hd⟩ | ⟨rfl, n, hv, hd⟩ | ⟨rfl, n, hv, hd⟩ | ⟨rfl, n, hv, hd⟩
  · exact g_iconst hx hb hv hd (k _ hn)
  · exact g_bipush hx hb hv hd (k _ hn)
  · exact g_sipush hx hb hv hd (k _ hn)
  · exact g_ldc hx hb hown (hts _ hv) hd (k _ hn)
  · exact g_ldcw hx hb hown (hts _ hv) hd (k _ hn)
theorem s_ldc2_w {v : Nat} (E : m_env p s m args meth c R P cl D cA A tys G own ini nL cc) (hq : m_st P y (.ldc2_w v) is ls st h = some (.inl q)) (hm : m_sim P cl G own ini TG cc pc len (.ldc2_w v)) (hT : ∀ t, TG t → AT t (m_tg P y t)) (hn : AT (pc + len) is) (k : ∀ pc', AT pc' q.1 → m_go p l e R s m args below meth c Q P cl D cA A xa nL c0 s0 pc' q.2.1 q.2.2.1 q.2.2.2) : m_go p l e R s m args below meth c Q P cl D cA A xa nL c0 s0 pc ls st h := by
  obtain ⟨hx, hb, hml, hown, hts, hK, hA, ⟨hAI, hAB, hAL, hAD⟩, hini, hfr, hlo⟩ := E
  cases hq
  rcases hm with ⟨rfl, n, hv, hd⟩ | ⟨rfl, n, hv, hd⟩
  · exact g_lconst hx hb hv hd (k _ hn)
  · exact g_ldc2 hx hb hown (hts _ hv) hd (k _ hn)
theorem s_iload {v : Nat} (E : m_env p s m args meth c R P cl D cA A tys G own ini nL cc) (hq : m_st P y (.iload v) is ls st h = some (.inl q)) (hm : m_sim P cl G own ini TG cc pc len (.iload v)) (hT : ∀ t, TG t → AT t (m_tg P y t)) (hn : AT (pc + len) is) (k : ∀ pc', AT pc' q.1 → m_go p l e R s m args below meth c Q P cl D cA A xa nL c0 s0 pc' q.2.1 q.2.2.1 q.2.2.2) : m_go p l e R s m args below meth c Q P cl D cA A xa nL c0 s0 pc ls st h := by
  obtain ⟨hx, hb, hml, hown, hts, hK, hA, ⟨hAI, hAB, hAL, hAD⟩, hini, hfr, hlo⟩ := E
  simp only [m_st, m_nx] at hq
  split at hq
  · next x hv =>
    cases hq
    rcases hm with ⟨rfl, hd⟩ | ⟨rfl, j, rfl, hd⟩
    · exact g_iload hx hb hv hd (k _ hn)
    · exact g_iload_n hx hb hv hd (k _ hn)
  · cases hq
theorem s_lload {v : Nat} (E : m_env p s m args meth c R P cl D cA A tys G own ini nL cc) (hq : m_st P y (.lload v) is ls st h = some (.inl q)) (hm : m_sim P cl G own ini TG cc pc len (.lload v)) (hT : ∀ t, TG t → AT t (m_tg P y t)) (hn : AT (pc + len) is) (k : ∀ pc', AT pc' q.1 → m_go p l e R s m args below meth c Q P cl D cA A xa nL c0 s0 pc' q.2.1 q.2.2.1 q.2.2.2) : m_go p l e R s m args below meth c Q P cl D cA A xa nL c0 s0 pc ls st h := by
  obtain ⟨hx, hb, hml, hown, hts, hK, hA, ⟨hAI, hAB, hAL, hAD⟩, hini, hfr, hlo⟩ := E
  simp only [m_st, m_nx] at hq
  split at hq
  · next x hv =>
    cases hq
    rcases hm with ⟨rfl, hd⟩ | ⟨rfl, j, rfl, hd⟩
    · exact g_lload hx hb hv hd (k _ hn)
    · exact g_lload_n hx hb hv hd (k _ hn)
  · cases hq
theorem s_fload {v : Nat} (E : m_env p s m args meth c R P cl D cA A tys G own ini nL cc) (hq : m_st P y (.fload v) is ls st h = some (.inl q)) (hm : m_sim P cl G own ini TG cc pc len (.fload v)) (hT : ∀ t, TG t → AT t (m_tg P y t)) (hn : AT (pc + len) is) (k : ∀ pc', AT pc' q.1 → m_go p l e R s m args below meth c Q P cl D cA A xa nL c0 s0 pc' q.2.1 q.2.2.1 q.2.2.2) : m_go p l e R s m args below meth c Q P cl D cA A xa nL c0 s0 pc ls st h := by
  obtain ⟨hx, hb, hml, hown, hts, hK, hA, ⟨hAI, hAB, hAL, hAD⟩, hini, hfr, hlo⟩ := E
  obtain ⟨rfl, hd⟩ := hm
  simp only [m_st, m_nx] at hq
  split at hq
  · next x hv =>
    cases hq
    exact g_fload hx hb hv hd (k _ hn)
  · cases hq
theorem s_dload {v : Nat} (E : m_env p s m args meth c R P cl D cA A tys G own ini nL cc) (hq : m_st P y (.dload v) is ls st h = some (.inl q)) (hm : m_sim P cl G own ini TG cc pc len (.dload v)) (hT : ∀ t, TG t → AT t (m_tg P y t)) (hn : AT (pc + len) is) (k : ∀ pc', AT pc' q.1 → m_go p l e R s m args below meth c Q P cl D cA A xa nL c0 s0 pc' q.2.1 q.2.2.1 q.2.2.2) : m_go p l e R s m args below meth c Q P cl D cA A xa nL c0 s0 pc ls st h := by
  obtain ⟨hx, hb, hml, hown, hts, hK, hA, ⟨hAI, hAB, hAL, hAD⟩, hini, hfr, hlo⟩ := E
  obtain ⟨rfl, hd⟩ := hm
  simp only [m_st, m_nx] at hq
  split at hq
  · next x hv =>
    cases hq
    exact g_dload hx hb hv hd (k _ hn)
  · cases hq
theorem s_aload {v : Nat} (E : m_env p s m args meth c R P cl D cA A tys G own ini nL cc) (hq : m_st P y (.aload v) is ls st h = some (.inl q)) (hm : m_sim P cl G own ini TG cc pc len (.aload v)) (hT : ∀ t, TG t → AT t (m_tg P y t)) (hn : AT (pc + len) is) (k : ∀ pc', AT pc' q.1 → m_go p l e R s m args below meth c Q P cl D cA A xa nL c0 s0 pc' q.2.1 q.2.2.1 q.2.2.2) : m_go p l e R s m args below meth c Q P cl D cA A xa nL c0 s0 pc ls st h := by
  obtain ⟨hx, hb, hml, hown, hts, hK, hA, ⟨hAI, hAB, hAL, hAD⟩, hini, hfr, hlo⟩ := E
  simp only [m_st, m_nx] at hq
  split at hq
  · next x hv =>
    cases hq
    rcases hm with ⟨rfl, hd⟩ | ⟨rfl, j, rfl, hd⟩
    · exact g_aload hx hb hv hd (k _ hn)
    · exact g_aload_n hx hb hv hd (k _ hn)
  · next hv =>
    cases hq
    rcases hm with ⟨rfl, hd⟩ | ⟨rfl, j, rfl, hd⟩
    · exact g_aloadN hx hb hv hd (k _ hn)
    · exact g_aload_nN hx hb hv hd (k _ hn)
  · cases hq
theorem s_istore {v : Nat} (E : m_env p s m args meth c R P cl D cA A tys G own ini nL cc) (hq : m_st P y (.istore v) is ls st h = some (.inl q)) (hm : m_sim P cl G own ini TG cc pc len (.istore v)) (hT : ∀ t, TG t → AT t (m_tg P y t)) (hn : AT (pc + len) is) (k : ∀ pc', AT pc' q.1 → m_go p l e R s m args below meth c Q P cl D cA A xa nL c0 s0 pc' q.2.1 q.2.2.1 q.2.2.2) : m_go p l e R s m args below meth c Q P cl D cA A xa nL c0 s0 pc ls st h := by
  obtain ⟨hx, hb, hml, hown, hts, hK, hA, ⟨hAI, hAB, hAL, hAD⟩, hini, hfr, hlo⟩ := E
  simp only [m_st, m_nx] at hq
  split at hq
  · split at hq
    · next z =>
      cases hq
      rcases hm with ⟨rfl, hd⟩ | ⟨rfl, j, rfl, hd⟩
      · exact g_istore hx hb z.1 z.2 hd (k _ hn)
      · exact g_istore_n hx hb z.1 z.2 hd (k _ hn)
    · cases hq
  · cases hq
theorem s_fstore {v : Nat} (E : m_env p s m args meth c R P cl D cA A tys G own ini nL cc) (hq : m_st P y (.fstore v) is ls st h = some (.inl q)) (hm : m_sim P cl G own ini TG cc pc len (.fstore v)) (hT : ∀ t, TG t → AT t (m_tg P y t)) (hn : AT (pc + len) is) (k : ∀ pc', AT pc' q.1 → m_go p l e R s m args below meth c Q P cl D cA A xa nL c0 s0 pc' q.2.1 q.2.2.1 q.2.2.2) : m_go p l e R s m args below meth c Q P cl D cA A xa nL c0 s0 pc ls st h := by
  obtain ⟨hx, hb, hml, hown, hts, hK, hA, ⟨hAI, hAB, hAL, hAD⟩, hini, hfr, hlo⟩ := E
  obtain ⟨rfl, hd⟩ := hm
  simp only [m_st, m_nx] at hq
  split at hq
  · split at hq
    · next z =>
      cases hq
      exact g_fstore hx hb z.1 z.2 hd (k _ hn)
    · cases hq
  · cases hq
theorem s_dstore {v : Nat} (E : m_env p s m args meth c R P cl D cA A tys G own ini nL cc) (hq : m_st P y (.dstore v) is ls st h = some (.inl q)) (hm : m_sim P cl G own ini TG cc pc len (.dstore v)) (hT : ∀ t, TG t → AT t (m_tg P y t)) (hn : AT (pc + len) is) (k : ∀ pc', AT pc' q.1 → m_go p l e R s m args below meth c Q P cl D cA A xa nL c0 s0 pc' q.2.1 q.2.2.1 q.2.2.2) : m_go p l e R s m args below meth c Q P cl D cA A xa nL c0 s0 pc ls st h := by
  obtain ⟨hx, hb, hml, hown, hts, hK, hA, ⟨hAI, hAB, hAL, hAD⟩, hini, hfr, hlo⟩ := E
  obtain ⟨rfl, hd⟩ := hm
  simp only [m_st, m_nx] at hq
  split at hq
  · split at hq
    · next z =>
      cases hq
      exact g_dstore hx hb z.1 z.2 hd (k _ hn)
    · cases hq
  · cases hq
theorem s_astore {v : Nat} (E : m_env p s m args meth c R P cl D cA A tys G own ini nL cc) (hq : m_st P y (.astore v) is ls st h = some (.inl q)) (hm : m_sim P cl G own ini TG cc pc len (.astore v)) (hT : ∀ t, TG t → AT t (m_tg P y t)) (hn : AT (pc + len) is) (k : ∀ pc', AT pc' q.1 → m_go p l e R s m args below meth c Q P cl D cA A xa nL c0 s0 pc' q.2.1 q.2.2.1 q.2.2.2) : m_go p l e R s m args below meth c Q P cl D cA A xa nL c0 s0 pc ls st h := by
  obtain ⟨hx, hb, hml, hown, hts, hK, hA, ⟨hAI, hAB, hAL, hAD⟩, hini, hfr, hlo⟩ := E
  simp only [m_st, m_nx] at hq
  split at hq
  · split at hq
    · next z =>
      cases hq
      rcases hm with ⟨rfl, hd⟩ | ⟨rfl, j, rfl, hd⟩
      · exact g_astore hx hb z.1 z.2 hd (k _ hn)
      · exact g_astore_n hx hb z.1 z.2 hd (k _ hn)
    · cases hq
  · split at hq
    · next z =>
      cases hq
      rcases hm with ⟨rfl, hd⟩ | ⟨rfl, j, rfl, hd⟩
      · exact g_astoreN hx hb z.1 z.2 hd (k _ hn)
      · exact g_astore_nN hx hb z.1 z.2 hd (k _ hn)
    · cases hq
  · cases hq
theorem s_iinc {v : Nat} {w : Int} (E : m_env p s m args meth c R P cl D cA A tys G own ini nL cc) (hq : m_st P y (.iinc v w) is ls st h = some (.inl q)) (hm : m_sim P cl G own ini TG cc pc len (.iinc v w)) (hT : ∀ t, TG t → AT t (m_tg P y t)) (hn : AT (pc + len) is) (k : ∀ pc', AT pc' q.1 → m_go p l e R s m args below meth c Q P cl D cA A xa nL c0 s0 pc' q.2.1 q.2.2.1 q.2.2.2) : m_go p l e R s m args below meth c Q P cl D cA A xa nL c0 s0 pc ls st h := by
  obtain ⟨hx, hb, hml, hown, hts, hK, hA, ⟨hAI, hAB, hAL, hAD⟩, hini, hfr, hlo⟩ := E
  obtain ⟨rfl, hd⟩ := hm
  simp only [m_st, m_nx] at hq
  split at hq
  · next x hv =>
    split at hq
    · next z =>
      cases hq
      exact g_iinc hx hb z hv hd (k _ hn)
    · cases hq
  · cases hq
theorem s_goto {t : Int} (E : m_env p s m args meth c R P cl D cA A tys G own ini nL cc) (hq : m_st P y (.goto t) is ls st h = some (.inl q)) (hm : m_sim P cl G own ini TG cc pc len (.goto t)) (hT : ∀ t, TG t → AT t (m_tg P y t)) (hn : AT (pc + len) is) (k : ∀ pc', AT pc' q.1 → m_go p l e R s m args below meth c Q P cl D cA A xa nL c0 s0 pc' q.2.1 q.2.2.1 q.2.2.2) : m_go p l e R s m args below meth c Q P cl D cA A xa nL c0 s0 pc ls st h := by
  obtain ⟨hx, hb, hml, hown, hts, hK, hA, ⟨hAI, hAB, hAL, hAD⟩, hini, hfr, hlo⟩ := E
  obtain ⟨rfl, ⟨off, ht, hd⟩, htg⟩ := hm
  cases hq
  exact g_goto hx hb hd ht (k _ (hT _ htg))
theorem s_ifCond {z : Jvm.ClassFile.Cond} {t : Int} (E : m_env p s m args meth c R P cl D cA A tys G own ini nL cc) (hq : m_st P y (.ifCond z t) is ls st h = some (.inl q)) (hm : m_sim P cl G own ini TG cc pc len (.ifCond z t)) (hT : ∀ t, TG t → AT t (m_tg P y t)) (hn : AT (pc + len) is) (k : ∀ pc', AT pc' q.1 → m_go p l e R s m args below meth c Q P cl D cA A xa nL c0 s0 pc' q.2.1 q.2.2.1 q.2.2.2) : m_go p l e R s m args below meth c Q P cl D cA A xa nL c0 s0 pc ls st h := by
  obtain ⟨hx, hb, hml, hown, hts, hK, hA, ⟨hAI, hAB, hAL, hAD⟩, hini, hfr, hlo⟩ := E
  obtain ⟨rfl, ⟨off, ht, hd⟩, htg⟩ := hm
  simp only [m_st, m_nx] at hq
  split at hq
  · cases z
    · refine g_if_eq hx hb hd ht (fun u => ?_) (fun u => ?_)
      · rw [if_pos (by simpa [m_icond] using u)] at hq
        cases hq
        exact k _ (hT _ htg)
      · rw [if_neg (by simpa [m_icond] using u)] at hq
        cases hq
        exact k _ hn
    · refine g_if_ne hx hb hd ht (fun u => ?_) (fun u => ?_)
      · rw [if_pos (by simpa [m_icond] using u)] at hq
        cases hq
        exact k _ (hT _ htg)
      · rw [if_neg (by simpa [m_icond] using u)] at hq
        cases hq
        exact k _ hn
    · refine g_if_lt hx hb hd ht (fun u => ?_) (fun u => ?_)
      · rw [if_pos (by simpa [m_icond] using u)] at hq
        cases hq
        exact k _ (hT _ htg)
      · rw [if_neg (by simpa [m_icond] using u)] at hq
        cases hq
        exact k _ hn
    · refine g_if_ge hx hb hd ht (fun u => ?_) (fun u => ?_)
      · rw [if_pos (by simpa [m_icond] using u)] at hq
        cases hq
        exact k _ (hT _ htg)
      · rw [if_neg (by simpa [m_icond] using u)] at hq
        cases hq
        exact k _ hn
    · refine g_if_gt hx hb hd ht (fun u => ?_) (fun u => ?_)
      · rw [if_pos (by simpa [m_icond] using u)] at hq
        cases hq
        exact k _ (hT _ htg)
      · rw [if_neg (by simpa [m_icond] using u)] at hq
        cases hq
        exact k _ hn
    · refine g_if_le hx hb hd ht (fun u => ?_) (fun u => ?_)
      · rw [if_pos (by simpa [m_icond] using u)] at hq
        cases hq
        exact k _ (hT _ htg)
      · rw [if_neg (by simpa [m_icond] using u)] at hq
        cases hq
        exact k _ hn
  · cases hq
theorem s_if_icmp {z : Jvm.ClassFile.Cond} {t : Int} (E : m_env p s m args meth c R P cl D cA A tys G own ini nL cc) (hq : m_st P y (.if_icmp z t) is ls st h = some (.inl q)) (hm : m_sim P cl G own ini TG cc pc len (.if_icmp z t)) (hT : ∀ t, TG t → AT t (m_tg P y t)) (hn : AT (pc + len) is) (k : ∀ pc', AT pc' q.1 → m_go p l e R s m args below meth c Q P cl D cA A xa nL c0 s0 pc' q.2.1 q.2.2.1 q.2.2.2) : m_go p l e R s m args below meth c Q P cl D cA A xa nL c0 s0 pc ls st h := by
  obtain ⟨hx, hb, hml, hown, hts, hK, hA, ⟨hAI, hAB, hAL, hAD⟩, hini, hfr, hlo⟩ := E
  obtain ⟨rfl, ⟨off, ht, hd⟩, htg⟩ := hm
  simp only [m_st, m_nx] at hq
  split at hq
  · cases z
    · refine g_icmp_eq hx hb hd ht (fun u => ?_) (fun u => ?_)
      · rw [if_pos (by simpa [m_icond] using u)] at hq
        cases hq
        exact k _ (hT _ htg)
      · rw [if_neg (by simpa [m_icond] using u)] at hq
        cases hq
        exact k _ hn
    · refine g_icmp_ne hx hb hd ht (fun u => ?_) (fun u => ?_)
      · rw [if_pos (by simpa [m_icond] using u)] at hq
        cases hq
        exact k _ (hT _ htg)
      · rw [if_neg (by simpa [m_icond] using u)] at hq
        cases hq
        exact k _ hn
    · refine g_icmp_lt hx hb hd ht (fun u => ?_) (fun u => ?_)
      · rw [if_pos (by simpa [m_icond] using u)] at hq
        cases hq
        exact k _ (hT _ htg)
      · rw [if_neg (by simpa [m_icond] using u)] at hq
        cases hq
        exact k _ hn
    · refine g_icmp_ge hx hb hd ht (fun u => ?_) (fun u => ?_)
      · rw [if_pos (by simpa [m_icond] using u)] at hq
        cases hq
        exact k _ (hT _ htg)
      · rw [if_neg (by simpa [m_icond] using u)] at hq
        cases hq
        exact k _ hn
    · refine g_icmp_gt hx hb hd ht (fun u => ?_) (fun u => ?_)
      · rw [if_pos (by simpa [m_icond] using u)] at hq
        cases hq
        exact k _ (hT _ htg)
      · rw [if_neg (by simpa [m_icond] using u)] at hq
        cases hq
        exact k _ hn
    · refine g_icmp_le hx hb hd ht (fun u => ?_) (fun u => ?_)
      · rw [if_pos (by simpa [m_icond] using u)] at hq
        cases hq
        exact k _ (hT _ htg)
      · rw [if_neg (by simpa [m_icond] using u)] at hq
        cases hq
        exact k _ hn
  · cases hq
theorem s_ifnull {t : Int} (E : m_env p s m args meth c R P cl D cA A tys G own ini nL cc) (hq : m_st P y (.ifnull t) is ls st h = some (.inl q)) (hm : m_sim P cl G own ini TG cc pc len (.ifnull t)) (hT : ∀ t, TG t → AT t (m_tg P y t)) (hn : AT (pc + len) is) (k : ∀ pc', AT pc' q.1 → m_go p l e R s m args below meth c Q P cl D cA A xa nL c0 s0 pc' q.2.1 q.2.2.1 q.2.2.2) : m_go p l e R s m args below meth c Q P cl D cA A xa nL c0 s0 pc ls st h := by
  obtain ⟨hx, hb, hml, hown, hts, hK, hA, ⟨hAI, hAB, hAL, hAD⟩, hini, hfr, hlo⟩ := E
  obtain ⟨rfl, ⟨off, ht, hd⟩, htg⟩ := hm
  simp only [m_st, m_nx] at hq
  split at hq
  · cases hq
    exact g_ifnullN hx hb hd ht (k _ (hT _ htg))
  · cases hq
    exact g_ifnull hx hb hd (k _ hn)
  · cases hq
theorem s_ifnonnull {t : Int} (E : m_env p s m args meth c R P cl D cA A tys G own ini nL cc) (hq : m_st P y (.ifnonnull t) is ls st h = some (.inl q)) (hm : m_sim P cl G own ini TG cc pc len (.ifnonnull t)) (hT : ∀ t, TG t → AT t (m_tg P y t)) (hn : AT (pc + len) is) (k : ∀ pc', AT pc' q.1 → m_go p l e R s m args below meth c Q P cl D cA A xa nL c0 s0 pc' q.2.1 q.2.2.1 q.2.2.2) : m_go p l e R s m args below meth c Q P cl D cA A xa nL c0 s0 pc ls st h := by
  obtain ⟨hx, hb, hml, hown, hts, hK, hA, ⟨hAI, hAB, hAL, hAD⟩, hini, hfr, hlo⟩ := E
  obtain ⟨rfl, ⟨off, ht, hd⟩, htg⟩ := hm
  simp only [m_st, m_nx] at hq
  split at hq
  · cases hq
    exact g_ifnonnull hx hb hd ht (k _ (hT _ htg))
  · cases hq
    exact g_ifnonnullN hx hb hd (k _ hn)
  · cases hq
theorem s_tableswitch {d lo hi : Int} {ts : Array Int} (E : m_env p s m args meth c R P cl D cA A tys G own ini nL cc) (hq : m_st P y (.tableswitch d lo hi ts) is ls st h = some (.inl q)) (hm : m_sim P cl G own ini TG cc pc len (.tableswitch d lo hi ts)) (hT : ∀ t, TG t → AT t (m_tg P y t)) (hn : AT (pc + len) is) (k : ∀ pc', AT pc' q.1 → m_go p l e R s m args below meth c Q P cl D cA A xa nL c0 s0 pc' q.2.1 q.2.2.1 q.2.2.2) : m_go p l e R s m args below meth c Q P cl D cA A xa nL c0 s0 pc ls st h := by
  obtain ⟨hx, hb, hml, hown, hts, hK, hA, ⟨hAI, hAB, hAL, hAD⟩, hini, hfr, hlo⟩ := E
  obtain ⟨dflt, offs, h1, h2, h3, hd⟩ := hm
  simp only [m_st, m_nx] at hq
  split at hq
  · split at hq
    · next z =>
      cases hq
      exact g_tableOut hx hb hd z h1 (k _ (hT _ h2))
    · next z =>
      split at hq
      · next t ht =>
        cases hq
        obtain ⟨g1, off, g2, g3⟩ := h3 _ _ ht
        exact g_tableIn hx hb hd (fun w => z (Or.inl w)) (fun w => z (Or.inr w)) g2 g3 (k _ (hT _ g1))
      · cases hq
  · cases hq
theorem s_getfield {x : Nat} (E : m_env p s m args meth c R P cl D cA A tys G own ini nL cc) (hq : m_st P y (.getfield x) is ls st h = some (.inl q)) (hm : m_sim P cl G own ini TG cc pc len (.getfield x)) (hT : ∀ t, TG t → AT t (m_tg P y t)) (hn : AT (pc + len) is) (k : ∀ pc', AT pc' q.1 → m_go p l e R s m args below meth c Q P cl D cA A xa nL c0 s0 pc' q.2.1 q.2.2.1 q.2.2.2) : m_go p l e R s m args below meth c Q P cl D cA A xa nL c0 s0 pc ls st h := by
  obtain ⟨hx, hb, hml, hown, hts, hK, hA, ⟨hAI, hAB, hAL, hAD⟩, hini, hfr, hlo⟩ := E
  obtain ⟨rfl, ix, C, T, hc, hlink, hd⟩ := hm
  simp only [m_st, m_nx] at hq
  split at hq
  · next a st' =>
    split at hq
    · next z =>
      refine g_get hx hb hts hown hK hc hlink z.1 z.2.1 z.2.2.1 hd ?_
      unfold m_gv
      split at hq
      · next z2 =>
        cases hq
        rw [if_pos z2]
        exact k _ hn
      · next z2 =>
        rw [if_neg z2]
        split at hq
        · next z3 =>
          cases hq
          rw [if_pos z3]
          exact k _ hn
        · next z3 =>
          cases hq
          rw [if_neg z3]
          exact k _ hn
    · cases hq
  · cases hq
theorem s_putfield {x : Nat} (E : m_env p s m args meth c R P cl D cA A tys G own ini nL cc) (hq : m_st P y (.putfield x) is ls st h = some (.inl q)) (hm : m_sim P cl G own ini TG cc pc len (.putfield x)) (hT : ∀ t, TG t → AT t (m_tg P y t)) (hn : AT (pc + len) is) (k : ∀ pc', AT pc' q.1 → m_go p l e R s m args below meth c Q P cl D cA A xa nL c0 s0 pc' q.2.1 q.2.2.1 q.2.2.2) : m_go p l e R s m args below meth c Q P cl D cA A xa nL c0 s0 pc ls st h := by
  obtain ⟨hx, hb, hml, hown, hts, hK, hA, ⟨hAI, hAB, hAL, hAD⟩, hini, hfr, hlo⟩ := E
  obtain ⟨rfl, ix, C, T, hc, hlink, hf, hd⟩ := hm
  simp only [m_st, m_nx] at hq
  split at hq
  · next v a st' =>
    split at hq
    · next z =>
      cases hq
      have hne1 : ¬ m_fk P (x / 64) (x % 64) = 1 := by rcases z.2.2.2.2 with w | w <;> omega
      have hne2 : ¬ m_fk P (x / 64) (x % 64) = 2 := by rcases z.2.2.2.2 with w | w <;> omega
      refine g_put (v := .int v) (h' := m_setI h a (x % 64) v) hx hb hts hown hK hc hlink (hf.imp id (fun w => ⟨w.1, hini w.2.1, w.2.2⟩)) z.1 z.2.1 z.2.2.1 hd rfl rfl rfl z.2.1 (fun w => w) ?_ ?_ ?_ (fun ad b hb => m_cI_ne hb) (k _ hn)
      · intro ad ty ht
        rcases ht with ⟨t1, rfl⟩ | ⟨t1, _⟩ | ⟨t1, _⟩ | ⟨t1, rfl⟩
        · exact ⟨rfl, rfl⟩
        · exact absurd t1 hne1
        · exact absurd t1 hne2
        · rcases z.2.2.2.2 with w | ⟨_, rfl | rfl⟩
          · omega
          · exact ⟨rfl, rfl⟩
          · exact ⟨rfl, rfl⟩
      · intro ad
        unfold m_fv
        rw [if_neg hne1, if_neg hne2, m_I_setI, m_upeq, if_pos rfl]
        rfl
      · intro ad j hj
        unfold m_fv
        rw [m_I_setI, m_upeq, if_neg hj]
        rfl
    · cases hq
  · next v a st' =>
    split at hq
    · next z =>
      cases hq
      refine g_put (v := .long v) (h' := m_setL h a (x % 64) v) hx hb hts hown hK hc hlink (hf.imp id (fun w => ⟨w.1, hini w.2.1, w.2.2⟩)) z.1 z.2.1 z.2.2.1 hd rfl rfl rfl z.2.1 (fun w => w) ?_ ?_ ?_ (fun ad b hb => m_cL_ne hb) (k _ hn)
      · intro ad ty ht
        rcases ht with ⟨t1, rfl⟩ | ⟨t1, _⟩ | ⟨t1, rfl⟩ | ⟨t1, rfl⟩
        · omega
        · omega
        · exact ⟨rfl, rfl⟩
        · omega
      · intro ad
        unfold m_fv
        rw [if_neg (by omega), if_pos z.2.2.2.2, m_L_setL, m_upeq, if_pos rfl]
        rfl
      · intro ad j hj
        unfold m_fv
        rw [m_L_setL, m_upeq, if_neg hj]
        rfl
    · cases hq
  · next v a st' =>
    split at hq
    · next z =>
      cases hq
      intro H locs ad la hr hl hs
      refine g_put (v := .ref v) (h' := m_setR h a (x % 64) (some v)) hx hb hts hown hK hc hlink (hf.imp id (fun w => ⟨w.1, hini w.2.1, w.2.2⟩)) z.1 z.2.1 z.2.2.1 hd rfl rfl rfl z.2.1 (fun w => m_wf_R w (fun j hj => by cases hj; exact g_hd hs)) ?_ ?_ ?_ (fun ad b hb => m_cR_ne hb) (k _ hn) H locs ad la hr hl hs
      · intro ad ty ht
        rcases ht with ⟨t1, rfl⟩ | ⟨t1, ⟨n, rfl⟩ | ⟨n, rfl⟩⟩ | ⟨t1, rfl⟩ | ⟨t1, rfl⟩
        · omega
        · exact ⟨rfl, rfl⟩
        · exact ⟨rfl, rfl⟩
        · omega
        · omega
      · intro ad
        unfold m_fv
        rw [if_pos z.2.2.2.2, m_R_setR, m_upeq, if_pos rfl]
        rfl
      · intro ad j hj
        unfold m_fv
        rw [m_R_setR, m_upeq, if_neg hj]
        rfl
    · cases hq
  · next a st' =>
    split at hq
    · next z =>
      cases hq
      refine g_put (v := .null) (h' := m_setR h a (x % 64) none) hx hb hts hown hK hc hlink (hf.imp id (fun w => ⟨w.1, hini w.2.1, w.2.2⟩)) z.1 z.2.1 z.2.2.1 hd rfl rfl rfl z.2.1 (fun w => m_wf_R w (fun j hj => by cases hj)) ?_ ?_ ?_ (fun ad b hb => m_cR_ne hb) (k _ hn)
      · intro ad ty ht
        rcases ht with ⟨t1, rfl⟩ | ⟨t1, ⟨n, rfl⟩ | ⟨n, rfl⟩⟩ | ⟨t1, rfl⟩ | ⟨t1, rfl⟩
        · omega
        · exact ⟨rfl, rfl⟩
        · exact ⟨rfl, rfl⟩
        · omega
        · omega
      · intro ad
        unfold m_fv
        rw [if_pos z.2.2.2.2, m_R_setR, m_upeq, if_pos rfl]
        rfl
      · intro ad j hj
        unfold m_fv
        rw [m_R_setR, m_upeq, if_neg hj]
        rfl
    · cases hq
  · cases hq
theorem s_baload (E : m_env p s m args meth c R P cl D cA A tys G own ini nL cc) (hq : m_st P y (.baload) is ls st h = some (.inl q)) (hm : m_sim P cl G own ini TG cc pc len (.baload)) (hn : AT (pc + len) is) (k : ∀ pc', AT pc' q.1 → m_go p l e R s m args below meth c Q P cl D cA A xa nL c0 s0 pc' q.2.1 q.2.2.1 q.2.2.2) : m_go p l e R s m args below meth c Q P cl D cA A xa nL c0 s0 pc ls st h := by
  obtain ⟨hx, hb, hml, hown, hts, hK, hA, ⟨hAI, hAB, hAL, hAD⟩, hini, hfr, hlo⟩ := E
  obtain ⟨rfl, hd⟩ := hm
  simp only [m_st, m_nx] at hq
  split at hq
  · split at hq
    · next z =>
      cases hq
      exact g_bald hx hb hK hAB z.1 z.2.1 z.2.2 hd (k _ hn)
    · cases hq
  · cases hq
theorem s_laload (E : m_env p s m args meth c R P cl D cA A tys G own ini nL cc) (hq : m_st P y (.laload) is ls st h = some (.inl q)) (hm : m_sim P cl G own ini TG cc pc len (.laload)) (hn : AT (pc + len) is) (k : ∀ pc', AT pc' q.1 → m_go p l e R s m args below meth c Q P cl D cA A xa nL c0 s0 pc' q.2.1 q.2.2.1 q.2.2.2) : m_go p l e R s m args below meth c Q P cl D cA A xa nL c0 s0 pc ls st h := by
  obtain ⟨hx, hb, hml, hown, hts, hK, hA, ⟨hAI, hAB, hAL, hAD⟩, hini, hfr, hlo⟩ := E
  obtain ⟨rfl, hd⟩ := hm
  simp only [m_st, m_nx] at hq
  split at hq
  · split at hq
    · next z =>
      cases hq
      exact g_lald hx hb hK hAL z.1 z.2.1 z.2.2 hd (k _ hn)
    · cases hq
  · cases hq
theorem s_daload (E : m_env p s m args meth c R P cl D cA A tys G own ini nL cc) (hq : m_st P y (.daload) is ls st h = some (.inl q)) (hm : m_sim P cl G own ini TG cc pc len (.daload)) (hn : AT (pc + len) is) (k : ∀ pc', AT pc' q.1 → m_go p l e R s m args below meth c Q P cl D cA A xa nL c0 s0 pc' q.2.1 q.2.2.1 q.2.2.2) : m_go p l e R s m args below meth c Q P cl D cA A xa nL c0 s0 pc ls st h := by
  obtain ⟨hx, hb, hml, hown, hts, hK, hA, ⟨hAI, hAB, hAL, hAD⟩, hini, hfr, hlo⟩ := E
  obtain ⟨rfl, hd⟩ := hm
  simp only [m_st, m_nx] at hq
  split at hq
  · split at hq
    · next z =>
      cases hq
      exact g_dald hx hb hK hAD z.1 z.2.1 z.2.2 hd (k _ hn)
    · cases hq
  · cases hq
theorem s_iastore (E : m_env p s m args meth c R P cl D cA A tys G own ini nL cc) (hq : m_st P y (.iastore) is ls st h = some (.inl q)) (hm : m_sim P cl G own ini TG cc pc len (.iastore)) (hn : AT (pc + len) is) (k : ∀ pc', AT pc' q.1 → m_go p l e R s m args below meth c Q P cl D cA A xa nL c0 s0 pc' q.2.1 q.2.2.1 q.2.2.2) : m_go p l e R s m args below meth c Q P cl D cA A xa nL c0 s0 pc ls st h := by
  obtain ⟨hx, hb, hml, hown, hts, hK, hA, ⟨hAI, hAB, hAL, hAD⟩, hini, hfr, hlo⟩ := E
  obtain ⟨rfl, hd⟩ := hm
  simp only [m_st, m_nx] at hq
  split at hq
  · split at hq
    · next z =>
      cases hq
      exact g_iast hx hb hK hAI z.1 z.2.1 z.2.2 hd (k _ hn)
    · cases hq
  · cases hq
theorem s_bastore (E : m_env p s m args meth c R P cl D cA A tys G own ini nL cc) (hq : m_st P y (.bastore) is ls st h = some (.inl q)) (hm : m_sim P cl G own ini TG cc pc len (.bastore)) (hn : AT (pc + len) is) (k : ∀ pc', AT pc' q.1 → m_go p l e R s m args below meth c Q P cl D cA A xa nL c0 s0 pc' q.2.1 q.2.2.1 q.2.2.2) : m_go p l e R s m args below meth c Q P cl D cA A xa nL c0 s0 pc ls st h := by
  obtain ⟨hx, hb, hml, hown, hts, hK, hA, ⟨hAI, hAB, hAL, hAD⟩, hini, hfr, hlo⟩ := E
  obtain ⟨rfl, hd⟩ := hm
  simp only [m_st, m_nx] at hq
  split at hq
  · split at hq
    · next z =>
      cases hq
      exact g_bast hx hb hK hAB z.1 z.2.1 z.2.2 hd (k _ hn)
    · cases hq
  · cases hq
theorem s_lastore (E : m_env p s m args meth c R P cl D cA A tys G own ini nL cc) (hq : m_st P y (.lastore) is ls st h = some (.inl q)) (hm : m_sim P cl G own ini TG cc pc len (.lastore)) (hn : AT (pc + len) is) (k : ∀ pc', AT pc' q.1 → m_go p l e R s m args below meth c Q P cl D cA A xa nL c0 s0 pc' q.2.1 q.2.2.1 q.2.2.2) : m_go p l e R s m args below meth c Q P cl D cA A xa nL c0 s0 pc ls st h := by
  obtain ⟨hx, hb, hml, hown, hts, hK, hA, ⟨hAI, hAB, hAL, hAD⟩, hini, hfr, hlo⟩ := E
  obtain ⟨rfl, hd⟩ := hm
  simp only [m_st, m_nx] at hq
  split at hq
  · split at hq
    · next z =>
      cases hq
      exact g_last hx hb hK hAL z.1 z.2.1 z.2.2 hd (k _ hn)
    · cases hq
  · cases hq
theorem s_dastore (E : m_env p s m args meth c R P cl D cA A tys G own ini nL cc) (hq : m_st P y (.dastore) is ls st h = some (.inl q)) (hm : m_sim P cl G own ini TG cc pc len (.dastore)) (hn : AT (pc + len) is) (k : ∀ pc', AT pc' q.1 → m_go p l e R s m args below meth c Q P cl D cA A xa nL c0 s0 pc' q.2.1 q.2.2.1 q.2.2.2) : m_go p l e R s m args below meth c Q P cl D cA A xa nL c0 s0 pc ls st h := by
  obtain ⟨hx, hb, hml, hown, hts, hK, hA, ⟨hAI, hAB, hAL, hAD⟩, hini, hfr, hlo⟩ := E
  obtain ⟨rfl, hd⟩ := hm
  simp only [m_st, m_nx] at hq
  split at hq
  · split at hq
    · next z =>
      cases hq
      exact g_dast hx hb hK hAD z.1 z.2.1 z.2.2 hd (k _ hn)
    · cases hq
  · cases hq
theorem s_new_i  (E : m_env p s m args meth c R P cl D cA A tys G own ini nL cc) (h0 : c0 ≤ m_c h) (h1 : s0 ≤ m_s h) (g0 : m_c q.2.2.2 - c0 ≤ R.cells) (g1 : m_s q.2.2.2 - s0 ≤ R.slots) (hq : m_st P y (.newarray .int) is ls st h = some (.inl q)) (hm : m_sim P cl G own ini TG cc pc len (.newarray .int)) (hT : ∀ t, TG t → AT t (m_tg P y t)) (hn : AT (pc + len) is) (k : ∀ pc', AT pc' q.1 → m_go p l e R s m args below meth c Q P cl D cA A xa nL c0 s0 pc' q.2.1 q.2.2.1 q.2.2.2) : m_go p l e R s m args below meth c Q P cl D cA A xa nL c0 s0 pc ls st h := by
  obtain ⟨hx, hb, hml, hown, hts, hK, hA, ⟨hAI, hAB, hAL, hAD⟩, hini, hfr, hlo⟩ := E
  obtain ⟨rfl, harr, hd⟩ := hm
  simp only [m_st, m_nx] at hq
  split at hq
  · split at hq
    · cases hq
    · next i st' z =>
      cases hq
      have g0 : m_c h + 1 - c0 ≤ R.cells := g0
      have g1 : m_s h + i.toNatClampNeg - s0 ≤ R.slots := g1
      exact g_new_i hx hb hK hA hAI (hts _ harr) (by omega) h0 h1 (fun w => z (Or.inl w)) (by omega) (by omega) (by omega) hd (k _ hn)
  · cases hq
theorem s_new_b  (E : m_env p s m args meth c R P cl D cA A tys G own ini nL cc) (h0 : c0 ≤ m_c h) (h1 : s0 ≤ m_s h) (g0 : m_c q.2.2.2 - c0 ≤ R.cells) (g1 : m_s q.2.2.2 - s0 ≤ R.slots) (hq : m_st P y (.newarray .byte) is ls st h = some (.inl q)) (hm : m_sim P cl G own ini TG cc pc len (.newarray .byte)) (hT : ∀ t, TG t → AT t (m_tg P y t)) (hn : AT (pc + len) is) (k : ∀ pc', AT pc' q.1 → m_go p l e R s m args below meth c Q P cl D cA A xa nL c0 s0 pc' q.2.1 q.2.2.1 q.2.2.2) : m_go p l e R s m args below meth c Q P cl D cA A xa nL c0 s0 pc ls st h := by
  obtain ⟨hx, hb, hml, hown, hts, hK, hA, ⟨hAI, hAB, hAL, hAD⟩, hini, hfr, hlo⟩ := E
  obtain ⟨rfl, harr, hd⟩ := hm
  simp only [m_st, m_nx] at hq
  split at hq
  · split at hq
    · cases hq
    · next i st' z =>
      cases hq
      have g0 : m_c h + 1 - c0 ≤ R.cells := g0
      have g1 : m_s h + i.toNatClampNeg - s0 ≤ R.slots := g1
      exact g_new_b hx hb hK hA hAB (hts _ harr) (by omega) h0 h1 (fun w => z (Or.inl w)) (by omega) (by omega) (by omega) hd (k _ hn)
  · cases hq
theorem s_new_l  (E : m_env p s m args meth c R P cl D cA A tys G own ini nL cc) (h0 : c0 ≤ m_c h) (h1 : s0 ≤ m_s h) (g0 : m_c q.2.2.2 - c0 ≤ R.cells) (g1 : m_s q.2.2.2 - s0 ≤ R.slots) (hq : m_st P y (.newarray .long) is ls st h = some (.inl q)) (hm : m_sim P cl G own ini TG cc pc len (.newarray .long)) (hT : ∀ t, TG t → AT t (m_tg P y t)) (hn : AT (pc + len) is) (k : ∀ pc', AT pc' q.1 → m_go p l e R s m args below meth c Q P cl D cA A xa nL c0 s0 pc' q.2.1 q.2.2.1 q.2.2.2) : m_go p l e R s m args below meth c Q P cl D cA A xa nL c0 s0 pc ls st h := by
  obtain ⟨hx, hb, hml, hown, hts, hK, hA, ⟨hAI, hAB, hAL, hAD⟩, hini, hfr, hlo⟩ := E
  obtain ⟨rfl, harr, hd⟩ := hm
  simp only [m_st, m_nx] at hq
  split at hq
  · split at hq
    · cases hq
    · next i st' z =>
      cases hq
      have g0 : m_c h + 1 - c0 ≤ R.cells := g0
      have g1 : m_s h + i.toNatClampNeg - s0 ≤ R.slots := g1
      exact g_new_l hx hb hK hA hAL (hts _ harr) (by omega) h0 h1 (fun w => z (Or.inl w)) (by omega) (by omega) (by omega) hd (k _ hn)
  · cases hq
theorem s_new_d  (E : m_env p s m args meth c R P cl D cA A tys G own ini nL cc) (h0 : c0 ≤ m_c h) (h1 : s0 ≤ m_s h) (g0 : m_c q.2.2.2 - c0 ≤ R.cells) (g1 : m_s q.2.2.2 - s0 ≤ R.slots) (hq : m_st P y (.newarray .double) is ls st h = some (.inl q)) (hm : m_sim P cl G own ini TG cc pc len (.newarray .double)) (hT : ∀ t, TG t → AT t (m_tg P y t)) (hn : AT (pc + len) is) (k : ∀ pc', AT pc' q.1 → m_go p l e R s m args below meth c Q P cl D cA A xa nL c0 s0 pc' q.2.1 q.2.2.1 q.2.2.2) : m_go p l e R s m args below meth c Q P cl D cA A xa nL c0 s0 pc ls st h := by
  obtain ⟨hx, hb, hml, hown, hts, hK, hA, ⟨hAI, hAB, hAL, hAD⟩, hini, hfr, hlo⟩ := E
  obtain ⟨rfl, harr, hd⟩ := hm
  simp only [m_st, m_nx] at hq
  split at hq
  · split at hq
    · cases hq
    · next i st' z =>
      cases hq
      have g0 : m_c h + 1 - c0 ≤ R.cells := g0
      have g1 : m_s h + i.toNatClampNeg - s0 ≤ R.slots := g1
      exact g_new_d hx hb hK hA hAD (hts _ harr) (by omega) h0 h1 (fun w => z (Or.inl w)) (by omega) (by omega) (by omega) hd (k _ hn)
  · cases hq
theorem s_new {ci : Nat} (E : m_env p s m args meth c R P cl D cA A tys G own ini nL cc) (h0 : c0 ≤ m_c h) (h1 : s0 ≤ m_s h) (g0 : m_c q.2.2.2 - c0 ≤ R.cells) (g1 : m_s q.2.2.2 - s0 ≤ R.slots) (hq : m_st P y (.new ci) is ls st h = some (.inl q)) (hm : m_sim P cl G own ini TG cc pc len (.new ci)) (hT : ∀ t, TG t → AT t (m_tg P y t)) (hn : AT (pc + len) is) (k : ∀ pc', AT pc' q.1 → m_go p l e R s m args below meth c Q P cl D cA A xa nL c0 s0 pc' q.2.1 q.2.2.1 q.2.2.2) : m_go p l e R s m args below meth c Q P cl D cA A xa nL c0 s0 pc ls st h := by
  obtain ⟨hx, hb, hml, hown, hts, hK, hA, ⟨hAI, hAB, hAL, hAD⟩, hini, hfr, hlo⟩ := E
  obtain ⟨rfl, ix, C, T, hc, hlink, hinst, hi, hd⟩ := hm
  simp only [m_st, m_nx] at hq
  split at hq
  · next z =>
    cases hq
    have g0 : m_c h + 1 - c0 ≤ R.cells := g0
    have g1 : m_s h + m_nf P ci - s0 ≤ R.slots := g1
    exact g_new hx hb hts hown hK hA hc (hts _ hlink) (hts _ hinst) (hts _ hi) z.2 h0 h1 (by omega) (by omega) hd (k _ hn)
  · cases hq
end STEP
end
section
/-! things outside: the script, rows of references, throws -/
def m_nms : List String := ["java/lang/RuntimeException", "java/lang/Exception"]
/-- the words of a throw that aren't good ones -/
def m_ng (x : Nat) : List Cond := [Cond.castable (m_en x) (m_en x), .declares (Bundle.initS "java/lang/RuntimeException"), .declares (Bundle.initS "java/lang/Exception"), .declares (Bundle.initS Bundle.tN)]
theorem m_ng_all {Q : Cond → Prop} {x : Nat} (h0 : Q (Cond.castable (m_en x) (m_en x))) (h1 : ∀ y, Q (.declares y)) : ∀ w ∈ m_ng x, Q w := List.forall_mem_cons.mpr ⟨h0, List.forall_mem_cons.mpr ⟨h1 _, List.forall_mem_cons.mpr ⟨h1 _, List.forall_mem_cons.mpr ⟨h1 _, fun _ h => absurd h List.not_mem_nil⟩⟩⟩⟩
/-- what is said of the things outside: rows of references, the script, what a throw needs, constants -/
def m_XT (P : m_P) (xc : Nat → Nat) (AOL : List String × List (Nat × String)) (TL : List (String × Nat × Nat × Nat × String)) (NL : List (String × Nat × MethodName × String)) (A : Nat → Prop) (U : State) (H : Heap) : Prop :=
  (∀ C ∈ AOL.1, va_AO C U) ∧ (va_X (xc m_X) (m_xl P) (m_xs P) U H ∧ xc m_X < H.size ∧ ¬ A (xc m_X)) ∧ (vx_Zq Bundle.tN "UNASSIGNED_STACK" Bundle.steD A U H ∧ vx_Zq Bundle.tN "SUPPRESSED_SENTINEL" Bundle.listD A U H) ∧
    (∀ q ∈ TL, ∃ sa, vk_R q.1 q.2.1 q.2.2.2.2 sa U) ∧ (∀ q ∈ NL, va_Nw (.methodLinkNest q.1 q.2.1 q.2.2.1 q.2.2.2) U) ∧ ((∀ x, x ≤ 1 → ∀ w ∈ m_ng x, va_Nw w U) ∧ va_Nc (m_en 1) (m_en 0) U) ∧ ∀ q ∈ AOL.2, va_Z "DriverHost$Word" q.2 "LDriverHost$Word;" (.ref (xc q.1)) A U H
def m_XU (XT : (Nat → Prop) → State → Heap → Prop) (P : m_P) (xc : Nat → Nat) (AOL : List String × List (Nat × String)) (TL : List (String × Nat × Nat × Nat × String)) (NL : List (String × Nat × MethodName × String)) : Prop :=
  ∀ (A : Nat → Prop) (U : State) (H : Heap), XT A U H → m_XT P xc AOL TL NL A U H
theorem m_XT_ok (P : m_P) (xc : Nat → Nat) (AOL : List String × List (Nat × String)) (TL : List (String × Nat × Nat × Nat × String)) (NL : List (String × Nat × MethodName × String)) : m_XTok (m_XT P xc AOL TL NL) := by
  refine ⟨fun A u U H hW h => ?_, fun A U H H1 hz hk h => ?_, fun A B U H hAB h => ?_⟩
  · obtain ⟨h1, ⟨h2, h3, h4⟩, ⟨h5, h6⟩, h7, h8, ⟨h9, h10⟩, h11⟩ := h
    exact ⟨fun C hC => (h1 C hC).moved hW.alike, ⟨h2.moved hW.alike, h3, h4⟩, ⟨h5.moved hW.alike, h6.moved hW.alike⟩, fun q hq => by obtain ⟨sa, z⟩ := h7 q hq; exact ⟨sa, vk_R.warm hW z⟩, fun q hq => va_Nw.warmM hW (h8 q hq), ⟨fun x hx w hw => m_ng_all (Q := fun w => va_Nw w u → va_Nw w U) (fun z => va_Nw.warmC hW z) (fun y z => va_Nw.warmD hW z) w hw (h9 x hx w hw), h10.moved hW.alike⟩, fun q hq => (h11 q hq).moved hW.alike⟩
  · obtain ⟨h1, ⟨h2, h3, h4⟩, ⟨h5, h6⟩, h7, h8, h9, h11⟩ := h
    exact ⟨h1, ⟨h2.kept (hk _ h3 h4), Nat.lt_of_lt_of_le h3 hz, h4⟩, ⟨h5.kept hk, h6.kept hk⟩, h7, h8, h9, fun q hq => (h11 q hq).kept hk⟩
  · obtain ⟨h1, ⟨h2, h3, h4⟩, ⟨h5, h6⟩, h7, h8, h9, h11⟩ := h
    exact ⟨h1, ⟨h2, h3, fun z => h4 (hAB _ z)⟩, ⟨h5.narrow hAB, h6.narrow hAB⟩, h7, h8, h9, fun q hq => (h11 q hq).narrow hAB⟩
def m_ext (s : State) (A : Nat → Prop) (xa : Nat × (Nat → Nat)) (XT : (Nat → Prop) → State → Heap → Prop) (P : m_P) (xc : Nat → Nat) (AOL : List String × List (Nat × String)) (TL : List (String × Nat × Nat × Nat × String)) (NL : List (String × Nat × MethodName × String)) : Prop :=
  m_XTok XT ∧ m_XU XT P xc AOL TL NL ∧ XT A s s.heap ∧ ∀ j, m_X ≤ j → xa.2 j = xc j
def m_sim2 (P : m_P) (cl : List vw_C) (G : List Cond) (AOL : List String × List (Nat × String)) (TL : List (String × Nat × Nat × Nat × String)) (tys : List (ClassId × FieldType)) (cA : Nat → ClassId) (own : String) (TG : Nat → Prop) (cc : ByteArray) (pc len : Nat) (i : Instr) : Prop := match i with
  | .iaload => len = 1 ∧ decode cc pc = .ok (.iaload, 1)
  | .ldc_w z => len = 1 ∧ (∃ ty, m_aok tys cA z ty) ∧ decode cc pc = .ok (.arraylength, 1)
  | .checkcast ci => len = 1 ∧ (∃ C, m_aok tys cA (200 + ci) (.object C)) ∧ decode cc pc = .ok (.aaload, 1)
  | .instanceof ci => len = 1 ∧ (∃ r : vw_C, cl[ci]? = some r ∧ m_aok tys cA (200 + ci) (.object r.1)) ∧ decode cc pc = .ok (.aastore, 1)
  | .anewarray ci => len = 3 ∧ ∃ (ix : Nat) (C : String), C ∈ AOL.1 ∧ m_aok tys cA (200 + ci) (.object C) ∧ Cond.classLink own ix C ∈ G ∧ decode cc pc = .ok (.anewarray ix, 3)
  | .getstatic k => len = 3 ∧ m_X ≤ k ∧ ∃ (ix : Nat) (nm : String), (k, nm) ∈ AOL.2 ∧ Cond.fieldLink own ix "DriverHost$Word" nm "LDriverHost$Word;" ∈ G ∧ decode cc pc = .ok (.getstatic ix, 3)
  | _ => False
section STEPX
variable {p : Program} {l : Launch} {e : Env} {R : Room} {s : State} {m : MethodId} {args : Array Value} {below : List Frame} {meth : Method} {c : Code} {Q : State → Prop} {P : m_P} {cl : List vw_C} {D : va_G} {cA : Nat → ClassId} {A : Nat → Prop} {xa : Nat × (Nat → Nat)} {nL c0 s0 : Nat} {pc len y : Nat} {is : List Instr} {ls : m_F} {st : List Value} {h : m_H} {cc : ByteArray} {tys : List (ClassId × FieldType)} {G : List Cond} {own : String} {ini : Bool} {TG : Nat → Prop} {AT : Nat → List Instr → Prop} {q : List Instr × m_F × List Value × m_H} {XT : (Nat → Prop) → State → Heap → Prop} {xc : Nat → Nat} {AOL : List String × List (Nat × String)} {TL : List (String × Nat × Nat × Nat × String)} {NL : List (String × Nat × MethodName × String)}
theorem g_sld (hx : p.tables.exec = Jvm.exec) (hb : c.code = cc) (X : m_ext s A xa XT P xc AOL TL NL) {i : Int32} (hi : ¬ (i < 0 ∨ m_xl P ≤ i.toNatClampNeg)) (hd : decode cc pc = .ok (.iaload, 1)) (k : m_go p l e R s m args below meth c Q P cl D cA A xa nL c0 s0 (pc + 1) ls (.int (m_xs P i.toNatClampNeg) :: st) h) : m_go p l e R s m args below meth c Q P cl D cA A xa nL c0 s0 pc ls (.int i :: .ref m_X :: st) h := by
  intro H locs ad la hr hl hs
  obtain ⟨-, X2, X3, X4⟩ := X
  obtain ⟨-, ⟨x1, x2, x3⟩, -⟩ := X2 _ _ _ X3
  have he : ad m_X = xc m_X := (hr.2.2.2.2.2 m_X (Or.inr (Nat.le_refl _))).trans (X4 _ (Nat.le_refl _))
  show W p l e R s m args below meth c H locs (m_c h - c0) (m_s h - s0) Q (F0 m pc la (.int i :: .ref (ad m_X) :: st.map (m_cv ad)))
  rw [he]
  exact va_sld hx hb x1 x2 x3 hr.2.2.1 hi hd (k H locs ad la hr hl (g_cs trivial (g_tl (g_tl hs))))
theorem g_slen (hx : p.tables.exec = Jvm.exec) (hb : c.code = cc) (X : m_ext s A xa XT P xc AOL TL NL) (hd : decode cc pc = .ok (.arraylength, 1)) (k : m_go p l e R s m args below meth c Q P cl D cA A xa nL c0 s0 (pc + 1) ls (.int (Int32.ofNat (m_xl P)) :: st) h) : m_go p l e R s m args below meth c Q P cl D cA A xa nL c0 s0 pc ls (.ref m_X :: st) h := by
  intro H locs ad la hr hl hs
  obtain ⟨-, X2, X3, X4⟩ := X
  obtain ⟨-, ⟨x1, x2, x3⟩, -⟩ := X2 _ _ _ X3
  have he : ad m_X = xc m_X := (hr.2.2.2.2.2 m_X (Or.inr (Nat.le_refl _))).trans (X4 _ (Nat.le_refl _))
  show W p l e R s m args below meth c H locs (m_c h - c0) (m_s h - s0) Q (F0 m pc la (.ref (ad m_X) :: st.map (m_cv ad)))
  rw [he]
  exact va_slen hx hb x1 x2 x3 hr.2.2.1 hd (k H locs ad la hr hl (g_cs trivial (g_tl hs)))
theorem s_iaload  (E : m_env p s m args meth c R P cl D cA A tys G own ini nL cc) (X : m_ext s A xa XT P xc AOL TL NL) (hq : m_st P y (.iaload) is ls st h = some (.inl q)) (hm : m_sim2 P cl G AOL TL tys cA own TG cc pc len (.iaload)) (hn : AT (pc + len) is) (k : ∀ pc', AT pc' q.1 → m_go p l e R s m args below meth c Q P cl D cA A xa nL c0 s0 pc' q.2.1 q.2.2.1 q.2.2.2) : m_go p l e R s m args below meth c Q P cl D cA A xa nL c0 s0 pc ls st h := by
  obtain ⟨hx, hb, hml, hown, hts, hK, hA, ⟨hAI, hAB, hAL, hAD⟩, hini, hfr, hlo⟩ := E
  obtain ⟨rfl, hd⟩ := hm
  simp only [m_st, m_nx] at hq
  split at hq
  · split at hq
    · next ea =>
      split at hq
      · cases hq
      · next z =>
        cases hq
        subst ea
        exact g_sld hx hb X z hd (k _ hn)
    · split at hq
      · next z =>
        cases hq
        exact g_iald hx hb hK hAI z.1 z.2.1 z.2.2 hd (k _ hn)
      · cases hq
  · cases hq
theorem s_alen {z : Nat} (E : m_env p s m args meth c R P cl D cA A tys G own ini nL cc) (X : m_ext s A xa XT P xc AOL TL NL) (hq : m_st P y (.ldc_w z) is ls st h = some (.inl q)) (hm : m_sim2 P cl G AOL TL tys cA own TG cc pc len (.ldc_w z)) (hn : AT (pc + len) is) (k : ∀ pc', AT pc' q.1 → m_go p l e R s m args below meth c Q P cl D cA A xa nL c0 s0 pc' q.2.1 q.2.2.1 q.2.2.2) : m_go p l e R s m args below meth c Q P cl D cA A xa nL c0 s0 pc ls st h := by
  obtain ⟨hx, hb, hml, hown, hts, hK, hA, ⟨hAI, hAB, hAL, hAD⟩, hini, hfr, hlo⟩ := E
  obtain ⟨rfl, ⟨ty, ht⟩, hd⟩ := hm
  simp only [m_st, m_nx] at hq
  split at hq
  · split at hq
    · next ea =>
      cases hq
      subst ea
      exact g_slen hx hb X hd (k _ hn)
    · split at hq
      · next w =>
        cases hq
        exact g_alen hx hb hK ht w.2.2 w.1 w.2.1 hd (k _ hn)
      · cases hq
  · cases hq
theorem s_aaload {ci : Nat} (E : m_env p s m args meth c R P cl D cA A tys G own ini nL cc) (X : m_ext s A xa XT P xc AOL TL NL) (hq : m_st P y (.checkcast ci) is ls st h = some (.inl q)) (hm : m_sim2 P cl G AOL TL tys cA own TG cc pc len (.checkcast ci)) (hn : AT (pc + len) is) (k : ∀ pc', AT pc' q.1 → m_go p l e R s m args below meth c Q P cl D cA A xa nL c0 s0 pc' q.2.1 q.2.2.1 q.2.2.2) : m_go p l e R s m args below meth c Q P cl D cA A xa nL c0 s0 pc ls st h := by
  obtain ⟨hx, hb, hml, hown, hts, hK, hA, ⟨hAI, hAB, hAL, hAD⟩, hini, hfr, hlo⟩ := E
  obtain ⟨rfl, ⟨C, ht⟩, hd⟩ := hm
  simp only [m_st, m_nx] at hq
  split at hq
  · split at hq
    · next w =>
      cases hq
      exact g_aald hx hb hK ht (Nat.le_add_right _ _) w.1 w.2.1 w.2.2 hd (k _ hn)
    · cases hq
  · cases hq
theorem s_aastore {ci : Nat} (E : m_env p s m args meth c R P cl D cA A tys G own ini nL cc) (X : m_ext s A xa XT P xc AOL TL NL) (hq : m_st P y (.instanceof ci) is ls st h = some (.inl q)) (hm : m_sim2 P cl G AOL TL tys cA own TG cc pc len (.instanceof ci)) (hn : AT (pc + len) is) (k : ∀ pc', AT pc' q.1 → m_go p l e R s m args below meth c Q P cl D cA A xa nL c0 s0 pc' q.2.1 q.2.2.1 q.2.2.2) : m_go p l e R s m args below meth c Q P cl D cA A xa nL c0 s0 pc ls st h := by
  obtain ⟨hx, hb, hml, hown, hts, hK, hA, ⟨hAI, hAB, hAL, hAD⟩, hini, hfr, hlo⟩ := E
  obtain ⟨rfl, ⟨r, hc, ht⟩, hd⟩ := hm
  simp only [m_st, m_nx] at hq
  split at hq
  · split at hq
    · next w =>
      cases hq
      exact g_aast hx hb hK hc ht (Nat.le_add_right _ _) w.1 w.2.1 w.2.2.1 w.2.2.2.1 w.2.2.2.2.1 w.2.2.2.2.2 hd (k _ hn)
    · cases hq
  · cases hq
theorem s_anewarray {ci : Nat} (E : m_env p s m args meth c R P cl D cA A tys G own ini nL cc) (X : m_ext s A xa XT P xc AOL TL NL) (h0 : c0 ≤ m_c h) (h1 : s0 ≤ m_s h) (g0 : m_c q.2.2.2 - c0 ≤ R.cells) (g1 : m_s q.2.2.2 - s0 ≤ R.slots) (hq : m_st P y (.anewarray ci) is ls st h = some (.inl q)) (hm : m_sim2 P cl G AOL TL tys cA own TG cc pc len (.anewarray ci)) (hn : AT (pc + len) is) (k : ∀ pc', AT pc' q.1 → m_go p l e R s m args below meth c Q P cl D cA A xa nL c0 s0 pc' q.2.1 q.2.2.1 q.2.2.2) : m_go p l e R s m args below meth c Q P cl D cA A xa nL c0 s0 pc ls st h := by
  obtain ⟨hx, hb, hml, hown, hts, hK, hA, ⟨hAI, hAB, hAL, hAD⟩, hini, hfr, hlo⟩ := E
  obtain ⟨rfl, ix, C, hC, ht, hlink, hd⟩ := hm
  simp only [m_st, m_nx] at hq
  split at hq
  · split at hq
    · cases hq
    · next i st' z =>
      cases hq
      have g0 : m_c h + 1 - c0 ≤ R.cells := g0
      have g1 : m_s h + i.toNatClampNeg - s0 ≤ R.slots := g1
      exact g_new_q hx hb hown hK hA (Nat.le_add_right _ _) ht (hts _ hlink) ((X.2.1 _ _ _ X.2.2.1).1 C hC) (by omega) h0 h1 (fun w => z (Or.inl w)) (by omega) (by omega) (by omega) hd (k _ hn)
  · cases hq
theorem s_getstatic {z : Nat} (E : m_env p s m args meth c R P cl D cA A tys G own ini nL cc) (X : m_ext s A xa XT P xc AOL TL NL) (hq : m_st P y (.getstatic z) is ls st h = some (.inl q)) (hm : m_sim2 P cl G AOL TL tys cA own TG cc pc len (.getstatic z)) (hn : AT (pc + len) is) (k : ∀ pc', AT pc' q.1 → m_go p l e R s m args below meth c Q P cl D cA A xa nL c0 s0 pc' q.2.1 q.2.2.1 q.2.2.2) : m_go p l e R s m args below meth c Q P cl D cA A xa nL c0 s0 pc ls st h := by
  obtain ⟨hx, hb, hml, hown, hts, hK, hA, ⟨hAI, hAB, hAL, hAD⟩, hini, hfr, hlo⟩ := E
  obtain ⟨rfl, hz, ix, nm, hC, hlink, hd⟩ := hm
  have hq2 : m_nx is ls (.ref z :: st) h = some (.inl q) := by
    simp only [m_st] at hq
    rw [if_pos hz] at hq
    exact hq
  cases hq2
  intro H locs ad la hr hl hs
  have hZ := (X.2.1 _ _ _ X.2.2.1).2.2.2.2.2.2 _ hC
  have he : ad z = xc z := (hr.2.2.2.2.2 z (Or.inr hz)).trans (X.2.2.2 z hz)
  have kk := k _ hn H locs ad la hr hl (g_cs (Or.inr hz) hs)
  rw [List.map_cons, show m_cv ad (.ref z) = .ref (ad z) from rfl, he] at kk
  exact va_gets hx hb hZ hr.2.2.1 hown (hts _ hlink) (fun _ w => w) hd kk
theorem s_objInit  (E : m_env p s m args meth c R P cl D cA A tys G own ini nL cc) (X : m_ext s A xa XT P xc AOL TL NL) (hq : m_st P y (.invokespecial 9000) is ls st h = some (.inl q)) (hm : m_sim P cl G own ini TG cc pc len (.invokespecial 9000)) (hn : AT (pc + len) is) (k : ∀ pc', AT pc' q.1 → m_go p l e R s m args below meth c Q P cl D cA A xa nL c0 s0 pc' q.2.1 q.2.2.1 q.2.2.2) : m_go p l e R s m args below meth c Q P cl D cA A xa nL c0 s0 pc ls st h := by
  obtain ⟨hx, hb, hml, hown, hts, hK, hA, ⟨hAI, hAB, hAL, hAD⟩, hini, hfr, hlo⟩ := E
  obtain ⟨rfl, -, ix, l1, l2, l3, hd⟩ := hm
  simp only [m_st, m_nx, if_true] at hq
  split at hq
  · split at hq
    · next w =>
      cases hq
      exact g_objInit hx hb hml hown (hts _ l1) (hts _ l2) (hts _ l3) (by omega) (by omega) hd (k _ hn)
    · cases hq
  · cases hq
theorem s_lib {z : Nat} (E : m_env p s m args meth c R P cl D cA A tys G own ini nL cc) (X : m_ext s A xa XT P xc AOL TL NL) (g0 : m_c q.2.2.2 - c0 ≤ R.cells) (g1 : m_s q.2.2.2 - s0 ≤ R.slots) (hq : m_st P y (.invokestatic z) is ls st h = some (.inl q)) (hm : m_sim P cl G own ini TG cc pc len (.invokestatic z)) (hn : AT (pc + len) is) (k : ∀ pc', AT pc' q.1 → m_go p l e R s m args below meth c Q P cl D cA A xa nL c0 s0 pc' q.2.1 q.2.2.1 q.2.2.2) : m_go p l e R s m args below meth c Q P cl D cA A xa nL c0 s0 pc ls st h := by
  obtain ⟨hx, hb, hml, hown, hts, hK, hA, ⟨hAI, hAB, hAL, hAD⟩, hini, hfr, hlo⟩ := E
  obtain ⟨rfl, ix, hlib, hd⟩ := hm
  rcases hlib with ⟨rfl, l1, l2, l3, l4⟩ | ⟨rfl, l1, l2, l3, l4⟩ | ⟨rfl, l1, l2, l3, l4⟩
  · simp only [m_st, m_nx, if_true] at hq
    split at hq
    · split at hq
      · next w =>
        cases hq
        exact g_min hx hb hml hown (hts _ l1) (hts _ l2) (hts _ l3) (hts _ l4) (by omega) (by omega) g0 g1 hd (k _ hn)
      · cases hq
    · cases hq
  · simp only [m_st, m_nx, ↓reduceIte, Nat.reduceEqDiff] at hq
    split at hq
    · split at hq
      · next w =>
        cases hq
        exact g_max hx hb hml hown (hts _ l1) (hts _ l2) (hts _ l3) (hts _ l4) (by omega) (by omega) g0 g1 hd (k _ hn)
      · cases hq
    · cases hq
  · simp only [m_st, m_nx, ↓reduceIte, Nat.reduceEqDiff] at hq
    split at hq
    · split at hq
      · next w =>
        cases hq
        obtain ⟨w1, w2, w3, w4, w5, w6, w7, w8, w9, w10⟩ := w
        have hnw : nativeFrameWords "java/lang/System" "arraycopy" 5 + 11 ≤ 100 := by decide +kernel
        exact g_copy hx hb hml hown (hts _ l1) (hts _ l2) (hts _ l3) (hts _ l4) hK hAI (by omega) (by omega) w1 w2 w3 w4 w5 w6 w7 w8 w9 hd (k _ hn)
      · cases hq
    · cases hq
end STEPX
end
section
/-! one step in all; the counts only grow; a method's entry and end -/
theorem m_st_mono {P : m_P} {y : Nat} {i : Instr} {is : List Instr} {ls : m_F} {st : List Value} {h : m_H} {q : List Instr × m_F × List Value × m_H} (hq : m_st P y i is ls st h = some (.inl q)) : m_c h ≤ m_c q.2.2.2 ∧ m_s h ≤ m_s q.2.2.2 ∧ m_n h ≤ m_n q.2.2.2 := by
  have key : ∀ (a : List Instr) (b : m_F) (d : List Value) (g : m_H), (m_c h ≤ m_c g ∧ m_s h ≤ m_s g ∧ m_n h ≤ m_n g) → m_nx a b d g = some (.inl q) → m_c h ≤ m_c q.2.2.2 ∧ m_s h ≤ m_s q.2.2.2 ∧ m_n h ≤ m_n q.2.2.2 := by
    intro a b d g hg e
    cases e
    exact hg
  have same : m_c h ≤ m_c h ∧ m_s h ≤ m_s h ∧ m_n h ≤ m_n h := ⟨Nat.le_refl _, Nat.le_refl _, Nat.le_refl _⟩
  have mk : ∀ kd len z, m_c h ≤ m_c (m_mk h kd len z) ∧ m_s h ≤ m_s (m_mk h kd len z) ∧ m_n h ≤ m_n (m_mk h kd len z) := fun kd len z => ⟨Nat.le_succ _, Nat.le_add_right _ _, Nat.le_succ _⟩
  cases i <;> simp only [m_st] at hq
  all_goals first
    | (refine key _ _ _ _ ?_ hq; exact same)
    | (cases hq; done)
    | ((repeat' split at hq) <;> first | (refine key _ _ _ _ ?_ hq; exact same) | (refine key _ _ _ _ ?_ hq; exact mk _ _ _) | (cases hq; done))
theorem m_ex_mono {P : m_P} : ∀ (n d y : Nat) (is : List Instr) (ls : m_F) (st : List Value) (h : m_H) (o : Option Value ⊕ Nat) (h' : m_H), m_ex P n d y is ls st h = some (o, h') → m_c h ≤ m_c h' ∧ m_s h ≤ m_s h' := by
  intro n
  induction n with
  | zero => intro d y is ls st h o h' he; simp [m_ex] at he
  | succ n ih =>
    intro d y is ls st h o h' he
    cases is with
    | nil => simp [m_ex] at he
    | cons i is =>
      rw [m_ex] at he
      split at he
      · cases he
      · next q hq =>
        have h1 := m_st_mono hq
        have h2 := ih _ _ _ _ _ _ _ _ he
        omega
      · next q hq =>
        split at he
        · cases he
        · next d' =>
          split at he
          · cases he
          · next v g hg =>
            have h1 := ih _ _ _ _ _ _ _ _ hg
            have h2 := ih _ _ _ _ _ _ _ _ he
            omega
          · next x g hg =>
            have h1 := ih _ _ _ _ _ _ _ _ hg
            split at he
            · cases he
            split at he
            · split at he
              · cases he
              · cases he
                exact h1
            · split at he
              · have h2 := ih _ _ _ _ _ _ _ _ he
                omega
              · cases he
      · cases he
        exact ⟨Nat.le_refl _, Nat.le_refl _⟩
      · cases he
        exact ⟨Nat.le_succ _, Nat.le_add_right _ _⟩
theorem m_sl_args {ad : Nat → Nat} : ∀ (as : List Value) (off i : Nat) (v : Value), (m_sl as)[i]? = some (some v) → (off + i, m_cv ad v) ∈ lv_args off (as.map (m_cv ad))
  | [], off, i, v, h => by simp [m_sl] at h
  | a :: as, off, i, v, h => by
    unfold m_sl at h
    rw [List.map_cons]
    unfold lv_args
    rw [m_cat_cv]
    by_cases hc : a.category = 2
    · rw [if_pos hc] at h ⊢
      match i, h with
      | 0, h => simp at h; subst h; exact List.mem_cons_self
      | 1, h => simp at h
      | i + 2, h =>
        simp only [List.getElem?_cons_succ] at h
        have := m_sl_args (ad := ad) as (off + 2) i v h
        rw [show off + (i + 2) = off + 2 + i by omega]
        exact List.mem_cons_of_mem _ this
    · rw [if_neg hc] at h ⊢
      match i, h with
      | 0, h => simp at h; subst h; exact List.mem_cons_self
      | i + 1, h =>
        simp only [List.getElem?_cons_succ] at h
        have := m_sl_args (ad := ad) as (off + 1) i v h
        rw [show off + (i + 1) = off + 1 + i by omega]
        exact List.mem_cons_of_mem _ this
theorem m_sl_mem : ∀ (as : List Value) (i : Nat) (v : Value), (m_sl as)[i]? = some (some v) → v ∈ as
  | [], i, v, h => by simp [m_sl] at h
  | a :: as, i, v, h => by
    unfold m_sl at h
    by_cases hc : a.category = 2
    · rw [if_pos hc] at h
      match i, h with
      | 0, h => simp at h; subst h; exact List.mem_cons_self
      | 1, h => simp at h
      | i + 2, h => simp only [List.getElem?_cons_succ] at h; exact List.mem_cons_of_mem _ (m_sl_mem as i v h)
    · rw [if_neg hc] at h
      match i, h with
      | 0, h => simp at h; subst h; exact List.mem_cons_self
      | i + 1, h => simp only [List.getElem?_cons_succ] at h; exact List.mem_cons_of_mem _ (m_sl_mem as i v h)
theorem m_sl_cons (a : Value) (as : List Value) : m_sl (a :: as) = if a.category = 2 then some a :: none :: m_sl as else some a :: m_sl as := rfl
theorem m_sl_len {ad : Nat → Nat} : ∀ (as : List Value), (lg_sl (as.map (m_cv ad))).length = (m_sl as).length
  | [] => rfl
  | a :: as => by
    have ih := m_sl_len (ad := ad) as
    unfold lg_sl at ih ⊢
    rw [List.map_cons, List.flatMap_cons, List.length_append, ih, m_cat_cv, m_sl_cons]
    by_cases hc : a.category = 2
    · rw [if_pos hc, if_pos hc]
      simp only [List.length_cons, List.length_nil]
      omega
    · rw [if_neg hc, if_neg hc]
      simp only [List.length_cons, List.length_nil]
      omega
theorem m_entry {ad : Nat → Nat} {n nl : Nat} {as : List Value} (hl : (m_sl as).length ≤ nl) (hin : ∀ v ∈ as, m_in n v) : m_lR ad n (m_ent nl as) ((lg_sl (as.map (m_cv ad)) ++ List.replicate (nl - (lg_sl (as.map (m_cv ad))).length) Slot.unset).toArray) nl := by
  obtain ⟨e1, e2, e3⟩ := lv_entry (as.map (m_cv ad)) (n := nl) (by rw [m_sl_len]; exact hl)
  refine ⟨e1, ?_, e2, fun i v hi => ?_⟩
  · unfold m_ent
    simp
    omega
  · unfold m_ent at hi
    by_cases hlt : i < (m_sl as).length
    · rw [List.getElem?_append_left hlt] at hi
      have h1 := m_sl_args (ad := ad) as 0 i v hi
      rw [Nat.zero_add] at h1
      exact ⟨e3 _ h1, hin v (m_sl_mem as i v hi)⟩
    · rw [List.getElem?_append_right (by omega)] at hi
      rw [List.getElem?_replicate] at hi
      split at hi
      · cases hi
      · cases hi
section DISPATCH
variable {p : Program} {l : Launch} {e : Env} {R : Room} {s : State} {m : MethodId} {args : Array Value} {below : List Frame} {meth : Method} {c : Code} {Q : State → Prop} {P : m_P} {cl : List vw_C} {D : va_G} {cA : Nat → ClassId} {A : Nat → Prop} {xa : Nat × (Nat → Nat)} {nL c0 s0 : Nat} {pc len y : Nat} {is : List Instr} {ls : m_F} {st : List Value} {h : m_H} {cc : ByteArray} {tys : List (ClassId × FieldType)} {G : List Cond} {own : String} {ini : Bool} {TG : Nat → Prop} {AT : Nat → List Instr → Prop} {q : List Instr × m_F × List Value × m_H} {XT : (Nat → Prop) → State → Heap → Prop} {xc : Nat → Nat} {AOL : List String × List (Nat × String)} {TL : List (String × Nat × Nat × Nat × String)} {NL : List (String × Nat × MethodName × String)}
theorem m_step1 {i : Instr} (E : m_env p s m args meth c R P cl D cA A tys G own ini nL cc) (X : m_ext s A xa XT P xc AOL TL NL) (h0 : c0 ≤ m_c h) (h1 : s0 ≤ m_s h) (g0 : m_c q.2.2.2 - c0 ≤ R.cells) (g1 : m_s q.2.2.2 - s0 ≤ R.slots) (hq : m_st P y i is ls st h = some (.inl q)) (hm : m_sim P cl G own ini TG cc pc len i ∨ m_sim2 P cl G AOL TL tys cA own TG cc pc len i) (hT : ∀ t, TG t → AT t (m_tg P y t)) (hn : AT (pc + len) is) (k : ∀ pc', AT pc' q.1 → m_go p l e R s m args below meth c Q P cl D cA A xa nL c0 s0 pc' q.2.1 q.2.2.1 q.2.2.2) : m_go p l e R s m args below meth c Q P cl D cA A xa nL c0 s0 pc ls st h := by
  rcases hm with hm | hm
  · cases i
    case iadd => exact s_iadd E hq hm hn k
    case isub => exact s_isub E hq hm hn k
    case imul => exact s_imul E hq hm hn k
    case iand => exact s_iand E hq hm hn k
    case ior => exact s_ior E hq hm hn k
    case ishr => exact s_ishr E hq hm hn k
    case ladd => exact s_ladd E hq hm hn k
    case lsub => exact s_lsub E hq hm hn k
    case lmul => exact s_lmul E hq hm hn k
    case lcmp => exact s_lcmp E hq hm hn k
    case i2b => exact s_i2b E hq hm hn k
    case i2l => exact s_i2l E hq hm hn k
    case i2d => exact s_i2d E hq hm hn k
    case i2f => exact s_i2f E hq hm hn k
    case aconst_null => exact s_aconst_null E hq hm hn k
    case idiv => exact s_idiv E hq hm hn k
    case irem => exact s_irem E hq hm hn k
    case ddiv => exact s_ddiv E hq hm hn k
    case fdiv => exact s_fdiv E hq hm hn k
    case f2d => exact s_f2d E hq hm hn k
    case d2f => exact s_d2f E hq hm hn k
    case dup => exact s_dup E hq hm hn k
    case pop => exact s_pop E hq hm hn k
    case dup2 => exact s_dup2 E hq hm hn k
    case dcmp => exact s_dcmp E hq hm hn k
    case fcmp => exact s_fcmp E hq hm hn k
    case baload => exact s_baload E hq hm hn k
    case laload => exact s_laload E hq hm hn k
    case daload => exact s_daload E hq hm hn k
    case iastore => exact s_iastore E hq hm hn k
    case bastore => exact s_bastore E hq hm hn k
    case lastore => exact s_lastore E hq hm hn k
    case dastore => exact s_dastore E hq hm hn k
    case fconst => exact s_fconst E hq hm hT hn k
    case dconst => exact s_dconst E hq hm hT hn k
    case iconst => exact s_iconst E hq hm hT hn k
    case ldc2_w => exact s_ldc2_w E hq hm hT hn k
    case iload => exact s_iload E hq hm hT hn k
    case lload => exact s_lload E hq hm hT hn k
    case fload => exact s_fload E hq hm hT hn k
    case dload => exact s_dload E hq hm hT hn k
    case aload => exact s_aload E hq hm hT hn k
    case istore => exact s_istore E hq hm hT hn k
    case fstore => exact s_fstore E hq hm hT hn k
    case dstore => exact s_dstore E hq hm hT hn k
    case astore => exact s_astore E hq hm hT hn k
    case iinc => exact s_iinc E hq hm hT hn k
    case goto => exact s_goto E hq hm hT hn k
    case ifCond => exact s_ifCond E hq hm hT hn k
    case if_icmp => exact s_if_icmp E hq hm hT hn k
    case ifnull => exact s_ifnull E hq hm hT hn k
    case ifnonnull => exact s_ifnonnull E hq hm hT hn k
    case tableswitch => exact s_tableswitch E hq hm hT hn k
    case getfield => exact s_getfield E hq hm hT hn k
    case putfield => exact s_putfield E hq hm hT hn k
    case newarray t =>
      cases t
      case int => exact s_new_i E h0 h1 g0 g1 hq hm hT hn k
      case byte => exact s_new_b E h0 h1 g0 g1 hq hm hT hn k
      case long => exact s_new_l E h0 h1 g0 g1 hq hm hT hn k
      case double => exact s_new_d E h0 h1 g0 g1 hq hm hT hn k
      all_goals exact False.elim hm
    case new ci => exact s_new E h0 h1 g0 g1 hq hm hT hn k
    case invokespecial z =>
      obtain rfl : z = 9000 := hm.2.1
      exact s_objInit E X hq hm hn k
    case invokestatic z => exact s_lib E X g0 g1 hq hm hn k
    case iaload => exact s_iaload (TG := TG) E X hq hm hn k
    all_goals first
      | exact False.elim hm
      | (simp only [m_st] at hq; (repeat' split at hq) <;> cases hq)
  · cases i
    case iaload => exact s_iaload E X hq hm hn k
    case ldc_w z => exact s_alen E X hq hm hn k
    case checkcast ci => exact s_aaload E X hq hm hn k
    case instanceof ci => exact s_aastore E X hq hm hn k
    case anewarray ci => exact s_anewarray E X h0 h1 g0 g1 hq hm hn k
    case getstatic z => exact s_getstatic E X hq hm hn k
    all_goals exact False.elim hm
end DISPATCH
end
section
/-! THE SMALL MACHINE'S RUNS ARE THE MACHINE'S -/
def m_ret (ty : Option FieldType) (i : Instr) : Prop := match i with
  | .ireturn => ty = some .int
  | .ret _ => ty = some .boolean
  | .areturn => ∃ t, ty = some t ∧ ((∃ n, t = .object n) ∨ ∃ u, t = .array u)
  | .freturn => ty = some .float
  | .dreturn => ty = some .double
  | .return_ => ty = none
  | _ => False
/-- calls and throws -/
def m_simC (P : m_P) (cl : List vw_C) (G : List Cond) (TL : List (String × Nat × Nat × Nat × String)) (NL : List (String × Nat × MethodName × String)) (Y : Nat → MethodName) (TT : Nat → Option FieldType) (INI : Nat → Bool) (NM : Nat) (y : Nat) (own : String) (cc : ByteArray) (pc len : Nat) (i : Instr) : Prop := match i with
  | .invokevirtual z => len = 3 ∧ z < NM ∧ m_hh P z = false ∧ ∃ ix : Nat, Cond.methodLink own ix (Y z) ∈ G ∧ Cond.instanceMethod (Y z) ∈ G ∧ Cond.selects (Y z).cls (Y z) (Y z) ∈ G ∧ (parseMethodDescriptor (Y z).desc).map (fun d => d.parameters.length + 1) = some (m_na P z) ∧ (∃ r : vw_C, cl[m_rc P z]? = some r ∧ r.1 = (Y z).cls ∧ m_rc P z < 100) ∧ decode cc pc = .ok (.invokevirtual ix, 3)
  | .invokestatic z => len = 3 ∧ z < NM ∧ ∃ ix : Nat, Cond.methodLink own ix (Y z) ∈ G ∧ Cond.static (Y z) ∈ G ∧ (parseMethodDescriptor (Y z).desc).map (fun d => d.parameters.length) = some (m_na P z) ∧ decode cc pc = .ok (.invokestatic ix, 3)
  | .invokespecial z => len = 3 ∧ z < NM ∧ m_hh P z = false ∧ INI z = true ∧ TT z = none ∧ ∃ ix : Nat, (Cond.methodLink own ix (Y z) ∈ G ∨ ∃ host, (own, ix, Y z, host) ∈ NL) ∧ Cond.instanceMethod (Y z) ∈ G ∧ (parseMethodDescriptor (Y z).desc).map (fun d => d.parameters.length + 1) = some (m_na P z) ∧ decode cc pc = .ok (.invokespecial ix, 3)
  | .invokedynamic x => len = 10 ∧ x ≤ 1 ∧ m_hh P y = false ∧ ∃ (ik is ic : Nat) (text : String), (own, is, 0, 0, text) ∈ TL ∧ Cond.classLink own ik (m_en x) ∈ G ∧ Cond.initialized (m_en x) ∈ G ∧ Bundle.fit (m_en x) = true ∧ (∀ n ∈ m_nms, Bundle.fit n = true) ∧ (∀ w ∈ Cond.classLink own ik (m_en x) :: Cond.initialized (m_en x) :: vx_atS own ic (m_en x) m_nms, vx_ot w = true) ∧ (∀ w ∈ (vx_atS own ic (m_en x) m_nms).filter goodWord, w ∈ G) ∧ (∀ w ∈ (vx_atS own ic (m_en x) m_nms).filter (fun w => !goodWord w), w ∈ m_ng x) ∧ decode cc pc = .ok (.new ik, 3) ∧ decode cc (pc + 3) = .ok (.dup, 1) ∧ decode cc (pc + 4) = .ok (.ldc is, 2) ∧ decode cc (pc + 6) = .ok (.invokespecial ic, 3) ∧ decode cc (pc + 9) = .ok (.athrow, 1)
  | _ => False
/-- where a method has handlers, a call stands under the right one; its first instruction puts the exception away -/
def m_cov (P : m_P) (G : List Cond) (Y : Nat → MethodName) (B : Nat → ByteArray) (HH : Nat → List (Nat × Nat × Nat × Nat)) (z pc : Nat) (i : Instr) : Prop :=
  m_hh P z = true → ∀ x r, m_hd P z x = some r → x ≤ 1 ∧ r.1 < m_nl P z ∧ ∃ (pre : List ExceptionTableEntry) (x0 : ExceptionTableEntry) (suf : List ExceptionTableEntry), tableOf (HH z) = pre ++ x0 :: suf ∧ (∀ y ∈ pre, covers y pc = false ∨ (x = 1 ∧ y.catchType ≠ 0 ∧ Cond.classLink (Y z).cls y.catchType (m_en 0) ∈ G)) ∧ covers x0 pc = true ∧ x0.catchType ≠ 0 ∧ Cond.classLink (Y z).cls x0.catchType (m_en x) ∈ G ∧ ((∃ j : Fin 4, (j : Nat) = r.1 ∧ decode (B z) x0.handlerPc = .ok (.astore_n j, 1) ∧ r.2 = x0.handlerPc + 1) ∨ (decode (B z) x0.handlerPc = .ok (.astore r.1, 2) ∧ r.2 = x0.handlerPc + 2))
/-- the word of a method's code -/
def m_cw (P : m_P) (Y : Nat → MethodName) (B : Nat → ByteArray) (TT : Nat → Option FieldType) (HH : Nat → List (Nat × Nat × Nat × Nat)) (z : Nat) : Cond := if m_hh P z = true then Cond.codeWith (Y z) (B z) (m_nl P z) (TT z) (HH z) else Cond.code (Y z) (B z) (m_nl P z) (TT z)
def m_simA (P : m_P) (cl : List vw_C) (G : List Cond) (AOL : List String × List (Nat × String)) (TL : List (String × Nat × Nat × Nat × String)) (NL : List (String × Nat × MethodName × String)) (tys : List (ClassId × FieldType)) (cA : Nat → ClassId) (Y : Nat → MethodName) (B : Nat → ByteArray) (TT : Nat → Option FieldType) (INI : Nat → Bool) (TGz : Nat → Nat → Prop) (NM : Nat) (HH : Nat → List (Nat × Nat × Nat × Nat)) (z pc len : Nat) (i : Instr) : Prop :=
  (m_sim P cl G (Y z).cls (INI z) (TGz z) (B z) pc len i ∨ m_sim2 P cl G AOL TL tys cA (Y z).cls (TGz z) (B z) pc len i) ∨ m_simC P cl G TL NL Y TT INI NM z (Y z).cls (B z) pc len i ∧ m_cov P G Y B HH z pc i
def m_at (P : m_P) (cl : List vw_C) (G : List Cond) (AOL : List String × List (Nat × String)) (TL : List (String × Nat × Nat × Nat × String)) (NL : List (String × Nat × MethodName × String)) (tys : List (ClassId × FieldType)) (cA : Nat → ClassId) (Y : Nat → MethodName) (B : Nat → ByteArray) (TT : Nat → Option FieldType) (INI : Nat → Bool) (TGz : Nat → Nat → Prop) (NM : Nat) (HH : Nat → List (Nat × Nat × Nat × Nat)) (z : Nat) : List Instr → Nat → Prop
  | [], _ => True
  | i :: is, pc => ∃ len, m_simA P cl G AOL TL NL tys cA Y B TT INI TGz NM HH z pc len i ∧ (m_ret (TT z) i ∨ ¬ (∃ t, m_ret t i)) ∧ m_at P cl G AOL TL NL tys cA Y B TT INI TGz NM HH z is (pc + len)
/-- a method as the tables have it, and its code as the small machine's -/
def m_mok (P : m_P) (cl : List vw_C) (G : List Cond) (AOL : List String × List (Nat × String)) (TL : List (String × Nat × Nat × Nat × String)) (NL : List (String × Nat × MethodName × String)) (tys : List (ClassId × FieldType)) (cA : Nat → ClassId) (Y : Nat → MethodName) (B : Nat → ByteArray) (TT : Nat → Option FieldType) (INI : Nat → Bool) (TGz : Nat → Nat → Prop) (NM : Nat) (HH : Nat → List (Nat × Nat × Nat × Nat)) (z : Nat) : Prop :=
  plainName (Y z).cls = true ∧ m_cw P Y B TT HH z ∈ G ∧ Cond.initialized (Y z).cls ∈ G ∧ ((Y z).cls ≠ "java/lang/invoke/MethodHandle" ∧ (Y z).cls ≠ "java/lang/invoke/VarHandle") ∧ m_nl P z ≤ 21 ∧ (∀ t, TGz z t → m_at P cl G AOL TL NL tys cA Y B TT INI TGz NM HH z (m_tg P z t) t) ∧ m_at P cl G AOL TL NL tys cA Y B TT INI TGz NM HH z (m_tg P z 0) 0 ∧ (INI z = true → (Y z).name = "<init>") ∧ (m_hh P z = false → HH z = [] ∧ ∀ x, m_hd P z x = none) ∧ ∀ x r, m_hd P z x = some r → m_at P cl G AOL TL NL tys cA Y B TT INI TGz NM HH z (m_tg P z r.2) r.2
def m_stat (l : Launch) (P : m_P) (cl : List vw_C) (G : List Cond) (AOL : List String × List (Nat × String)) (TL : List (String × Nat × Nat × Nat × String)) (NL : List (String × Nat × MethodName × String)) (tys : List (ClassId × FieldType)) (cA : Nat → ClassId) (Y : Nat → MethodName) (B : Nat → ByteArray) (TT : Nat → Option FieldType) (INI : Nat → Bool) (TGz : Nat → Nat → Prop) (NM : Nat) (HH : Nat → List (Nat × Nat × Nat × Nat)) (XT : (Nat → Prop) → State → Heap → Prop) (xc : Nat → Nat) : Prop :=
  l.stackTraces = false ∧ NM ≤ 9000 ∧ (∀ w ∈ G, goodWord w = true) ∧ (m_aok tys cA 100 .int ∧ m_aok tys cA 101 .byte ∧ m_aok tys cA 102 .long ∧ m_aok tys cA 103 .double) ∧ m_XTok XT ∧ m_XU XT P xc AOL TL NL ∧ ∀ z, z < NM → m_mok P cl G AOL TL NL tys cA Y B TT INI TGz NM HH z
theorem m_met {l : Launch} {y : MethodName} {ws : List Cond} {rm : Room} {Pc : Array Value → State → Prop} {Qc : Array Value → State → Outcome → State → Prop} {XC : String → State → State → Prop} {mc ms : Nat} {free : Addr → Prop} (hM : vx_Met l y ws rm Pc Qc XC mc ms free) (hX : ∀ E st t, ¬ XC E st t) : Met l y ws rm Pc Qc mc ms free := by
  intro p e h1 h2 h3 s m args below h4 h5 h6 h7
  obtain ⟨n, o, a1, a2, a3, a4⟩ := hM p e h1 h2 h3 s m args below h4 h5 h6 h7
  refine ⟨n, o, a1, a2, a3, ?_⟩
  rcases a4 with h | ⟨q, ho, E, ce, L, hx, -⟩
  · exact h
  · exact absurd hx (hX _ _ _)
theorem m_pop_eq {k : Nat} {st as st' : List Value} (h : m_pop k st = some (as, st')) : st = as.reverse ++ st' ∧ as.length = k := by
  unfold m_pop at h
  split at h
  · next hk =>
    cases h
    rw [List.reverse_reverse, List.take_append_drop]
    exact ⟨rfl, by simp; omega⟩
  · cases h
theorem m_good {G : List Cond} {c0 : Cond} {ws : List Cond} (hG : ∀ w ∈ G, goodWord w = true) (hc : c0 ∈ G) (hw : ∀ w ∈ ws, w ∈ G) : GoodIn G (ws ++ c0 :: G) := by
  intro w h
  rcases List.mem_append.mp h with h | h
  · exact ⟨hw w h, good_of_word (hG w (hw w h))⟩
  · rcases List.mem_cons.mp h with rfl | h
    · exact ⟨hc, good_of_word (hG _ hc)⟩
    · exact ⟨h, good_of_word (hG w h)⟩
section MAIN
variable {l : Launch} {P : m_P} {cl : List vw_C} {D : va_G} {cA : Nat → ClassId} {tys : List (ClassId × FieldType)} {G : List Cond} {XT : (Nat → Prop) → State → Heap → Prop} {xc : Nat → Nat} {AOL : List String × List (Nat × String)} {TL : List (String × Nat × Nat × Nat × String)} {NL : List (String × Nat × MethodName × String)} {Y : Nat → MethodName} {B : Nat → ByteArray} {TT : Nat → Option FieldType} {INI : Nat → Bool} {TGz : Nat → Nat → Prop} {NM : Nat} {HH : Nat → List (Nat × Nat × Nat × Nat)}
/-- what a method of the small machine owes, out of its runs as the machine's -/
theorem m_contract (S : m_stat l P cl G AOL TL NL tys cA Y B TT INI TGz NM HH XT xc) {n d z : Nat} (hz : z < NM)
    (ih : ∀ (is : List Instr) (ls : m_F) (st : List Value) (h : m_H) (o : Option Value ⊕ Nat) (h' : m_H), m_ex P n d z is ls st h = some (o, h') → ∀ (p : Program) (e : Env) (R : Room) (s : State) (m : MethodId) (args : Array Value) (below : List Frame) (meth : Method) (c : Code) (A : Nat → Prop) (xa : Nat × (Nat → Nat)) (c0 s0 pc : Nat), m_env p s m args meth c R P cl D cA A tys G (Y z).cls (INI z) (m_nl P z) (B z) → m_ext s A xa XT P xc AOL TL NL → d + 8 ≤ R.frames ∧ 40 * d + 200 ≤ R.locals → meth.locks = false → meth.sig.returnType = TT z → c.exceptionTable.toList = tableOf (HH z) → c0 ≤ m_c h → s0 ≤ m_s h → m_c h' - c0 ≤ R.cells → m_s h' - s0 ≤ R.slots → m_at P cl G AOL TL NL tys cA Y B TT INI TGz NM HH z is pc → m_go p l e R s m args below meth c (vx_MQ below (m_Qc P cl D cA A xa o h') (m_XC P cl D cA A xa o h') args s (m_c h' - c0) (m_s h' - s0) A) P cl D cA A xa (m_nl P z) c0 s0 pc ls st h)
    {as : List Value} {h h' : m_H} {o : Option Value ⊕ Nat} (he : m_ex P n d z (m_tg P z 0) (m_ent (m_nl P z) as) [] h = some (o, h')) (hlen : (m_sl as).length ≤ m_nl P z) (ad : Nat → Nat) (sz : Nat) (hw : m_wf h) (hin : ∀ v ∈ as, m_in (m_n h) v) (had : ∀ j, m_X ≤ j → ad j = xc j) :
    vx_Met l (Y z) (m_cw P Y B TT HH z :: G) (m_rm d (m_c h' - m_c h) (m_s h' - m_s h)) (m_Pc P cl D cA tys XT ad h as sz) (m_Qc P cl D cA (va_A (m_ws P cA ad h) sz) (m_n h, ad) o h') (m_XC P cl D cA (va_A (m_ws P cA ad h) sz) (m_n h, ad) o h') (m_c h' - m_c h) (m_s h' - m_s h) (va_A (m_ws P cA ad h) sz) := by
  obtain ⟨hl, hNM, hG, hAk, hXT, hXU, hM⟩ := id S
  obtain ⟨k1, k2, k3, k4, k5, k6, k7, k8, k9, k10⟩ := hM z hz
  have body : ∀ p e s m args below meth c s₁, BodyLoose p l (Y z) (headSpec (m_cw P Y B TT HH z :: G) (m_rm d (m_c h' - m_c h) (m_s h' - m_s h))) (B z) (m_nl P z) (TT z) e s m args below meth c s₁ → c.maxLocals = m_nl P z → c.exceptionTable.toList = tableOf (HH z) → m_Pc P cl D cA tys XT ad h as sz args s →
      W p l e (headSpec (m_cw P Y B TT HH z :: G) (m_rm d (m_c h' - m_c h) (m_s h' - m_s h))).room s m args below meth c s.heap [] 0 0 (vx_MQ below (m_Qc P cl D cA (va_A (m_ws P cA ad h) sz) (m_n h, ad) o h') (m_XC P cl D cA (va_A (m_ws P cA ad h) sz) (m_n h, ad) o h') args s (m_c h' - m_c h) (m_s h' - m_s h) (va_A (m_ws P cA ad h) sz)) (entryFrame m args (m_nl P z)) := by
    intro p e s m args below meth c s₁ BB hml htab hv
    obtain ⟨ha, hsz, hP, hK, hD, hX⟩ := hv
    subst hsz
    have hts := atoms_spec (ws := m_cw P Y B TT HH z :: G) BB.pre
    have hE : m_env p s m args meth c (headSpec (m_cw P Y B TT HH z :: G) (m_rm d (m_c h' - m_c h) (m_s h' - m_s h))).room P cl D cA (va_A (m_ws P cA ad h) s.heap.size) tys G (Y z).cls (INI z) (m_nl P z) (B z) :=
      ⟨BB.exec, BB.bytes, hml, findClass_of_methodNamed BB.named, fun w hw => hts w (List.mem_cons_of_mem _ hw), hK, fun q hq => Or.inr hq, hAk, fun hi => (name_of_methodNamed BB.named BB.method).1.trans (k8 hi), Nat.le_add_left 8 d, Nat.le_add_left 200 (40 * d)⟩
    have hgo := ih _ _ _ _ _ _ he p e _ s m args below meth c (va_A (m_ws P cA ad h) s.heap.size) (m_n h, ad) (m_c h) (m_s h) 0 hE ⟨hXT, hXU, hX, had⟩ ⟨Nat.le_refl _, Nat.le_refl _⟩ BB.notSynchronized BB.returns htab (Nat.le_refl _) (Nat.le_refl _) (Nat.le_refl _) (Nat.le_refl _) k7
    have hW := hgo s.heap [] ad _ ⟨hP, hD.self, va_S.rf, hw, Nat.le_refl _, fun _ _ => rfl⟩ (m_entry hlen hin) (fun v hv => nomatch hv)
    rw [Nat.sub_self, Nat.sub_self] at hW
    rw [ha, lg_entry_eq]
    subst ha
    exact hW
  by_cases hh : m_hh P z = true
  · have hcw : m_cw P Y B TT HH z = Cond.codeWith (Y z) (B z) (m_nl P z) (TT z) (HH z) := by unfold m_cw; rw [if_pos hh]
    refine vx_ofWH (cc := B z) (maxL := m_nl P z) (ret := TT z) (hh := HH z) (ws' := G) k1 (by rw [hcw]) ?_
    intro p e s m args below meth c s₁ BB hml hv
    exact body p e s m args below meth c s₁ BB hml (vx_table (x := Y z) BB (by rw [← hcw]; exact atoms_spec (ws := m_cw P Y B TT HH z :: G) BB.pre _ List.mem_cons_self)) hv
  · have hcw : m_cw P Y B TT HH z = Cond.code (Y z) (B z) (m_nl P z) (TT z) := by unfold m_cw; rw [if_neg hh]
    refine vx_ofW (cc := B z) (maxL := m_nl P z) (ret := TT z) (ws' := G) k1 (by rw [hcw]) ?_
    intro p e s m args below meth c s₁ BB hml htab hv
    refine body p e s m args below meth c s₁ BB hml ?_ hv
    rw [(k9 (Bool.eq_false_iff.mpr hh)).1]
    cases ht : c.exceptionTable.toList with
    | nil => rfl
    | cons x t => exact (htab x (by rw [ht]; exact List.mem_cons_self)).elim
end MAIN
end
section
section MAIN2
variable {l : Launch} {P : m_P} {cl : List vw_C} {D : va_G} {cA : Nat → ClassId} {tys : List (ClassId × FieldType)} {G : List Cond} {XT : (Nat → Prop) → State → Heap → Prop} {xc : Nat → Nat} {AOL : List String × List (Nat × String)} {TL : List (String × Nat × Nat × Nat × String)} {NL : List (String × Nat × MethodName × String)} {Y : Nat → MethodName} {B : Nat → ByteArray} {TT : Nat → Option FieldType} {INI : Nat → Bool} {TGz : Nat → Nat → Prop} {NM : Nat} {HH : Nat → List (Nat × Nat × Nat × Nat)}
/-- a method's end -/
theorem m_end (S : m_stat l P cl G AOL TL NL tys cA Y B TT INI TGz NM HH XT xc) {z : Nat} {i : Instr} {is : List Instr} {ls : m_F} {st : List Value} {h : m_H} {v : Option Value} {p : Program} {e : Env} {R : Room} {s : State} {m : MethodId} {args : Array Value} {below : List Frame} {meth : Method} {c : Code} {A : Nat → Prop} {xa : Nat × (Nat → Nat)} {c0 s0 pc len : Nat} (E : m_env p s m args meth c R P cl D cA A tys G (Y z).cls (INI z) (m_nl P z) (B z)) (hlocks : meth.locks = false) (hr : meth.sig.returnType = TT z)
    (hq : m_st P z i is ls st h = some (.inr (.inr (.inl v)))) (hm : m_simA P cl G AOL TL NL tys cA Y B TT INI TGz NM HH z pc len i) (ht : m_ret (TT z) i ∨ ¬ (∃ t, m_ret t i)) :
    m_go p l e R s m args below meth c (vx_MQ below (m_Qc P cl D cA A xa (.inl v) h) (m_XC P cl D cA A xa (.inl v) h) args s (m_c h - c0) (m_s h - s0) A) P cl D cA A xa (m_nl P z) c0 s0 pc ls st h := by
  obtain ⟨hx, hb, -⟩ := E
  intro H locs ad la rel hl hs
  have hQ : ∀ (w : Option Value), v = w → (∀ u, w = some u → m_in (m_n h) u) → ∀ t : State, t.heap = H → s.WarmedH t.vm → m_Qc P cl D cA A xa (.inl v) h args s (.returned (w.map (m_cv ad))) t := by
    intro w hw hin t ht _
    subst hw
    exact ⟨v, ad, rfl, rfl, hin, by rw [ht]; exact rel.1, rel.2.1, rel.2.2.2.1, rel.2.2.2.2.1, rel.2.2.2.2.2, rel.2.2.1.F ht⟩
  have hf : ∀ q ∈ locs, A q.base := rel.2.2.1.2.2
  refine vx_ret ?_
  cases i
  case ireturn =>
    have hd : decode (B z) pc = .ok (.ireturn, 1) := by
      rcases hm with (hm | hm) | hm
      · exact hm.2
      · exact hm.elim
      · exact hm.1.elim
    have ht : TT z = some .int := ht.elim id (fun w => absurd ⟨some .int, rfl⟩ w)
    simp only [m_st] at hq
    split at hq
    · cases hq
      exact W.iret hx hb (hr.trans ht) (hQ _ rfl (fun u hu => by cases hu; trivial)) hf hd hlocks
    · cases hq
  case ret k =>
    have hd : decode (B z) pc = .ok (.ireturn, 1) := by
      rcases hm with (hm | hm) | hm
      · exact hm.2
      · exact hm.elim
      · exact hm.1.elim
    have ht : TT z = some .boolean := ht.elim id (fun w => absurd ⟨some .boolean, rfl⟩ w)
    simp only [m_st] at hq
    split at hq
    · split at hq
      · next w =>
        cases hq
        refine W.zret hx hb (hr.trans ht) ?_ (hQ _ rfl (fun u hu => by cases hu; trivial)) hf hd hlocks
        rcases w with rfl | rfl <;> rfl
      · cases hq
    · cases hq
  case areturn =>
    have hd : decode (B z) pc = .ok (.areturn, 1) := by
      rcases hm with (hm | hm) | hm
      · exact hm.2
      · exact hm.elim
      · exact hm.1.elim
    have ht : ∃ t, TT z = some t ∧ ((∃ n, t = .object n) ∨ ∃ u, t = .array u) := ht.elim id (fun w => absurd ⟨some (.object ""), ⟨_, rfl, Or.inl ⟨_, rfl⟩⟩⟩ w)
    obtain ⟨t, ht, ht2⟩ := ht
    simp only [m_st] at hq
    split at hq
    · cases hq
      exact W.aret hx hb (hr.trans ht) ht2 (Or.inr ⟨_, rfl⟩) (hQ _ rfl (fun u hu => by cases hu; exact g_hd hs)) hf hd hlocks
    · cases hq
      exact W.aret hx hb (hr.trans ht) ht2 (Or.inl rfl) (hQ _ rfl (fun u hu => by cases hu; trivial)) hf hd hlocks
    · cases hq
  case freturn =>
    have hd : decode (B z) pc = .ok (.freturn, 1) := by
      rcases hm with (hm | hm) | hm
      · exact hm.2
      · exact hm.elim
      · exact hm.1.elim
    have ht : TT z = some .float := ht.elim id (fun w => absurd ⟨some .float, rfl⟩ w)
    simp only [m_st] at hq
    split at hq
    · cases hq
      exact W.fret hx hb (hr.trans ht) (hQ _ rfl (fun u hu => by cases hu; trivial)) hf hd hlocks
    · cases hq
  case dreturn =>
    have hd : decode (B z) pc = .ok (.dreturn, 1) := by
      rcases hm with (hm | hm) | hm
      · exact hm.2
      · exact hm.elim
      · exact hm.1.elim
    have ht : TT z = some .double := ht.elim id (fun w => absurd ⟨some .double, rfl⟩ w)
    simp only [m_st] at hq
    split at hq
    · cases hq
      exact W.dret hx hb (hr.trans ht) (hQ _ rfl (fun u hu => by cases hu; trivial)) hf hd hlocks
    · cases hq
  case return_ =>
    have hd : decode (B z) pc = .ok (.return_, 1) := by
      rcases hm with (hm | hm) | hm
      · exact hm.2
      · exact hm.elim
      · exact hm.1.elim
    have ht : TT z = none := ht.elim id (fun w => absurd ⟨none, rfl⟩ w)
    simp only [m_st] at hq
    split at hq
    · cases hq
      exact W.vret hx hb (hr.trans ht) (hQ _ rfl (fun u hu => by cases hu)) hf hd hlocks
    · cases hq
  case newarray t =>
    exfalso
    cases t <;> simp only [m_st, m_nx] at hq <;> first | (cases hq; done) | ((repeat' split at hq) <;> (cases hq; done))
  all_goals
    exfalso
    simp only [m_st, m_nx] at hq
    first
      | (cases hq; done)
      | ((repeat' split at hq) <;> (cases hq; done))
/-- a throw -/
theorem m_thr (S : m_stat l P cl G AOL TL NL tys cA Y B TT INI TGz NM HH XT xc) {d z : Nat} {i : Instr} {is : List Instr} {ls : m_F} {st : List Value} {h : m_H} {x : Nat} {p : Program} {e : Env} {R : Room} {s : State} {m : MethodId} {args : Array Value} {below : List Frame} {meth : Method} {c : Code} {A : Nat → Prop} {xa : Nat × (Nat → Nat)} {c0 s0 pc len : Nat} (E : m_env p s m args meth c R P cl D cA A tys G (Y z).cls (INI z) (m_nl P z) (B z)) (X : m_ext s A xa XT P xc AOL TL NL) (hR : d + 8 ≤ R.frames ∧ 40 * d + 200 ≤ R.locals) (hlocks : meth.locks = false) (htab : c.exceptionTable.toList = tableOf (HH z)) (hhz : m_hh P z = false → HH z = []) (h0 : c0 ≤ m_c h) (h1 : s0 ≤ m_s h) (g0 : m_c (m_bump h) - c0 ≤ R.cells) (g1 : m_s (m_bump h) - s0 ≤ R.slots)
    (hq : m_st P z i is ls st h = some (.inr (.inr (.inr x)))) (hm : m_simA P cl G AOL TL NL tys cA Y B TT INI TGz NM HH z pc len i) :
    m_go p l e R s m args below meth c (vx_MQ below (m_Qc P cl D cA A xa (.inr x) (m_bump h)) (m_XC P cl D cA A xa (.inr x) (m_bump h)) args s (m_c (m_bump h) - c0) (m_s (m_bump h) - s0) A) P cl D cA A xa (m_nl P z) c0 s0 pc ls st h := by
  obtain ⟨hx, hb, hml, hown, hts, -⟩ := E
  intro H locs ad la rel hl hs
  cases i
  case invokedynamic k =>
    simp only [m_st] at hq
    split at hq
    · split at hq
      · next w =>
        cases hq
        rcases hm with (hm | hm) | hm
        · exact hm.elim
        · exact hm.elim
        · obtain ⟨⟨-, hx1, hnh, ik, is, ic, text, ht, l1, l2, l3, l4, l5, l6, l7, d0, d3, d4, d6, d9⟩, -⟩ := hm
          obtain ⟨-, -, ⟨z1, z2⟩, z3, -, ⟨z6, -⟩, -⟩ := X.2.1 _ _ _ X.2.2.1
          obtain ⟨sa, z4⟩ := z3 _ ht
          have z5 : ∀ w ∈ vx_atS (Y z).cls ic (m_en x) m_nms, w.before args s = true := vx_hat (fun w hw => hts _ (l6 w hw)) l7 (fun w hw => va_Nw.use (m_ng_all (Q := fun w => w.onTables = true) rfl (fun _ => rfl) w hw) (z6 _ hx1 w hw))
          have g0 : m_c h + 1 - c0 ≤ R.cells := g0
          have g1 : m_s h + 6 - s0 ≤ R.slots := g1
          have e0 : m_c (m_bump h) - c0 = m_c h - c0 + 1 := by show m_c h + 1 - c0 = _; omega
          have e1 : m_s (m_bump h) - s0 = m_s h - s0 + 6 := by show m_s h + 6 - s0 = _; omega
          have hfr : m_nms.length + 3 < R.frames := by have := hR.1; show 2 + 3 < _; omega
          have hlo : ((st.map (m_cv ad)).map fun v => v.category).sum + (13 * (m_nms.length + 1) + 43) ≤ R.locals := by have := hR.2; rw [m_cat_map]; show _ + (13 * (2 + 1) + 43) ≤ _; omega
          refine vx_throwS hx hb S.1 hown l3 l4 (hts _ l1) (hts _ l2) z4 z5 l5 z1 z2 rel.2.2.1 (hl.1.trans hml.symm) d0 d3 d4 d6 d9 (fun x hx => by rw [htab, hhz hnh] at hx; cases hx) hfr hlo (by omega) (by omega) hlocks ?_ rel.2.2.1.2.2 (by omega) (by omega)
          intro t ha hz hk
          exact ⟨_, ad, rfl, rfl, rel.1.kept (fun j q hj => hk q.1 ((rel.1 j q hj).lt)), rel.2.1, rel.2.2.2.1, rel.2.2.2.2.1, rel.2.2.2.2.2, Nat.le_trans rel.2.2.1.1 hz, fun q q1 q2 => (hk q (Nat.lt_of_lt_of_le q1 rel.2.2.1.1)).trans (rel.2.2.1.2.1 q q1 q2)⟩
      · cases hq
    · cases hq
  case newarray t =>
    exfalso
    cases t <;> simp only [m_st, m_nx] at hq <;> first | (cases hq; done) | ((repeat' split at hq) <;> (cases hq; done))
  all_goals
    exfalso
    simp only [m_st, m_nx] at hq
    first
      | (cases hq; done)
      | ((repeat' split at hq) <;> (cases hq; done))
end MAIN2
end
section
section MAIN3
variable {l : Launch} {P : m_P} {cl : List vw_C} {D : va_G} {cA : Nat → ClassId} {tys : List (ClassId × FieldType)} {G : List Cond} {XT : (Nat → Prop) → State → Heap → Prop} {xc : Nat → Nat} {AOL : List String × List (Nat × String)} {TL : List (String × Nat × Nat × Nat × String)} {NL : List (String × Nat × MethodName × String)} {Y : Nat → MethodName} {B : Nat → ByteArray} {TT : Nat → Option FieldType} {INI : Nat → Bool} {TGz : Nat → Nat → Prop} {NM : Nat} {HH : Nat → List (Nat × Nat × Nat × Nat)}
/-- a call of the small machine is one of the machine -/
theorem m_runs (S : m_stat l P cl G AOL TL NL tys cA Y B TT INI TGz NM HH XT xc) {d z zz : Nat} {i : Instr} {is : List Instr} {ls : m_F} {st as st' : List Value} {h : m_H} {p : Program} {e : Env} {R : Room} {s : State} {m : MethodId} {args : Array Value} {below : List Frame} {meth : Method} {c : Code} {A : Nat → Prop} {xa : Nat × (Nat → Nat)} {pc len cells slots mc ms : Nat} {H : Heap} {locs : List Loc} {ad : Nat → Nat} {la : Array Slot} {Qc : Array Value → State → Outcome → State → Prop} {XC : String → State → State → Prop} {free : Addr → Prop} (E : m_env p s m args meth c R P cl D cA A tys G (Y z).cls (INI z) (m_nl P z) (B z)) (X : m_ext s A xa XT P xc AOL TL NL) (hR : d + 1 + 8 ≤ R.frames ∧ 40 * (d + 1) + 200 ≤ R.locals) (rel : m_rel s P cl D cA A xa ad H locs h) (hl : m_lR ad (m_n h) ls la (m_nl P z))
    (hq : m_st P z i is ls st h = some (.inr (.inl (zz, as, st')))) (hm : m_simA P cl G AOL TL NL tys cA Y B TT INI TGz NM HH z pc len i) (hroom : cells + mc ≤ R.cells ∧ slots + ms ≤ R.slots) :
    zz < NM ∧ len = 3 ∧ st = as.reverse ++ st' ∧ (m_sl as).length ≤ m_nl P zz ∧ (vx_Met l (Y zz) (m_cw P Y B TT HH zz :: G) (m_rm d mc ms) (m_Pc P cl D cA tys XT ad h as H.size) Qc XC mc ms free → (m_isp i = true → ∀ E st t, ¬ XC E st t) →
      vx_Run p l e R s m args below meth c H locs cells slots mc ms (F0 m pc la (st.map (m_cv ad))) (st'.map (m_cv ad)) (Qc (as.map (m_cv ad)).toArray) XC free) := by
  obtain ⟨hx, hb, hml, hown, hts, hK, hA, -, -, -, -⟩ := E
  obtain ⟨-, hNM, hG, -, hXT, hXU, hM⟩ := S
  cases i
  case invokevirtual z1 =>
    simp only [m_st] at hq
    split at hq
    · next a as1 st1 hpop =>
      split at hq
      · next w =>
        cases hq
        obtain ⟨w1, w2, w3, w4⟩ := w
        obtain ⟨e1, e2⟩ := m_pop_eq hpop
        rcases hm with (hm | hm) | hm
        · exact hm.elim
        · exact hm.elim
        obtain ⟨⟨rfl, hzz, hnh, ix, l1, l2, l3, l4, ⟨r, r1, r2, r3⟩, hd⟩, -⟩ := hm
        have hcw : m_cw P Y B TT HH zz = Cond.code (Y zz) (B zz) (m_nl P zz) (TT zz) := by unfold m_cw; rw [hnh]; rfl
        obtain ⟨k1, k2, k3, k4, k5, -⟩ := hM _ hzz
        refine ⟨hzz, rfl, e1, w4, fun hC _ => ?_⟩
        rw [hcw] at hC k2
        have hpar : (parseMethodDescriptor (Y zz).desc).map (fun d => d.parameters.length) = some as1.length := by
          cases hpd : parseMethodDescriptor (Y zz).desc with
          | none => rw [hpd] at l4; cases l4
          | some md =>
            rw [hpd] at l4
            have l5 : md.parameters.length + 1 = m_na P zz := Option.some.inj l4
            simp only [Option.map_some, Option.some.injEq]
            simp only [List.length_cons] at e2
            omega
        have he := m_ws_at (P := P) (cA := cA) (ad := ad) w1
        rw [m_cell_obj w2 r3] at he
        have hcl := va_recv hK rel.1 r1 he
        rw [r2] at hcl
        refine vx_runV (C := (Y zz).cls) (b := ad a) (As := as1.map (m_cv ad)) (index := ix) ⟨hx, hb, hml, hown, hts⟩ hC (cwV as1.length hts (m_good hG k2 (fun w hw => ?_)) rfl rfl rfl ⟨rfl, k4.1, k4.2, hpar⟩ ⟨by have := hR.1; show d + 8 + 1 ≤ _; omega, by have := hR.2; show 8 + (m_nl P zz + 11) + (40 * d + 200) ≤ _; omega⟩) ⟨m_Pc_blind hXT, hcl, fun U hU hW => m_pre rel hA hK hXT X.2.2.1 U hU hW⟩ rfl (by simp) hl.1 ?_ (lv_room (by rw [m_cat_map]; exact w3)) hd hroom
        · rcases List.mem_cons.mp hw with rfl | hw
          · exact l1
          rcases List.mem_cons.mp hw with rfl | hw
          · exact l2
          rcases List.mem_cons.mp hw with rfl | hw
          · exact l3
          rcases List.mem_cons.mp hw with rfl | hw
          · exact k3
          · cases hw
        · show st.map (m_cv ad) = _
          rw [e1]
          simp [m_cv, List.map_reverse]
      · cases hq
    · cases hq
  case invokestatic z1 =>
    rcases hm with (hm | hm) | hm
    · exfalso
      obtain ⟨-, ix, hlib, -⟩ := hm
      rcases hlib with ⟨rfl, -⟩ | ⟨rfl, -⟩ | ⟨rfl, -⟩ <;> simp only [m_st, m_nx, ↓reduceIte, Nat.reduceEqDiff] at hq <;> (repeat' split at hq) <;> cases hq
    · exact hm.elim
    obtain ⟨⟨rfl, hzz, ix, l1, l2, l4, hd⟩, -⟩ := hm
    simp only [m_st] at hq
    rw [if_neg (by omega), if_neg (by omega), if_neg (by omega)] at hq
    split at hq
    · next as1 st1 hpop =>
      split at hq
      · next w =>
        cases hq
        obtain ⟨w3, w4⟩ := w
        obtain ⟨e1, e2⟩ := m_pop_eq hpop
        obtain ⟨k1, k2, k3, k4, k5, -⟩ := hM _ hzz
        refine ⟨hzz, rfl, e1, w4, fun hC _ => ?_⟩
        have hgd := m_good (ws := [.methodLink (Y z).cls ix (Y zz), .static (Y zz), .initialized (Y zz).cls]) hG k2 (fun w hw => by
          rcases List.mem_cons.mp hw with rfl | hw
          · exact l1
          rcases List.mem_cons.mp hw with rfl | hw
          · exact l2
          rcases List.mem_cons.mp hw with rfl | hw
          · exact k3
          · cases hw)
        have hrm : (m_rm d mc ms).frames + 1 ≤ R.frames ∧ 8 + (m_nl P zz + 11) + (m_rm d mc ms).locals ≤ R.locals := ⟨by have := hR.1; show d + 8 + 1 ≤ _; omega, by have := hR.2; show 8 + (m_nl P zz + 11) + (40 * d + 200) ≤ _; omega⟩
        have hstk : st.map (m_cv ad) = (as.map (m_cv ad)).reverse ++ st'.map (m_cv ad) := by
          rw [e1]
          simp [List.map_reverse]
        by_cases hh : m_hh P zz = true
        · have hcw : m_cw P Y B TT HH zz = Cond.codeWith (Y zz) (B zz) (m_nl P zz) (TT zz) (HH zz) := by unfold m_cw; rw [if_pos hh]
          rw [hcw] at hC hgd
          exact vx_runSX (As := as.map (m_cv ad)) (index := ix) ⟨hx, hb, hml, hown, hts⟩ hC (vx_cwSW as.length hts hgd rfl rfl rfl ⟨k4.1, k4.2, by rw [e2]; exact l4⟩ hrm) ⟨m_Pc_blind hXT, fun U hU hW => m_pre rel hA hK hXT X.2.2.1 U hU hW⟩ rfl (by simp) hl.1 hstk (lv_room (by rw [m_cat_map]; exact w3)) hd hroom
        · have hcw : m_cw P Y B TT HH zz = Cond.code (Y zz) (B zz) (m_nl P zz) (TT zz) := by unfold m_cw; rw [if_neg hh]
          rw [hcw] at hC hgd
          exact vx_runS (As := as.map (m_cv ad)) (index := ix) ⟨hx, hb, hml, hown, hts⟩ hC (va_cwS as.length hts hgd rfl rfl rfl ⟨k4.1, k4.2, by rw [e2]; exact l4⟩ hrm) ⟨m_Pc_blind hXT, fun U hU hW => m_pre rel hA hK hXT X.2.2.1 U hU hW⟩ rfl (by simp) hl.1 hstk (lv_room (by rw [m_cat_map]; exact w3)) hd hroom
      · cases hq
    · cases hq
  case invokespecial z1 =>
    rcases hm with (hm | hm) | hm
    · exfalso
      obtain ⟨-, rfl, -⟩ := hm
      simp only [m_st, m_nx, ↓reduceIte] at hq
      (repeat' split at hq) <;> cases hq
    · exact hm.elim
    obtain ⟨⟨rfl, hzz, hnh, hini, htt, ix, l1, l2, l4, hd⟩, -⟩ := hm
    have hcw : m_cw P Y B TT HH z1 = Cond.code (Y z1) (B z1) (m_nl P z1) (TT z1) := by unfold m_cw; rw [hnh]; rfl
    simp only [m_st] at hq
    rw [if_neg (by omega)] at hq
    split at hq
    · next a as1 st1 hpop =>
      split at hq
      · next w =>
        cases hq
        obtain ⟨w1, w2, w3, w4⟩ := w
        obtain ⟨e1, e2⟩ := m_pop_eq hpop
        obtain ⟨k1, k2, k3, k4, k5, k6, k7, k8, -⟩ := hM _ hzz
        refine ⟨hzz, rfl, e1, w4, fun hC hno => ?_⟩
        have hC := m_met hC (hno rfl)
        rw [hcw, htt] at hC k2
        have hpar : (parseMethodDescriptor (Y zz).desc).map (fun d => d.parameters.length) = some as1.length := by
          cases hpd : parseMethodDescriptor (Y zz).desc with
          | none => rw [hpd] at l4; cases l4
          | some md =>
            rw [hpd] at l4
            have l5 : md.parameters.length + 1 = m_na P zz := Option.some.inj l4
            simp only [Option.map_some, Option.some.injEq]
            simp only [List.length_cons] at e2
            omega
        have hgood : GoodIn G (Cond.code (Y zz) (B zz) (m_nl P zz) none :: G) := m_good (ws := []) hG k2 (fun w hw => nomatch hw)
        have hrm : (m_rm d mc ms).frames + 1 ≤ R.frames ∧ 8 + (m_nl P zz + 11) + (m_rm d mc ms).locals ≤ R.locals := ⟨by have := hR.1; show d + 8 + 1 ≤ _; omega, by have := hR.2; show 8 + (m_nl P zz + 11) + (40 * d + 200) ≤ _; omega⟩
        have hstk : st.map (m_cv ad) = (as1.map (m_cv ad)).reverse ++ Value.ref (ad a) :: st'.map (m_cv ad) := by
          rw [e1]
          simp [m_cv, List.map_reverse]
        have hpre : PreS s H (m_Pc P cl D cA tys XT ad h (.ref a :: as1) H.size) (.ref (ad a) :: as1.map (m_cv ad)) := ⟨m_Pc_blind hXT, fun U hU hW => m_pre rel hA hK hXT X.2.2.1 U hU hW⟩
        have conv : va_Run p l e R s m args below meth c H locs cells slots mc ms (F0 m pc la (st.map (m_cv ad))) (st'.map (m_cv ad)) (Qc (Value.ref (ad a) :: as1.map (m_cv ad)).toArray) free → vx_Run p l e R s m args below meth c H locs cells slots mc ms (F0 m pc la (st.map (m_cv ad))) (st'.map (m_cv ad)) (Qc ((Value.ref a :: as1).map (m_cv ad)).toArray) XC free := fun hv T hT Z => Or.inl (hv T hT Z)
        rcases l1 with l1 | ⟨host, l1⟩
        · exact conv (va_runI (index := ix) ⟨hx, hb, hml, hown, hts⟩ hC (cwI as1.length hts hgood rfl rfl rfl (hts _ k3) (hts _ l1) (hts _ l2) (k8 hini) ⟨k4.1, k4.2, hpar⟩ hrm) hpre rfl (by simp) hl.1 hstk (lv_room (by rw [m_cat_map]; exact w3)) hd hroom)
        · have hnl := (X.2.1 _ _ _ X.2.2.1).2.2.2.2.1 _ l1
          exact conv (va_runIN (index := ix) ⟨hx, hb, hml, hown, hts⟩ hC ⟨va_cnB as1.length hts hgood rfl rfl rfl hnl (hts _ k3) ⟨k4.1, k4.2, hpar⟩ hrm, k8 hini, hts _ l2⟩ hpre rfl (by simp) hl.1 hstk (lv_room (by rw [m_cat_map]; exact w3)) hd hroom)
      · cases hq
    · cases hq
  case newarray t =>
    exfalso
    cases t <;> simp only [m_st, m_nx] at hq <;> first | (cases hq; done) | ((repeat' split at hq) <;> (cases hq; done))
  all_goals
    exfalso
    simp only [m_st, m_nx] at hq
    first
      | (cases hq; done)
      | ((repeat' split at hq) <;> (cases hq; done))
end MAIN3
end
section
section MAIN4
variable {l : Launch} {P : m_P} {cl : List vw_C} {D : va_G} {cA : Nat → ClassId} {tys : List (ClassId × FieldType)} {G : List Cond} {XT : (Nat → Prop) → State → Heap → Prop} {xc : Nat → Nat} {AOL : List String × List (Nat × String)} {TL : List (String × Nat × Nat × Nat × String)} {NL : List (String × Nat × MethodName × String)} {Y : Nat → MethodName} {B : Nat → ByteArray} {TT : Nat → Option FieldType} {INI : Nat → Bool} {TGz : Nat → Nat → Prop} {NM : Nat} {HH : Nat → List (Nat × Nat × Nat × Nat)}
set_option maxHeartbeats 4000000 in
/-- THE RUNS OF THE SMALL MACHINE ARE THE MACHINE'S -/
theorem m_main (S : m_stat l P cl G AOL TL NL tys cA Y B TT INI TGz NM HH XT xc) : ∀ (n d z : Nat) (is : List Instr) (ls : m_F) (st : List Value) (h : m_H) (o : Option Value ⊕ Nat) (h' : m_H), z < NM → m_ex P n d z is ls st h = some (o, h') → ∀ (p : Program) (e : Env) (R : Room) (s : State) (m : MethodId) (args : Array Value) (below : List Frame) (meth : Method) (c : Code) (A : Nat → Prop) (xa : Nat × (Nat → Nat)) (c0 s0 pc : Nat), m_env p s m args meth c R P cl D cA A tys G (Y z).cls (INI z) (m_nl P z) (B z) → m_ext s A xa XT P xc AOL TL NL → d + 8 ≤ R.frames ∧ 40 * d + 200 ≤ R.locals → meth.locks = false → meth.sig.returnType = TT z → c.exceptionTable.toList = tableOf (HH z) → c0 ≤ m_c h → s0 ≤ m_s h → m_c h' - c0 ≤ R.cells → m_s h' - s0 ≤ R.slots → m_at P cl G AOL TL NL tys cA Y B TT INI TGz NM HH z is pc → m_go p l e R s m args below meth c (vx_MQ below (m_Qc P cl D cA A xa o h') (m_XC P cl D cA A xa o h') args s (m_c h' - c0) (m_s h' - s0) A) P cl D cA A xa (m_nl P z) c0 s0 pc ls st h := by
  intro n
  induction n with
  | zero =>
    intro d z is ls st h o h' hz he
    simp [m_ex] at he
  | succ n ih =>
    intro d z is ls st h o h' hz he p e R s m args below meth c A xa c0 s0 pc E X hR hlocks hr htab h0 h1 g0 g1 hat
    obtain ⟨-, hNM, hG, -, hXT, hXU, hM⟩ := id S
    cases is with
    | nil => simp [m_ex] at he
    | cons i is =>
      obtain ⟨len, hm, hret, hrest⟩ := hat
      rw [m_ex] at he
      split at he
      · cases he
      · next q hq =>
        have mono := m_st_mono hq
        have mono2 := m_ex_mono _ _ _ _ _ _ _ _ _ he
        refine m_step1 (AT := fun pc is => m_at P cl G AOL TL NL tys cA Y B TT INI TGz NM HH z is pc) (TG := TGz z) (len := len) E X h0 h1 (by omega) (by omega) hq ?_ (hM z hz).2.2.2.2.2.1 hrest (fun pc' hat' => ih d z _ _ _ _ _ _ hz he p e R s m args below meth c A xa c0 s0 pc' E X hR hlocks hr htab (by omega) (by omega) g0 g1 hat')
        rcases hm with hm | hm
        · exact hm
        · exfalso
          cases i
          case invokevirtual zz =>
            simp only [m_st] at hq
            (repeat' split at hq) <;> cases hq
          case invokestatic zz =>
            obtain ⟨⟨-, hzz, -⟩, -⟩ := hm
            simp only [m_st] at hq
            rw [if_neg (by omega), if_neg (by omega), if_neg (by omega)] at hq
            (repeat' split at hq) <;> cases hq
          case invokespecial zz =>
            obtain ⟨⟨-, hzz, -⟩, -⟩ := hm
            simp only [m_st] at hq
            rw [if_neg (by omega)] at hq
            (repeat' split at hq) <;> cases hq
          case invokedynamic zz =>
            simp only [m_st] at hq
            (repeat' split at hq) <;> cases hq
          all_goals exact hm.1
      · next q hq =>
        obtain ⟨zz, as, st'⟩ := q
        cases d with
        | zero => simp at he
        | succ d =>
          simp only at he
          split at he
          · cases he
          · next v g hg =>
            have mono1 := m_ex_mono _ _ _ _ _ _ _ _ _ hg
            have mono2 := m_ex_mono _ _ _ _ _ _ _ _ _ he
            intro H locs ad la rel hl hs
            have hA := E.2.2.2.2.2.2.1
            obtain ⟨hzz, hlen, hst, hsl, hrun⟩ := m_runs (d := d) (cells := m_c h - c0) (slots := m_s h - s0) (mc := m_c g - m_c h) (ms := m_s g - m_s h) (below := below) (Qc := m_Qc P cl D cA (va_A (m_ws P cA ad h) H.size) (m_n h, ad) (.inl v) g) (XC := m_XC P cl D cA (va_A (m_ws P cA ad h) H.size) (m_n h, ad) (.inl v) g) (free := va_A (m_ws P cA ad h) H.size) (e := e) (locs := locs) S E X hR rel hl hq hm ⟨by omega, by omega⟩
            have hin : ∀ w ∈ as, m_in (m_n h) w := fun w hw => hs w (by rw [hst]; exact List.mem_append_left _ (List.mem_reverse.mpr hw))
            have had : ∀ j, m_X ≤ j → ad j = xc j := fun j hj => (rel.2.2.2.2.2 j (Or.inr hj)).trans (X.2.2.2 j hj)
            have hC := m_contract S hzz (fun is ls st h o h' he => ih d zz is ls st h o h' hzz he) hg hsl ad H.size rel.2.2.2.1 hin had
            have hrun := hrun hC (fun _ _ _ _ hx => by obtain ⟨x, ad', ho, -⟩ := hx; cases ho)
            subst hlen
            refine m_call rel hA hl (st := st') (fun w hw => hs w (by rw [hst]; exact List.mem_append_right _ hw)) h0 h1 mono1.1 mono1.2 hrun (fun w hw => ?_) (fun x hx => by cases hx)
            cases hw
            exact ih (d + 1) z _ _ _ _ _ _ hz he p e R s m args below meth c A xa c0 s0 (pc + 3) E X hR hlocks hr htab (by omega) (by omega) g0 g1 hrest
          · next x g hg =>
            split at he
            · cases he
            · next hisp =>
              have mono1 := m_ex_mono _ _ _ _ _ _ _ _ _ hg
              have hA := E.2.2.2.2.2.2.1
              obtain ⟨-, -, -, -, -, -, -, -, k9, k10⟩ := hM z hz
              split at he
              · split at he
                · cases he
                · next hnh =>
                  cases he
                  intro H locs ad la rel hl hs
                  obtain ⟨hzz, hlen, hst, hsl, hrun⟩ := m_runs (d := d) (cells := m_c h - c0) (slots := m_s h - s0) (mc := m_c h' - m_c h) (ms := m_s h' - m_s h) (below := below) (Qc := m_Qc P cl D cA (va_A (m_ws P cA ad h) H.size) (m_n h, ad) (.inr x) h') (XC := m_XC P cl D cA (va_A (m_ws P cA ad h) H.size) (m_n h, ad) (.inr x) h') (free := va_A (m_ws P cA ad h) H.size) (e := e) (locs := locs) S E X hR rel hl hq hm ⟨by omega, by omega⟩
                  have hin : ∀ w ∈ as, m_in (m_n h) w := fun w hw => hs w (by rw [hst]; exact List.mem_append_left _ (List.mem_reverse.mpr hw))
                  have had : ∀ j, m_X ≤ j → ad j = xc j := fun j hj => (rel.2.2.2.2.2 j (Or.inr hj)).trans (X.2.2.2 j hj)
                  have hC := m_contract S hzz (fun is ls st h o h' he => ih d zz is ls st h o h' hzz he) hg hsl ad H.size rel.2.2.2.1 hin had
                  have hrun := hrun hC (fun hi => absurd hi hisp)
                  refine m_call rel hA hl (st := st') (fun w hw => hs w (by rw [hst]; exact List.mem_append_right _ hw)) h0 h1 mono1.1 mono1.2 hrun (fun w hw => by cases hw) (fun y hy H1 locs1 ad' q ce rel' hl' hce hcv hcl => ?_)
                  cases hy
                  refine vx_out (fun x hx => by rw [htab, (k9 (Bool.eq_false_iff.mpr hnh)).1] at hx; cases hx) hlocks hce hcv hcl (fun t ht ha => ?_) rel'.2.2.1.2.2 (Nat.le_refl _) (Nat.le_refl _)
                  exact ⟨x, ad', rfl, rfl, by rw [ht]; exact rel'.1, rel'.2.1, rel'.2.2.2.1, rel'.2.2.2.2.1, rel'.2.2.2.2.2, rel'.2.2.1.F ht⟩
              · next r hhd =>
                have hok : m_ok1 ls r.1 = true := by
                  by_cases w : m_ok1 ls r.1 = true
                  · exact w
                  · rw [if_neg w] at he
                    cases he
                rw [if_pos hok] at he
                have mono2 := m_ex_mono _ _ _ _ _ _ _ _ _ he
                have hhh : m_hh P z = true := by
                  cases hb : m_hh P z with
                  | true => rfl
                  | false => rw [(k9 hb).2 x] at hhd; cases hhd
                have hcov : m_cov P G Y B HH z pc i := by
                  rcases hm with (hm | hm) | hm
                  · exfalso
                    cases i
                    case invokestatic zz =>
                      obtain ⟨-, ix, hlib, -⟩ := hm
                      rcases hlib with ⟨rfl, -⟩ | ⟨rfl, -⟩ | ⟨rfl, -⟩ <;> simp only [m_st, m_nx, ↓reduceIte, Nat.reduceEqDiff] at hq <;> (repeat' split at hq) <;> cases hq
                    case invokespecial zz =>
                      obtain ⟨-, rfl, -⟩ := hm
                      simp only [m_st, m_nx, ↓reduceIte] at hq
                      (repeat' split at hq) <;> cases hq
                    case newarray t =>
                      cases t <;> simp only [m_st, m_nx] at hq <;> first | (cases hq; done) | ((repeat' split at hq) <;> (cases hq; done))
                    all_goals first
                      | exact hm.elim
                      | (simp only [m_st, m_nx] at hq; first | (cases hq; done) | ((repeat' split at hq) <;> (cases hq; done)))
                  · exfalso
                    cases i
                    all_goals first
                      | exact hm.elim
                      | (simp only [m_st, m_nx] at hq; first | (cases hq; done) | ((repeat' split at hq) <;> (cases hq; done)))
                  · exact hm.2
                obtain ⟨hx1, hrl, pre, x0, suf, c1, c2, c3, c4, c5, c6⟩ := hcov hhh x r hhd
                obtain ⟨-, -, -, -, -, ⟨hcst, hncs⟩, -⟩ := X.2.1 _ _ _ X.2.2.1
                obtain ⟨ex, eb, eml, eown, ets, -⟩ := id E
                intro H locs ad la rel hl hs
                obtain ⟨hzz, hlen, hst, hsl, hrun⟩ := m_runs (d := d) (cells := m_c h - c0) (slots := m_s h - s0) (mc := m_c g - m_c h) (ms := m_s g - m_s h) (below := below) (Qc := m_Qc P cl D cA (va_A (m_ws P cA ad h) H.size) (m_n h, ad) (.inr x) g) (XC := m_XC P cl D cA (va_A (m_ws P cA ad h) H.size) (m_n h, ad) (.inr x) g) (free := va_A (m_ws P cA ad h) H.size) (e := e) (locs := locs) S E X hR rel hl hq hm ⟨by omega, by omega⟩
                have hin : ∀ w ∈ as, m_in (m_n h) w := fun w hw => hs w (by rw [hst]; exact List.mem_append_left _ (List.mem_reverse.mpr hw))
                have had : ∀ j, m_X ≤ j → ad j = xc j := fun j hj => (rel.2.2.2.2.2 j (Or.inr hj)).trans (X.2.2.2 j hj)
                have hC := m_contract S hzz (fun is ls st h o h' he => ih d zz is ls st h o h' hzz he) hg hsl ad H.size rel.2.2.2.1 hin had
                have hrun := hrun hC (fun hi => absurd hi hisp)
                refine m_call rel hA hl (st := st') (fun w hw => hs w (by rw [hst]; exact List.mem_append_right _ hw)) h0 h1 mono1.1 mono1.2 hrun (fun w hw => by cases hw) (fun y hy H1 locs1 ad' q ce rel' hl' hce hcv hcl => ?_)
                cases hy
                have hgo := fun la' (hla : m_lR ad' (m_n g) (ls.set r.1 none) la' (m_nl P z)) => ih (d + 1) z _ _ _ _ _ _ hz he p e R s m args below meth c A xa c0 s0 r.2 E X hR hlocks hr htab (by omega) (by omega) g0 g1 (k10 x r hhd) H1 locs1 ad' la' rel' hla (fun v hv => nomatch hv)
                refine vx_catch eown pre x0 suf (htab.trans c1) (fun y hy => ?_) c3 c4 (ets _ c5) (va_Nw.use rfl (hcst x hx1 _ List.mem_cons_self)) hce hcv hcl ?_
                · rcases c2 y hy with w | ⟨rfl, w2, w3⟩
                  · exact Or.inl w
                  · exact Or.inr ⟨w2, _, ets _ w3, hncs⟩
                · have hset : ∀ la', lv_has la' (m_nl P z) ((r.1, Value.ref q) :: (m_ll ad' ls).filter (fun q => !(q.1 == r.1) && !(q.1 + 1 == r.1 && q.2.category == 2))) → m_lR ad' (m_n g) (ls.set r.1 none) la' (m_nl P z) := by
                    intro la' hla
                    exact m_lR_stN hl' hok hla
                  rcases c6 with ⟨j, j1, j2, j3⟩ | ⟨j2, j3⟩
                  · rw [j3] at hgo
                    exact lv_astore_n ex eb j2 j1 (m_lR_has hl') hrl rfl (fun la' hla => hgo la' (hset la' hla))
                  · rw [j3] at hgo
                    exact lv_astore ex eb j2 (m_lR_has hl') hrl rfl (fun la' hla => hgo la' (hset la' hla))
      · next v hq =>
        cases he
        exact m_end S E hlocks hr hq hm hret
      · next x hq =>
        cases he
        exact m_thr (d := d) S E X hR hlocks htab (fun w => ((hM z hz).2.2.2.2.2.2.2.2.1 w).1) h0 h1 g0 g1 hq hm
end MAIN4
end
section
/-! A PROGRAM THAT LOOKS WHETHER THE SMALL CODE IS THE MACHINE'S: by instructions, and by a table of what the pool's entries are -/
def m_one (i : Instr) : Bool := match i with
  | .aconst_null => true
  | .iadd => true
  | .isub => true
  | .imul => true
  | .iand => true
  | .ior => true
  | .ishr => true
  | .idiv => true
  | .irem => true
  | .i2b => true
  | .i2l => true
  | .i2d => true
  | .i2f => true
  | .ladd => true
  | .lsub => true
  | .lmul => true
  | .lcmp => true
  | .ddiv => true
  | .fdiv => true
  | .f2d => true
  | .d2f => true
  | .dup => true
  | .pop => true
  | .dup2 => true
  | .iaload => true
  | .baload => true
  | .laload => true
  | .daload => true
  | .iastore => true
  | .bastore => true
  | .lastore => true
  | .dastore => true
  | .ireturn => true
  | .areturn => true
  | .freturn => true
  | .dreturn => true
  | .return_ => true
  | _ => false
/-- what an entry of the pool is: field (class*64+field, final); method; new class; row; constants; a constant object; a throw's two -/
def m_lkok (P : m_P) (cl : List vw_C) (G : List Cond) (AOL : List String × List (Nat × String)) (TL : List (String × Nat × Nat × Nat × String)) (NL : List (String × Nat × MethodName × String)) (tys : List (ClassId × FieldType)) (cA : Nat → ClassId) (Y : Nat → MethodName) (TT : Nat → Option FieldType) (INI : Nat → Bool) (NM : Nat) (own : String) (ix : Nat) (q : Nat × Nat × Nat) : Prop := match q.1 with
  | 0 => ∃ (C : String) (T : u_T), m_cok P cl G (q.2.1 / 64) C T ∧ Cond.fieldLink own ix (T (q.2.1 % 64)).1 (T (q.2.1 % 64)).2.1 (T (q.2.1 % 64)).2.2.1 ∈ G ∧ ((q.2.2 = 0 ∧ (T (q.2.1 % 64)).2.2.2 = false) ∨ (q.2.2 = 1 ∧ (T (q.2.1 % 64)).2.2.2 = true ∧ (T (q.2.1 % 64)).1 = own) ∨ q.2.2 = 2)
  | 1 => q.2.1 < NM ∧ m_hh P q.2.1 = false ∧ Cond.methodLink own ix (Y q.2.1) ∈ G ∧ Cond.instanceMethod (Y q.2.1) ∈ G ∧ Cond.selects (Y q.2.1).cls (Y q.2.1) (Y q.2.1) ∈ G ∧ (parseMethodDescriptor (Y q.2.1).desc).map (fun d => d.parameters.length + 1) = some (m_na P q.2.1) ∧ (∃ r : vw_C, cl[m_rc P q.2.1]? = some r ∧ r.1 = (Y q.2.1).cls ∧ m_rc P q.2.1 < 100)
  | 2 => q.2.1 < NM ∧ Cond.methodLink own ix (Y q.2.1) ∈ G ∧ Cond.static (Y q.2.1) ∈ G ∧ (parseMethodDescriptor (Y q.2.1).desc).map (fun d => d.parameters.length) = some (m_na P q.2.1)
  | 3 => q.2.1 < NM ∧ m_hh P q.2.1 = false ∧ INI q.2.1 = true ∧ TT q.2.1 = none ∧ (Cond.methodLink own ix (Y q.2.1) ∈ G ∨ ∃ host, (own, ix, Y q.2.1, host) ∈ NL) ∧ Cond.instanceMethod (Y q.2.1) ∈ G ∧ (parseMethodDescriptor (Y q.2.1).desc).map (fun d => d.parameters.length + 1) = some (m_na P q.2.1)
  | 4 => m_lib G own ix q.2.1
  | 5 => Cond.methodLink own ix Lib.objectInit ∈ G ∧ Cond.instanceMethod Lib.objectInit ∈ G ∧ Cond.code Lib.objectInit ⟨#[0xb1]⟩ 1 none ∈ G
  | 6 => (∃ (C : String) (T : u_T), m_cok P cl G q.2.1 C T ∧ Cond.classLink own ix C ∈ G ∧ Cond.instantiable C (m_nf P q.2.1) ∈ G ∧ Cond.initialized C ∈ G) ∧ (q.2.2 = 7 → ∃ (C : String), C ∈ AOL.1 ∧ m_aok tys cA (200 + q.2.1) (.object C) ∧ Cond.classLink own ix C ∈ G)
  | 7 => ∃ (C : String), C ∈ AOL.1 ∧ m_aok tys cA (200 + q.2.1) (.object C) ∧ Cond.classLink own ix C ∈ G
  | 8 => Jvm.Cond.constant own ix (Int32.ofNat q.2.1) ∈ G
  | 9 => Jvm.Cond.constantLong own ix (Int64.ofNat q.2.1) ∈ G
  | 10 => m_X ≤ q.2.1 ∧ ∃ nm : String, (q.2.1, nm) ∈ AOL.2 ∧ Cond.fieldLink own ix "DriverHost$Word" nm "LDriverHost$Word;" ∈ G
  | 11 => q.2.1 ≤ 1 ∧ Cond.classLink own ix (m_en q.2.1) ∈ G ∧ Cond.initialized (m_en q.2.1) ∈ G ∧ Bundle.fit (m_en q.2.1) = true ∧ (∀ n ∈ m_nms, Bundle.fit n = true) ∧ vx_ot (Cond.classLink own ix (m_en q.2.1)) = true ∧ vx_ot (Cond.initialized (m_en q.2.1)) = true
  | 13 => ∃ text, (own, ix, 0, 0, text) ∈ TL
  | 12 => (∀ w ∈ vx_atS own ix (m_en q.2.1) m_nms, vx_ot w = true) ∧ (∀ w ∈ (vx_atS own ix (m_en q.2.1) m_nms).filter goodWord, w ∈ G) ∧ (∀ w ∈ (vx_atS own ix (m_en q.2.1) m_nms).filter (fun w => !goodWord w), w ∈ m_ng q.2.1)
  | _ => False
def m_ckI (lk : Nat → Option (Nat × Nat × Nat)) (ini : Bool) (tg ra : Nat → Bool) (pc : Nat) (r : Instr) (n : Nat) (i : Instr) : Bool :=
  if m_one i = true then decide (r = i) && decide (n = 1) else match i with
  | .nop => true
  | .ret _ => decide (r = .ireturn) && decide (n = 1)
  | .dcmp op => decide (r = .dcmp op) && decide (n = 1)
  | .fcmp op => decide (r = .fcmp op) && decide (n = 1)
  | .fconst k => decide (k = 0) && (decide (r = .fconst 0) && decide (n = 1))
  | .dconst k => ((decide (k = 0) && decide (r = .dconst 0)) || (decide (k = 1) && decide (r = .dconst 1))) && decide (n = 1)
  | .iconst v => match r with
    | .iconst k => decide (Int32.ofInt k = Int32.ofInt v) && decide (n = 1)
    | .bipush k => decide ((Int8.ofInt k).toInt32 = Int32.ofInt v) && decide (n = 2)
    | .sipush k => decide ((Int16.ofInt k).toInt32 = Int32.ofInt v) && decide (n = 3)
    | .ldc ix => (match lk ix with | some (8, a, _) => decide (Int32.ofNat a = Int32.ofInt v) | _ => false) && decide (n = 2)
    | .ldc_w ix => (match lk ix with | some (8, a, _) => decide (Int32.ofNat a = Int32.ofInt v) | _ => false) && decide (n = 3)
    | _ => false
  | .ldc2_w v => match r with
    | .lconst k => decide (Int64.ofNat (k : Nat) = Int64.ofNat v) && decide (n = 1)
    | .ldc2_w ix => (match lk ix with | some (9, a, _) => decide (Int64.ofNat a = Int64.ofNat v) | _ => false) && decide (n = 3)
    | _ => false
  | .iload k => match r with
    | .iload j => decide (j = k) && decide (n = 2)
    | .iload_n j => decide ((j : Nat) = k) && decide (n = 1)
    | _ => false
  | .lload k => match r with
    | .lload j => decide (j = k) && decide (n = 2)
    | .lload_n j => decide ((j : Nat) = k) && decide (n = 1)
    | _ => false
  | .aload k => match r with
    | .aload j => decide (j = k) && decide (n = 2)
    | .aload_n j => decide ((j : Nat) = k) && decide (n = 1)
    | _ => false
  | .istore k => match r with
    | .istore j => decide (j = k) && decide (n = 2)
    | .istore_n j => decide ((j : Nat) = k) && decide (n = 1)
    | _ => false
  | .astore k => match r with
    | .astore j => decide (j = k) && decide (n = 2)
    | .astore_n j => decide ((j : Nat) = k) && decide (n = 1)
    | _ => false
  | .fload k => decide (r = .fload k) && decide (n = 2)
  | .dload k => decide (r = .dload k) && decide (n = 2)
  | .fstore k => decide (r = .fstore k) && decide (n = 2)
  | .dstore k => decide (r = .dstore k) && decide (n = 2)
  | .iinc k v => decide (r = .iinc k v) && decide (n = 3)
  | .goto t => match r with
    | .goto off => decide ((pc : Int) + off = (t.toNat : Int)) && tg t.toNat && decide (n = 3)
    | _ => false
  | .ifnull t => match r with
    | .ifnull off => decide ((pc : Int) + off = (t.toNat : Int)) && tg t.toNat && decide (n = 3)
    | _ => false
  | .ifnonnull t => match r with
    | .ifnonnull off => decide ((pc : Int) + off = (t.toNat : Int)) && tg t.toNat && decide (n = 3)
    | _ => false
  | .ifCond z t => match r with
    | .ifCond y off => decide (y = z) && decide ((pc : Int) + off = (t.toNat : Int)) && tg t.toNat && decide (n = 3)
    | _ => false
  | .if_icmp z t => match r with
    | .if_icmp y off => decide (y = z) && decide ((pc : Int) + off = (t.toNat : Int)) && tg t.toNat && decide (n = 3)
    | _ => false
  | .tableswitch d lo hi ts => match r with
    | .tableswitch dflt lo' hi' offs => decide (lo' = lo) && decide (hi' = hi) && decide ((pc : Int) + dflt = (d.toNat : Int)) && tg d.toNat && decide (offs.size = ts.size) && (List.range ts.size).all (fun k => match ts[k]?, offs[k]? with | some t, some off => decide ((pc : Int) + off = (t.toNat : Int)) && tg t.toNat | _, _ => false)
    | _ => false
  | .getfield x => match r with
    | .getfield ix => (match lk ix with | some (0, a, _) => decide (a = x) | _ => false) && decide (n = 3)
    | _ => false
  | .putfield x => match r with
    | .putfield ix => (match lk ix with | some (0, a, f) => decide (a = x) && (decide (f = 0) || (ini && decide (f = 1))) | _ => false) && decide (n = 3)
    | _ => false
  | .newarray t => decide (r = .newarray t) && decide (n = 2) && (decide (t = .int) || decide (t = .byte) || decide (t = .long) || decide (t = .double))
  | .new ci => match r with
    | .new ix => (match lk ix with | some (6, a, _) => decide (a = ci) | _ => false) && decide (n = 3)
    | _ => false
  | .anewarray ci => match r with
    | .anewarray ix => (match lk ix with | some (6, a, 7) => decide (a = ci) | some (7, a, _) => decide (a = ci) | _ => false) && decide (n = 3)
    | _ => false
  | .getstatic k => match r with
    | .getstatic ix => (match lk ix with | some (10, a, _) => decide (a = k) | _ => false) && decide (n = 3)
    | _ => false
  | .invokevirtual z => match r with
    | .invokevirtual ix => (match lk ix with | some (1, a, _) => decide (a = z) | _ => false) && decide (n = 3)
    | _ => false
  | .invokestatic z => match r with
    | .invokestatic ix => (match lk ix with | some (2, a, _) => decide (a = z) | some (4, a, _) => decide (a = z) | _ => false) && decide (n = 3)
    | _ => false
  | .invokespecial z => match r with
    | .invokespecial ix => (match lk ix with | some (3, a, _) => decide (a = z) | some (5, _, _) => decide (z = 9000) | _ => false) && decide (n = 3)
    | _ => false
  | .ldc_w z => decide (r = .arraylength) && decide (n = 1) && (decide (z = 100) || decide (z = 101) || decide (z = 102) || decide (z = 103) || (decide (200 ≤ z) && ra (z - 200)))
  | .checkcast ci => decide (r = .aaload) && decide (n = 1) && ra ci
  | .instanceof ci => decide (r = .aastore) && decide (n = 1) && ra ci
  | _ => false
/-- the length of the instruction at pc, if it is the one of the small machine; 0: it isn't -/
def m_ck (lk : Nat → Option (Nat × Nat × Nat)) (ini hh : Bool) (tg : Nat → Bool) (ra : Nat → Bool) (cc : ByteArray) (pc : Nat) (i : Instr) : Nat :=
  match i with
  | .invokedynamic x => match decode cc pc, decode cc (pc + 3), decode cc (pc + 4), decode cc (pc + 6), decode cc (pc + 9) with
    | .ok (.new ik, 3), .ok (.dup, 1), .ok (.ldc is, 2), .ok (.invokespecial ic, 3), .ok (.athrow, 1) => match lk ik, lk is, lk ic with
      | some (11, a, _), some (13, _, _), some (12, b, _) => if a = x ∧ b = x ∧ hh = false then 10 else 0
      | _, _, _ => 0
    | _, _, _, _, _ => 0
  | i => match decode cc pc with
    | .ok (r, n) => if m_ckI lk ini tg ra pc r n i = true then n else 0
    | .error _ => 0
def m_rck (tt : Option FieldType) (i : Instr) : Bool := match i with
  | .ireturn => decide (tt = some .int)
  | .ret _ => decide (tt = some .boolean)
  | .areturn => match tt with
    | some (.object _) => true
    | some (.array _) => true
    | _ => false
  | .freturn => decide (tt = some .float)
  | .dreturn => decide (tt = some .double)
  | .return_ => decide (tt = none)
  | _ => true
def m_isc (i : Instr) : Bool := match i with
  | .invokevirtual _ => true
  | .invokestatic _ => true
  | .invokespecial _ => true
  | .invokedynamic _ => true
  | _ => false
/-- a stretch of code, up to the place where the next begins -/
def m_seg (lk : Nat → Option (Nat × Nat × Nat)) (tt : Option FieldType) (ini hh : Bool) (tg : Nat → Bool) (ra : Nat → Bool) (cv : Nat → Bool) (cc : ByteArray) : List Instr → Nat → Option Nat
  | [], pc => some pc
  | i :: is, pc => match m_rck tt i && (!hh || !m_isc i || cv pc), m_ck lk ini hh tg ra cc pc i with
    | true, k + 1 => m_seg lk tt ini hh tg ra cv cc is (pc + (k + 1))
    | _, _ => none
section CHK
variable {l : Launch} {P : m_P} {cl : List vw_C} {D : va_G} {cA : Nat → ClassId} {tys : List (ClassId × FieldType)} {G : List Cond} {XT : (Nat → Prop) → State → Heap → Prop} {xc : Nat → Nat} {AOL : List String × List (Nat × String)} {TL : List (String × Nat × Nat × Nat × String)} {NL : List (String × Nat × MethodName × String)} {Y : Nat → MethodName} {B : Nat → ByteArray} {TT : Nat → Option FieldType} {INI : Nat → Bool} {TGz : Nat → Nat → Prop} {NM : Nat} {HH : Nat → List (Nat × Nat × Nat × Nat)} {lk : Nat → Option (Nat × Nat × Nat)} {ini hh : Bool} {tg ra : Nat → Bool} {TG : Nat → Prop} {cc : ByteArray} {pc : Nat} {own : String} {y : Nat}
theorem m_and {a b : Bool} (h : (a && b) = true) : a = true ∧ b = true := by simpa using h
set_option maxHeartbeats 4000000 in
theorem m_ckI_ok (hlk : ∀ ix q, lk ix = some q → m_lkok P cl G AOL TL NL tys cA Y TT INI NM own ix q) (htg : ∀ t, tg t = true → TG t) (hra : ∀ ci, ra ci = true → ∃ r : vw_C, cl[ci]? = some r ∧ m_aok tys cA (200 + ci) (.object r.1)) (hAk : m_aok tys cA 100 .int ∧ m_aok tys cA 101 .byte ∧ m_aok tys cA 102 .long ∧ m_aok tys cA 103 .double) (harr : Cond.arrayClass .int ∈ G ∧ Cond.arrayClass .byte ∈ G ∧ Cond.arrayClass .long ∈ G ∧ Cond.arrayClass .double ∈ G) {r i : Instr} {n : Nat} (hd : decode cc pc = .ok (r, n)) (h : m_ckI lk ini tg ra pc r n i = true) : (m_sim P cl G own ini TG cc pc n i ∨ m_sim2 P cl G AOL TL tys cA own TG cc pc n i) ∨ m_simC P cl G TL NL Y TT INI NM y own cc pc n i := by
  unfold m_ckI at h
  split at h
  · next h1 =>
    obtain ⟨e1, e2⟩ := m_and h
    have e1 := of_decide_eq_true e1
    have e2 := of_decide_eq_true e2
    subst e1 e2
    cases r <;> first | (cases h1; done) | exact Or.inl (Or.inl ⟨rfl, hd⟩)
  · rename_i hne
    clear hne
    cases i
    case nop => exact Or.inl (Or.inl trivial)
    case ret k =>
      obtain ⟨e1, e2⟩ := m_and h
      have e1 := of_decide_eq_true e1
      have e2 := of_decide_eq_true e2
      subst e1 e2
      exact Or.inl (Or.inl ⟨rfl, hd⟩)
    case dcmp op =>
      obtain ⟨e1, e2⟩ := m_and h
      have e1 := of_decide_eq_true e1
      have e2 := of_decide_eq_true e2
      subst e1 e2
      exact Or.inl (Or.inl ⟨rfl, hd⟩)
    case fcmp op =>
      obtain ⟨e1, e2⟩ := m_and h
      have e1 := of_decide_eq_true e1
      have e2 := of_decide_eq_true e2
      subst e1 e2
      exact Or.inl (Or.inl ⟨rfl, hd⟩)
    case fload k =>
      obtain ⟨e1, e2⟩ := m_and h
      have e1 := of_decide_eq_true e1
      have e2 := of_decide_eq_true e2
      subst e1 e2
      exact Or.inl (Or.inl ⟨rfl, hd⟩)
    case dload k =>
      obtain ⟨e1, e2⟩ := m_and h
      have e1 := of_decide_eq_true e1
      have e2 := of_decide_eq_true e2
      subst e1 e2
      exact Or.inl (Or.inl ⟨rfl, hd⟩)
    case fstore k =>
      obtain ⟨e1, e2⟩ := m_and h
      have e1 := of_decide_eq_true e1
      have e2 := of_decide_eq_true e2
      subst e1 e2
      exact Or.inl (Or.inl ⟨rfl, hd⟩)
    case dstore k =>
      obtain ⟨e1, e2⟩ := m_and h
      have e1 := of_decide_eq_true e1
      have e2 := of_decide_eq_true e2
      subst e1 e2
      exact Or.inl (Or.inl ⟨rfl, hd⟩)
    case iinc k v =>
      obtain ⟨e1, e2⟩ := m_and h
      have e1 := of_decide_eq_true e1
      have e2 := of_decide_eq_true e2
      subst e1 e2
      exact Or.inl (Or.inl ⟨rfl, hd⟩)
    case fconst k =>
      obtain ⟨e0, e⟩ := m_and h
      obtain ⟨e1, e2⟩ := m_and e
      have e0 := of_decide_eq_true e0
      have e1 := of_decide_eq_true e1
      have e2 := of_decide_eq_true e2
      subst e0 e1 e2
      exact Or.inl (Or.inl ⟨rfl, rfl, hd⟩)
    case dconst k =>
      obtain ⟨e0, e2⟩ := m_and h
      have e2 := of_decide_eq_true e2
      subst e2
      rcases (Bool.or_eq_true _ _).mp e0 with e | e
      · obtain ⟨e0, e1⟩ := m_and e
        have e0 := of_decide_eq_true e0
        have e1 := of_decide_eq_true e1
        subst e0 e1
        exact Or.inl (Or.inl ⟨rfl, Or.inl ⟨rfl, hd⟩⟩)
      · obtain ⟨e0, e1⟩ := m_and e
        have e0 := of_decide_eq_true e0
        have e1 := of_decide_eq_true e1
        subst e0 e1
        exact Or.inl (Or.inl ⟨rfl, Or.inr ⟨rfl, hd⟩⟩)
    case iconst v =>
      dsimp only at h
      split at h
      · obtain ⟨e0, e2⟩ := m_and h
        have e2 := of_decide_eq_true e2
        subst e2
        exact Or.inl (Or.inl (Or.inl ⟨rfl, _, of_decide_eq_true e0, hd⟩))
      · obtain ⟨e0, e2⟩ := m_and h
        have e2 := of_decide_eq_true e2
        subst e2
        exact Or.inl (Or.inl (Or.inr (Or.inl ⟨rfl, _, of_decide_eq_true e0, hd⟩)))
      · obtain ⟨e0, e2⟩ := m_and h
        have e2 := of_decide_eq_true e2
        subst e2
        exact Or.inl (Or.inl (Or.inr (Or.inr (Or.inl ⟨rfl, _, of_decide_eq_true e0, hd⟩))))
      · next ix =>
        obtain ⟨e0, e2⟩ := m_and h
        have e2 := of_decide_eq_true e2
        subst e2
        split at e0
        · next a b hl =>
          have e0 := of_decide_eq_true e0
          have hk := hlk _ _ hl
          have hk : Jvm.Cond.constant own ix (Int32.ofNat a) ∈ G := hk
          rw [e0] at hk
          exact Or.inl (Or.inl (Or.inr (Or.inr (Or.inr (Or.inl ⟨rfl, _, hk, hd⟩)))))
        · cases e0
      · next ix =>
        obtain ⟨e0, e2⟩ := m_and h
        have e2 := of_decide_eq_true e2
        subst e2
        split at e0
        · next a b hl =>
          have e0 := of_decide_eq_true e0
          have hk := hlk _ _ hl
          have hk : Jvm.Cond.constant own ix (Int32.ofNat a) ∈ G := hk
          rw [e0] at hk
          exact Or.inl (Or.inl (Or.inr (Or.inr (Or.inr (Or.inr ⟨rfl, _, hk, hd⟩)))))
        · cases e0
      · cases h
    case ldc2_w v =>
      dsimp only at h
      split at h
      · obtain ⟨e0, e2⟩ := m_and h
        have e2 := of_decide_eq_true e2
        subst e2
        exact Or.inl (Or.inl (Or.inl ⟨rfl, _, of_decide_eq_true e0, hd⟩))
      · next ix =>
        obtain ⟨e0, e2⟩ := m_and h
        have e2 := of_decide_eq_true e2
        subst e2
        split at e0
        · next a b hl =>
          have e0 := of_decide_eq_true e0
          have hk := hlk _ _ hl
          have hk : Jvm.Cond.constantLong own ix (Int64.ofNat a) ∈ G := hk
          rw [e0] at hk
          exact Or.inl (Or.inl (Or.inr ⟨rfl, _, hk, hd⟩))
        · cases e0
      · cases h
    case iload k =>
      dsimp only at h
      split at h
      · obtain ⟨e0, e2⟩ := m_and h
        have e0 := of_decide_eq_true e0
        have e2 := of_decide_eq_true e2
        subst e0 e2
        exact Or.inl (Or.inl (Or.inl ⟨rfl, hd⟩))
      · obtain ⟨e0, e2⟩ := m_and h
        have e2 := of_decide_eq_true e2
        subst e2
        exact Or.inl (Or.inl (Or.inr ⟨rfl, _, of_decide_eq_true e0, hd⟩))
      · cases h
    case lload k =>
      dsimp only at h
      split at h
      · obtain ⟨e0, e2⟩ := m_and h
        have e0 := of_decide_eq_true e0
        have e2 := of_decide_eq_true e2
        subst e0 e2
        exact Or.inl (Or.inl (Or.inl ⟨rfl, hd⟩))
      · obtain ⟨e0, e2⟩ := m_and h
        have e2 := of_decide_eq_true e2
        subst e2
        exact Or.inl (Or.inl (Or.inr ⟨rfl, _, of_decide_eq_true e0, hd⟩))
      · cases h
    case aload k =>
      dsimp only at h
      split at h
      · obtain ⟨e0, e2⟩ := m_and h
        have e0 := of_decide_eq_true e0
        have e2 := of_decide_eq_true e2
        subst e0 e2
        exact Or.inl (Or.inl (Or.inl ⟨rfl, hd⟩))
      · obtain ⟨e0, e2⟩ := m_and h
        have e2 := of_decide_eq_true e2
        subst e2
        exact Or.inl (Or.inl (Or.inr ⟨rfl, _, of_decide_eq_true e0, hd⟩))
      · cases h
    case istore k =>
      dsimp only at h
      split at h
      · obtain ⟨e0, e2⟩ := m_and h
        have e0 := of_decide_eq_true e0
        have e2 := of_decide_eq_true e2
        subst e0 e2
        exact Or.inl (Or.inl (Or.inl ⟨rfl, hd⟩))
      · obtain ⟨e0, e2⟩ := m_and h
        have e2 := of_decide_eq_true e2
        subst e2
        exact Or.inl (Or.inl (Or.inr ⟨rfl, _, of_decide_eq_true e0, hd⟩))
      · cases h
    case astore k =>
      dsimp only at h
      split at h
      · obtain ⟨e0, e2⟩ := m_and h
        have e0 := of_decide_eq_true e0
        have e2 := of_decide_eq_true e2
        subst e0 e2
        exact Or.inl (Or.inl (Or.inl ⟨rfl, hd⟩))
      · obtain ⟨e0, e2⟩ := m_and h
        have e2 := of_decide_eq_true e2
        subst e2
        exact Or.inl (Or.inl (Or.inr ⟨rfl, _, of_decide_eq_true e0, hd⟩))
      · cases h
    case goto t =>
      dsimp only at h
      split at h
      · obtain ⟨e, e2⟩ := m_and h
        obtain ⟨e0, e1⟩ := m_and e
        have e2 := of_decide_eq_true e2
        subst e2
        exact Or.inl (Or.inl ⟨rfl, ⟨_, of_decide_eq_true e0, hd⟩, htg _ e1⟩)
      · cases h
    case ifnull t =>
      dsimp only at h
      split at h
      · obtain ⟨e, e2⟩ := m_and h
        obtain ⟨e0, e1⟩ := m_and e
        have e2 := of_decide_eq_true e2
        subst e2
        exact Or.inl (Or.inl ⟨rfl, ⟨_, of_decide_eq_true e0, hd⟩, htg _ e1⟩)
      · cases h
    case ifnonnull t =>
      dsimp only at h
      split at h
      · obtain ⟨e, e2⟩ := m_and h
        obtain ⟨e0, e1⟩ := m_and e
        have e2 := of_decide_eq_true e2
        subst e2
        exact Or.inl (Or.inl ⟨rfl, ⟨_, of_decide_eq_true e0, hd⟩, htg _ e1⟩)
      · cases h
    case ifCond z t =>
      dsimp only at h
      split at h
      · obtain ⟨e, e2⟩ := m_and h
        obtain ⟨e, e1⟩ := m_and e
        obtain ⟨e3, e0⟩ := m_and e
        have e2 := of_decide_eq_true e2
        have e3 := of_decide_eq_true e3
        subst e2 e3
        exact Or.inl (Or.inl ⟨rfl, ⟨_, of_decide_eq_true e0, hd⟩, htg _ e1⟩)
      · cases h
    case if_icmp z t =>
      dsimp only at h
      split at h
      · obtain ⟨e, e2⟩ := m_and h
        obtain ⟨e, e1⟩ := m_and e
        obtain ⟨e3, e0⟩ := m_and e
        have e2 := of_decide_eq_true e2
        have e3 := of_decide_eq_true e3
        subst e2 e3
        exact Or.inl (Or.inl ⟨rfl, ⟨_, of_decide_eq_true e0, hd⟩, htg _ e1⟩)
      · cases h
    case tableswitch d lo hi ts =>
      dsimp only at h
      split at h
      · next dflt lo' hi' offs =>
        obtain ⟨h, e6⟩ := m_and h
        obtain ⟨h, e5⟩ := m_and h
        obtain ⟨h, e4⟩ := m_and h
        obtain ⟨h, e3⟩ := m_and h
        obtain ⟨e1, e2⟩ := m_and h
        have e1 := of_decide_eq_true e1
        have e2 := of_decide_eq_true e2
        subst e1 e2
        refine Or.inl (Or.inl ⟨dflt, offs, of_decide_eq_true e3, htg _ e4, fun k t hk => ?_, hd⟩)
        have hlt : k < ts.size := (Array.getElem?_eq_some_iff.mp hk).1
        have e7 := List.all_eq_true.mp e6 k (List.mem_range.mpr hlt)
        rw [hk] at e7
        split at e7
        · next t' off ht ho =>
          cases ht
          obtain ⟨f1, f2⟩ := m_and e7
          exact ⟨htg _ f2, off, ho, of_decide_eq_true f1⟩
        · cases e7
      · cases h
    case getfield x =>
      dsimp only at h
      split at h
      · next ix =>
        obtain ⟨e0, e2⟩ := m_and h
        have e2 := of_decide_eq_true e2
        subst e2
        split at e0
        · next a b hl =>
          have e0 := of_decide_eq_true e0
          have hk := hlk _ _ hl
          subst e0
          obtain ⟨C, T, k1, k2, -⟩ := hk
          exact Or.inl (Or.inl ⟨rfl, ix, C, T, k1, k2, hd⟩)
        · cases e0
      · cases h
    case putfield x =>
      dsimp only at h
      split at h
      · next ix =>
        obtain ⟨e0, e2⟩ := m_and h
        have e2 := of_decide_eq_true e2
        subst e2
        split at e0
        · next a b hl =>
          obtain ⟨e0, e1⟩ := m_and e0
          have e0 := of_decide_eq_true e0
          have hk := hlk _ _ hl
          subst e0
          obtain ⟨C, T, k1, k2, k3⟩ := hk
          refine Or.inl (Or.inl ⟨rfl, ix, C, T, k1, k2, ?_, hd⟩)
          rcases k3 with ⟨-, k3⟩ | ⟨k4, k3, k5⟩ | k4
          · exact Or.inl k3
          · refine Or.inr ⟨k3, ?_, k5⟩
            rcases (Bool.or_eq_true _ _).mp e1 with w | w
            · have w := of_decide_eq_true w
              have k4 : b = 1 := k4
              omega
            · exact (m_and w).1
          · exfalso
            have k4 : b = 2 := k4
            rcases (Bool.or_eq_true _ _).mp e1 with w | w
            · have w := of_decide_eq_true w
              omega
            · have w := of_decide_eq_true (m_and w).2
              omega
        · cases e0
      · cases h
    case newarray t =>
      obtain ⟨e, e0⟩ := m_and h
      obtain ⟨e1, e2⟩ := m_and e
      have e1 := of_decide_eq_true e1
      have e2 := of_decide_eq_true e2
      subst e1 e2
      cases t
      case int => exact Or.inl (Or.inl ⟨rfl, harr.1, hd⟩)
      case byte => exact Or.inl (Or.inl ⟨rfl, harr.2.1, hd⟩)
      case long => exact Or.inl (Or.inl ⟨rfl, harr.2.2.1, hd⟩)
      case double => exact Or.inl (Or.inl ⟨rfl, harr.2.2.2, hd⟩)
      all_goals cases e0
    case new ci =>
      dsimp only at h
      split at h
      · next ix =>
        obtain ⟨e0, e2⟩ := m_and h
        have e2 := of_decide_eq_true e2
        subst e2
        split at e0
        · next a b hl =>
          have e0 := of_decide_eq_true e0
          have hk := hlk _ _ hl
          subst e0
          obtain ⟨⟨C, T, k1, k2, k3, k4⟩, -⟩ := hk
          exact Or.inl (Or.inl ⟨rfl, ix, C, T, k1, k2, k3, k4, hd⟩)
        · cases e0
      · cases h
    case anewarray ci =>
      dsimp only at h
      split at h
      · next ix =>
        obtain ⟨e0, e2⟩ := m_and h
        have e2 := of_decide_eq_true e2
        subst e2
        split at e0
        · next a hl =>
          have e0 := of_decide_eq_true e0
          have hk := hlk _ _ hl
          subst e0
          obtain ⟨-, hk⟩ := hk
          obtain ⟨C, k1, k2, k3⟩ := hk rfl
          exact Or.inl (Or.inr ⟨rfl, ix, C, k1, k2, k3, hd⟩)
        · next a b hl =>
          have e0 := of_decide_eq_true e0
          have hk := hlk _ _ hl
          subst e0
          obtain ⟨C, k1, k2, k3⟩ := hk
          exact Or.inl (Or.inr ⟨rfl, ix, C, k1, k2, k3, hd⟩)
        · cases e0
      · cases h
    case getstatic k =>
      dsimp only at h
      split at h
      · next ix =>
        obtain ⟨e0, e2⟩ := m_and h
        have e2 := of_decide_eq_true e2
        subst e2
        split at e0
        · next a b hl =>
          have e0 := of_decide_eq_true e0
          have hk := hlk _ _ hl
          subst e0
          obtain ⟨k1, nm, k2, k3⟩ := hk
          exact Or.inl (Or.inr ⟨rfl, k1, ix, nm, k2, k3, hd⟩)
        · cases e0
      · cases h
    case invokevirtual z =>
      dsimp only at h
      split at h
      · next ix =>
        obtain ⟨e0, e2⟩ := m_and h
        have e2 := of_decide_eq_true e2
        subst e2
        split at e0
        · next a b hl =>
          have e0 := of_decide_eq_true e0
          have hk := hlk _ _ hl
          subst e0
          obtain ⟨k1, k2, k3, k4, k5, k6, k7⟩ := hk
          exact Or.inr ⟨rfl, k1, k2, ix, k3, k4, k5, k6, k7, hd⟩
        · cases e0
      · cases h
    case invokestatic z =>
      dsimp only at h
      split at h
      · next ix =>
        obtain ⟨e0, e2⟩ := m_and h
        have e2 := of_decide_eq_true e2
        subst e2
        split at e0
        · next a b hl =>
          have e0 := of_decide_eq_true e0
          have hk := hlk _ _ hl
          subst e0
          obtain ⟨k1, k3, k4, k5⟩ := hk
          exact Or.inr ⟨rfl, k1, ix, k3, k4, k5, hd⟩
        · next a b hl =>
          have e0 := of_decide_eq_true e0
          have hk := hlk _ _ hl
          subst e0
          exact Or.inl (Or.inl ⟨rfl, ix, hk, hd⟩)
        · cases e0
      · cases h
    case invokespecial z =>
      dsimp only at h
      split at h
      · next ix =>
        obtain ⟨e0, e2⟩ := m_and h
        have e2 := of_decide_eq_true e2
        subst e2
        split at e0
        · next a b hl =>
          have e0 := of_decide_eq_true e0
          have hk := hlk _ _ hl
          subst e0
          obtain ⟨k1, k2, k3, k4, k5, k6, k7⟩ := hk
          exact Or.inr ⟨rfl, k1, k2, k3, k4, ix, k5, k6, k7, hd⟩
        · next a b hl =>
          have e0 := of_decide_eq_true e0
          have hk := hlk _ _ hl
          subst e0
          obtain ⟨k1, k2, k3⟩ := hk
          exact Or.inl (Or.inl ⟨rfl, rfl, ix, k1, k2, k3, hd⟩)
        · cases e0
      · cases h
    case ldc_w z =>
      obtain ⟨e, e0⟩ := m_and h
      obtain ⟨e1, e2⟩ := m_and e
      have e1 := of_decide_eq_true e1
      have e2 := of_decide_eq_true e2
      subst e1 e2
      refine Or.inl (Or.inr ⟨rfl, ?_, hd⟩)
      simp only [Bool.or_eq_true, Bool.and_eq_true, decide_eq_true_eq] at e0
      rcases e0 with (((rfl | rfl) | rfl) | rfl) | ⟨w, w2⟩
      · exact ⟨_, hAk.1⟩
      · exact ⟨_, hAk.2.1⟩
      · exact ⟨_, hAk.2.2.1⟩
      · exact ⟨_, hAk.2.2.2⟩
      · obtain ⟨r, -, k2⟩ := hra _ w2
        rw [show 200 + (z - 200) = z by omega] at k2
        exact ⟨_, k2⟩
    case checkcast ci =>
      obtain ⟨e, e0⟩ := m_and h
      obtain ⟨e1, e2⟩ := m_and e
      have e1 := of_decide_eq_true e1
      have e2 := of_decide_eq_true e2
      subst e1 e2
      obtain ⟨r, -, k2⟩ := hra _ e0
      exact Or.inl (Or.inr ⟨rfl, ⟨_, k2⟩, hd⟩)
    case instanceof ci =>
      obtain ⟨e, e0⟩ := m_and h
      obtain ⟨e1, e2⟩ := m_and e
      have e1 := of_decide_eq_true e1
      have e2 := of_decide_eq_true e2
      subst e1 e2
      obtain ⟨r, k1, k2⟩ := hra _ e0
      exact Or.inl (Or.inr ⟨rfl, ⟨r, k1, k2⟩, hd⟩)
    all_goals (exfalso; cases h; done)
theorem m_rck_ok {tt : Option FieldType} {i : Instr} (h : m_rck tt i = true) : m_ret tt i ∨ ¬ (∃ t, m_ret t i) := by
  cases i
  case ireturn => exact Or.inl (show tt = some .int from of_decide_eq_true h)
  case ret k => exact Or.inl (show tt = some .boolean from of_decide_eq_true h)
  case areturn =>
    simp only [m_rck] at h
    split at h
    · exact Or.inl ⟨_, rfl, Or.inl ⟨_, rfl⟩⟩
    · exact Or.inl ⟨_, rfl, Or.inr ⟨_, rfl⟩⟩
    · cases h
  case freturn => exact Or.inl (show tt = some .float from of_decide_eq_true h)
  case dreturn => exact Or.inl (show tt = some .double from of_decide_eq_true h)
  case return_ => exact Or.inl (show tt = none from of_decide_eq_true h)
  all_goals exact Or.inr (fun ⟨_, z⟩ => z)
theorem m_ck_ok (hlk : ∀ ix q, lk ix = some q → m_lkok P cl G AOL TL NL tys cA Y TT INI NM own ix q) (htg : ∀ t, tg t = true → TG t) (hra : ∀ ci, ra ci = true → ∃ r : vw_C, cl[ci]? = some r ∧ m_aok tys cA (200 + ci) (.object r.1)) (hAk : m_aok tys cA 100 .int ∧ m_aok tys cA 101 .byte ∧ m_aok tys cA 102 .long ∧ m_aok tys cA 103 .double) (harr : Cond.arrayClass .int ∈ G ∧ Cond.arrayClass .byte ∈ G ∧ Cond.arrayClass .long ∈ G ∧ Cond.arrayClass .double ∈ G) (hhy : m_hh P y = hh) {i : Instr} {k : Nat} (h : m_ck lk ini hh tg ra cc pc i = k + 1) : (m_sim P cl G own ini TG cc pc (k + 1) i ∨ m_sim2 P cl G AOL TL tys cA own TG cc pc (k + 1) i) ∨ m_simC P cl G TL NL Y TT INI NM y own cc pc (k + 1) i := by
  unfold m_ck at h
  split at h
  · next x =>
    split at h
    · next ik is ic d0 d3 d4 d6 d9 =>
      split at h
      · next a b1 b2 b3 b b4 h1 h3 h2 =>
        split at h
        · next w =>
          obtain ⟨rfl, rfl, w4⟩ := w
          obtain ⟨q1, q2, q3, q4, q5, q6, q7⟩ := hlk _ _ h1
          obtain ⟨text, p1⟩ := hlk _ _ h3
          obtain ⟨p2, p3, p4⟩ := hlk _ _ h2
          have hk : k + 1 = 10 := h.symm
          rw [hk]
          exact Or.inr ⟨rfl, q1, hhy.trans w4, ik, _, ic, text, p1, q2, q3, q4, q5, List.forall_mem_cons.mpr ⟨q6, List.forall_mem_cons.mpr ⟨q7, p2⟩⟩, p3, p4, d0, d3, d4, d6, d9⟩
        · cases h
      · cases h
    · cases h
  · split at h
    · next r n hd =>
      split at h
      · next w =>
        subst h
        exact m_ckI_ok hlk htg hra hAk harr hd w
      · cases h
    · cases h
theorem m_seg_at {B : Nat → ByteArray} {INI : Nat → Bool} {TGz : Nat → Nat → Prop} {HH : Nat → List (Nat × Nat × Nat × Nat)} {z : Nat} (hlk : ∀ ix q, lk ix = some q → m_lkok P cl G AOL TL NL tys cA Y TT INI NM (Y z).cls ix q) (htg : ∀ t, tg t = true → TGz z t) (hra : ∀ ci, ra ci = true → ∃ r : vw_C, cl[ci]? = some r ∧ m_aok tys cA (200 + ci) (.object r.1)) (hAk : m_aok tys cA 100 .int ∧ m_aok tys cA 101 .byte ∧ m_aok tys cA 102 .long ∧ m_aok tys cA 103 .double) (harr : Cond.arrayClass .int ∈ G ∧ Cond.arrayClass .byte ∈ G ∧ Cond.arrayClass .long ∈ G ∧ Cond.arrayClass .double ∈ G) (hhy : m_hh P z = hh) {cv : Nat → Bool} (hcov : hh = true → ∀ pc i, cv pc = true → m_cov P G Y B HH z pc i) : ∀ (seg tail : List Instr) (pc pc' : Nat), m_seg lk (TT z) (INI z) hh tg ra cv (B z) seg pc = some pc' → m_at P cl G AOL TL NL tys cA Y B TT INI TGz NM HH z tail pc' → m_at P cl G AOL TL NL tys cA Y B TT INI TGz NM HH z (seg ++ tail) pc
  | [], tail, pc, pc', h, ht => by
    cases h
    exact ht
  | i :: is, tail, pc, pc', h, ht => by
    unfold m_seg at h
    split at h
    · next k h1 h2 =>
      obtain ⟨h1, h3⟩ := m_and h1
      refine ⟨k + 1, ?_, m_rck_ok h1, m_seg_at hlk htg hra hAk harr hhy hcov is tail _ pc' h ht⟩
      rcases m_ck_ok (y := z) hlk htg hra hAk harr hhy h2 with w | w
      · exact Or.inl w
      · refine Or.inr ⟨w, ?_⟩
        have hi : m_isc i = true := by cases i <;> first | rfl | exact w.elim
        rw [hi] at h3
        cases hb : hh with
        | false => exact fun z1 => by rw [hhy, hb] at z1; cases z1
        | true =>
          rw [hb] at h3
          exact hcov hb pc i (by simpa using h3)
    · cases h
end CHK
end
section
/-! a method's code in stretches, and its check in one -/
def m_fl : List (Nat × List Instr) → List Instr
  | [] => []
  | q :: S => q.2 ++ m_fl S
def m_tgl : List (Nat × List Instr) → Nat → List Instr
  | [], _ => []
  | q :: S, t => if t = q.1 then q.2 ++ m_fl S else m_tgl S t
def m_tgb (S : List (Nat × List Instr)) (t : Nat) : Bool := S.any (fun q => q.1 == t)
def m_ckS (lk : Nat → Option (Nat × Nat × Nat)) (tt : Option FieldType) (ini hh : Bool) (tg : Nat → Bool) (ra : Nat → Bool) (cv : Nat → Bool) (cc : ByteArray) : List (Nat × List Instr) → Bool
  | [] => true
  | q :: S => match m_seg lk tt ini hh tg ra cv cc q.2 q.1 with
    | none => false
    | some pc' => (match S with | [] => true | q' :: _ => q'.1 == pc') && m_ckS lk tt ini hh tg ra cv cc S
section SEGS
variable {l : Launch} {P : m_P} {cl : List vw_C} {D : va_G} {cA : Nat → ClassId} {tys : List (ClassId × FieldType)} {G : List Cond} {AOL : List String × List (Nat × String)} {TL : List (String × Nat × Nat × Nat × String)} {NL : List (String × Nat × MethodName × String)} {Y : Nat → MethodName} {B : Nat → ByteArray} {TT : Nat → Option FieldType} {INI : Nat → Bool} {TGz : Nat → Nat → Prop} {NM : Nat} {HH : Nat → List (Nat × Nat × Nat × Nat)} {lk : Nat → Option (Nat × Nat × Nat)} {hh : Bool} {tg ra cv : Nat → Bool} {z : Nat}
theorem m_ckS_at (hlk : ∀ ix q, lk ix = some q → m_lkok P cl G AOL TL NL tys cA Y TT INI NM (Y z).cls ix q) (htg : ∀ t, tg t = true → TGz z t) (hra : ∀ ci, ra ci = true → ∃ r : vw_C, cl[ci]? = some r ∧ m_aok tys cA (200 + ci) (.object r.1)) (hAk : m_aok tys cA 100 .int ∧ m_aok tys cA 101 .byte ∧ m_aok tys cA 102 .long ∧ m_aok tys cA 103 .double) (harr : Cond.arrayClass .int ∈ G ∧ Cond.arrayClass .byte ∈ G ∧ Cond.arrayClass .long ∈ G ∧ Cond.arrayClass .double ∈ G) (hhy : m_hh P z = hh) (hcov : hh = true → ∀ pc i, cv pc = true → m_cov P G Y B HH z pc i) :
    ∀ (S : List (Nat × List Instr)), m_ckS lk (TT z) (INI z) hh tg ra cv (B z) S = true → (∀ q S', S = q :: S' → m_at P cl G AOL TL NL tys cA Y B TT INI TGz NM HH z (m_fl S) q.1) ∧ ∀ t, m_tgb S t = true → m_at P cl G AOL TL NL tys cA Y B TT INI TGz NM HH z (m_tgl S t) t
  | [], _ => ⟨(fun _ _ h => by cases h), (fun t h => by cases (show false = true from h))⟩
  | q :: S, h => by
    unfold m_ckS at h
    split at h
    · cases h
    · next pc' hs =>
      obtain ⟨h1, h2⟩ := m_and h
      obtain ⟨i1, i2⟩ := m_ckS_at hlk htg hra hAk harr hhy hcov S h2
      have hhead : m_at P cl G AOL TL NL tys cA Y B TT INI TGz NM HH z (q.2 ++ m_fl S) q.1 := by
        refine m_seg_at hlk htg hra hAk harr hhy hcov q.2 (m_fl S) q.1 pc' hs ?_
        cases S with
        | nil => trivial
        | cons q' S' =>
          have e : q'.1 = pc' := by simpa using h1
          rw [← e]
          exact i1 q' S' rfl
      refine ⟨fun q0 S0 e => by cases e; exact hhead, fun t ht => ?_⟩
      unfold m_tgl
      by_cases e : t = q.1
      · rw [if_pos e, e]
        exact hhead
      · rw [if_neg e]
        refine i2 t ?_
        unfold m_tgb at ht ⊢
        rw [List.any_cons] at ht
        rcases (Bool.or_eq_true _ _).mp ht with w | w
        · exact absurd (by simpa using w : q.1 = t).symm e
        · exact w
theorem m_find_ok {t : List (Nat × Nat × Nat × Nat)} {Q : Nat → Nat × Nat × Nat → Prop} (h : ∀ e ∈ t, Q e.1 e.2) : ∀ ix q, (t.find? (fun e => e.1 == ix)).map (fun e => e.2) = some q → Q ix q := by
  intro ix q hq
  cases hf : t.find? (fun e => e.1 == ix) with
  | none => rw [hf] at hq; cases hq
  | some e =>
    rw [hf] at hq
    cases hq
    have h1 := List.find?_some hf
    have h2 : e.1 = ix := by simpa using h1
    rw [← h2]
    exact h e (List.mem_of_find?_eq_some hf)
end SEGS
end
