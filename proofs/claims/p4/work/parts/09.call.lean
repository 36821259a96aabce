/-! CALLS: what a method of the small machine owes, and what its caller has behind the call -/
/-- the exceptions, by number -/
def m_en (x : Nat) : String := if x = 0 then "java/util/NoSuchElementException" else "java/lang/IllegalArgumentException"
def m_Pc (P : m_P) (cl : List vw_C) (D : va_G) (cA : Nat → ClassId) (tys : List (ClassId × FieldType)) (XT : (Nat → Prop) → State → Heap → Prop) (ad : Nat → Nat) (h : m_H) (as : List Value) (sz : Nat) : Array Value → State → Prop := fun v U =>
  v = (as.map (m_cv ad)).toArray ∧ U.heap.size = sz ∧ va_P D cl (m_ws P cA ad h) U.heap ∧ va_K D cl tys U ∧ va_D (fun _ => True) (m_ws P cA ad h) ∧ XT (va_A (m_ws P cA ad h) sz) U U.heap
/-- the world behind a method -/
def m_Bh (P : m_P) (cl : List vw_C) (D : va_G) (cA : Nat → ClassId) (A : Nat → Prop) (xa : Nat × (Nat → Nat)) (h' : m_H) (ad' : Nat → Nat) (st t : State) : Prop :=
  va_P D cl (m_ws P cA ad' h') t.heap ∧ va_D A (m_ws P cA ad' h') ∧ m_wf h' ∧ xa.1 ≤ m_n h' ∧ (∀ j, j < xa.1 ∨ m_X ≤ j → ad' j = xa.2 j) ∧ va_F A st t
def m_Qc (P : m_P) (cl : List vw_C) (D : va_G) (cA : Nat → ClassId) (A : Nat → Prop) (xa : Nat × (Nat → Nat)) (o : Option Value ⊕ Nat) (h' : m_H) : Array Value → State → Outcome → State → Prop := fun _ st oc t =>
  ∃ (v : Option Value) (ad' : Nat → Nat), o = .inl v ∧ oc = .returned (v.map (m_cv ad')) ∧ (∀ w, v = some w → m_in (m_n h') w) ∧ m_Bh P cl D cA A xa h' ad' st t
def m_XC (P : m_P) (cl : List vw_C) (D : va_G) (cA : Nat → ClassId) (A : Nat → Prop) (xa : Nat × (Nat → Nat)) (o : Option Value ⊕ Nat) (h' : m_H) : String → State → State → Prop := fun E st t =>
  ∃ (x : Nat) (ad' : Nat → Nat), o = .inr x ∧ E = m_en x ∧ m_Bh P cl D cA A xa h' ad' st t
/-- what is said of the things outside stays -/
def m_XTok (XT : (Nat → Prop) → State → Heap → Prop) : Prop :=
  (∀ (A : Nat → Prop) (u U : State) (H : Heap), u.WarmedH U.vm → XT A u H → XT A U H) ∧ (∀ (A : Nat → Prop) (U : State) (H H1 : Heap), H.size ≤ H1.size → (∀ a : Nat, a < H.size → ¬ A a → H1[a]? = H[a]?) → XT A U H → XT A U H1) ∧ ∀ (A B : Nat → Prop) (U : State) (H : Heap), (∀ q, B q → A q) → XT A U H → XT B U H
theorem m_Pc_blind {P : m_P} {cl : List vw_C} {D : va_G} {cA : Nat → ClassId} {tys : List (ClassId × FieldType)} {XT : (Nat → Prop) → State → Heap → Prop} {ad : Nat → Nat} {h : m_H} {as : List Value} {sz : Nat} (hXT : m_XTok XT) : FrameBlind (m_Pc P cl D cA tys XT ad h as sz) := by
  intro a U g mk q
  obtain ⟨q0, q1, q2, q3, q4, q5⟩ := q
  exact ⟨q0, q1, q2, va_K.moved (u := U) (U := U.calling g mk a) (Vm.Alike.refl U.vm) q3, q4, hXT.1 _ U _ _ (State.WarmedH.refl U) q5⟩
section GOC
variable {p : Program} {l : Launch} {e : Env} {R : Room} {s : State} {m : MethodId} {args : Array Value} {below : List Frame} {meth : Method} {c : Code} {Q : State → Prop} {P : m_P} {cl : List vw_C} {D : va_G} {cA : Nat → ClassId} {A : Nat → Prop} {xa : Nat × (Nat → Nat)} {nL c0 s0 : Nat} {pc : Nat} {ls : m_F} {st : List Value} {h : m_H} {cc : ByteArray} {tys : List (ClassId × FieldType)} {G : List Cond} {own : String} {index : Nat} {XT : (Nat → Prop) → State → Heap → Prop} {ad : Nat → Nat} {H : Heap} {locs : List Loc}
/-- the callee's cells are the caller's, or new -/
theorem m_sub (hr : m_rel s P cl D cA A xa ad H locs h) (hA : ∀ q, s.heap.size ≤ q → A q) : ∀ q, va_A (m_ws P cA ad h) H.size q → A q := by
  intro q hq
  rcases hq with ⟨k, ev, hk⟩ | hq
  · exact hr.2.1.2 k (q, ev) hk
  · exact hA q (Nat.le_trans hr.2.2.1.1 hq)
theorem m_pre (hr : m_rel s P cl D cA A xa ad H locs h) (hA : ∀ q, s.heap.size ≤ q → A q) (hK : va_K D cl tys s) (hXT : m_XTok XT) (hX : XT A s s.heap) {as : List Value} (U : State) (hU : U.heap = H) (hW : s.WarmedH U.vm) : m_Pc P cl D cA tys XT ad h as H.size (as.map (m_cv ad)).toArray U :=
  ⟨rfl, by rw [hU], by rw [hU]; exact hr.1, va_K.moved hW.alike hK, hr.2.1.weaken (fun _ _ _ _ => trivial), by
    rw [hU]
    exact hXT.2.2 _ _ _ _ (m_sub hr hA) (hXT.1 _ _ _ _ hW (hXT.2.1 _ _ _ _ hr.2.2.1.1 hr.2.2.1.2.1 hX))⟩
/-- behind a call -/
theorem m_back (hr : m_rel s P cl D cA A xa ad H locs h) (hA : ∀ q, s.heap.size ≤ q → A q) {h' : m_H} {ad' : Nat → Nat} {st0 t T' : State} {L : List Loc} (h0 : st0.heap = H) (e1 : T'.heap = t.heap) (hL : ∀ q ∈ L, va_A (m_ws P cA ad h) H.size q.base) (hB : m_Bh P cl D cA (va_A (m_ws P cA ad h) H.size) (m_n h, ad) h' ad' st0 t) : m_rel s P cl D cA A xa ad' T'.heap (locs ++ L) h' ∧ m_n h ≤ m_n h' ∧ ∀ j, j < m_n h ∨ m_X ≤ j → ad' j = ad j := by
  obtain ⟨b1, b2, b3, b4, b5, b6⟩ := hB
  obtain ⟨r1, r2, r3, r4, r5, r6⟩ := id hr
  obtain ⟨k1, k2, k3⟩ := vx_keep (A0 := A) (A1 := va_A (m_ws P cA ad h) H.size) (free := va_A (m_ws P cA ad h) H.size) h0 e1 r3 (fun q _ z => m_sub hr hA q z) (fun q z => m_sub hr hA q z) hL b6
  exact ⟨⟨by rw [e1]; exact b1, b2.weaken (fun _ _ _ z => m_sub hr hA _ z), k3, b3, Nat.le_trans r5 b4, fun j hj => (b5 j (hj.imp (fun z => Nat.lt_of_lt_of_le z r5) id)).trans (r6 j hj)⟩, b4, b5⟩
/-- a call, as it came back: it goes on behind it, or is thrown over its frame -/
theorem m_call (hr : m_rel s P cl D cA A xa ad H locs h) (hA : ∀ q, s.heap.size ≤ q → A q) {la : Array Slot} (hl : m_lR ad (m_n h) ls la nL) (hs : ∀ v ∈ st, m_in (m_n h) v) {o : Option Value ⊕ Nat} {h' : m_H} {a : Array Value} {st0 : List Value} (h0 : c0 ≤ m_c h) (h1 : s0 ≤ m_s h) (g0 : m_c h ≤ m_c h') (g1 : m_s h ≤ m_s h')
    (hrun : vx_Run p l e R s m args below meth c H locs (m_c h - c0) (m_s h - s0) (m_c h' - m_c h) (m_s h' - m_s h) (F0 m pc la st0) (st.map (m_cv ad)) (m_Qc P cl D cA (va_A (m_ws P cA ad h) H.size) (m_n h, ad) o h' a) (m_XC P cl D cA (va_A (m_ws P cA ad h) H.size) (m_n h, ad) o h') (va_A (m_ws P cA ad h) H.size))
    (kk : ∀ v, o = .inl v → m_go p l e R s m args below meth c Q P cl D cA A xa nL c0 s0 (pc + 3) ls (v.toList ++ st) h')
    (kx : ∀ x, o = .inr x → ∀ (H1 : Heap) (locs1 : List Loc) (ad' : Nat → Nat) (q : Addr) (ce : Cell), m_rel s P cl D cA A xa ad' H1 locs1 h' → m_lR ad' (m_n h') ls la nL → H1[q]? = some ce → ce.vm = .none → s.vm.findClass (m_en x) = some ce.cls → vx_W p l e R s m args below meth c H1 locs1 (m_c h' - c0) (m_s h' - s0) Q (F0 m pc la (st.map (m_cv ad))) q) :
    W p l e R s m args below meth c H locs (m_c h - c0) (m_s h - s0) Q (F0 m pc la st0) := by
  have n1 : m_c h - c0 + (m_c h' - m_c h) = m_c h' - c0 := by omega
  have n2 : m_s h - s0 + (m_s h' - m_s h) = m_s h' - s0 := by omega
  intro T hT X
  rcases hrun T hT X with ⟨v, st₀, t, T', L, q0, X', hL, e1, e2, ⟨w, ad', ho, hv, hin, hB⟩, stp⟩ | ⟨q, st₀, t, T', L, E, ce, q0, X', hL, e1, e2, ⟨x, ad', ho, hE, hB⟩, hce, hcv, hcl, stp⟩
  · obtain ⟨r', hn, hd⟩ := m_back hr hA q0 e1 hL hB
    cases hv
    rw [n1, n2] at X'
    have := kk w ho T'.heap (locs ++ L) ad' la r' (m_lR_ad hl hn hd) (fun z hz => by
      rcases List.mem_append.mp hz with q | q
      · exact hin z (by simpa using q)
      · exact m_in_mono (hs z q) hn) T' rfl X'
    obtain ⟨t2, a1, b1⟩ := this
    refine ⟨t2, stp t2 ?_, b1⟩
    rw [List.map_append, m_cv_map hs hd] at a1
    have ew : (w.toList).map (m_cv ad') = (w.map (m_cv ad')).toList := by cases w <;> rfl
    rw [ew] at a1
    exact a1
  · obtain ⟨r', hn, hd⟩ := m_back hr hA q0 e1 hL hB
    subst hE
    rw [n1, n2] at X'
    obtain ⟨t2, a1, b1⟩ := kx x ho T'.heap (locs ++ L) ad' q ce r' (m_lR_ad hl hn hd) (by rw [e1]; exact hce) hcv hcl T' rfl X'
    exact ⟨t2, stp.trans a1, b1⟩
end GOC
