/-! fields and rows -/
theorem m_upne {α : Type} {f : Nat → Nat → α} {a b k : Nat} {v : α} (hb : b ≠ a) : m_up f a k v b = f b := by
  funext y
  simp [m_up, hb]
theorem m_upeq {α : Type} {f : Nat → Nat → α} {a k j : Nat} {v : α} : m_up f a k v a j = if j = k then v else f a j := by simp [m_up]
theorem m_upI {f : Nat → Nat → Int32} {a k : Nat} {v : Int32} : m_up f a k v a = upd (f a) k v := by
  funext y
  simp [m_up, upd]
theorem m_upL {f : Nat → Nat → Int64} {a k : Nat} {v : Int64} : m_up f a k v a = vp_updL (f a) k v := by
  funext y
  simp [m_up, vp_updL]
theorem m_upD {f : Nat → Nat → UInt64} {a k : Nat} {v : UInt64} : m_up f a k v a = vf_upd (f a) k v := by
  funext y
  simp [m_up, vf_upd]
theorem m_I_setI (h : m_H) (a k : Nat) (v : Int32) : m_I (m_setI h a k v) = m_up (m_I h) a k v := rfl
theorem m_L_setL (h : m_H) (a k : Nat) (v : Int64) : m_L (m_setL h a k v) = m_up (m_L h) a k v := rfl
theorem m_D_setD (h : m_H) (a k : Nat) (v : UInt64) : m_D (m_setD h a k v) = m_up (m_D h) a k v := rfl
theorem m_R_setR (h : m_H) (a k : Nat) (v : Option Nat) : m_R (m_setR h a k v) = m_up (m_R h) a k v := rfl
section CELLS
variable {P : m_P} {cA : Nat → ClassId} {ad : Nat → Nat} {h : m_H} {a b k : Nat}
theorem m_cI_ne {v : Int32} (hb : b ≠ a) : m_cell P cA ad (m_setI h a k v) b = m_cell P cA ad h b := by
  have e1 : m_I (m_setI h a k v) b = m_I h b := m_upne hb
  unfold m_cell m_fv
  rw [e1]
  rfl
theorem m_cL_ne {v : Int64} (hb : b ≠ a) : m_cell P cA ad (m_setL h a k v) b = m_cell P cA ad h b := by
  have e1 : m_L (m_setL h a k v) b = m_L h b := m_upne hb
  unfold m_cell m_fv
  rw [e1]
  rfl
theorem m_cD_ne {v : UInt64} (hb : b ≠ a) : m_cell P cA ad (m_setD h a k v) b = m_cell P cA ad h b := by
  have e1 : m_D (m_setD h a k v) b = m_D h b := m_upne hb
  unfold m_cell m_fv
  rw [e1]
  rfl
theorem m_cR_ne {v : Option Nat} (hb : b ≠ a) : m_cell P cA ad (m_setR h a k v) b = m_cell P cA ad h b := by
  have e1 : m_R (m_setR h a k v) b = m_R h b := m_upne hb
  unfold m_cell m_fv
  rw [e1]
  rfl
theorem m_cell_obj {ci : Nat} (hk : m_k h a = ci) (hc : ci < 100) : m_cell P cA ad h a = .inr (ci, (List.range (m_nf P ci)).map (fun k => m_fv P ad h a ci k)) := by
  unfold m_cell
  rw [hk, if_pos hc]
theorem m_cell_I {ci : Nat} (hk : m_k h a = ci) (h1 : 100 ≤ ci) (h2 : ci ≠ 102) (h3 : ci ≠ 103) (h4 : ci < 200) : m_cell P cA ad h a = .inl (cA ci, m_l h a, .inl (m_I h a)) := by
  unfold m_cell
  rw [hk, if_neg (by omega), if_neg h2, if_neg h3, if_pos h4]
theorem m_cell_L (hk : m_k h a = 102) : m_cell P cA ad h a = .inl (cA 102, m_l h a, .inr (.inl (m_L h a))) := by
  unfold m_cell
  rw [hk]
  rfl
theorem m_cell_D (hk : m_k h a = 103) : m_cell P cA ad h a = .inl (cA 103, m_l h a, .inr (.inr (.inr (.inl (m_D h a))))) := by
  unfold m_cell
  rw [hk]
  rfl
theorem m_cell_R {ci : Nat} (hk : m_k h a = ci) (h1 : 200 ≤ ci) : m_cell P cA ad h a = .inl (cA ci, m_l h a, .inr (.inr (.inr (.inr (fun i => (m_R h a i).map ad))))) := by
  unfold m_cell
  rw [hk, if_neg (by omega), if_neg (by omega), if_neg (by omega), if_neg (by omega)]
end CELLS
/-- a field as the small machine reads it -/
def m_gv (P : m_P) (h : m_H) (a ci k : Nat) : Value := if m_fk P ci k = 1 then m_rv (m_R h a k) else if m_fk P ci k = 2 then .long (m_L h a k) else .int (m_I h a k)
theorem m_gv_cv {P : m_P} {ad : Nat → Nat} {h : m_H} {a ci k : Nat} : m_cv ad (m_gv P h a ci k) = m_fv P ad h a ci k := by
  unfold m_gv m_fv
  split
  · exact m_rv_cv ad _
  · split <;> rfl
theorem m_rv_in {h : m_H} (hw : m_wf h) {a k : Nat} (ha : a < m_n h) : m_in (m_n h) (m_rv (m_R h a k)) := by
  cases hr : m_R h a k with
  | none => trivial
  | some j => exact hw.2 a k j ha hr
theorem m_gv_in {P : m_P} {h : m_H} {a ci k : Nat} (hw : m_wf h) (ha : a < m_n h) : m_in (m_n h) (m_gv P h a ci k) := by
  unfold m_gv
  split
  · exact m_rv_in hw ha
  · split <;> trivial
theorem m_wf_I {h : m_H} {a k : Nat} {v : Int32} (hw : m_wf h) : m_wf (m_setI h a k v) := hw
theorem m_wf_L {h : m_H} {a k : Nat} {v : Int64} (hw : m_wf h) : m_wf (m_setL h a k v) := hw
theorem m_wf_D {h : m_H} {a k : Nat} {v : UInt64} (hw : m_wf h) : m_wf (m_setD h a k v) := hw
theorem m_wf_R {h : m_H} {a k : Nat} {v : Option Nat} (hw : m_wf h) (hv : ∀ j, v = some j → j < m_n h ∨ m_X ≤ j) : m_wf (m_setR h a k v) := by
  refine ⟨hw.1, fun b i j hb hj => ?_⟩
  rw [m_R_setR] at hj
  unfold m_up at hj
  split at hj
  · exact hv j hj
  · exact hw.2 b i j hb hj
/-- what is known of a class: its row, its words, its fields' kinds -/
def m_tyok (z : Nat) (ty : FieldType) : Prop := (z = 0 ∧ ty = .int) ∨ (z = 1 ∧ ((∃ n, ty = .object n) ∨ ∃ t, ty = .array t)) ∨ (z = 2 ∧ ty = .long) ∨ (z = 3 ∧ ty = .boolean)
def m_cok (P : m_P) (cl : List vw_C) (G : List Cond) (ci : Nat) (C : String) (T : u_T) : Prop :=
  ci < 100 ∧ cl[ci]? = some (C, T, m_nf P ci) ∧ (∀ w ∈ u_ws C T (m_nf P ci), w ∈ G) ∧ (∀ a, a < m_nf P ci → ∀ b, b < m_nf P ci → a ≠ b → (T a).2.1 ≠ (T b).2.1) ∧ ∃ ty : Nat → FieldType, (∀ k, k < m_nf P ci → parseFieldDescriptor (T k).2.2.1 = some (ty k)) ∧ ∀ k, k < m_nf P ci → m_tyok (m_fk P ci k) (ty k)
section GOH
variable {p : Program} {l : Launch} {e : Env} {R : Room} {s : State} {m : MethodId} {args : Array Value} {below : List Frame} {meth : Method} {c : Code} {Q : State → Prop} {P : m_P} {cl : List vw_C} {D : va_G} {cA : Nat → ClassId} {A : Nat → Prop} {xa : Nat × (Nat → Nat)} {nL c0 s0 : Nat} {pc : Nat} {ls : m_F} {st : List Value} {h : m_H} {cc : ByteArray} {tys : List (ClassId × FieldType)} {G : List Cond} {own : String}
theorem g_get (hx : p.tables.exec = Jvm.exec) (hb : c.code = cc) (hts : ∀ w ∈ G, w.before args s = true) (hown : s.vm.findClass own = some m.cls) (hK : va_K D cl tys s) {ci : Nat} {C : String} {T : u_T} (hc : m_cok P cl G ci C T) {k index a : Nat} (hlink : Cond.fieldLink own index (T k).1 (T k).2.1 (T k).2.2.1 ∈ G) (ha : a < m_n h) (hk : m_k h a = ci) (hkN : k < m_nf P ci) (hd : decode cc pc = .ok (.getfield index, 3))
    (kk : m_go p l e R s m args below meth c Q P cl D cA A xa nL c0 s0 (pc + 3) ls (m_gv P h a ci k :: st) h) : m_go p l e R s m args below meth c Q P cl D cA A xa nL c0 s0 pc ls (.ref a :: st) h := by
  intro H locs ad la hr hl hs
  obtain ⟨hP, hD, hS, hw, hX⟩ := id hr
  obtain ⟨h0, h1, h2, h3, h4⟩ := hc
  have he := m_ws_at (P := P) (cA := cA) (ad := ad) ha
  rw [m_cell_obj hk h0] at he
  refine va_get hx hb hts h2 hown hK hP a he h1 k hkN (hts _ hlink) (fun _ z => z) (v := m_cv ad (m_gv P h a ci k)) ?_ hd (kk H locs ad la hr hl (g_cs (m_gv_in hw ha) (g_tl hs)))
  rw [List.getElem?_map, List.getElem?_range hkN, m_gv_cv]
  rfl
/-- an object's cell with one field changed -/
theorem m_obj_set {P : m_P} {cA : Nat → ClassId} {ad : Nat → Nat} {h h' : m_H} {a ci k : Nat} {v : Value} (hk : m_k h a = ci) (hk' : m_k h' a = ci) (hc : ci < 100) (hkN : k < m_nf P ci) (hv : m_fv P ad h' a ci k = v) (ho : ∀ j, j ≠ k → m_fv P ad h' a ci j = m_fv P ad h a ci j) :
    m_cell P cA ad h' a = .inr (ci, ((List.range (m_nf P ci)).map (fun k => m_fv P ad h a ci k)).set k v) := by
  rw [m_cell_obj hk' hc, ← hv, m_map_set (f := fun k => m_fv P ad h a ci k) (g := fun k => m_fv P ad h' a ci k) hkN ho]
theorem g_put (hx : p.tables.exec = Jvm.exec) (hb : c.code = cc) (hts : ∀ w ∈ G, w.before args s = true) (hown : s.vm.findClass own = some m.cls) (hK : va_K D cl tys s) {ci : Nat} {C : String} {T : u_T} (hc : m_cok P cl G ci C T) {k index a : Nat} (hlink : Cond.fieldLink own index (T k).1 (T k).2.1 (T k).2.2.1 ∈ G) (hfin : (T k).2.2.2 = false ∨ ((T k).2.2.2 = true ∧ meth.name = "<init>" ∧ (T k).1 = own)) (ha : a < m_n h) (hk : m_k h a = ci) (hkN : k < m_nf P ci) (hd : decode cc pc = .ok (.putfield index, 3))
    {v : Value} {h' : m_H} (hn : m_n h' = m_n h) (hcs : m_c h' = m_c h) (hss : m_s h' = m_s h) (hk' : m_k h' a = ci) (hw' : m_wf h → m_wf h') (hty : ∀ (ad : Nat → Nat) (ty : FieldType), m_tyok (m_fk P ci k) ty → narrow ty (m_cv ad v) = m_cv ad v ∧ fits ty (m_cv ad v) = true)
    (hv : ∀ ad, m_fv P ad h' a ci k = m_cv ad v) (ho : ∀ ad j, j ≠ k → m_fv P ad h' a ci j = m_fv P ad h a ci j) (hob : ∀ ad b, b ≠ a → m_cell P cA ad h' b = m_cell P cA ad h b)
    (kk : m_go p l e R s m args below meth c Q P cl D cA A xa nL c0 s0 (pc + 3) ls st h') : m_go p l e R s m args below meth c Q P cl D cA A xa nL c0 s0 pc ls (v :: .ref a :: st) h := by
  intro H locs ad la hr hl hs
  obtain ⟨hP, hD, hS, hw, hX⟩ := id hr
  obtain ⟨h0, h1, h2, h3, ty, h4, h5⟩ := hc
  have he := m_ws_at (P := P) (cA := cA) (ad := ad) ha
  rw [m_cell_obj hk h0] at he
  obtain ⟨q1, q2⟩ := hty ad (ty k) (h5 k hkN)
  have hnew := m_obj_set (P := P) (cA := cA) (ad := ad) hk hk' h0 hkN (hv ad) (ho ad)
  have hset : (m_ws P cA ad h).set a (ad a, .inr (ci, ((List.range (m_nf P ci)).map (fun k => m_fv P ad h a ci k)).set k (m_cv ad v))) = m_ws P cA ad h' := by
    rw [← hnew]
    exact m_ws_set ha hn (hob ad)
  have fin : ∀ (H1 : Heap) (locs1 : List Loc), va_P D cl (m_ws P cA ad h') H1 → va_D A (m_ws P cA ad h') → va_S A s.heap H1 locs1 → W p l e R s m args below meth c H1 locs1 (m_c h - c0) (m_s h - s0) Q (F0 m (pc + 3) la (st.map (m_cv ad))) := by
    intro H1 locs1 a1 a2 a3
    have := kk H1 locs1 ad la ⟨a1, a2, a3, hw' hw, by rw [hn]; exact hX⟩ (hn ▸ hl) (by rw [hn]; exact g_tl (g_tl hs))
    rw [hcs, hss] at this
    exact this
  rcases hfin with hfin | ⟨hfin, hin, hdc⟩
  · refine va_put hx hb hts h2 ty h4 h3 hown hK hP hD hS a he h1 k hkN (hts _ hlink) (fun _ z => z) hfin (h4 k hkN) q1 q2 (by simpa using hkN) hd (fun H1 locs1 a1 a2 a3 => ?_)
    rw [hset] at a1 a2
    exact fin H1 locs1 a1 a2 a3
  · refine va_putF hx hb hts h2 ty h4 h3 hown hK hP hD hS a he h1 k hkN (hts _ hlink) (fun _ z => z) hfin hin hdc (h4 k hkN) q1 q2 (by simpa using hkN) hd (fun H1 locs1 a1 a2 a3 => ?_)
    rw [hset] at a1 a2
    exact fin H1 locs1 a1 a2 a3
end GOH
