/-! rows and new cells -/
/-- the class of a kind of rows is in the list -/
def m_aok (tys : List (ClassId × FieldType)) (cA : Nat → ClassId) (z : Nat) (ty : FieldType) : Prop := ∃ t0 : Nat, tys[t0]? = some (cA z, ty)
section GOR
variable {p : Program} {l : Launch} {e : Env} {R : Room} {s : State} {m : MethodId} {args : Array Value} {below : List Frame} {meth : Method} {c : Code} {Q : State → Prop} {P : m_P} {cl : List vw_C} {D : va_G} {cA : Nat → ClassId} {A : Nat → Prop} {xa : Nat × (Nat → Nat)} {nL c0 s0 : Nat} {pc : Nat} {ls : m_F} {st : List Value} {h : m_H} {cc : ByteArray} {tys : List (ClassId × FieldType)} {G : List Cond} {own : String} {a : Nat} {i : Int32}
theorem g_iald (hx : p.tables.exec = Jvm.exec) (hb : c.code = cc) (hK : va_K D cl tys s) (ht : m_aok tys cA 100 .int) (ha : a < m_n h) (hk : m_k h a = 100) (hi : ¬ (i < 0 ∨ m_l h a ≤ i.toNatClampNeg)) (hd : decode cc pc = .ok (.iaload, 1)) (kk : m_go p l e R s m args below meth c Q P cl D cA A xa nL c0 s0 (pc + 1) ls (.int (m_I h a i.toNatClampNeg) :: st) h) : m_go p l e R s m args below meth c Q P cl D cA A xa nL c0 s0 pc ls (.int i :: .ref a :: st) h := by
  intro H locs ad la hr hl hs
  obtain ⟨t0, ht⟩ := ht
  have he := m_ws_at (P := P) (cA := cA) (ad := ad) ha
  rw [m_cell_I (ci := 100) hk (by decide) (by decide) (by decide) (by decide)] at he
  exact va_iald hx hb hK hr.1 a t0 he ht hi hd (kk H locs ad la hr hl (g_cs trivial (g_tl (g_tl hs))))
theorem g_iast (hx : p.tables.exec = Jvm.exec) (hb : c.code = cc) (hK : va_K D cl tys s) (ht : m_aok tys cA 100 .int) {v : Int32} (ha : a < m_n h) (hk : m_k h a = 100) (hi : ¬ (i < 0 ∨ m_l h a ≤ i.toNatClampNeg)) (hd : decode cc pc = .ok (.iastore, 1)) (kk : m_go p l e R s m args below meth c Q P cl D cA A xa nL c0 s0 (pc + 1) ls st (m_setI h a i.toNatClampNeg v)) : m_go p l e R s m args below meth c Q P cl D cA A xa nL c0 s0 pc ls (.int v :: .int i :: .ref a :: st) h := by
  intro H locs ad la hr hl hs
  obtain ⟨hP, hD, hS, hw, hX⟩ := id hr
  obtain ⟨t0, ht⟩ := ht
  have he := m_ws_at (P := P) (cA := cA) (ad := ad) ha
  rw [m_cell_I (ci := 100) hk (by decide) (by decide) (by decide) (by decide)] at he
  have hset := m_ws_set (P := P) (cA := cA) (ad := ad) (h' := m_setI h a i.toNatClampNeg v) ha rfl (fun b hb => m_cI_ne hb)
  rw [m_cell_I (ci := 100) (show m_k (m_setI h a i.toNatClampNeg v) a = 100 from hk) (by decide) (by decide) (by decide) (by decide), m_I_setI, m_upI] at hset
  refine va_iast hx hb hK hP hD hS a t0 he ht hi hd (fun H1 locs1 a1 a2 a3 => ?_)
  · have a1 : va_P D cl (m_ws P cA ad (m_setI h a i.toNatClampNeg v)) H1 := by rw [← hset]; exact a1
    have a2 : va_D A (m_ws P cA ad (m_setI h a i.toNatClampNeg v)) := by rw [← hset]; exact a2
    exact kk H1 locs1 ad la ⟨a1, a2, a3, hw, hX⟩ hl (g_tl (g_tl (g_tl hs)))
theorem g_bald (hx : p.tables.exec = Jvm.exec) (hb : c.code = cc) (hK : va_K D cl tys s) (ht : m_aok tys cA 101 .byte) (ha : a < m_n h) (hk : m_k h a = 101) (hi : ¬ (i < 0 ∨ m_l h a ≤ i.toNatClampNeg)) (hd : decode cc pc = .ok (.baload, 1)) (kk : m_go p l e R s m args below meth c Q P cl D cA A xa nL c0 s0 (pc + 1) ls (.int (m_I h a i.toNatClampNeg) :: st) h) : m_go p l e R s m args below meth c Q P cl D cA A xa nL c0 s0 pc ls (.int i :: .ref a :: st) h := by
  intro H locs ad la hr hl hs
  obtain ⟨t0, ht⟩ := ht
  have he := m_ws_at (P := P) (cA := cA) (ad := ad) ha
  rw [m_cell_I (ci := 101) hk (by decide) (by decide) (by decide) (by decide)] at he
  exact va_bald hx hb hK hr.1 a t0 he ht hi hd (kk H locs ad la hr hl (g_cs trivial (g_tl (g_tl hs))))
theorem g_bast (hx : p.tables.exec = Jvm.exec) (hb : c.code = cc) (hK : va_K D cl tys s) (ht : m_aok tys cA 101 .byte) {v : Int32} (ha : a < m_n h) (hk : m_k h a = 101) (hi : ¬ (i < 0 ∨ m_l h a ≤ i.toNatClampNeg)) (hd : decode cc pc = .ok (.bastore, 1)) (kk : m_go p l e R s m args below meth c Q P cl D cA A xa nL c0 s0 (pc + 1) ls st (m_setI h a i.toNatClampNeg v.toInt8.toInt32)) : m_go p l e R s m args below meth c Q P cl D cA A xa nL c0 s0 pc ls (.int v :: .int i :: .ref a :: st) h := by
  intro H locs ad la hr hl hs
  obtain ⟨hP, hD, hS, hw, hX⟩ := id hr
  obtain ⟨t0, ht⟩ := ht
  have he := m_ws_at (P := P) (cA := cA) (ad := ad) ha
  rw [m_cell_I (ci := 101) hk (by decide) (by decide) (by decide) (by decide)] at he
  have hset := m_ws_set (P := P) (cA := cA) (ad := ad) (h' := m_setI h a i.toNatClampNeg v.toInt8.toInt32) ha rfl (fun b hb => m_cI_ne hb)
  rw [m_cell_I (ci := 101) (show m_k (m_setI h a i.toNatClampNeg v.toInt8.toInt32) a = 101 from hk) (by decide) (by decide) (by decide) (by decide), m_I_setI, m_upI] at hset
  refine va_bast hx hb hK hP hD hS a t0 he ht hi hd (fun H1 locs1 a1 a2 a3 => ?_)
  · rw [vp_nar_byte] at a1 a2
    have a1 : va_P D cl (m_ws P cA ad (m_setI h a i.toNatClampNeg v.toInt8.toInt32)) H1 := by rw [← hset]; exact a1
    have a2 : va_D A (m_ws P cA ad (m_setI h a i.toNatClampNeg v.toInt8.toInt32)) := by rw [← hset]; exact a2
    exact kk H1 locs1 ad la ⟨a1, a2, a3, hw, hX⟩ hl (g_tl (g_tl (g_tl hs)))
theorem g_lald (hx : p.tables.exec = Jvm.exec) (hb : c.code = cc) (hK : va_K D cl tys s) (ht : m_aok tys cA 102 .long) (ha : a < m_n h) (hk : m_k h a = 102) (hi : ¬ (i < 0 ∨ m_l h a ≤ i.toNatClampNeg)) (hd : decode cc pc = .ok (.laload, 1)) (kk : m_go p l e R s m args below meth c Q P cl D cA A xa nL c0 s0 (pc + 1) ls (.long (m_L h a i.toNatClampNeg) :: st) h) : m_go p l e R s m args below meth c Q P cl D cA A xa nL c0 s0 pc ls (.int i :: .ref a :: st) h := by
  intro H locs ad la hr hl hs
  obtain ⟨t0, ht⟩ := ht
  have he := m_ws_at (P := P) (cA := cA) (ad := ad) ha
  rw [m_cell_L hk] at he
  exact va_lald hx hb hK hr.1 a t0 he ht hi hd (kk H locs ad la hr hl (g_cs trivial (g_tl (g_tl hs))))
theorem g_last (hx : p.tables.exec = Jvm.exec) (hb : c.code = cc) (hK : va_K D cl tys s) (ht : m_aok tys cA 102 .long) {v : Int64} (ha : a < m_n h) (hk : m_k h a = 102) (hi : ¬ (i < 0 ∨ m_l h a ≤ i.toNatClampNeg)) (hd : decode cc pc = .ok (.lastore, 1)) (kk : m_go p l e R s m args below meth c Q P cl D cA A xa nL c0 s0 (pc + 1) ls st (m_setL h a i.toNatClampNeg v)) : m_go p l e R s m args below meth c Q P cl D cA A xa nL c0 s0 pc ls (.long v :: .int i :: .ref a :: st) h := by
  intro H locs ad la hr hl hs
  obtain ⟨hP, hD, hS, hw, hX⟩ := id hr
  obtain ⟨t0, ht⟩ := ht
  have he := m_ws_at (P := P) (cA := cA) (ad := ad) ha
  rw [m_cell_L hk] at he
  have hset := m_ws_set (P := P) (cA := cA) (ad := ad) (h' := m_setL h a i.toNatClampNeg v) ha rfl (fun b hb => m_cL_ne hb)
  rw [m_cell_L (show m_k (m_setL h a i.toNatClampNeg v) a = 102 from hk), m_L_setL, m_upL] at hset
  refine va_last hx hb hK hP hD hS a t0 he ht hi hd (fun H1 locs1 a1 a2 a3 => ?_)
  · have a1 : va_P D cl (m_ws P cA ad (m_setL h a i.toNatClampNeg v)) H1 := by rw [← hset]; exact a1
    have a2 : va_D A (m_ws P cA ad (m_setL h a i.toNatClampNeg v)) := by rw [← hset]; exact a2
    exact kk H1 locs1 ad la ⟨a1, a2, a3, hw, hX⟩ hl (g_tl (g_tl (g_tl hs)))
theorem g_dald (hx : p.tables.exec = Jvm.exec) (hb : c.code = cc) (hK : va_K D cl tys s) (ht : m_aok tys cA 103 .double) (ha : a < m_n h) (hk : m_k h a = 103) (hi : ¬ (i < 0 ∨ m_l h a ≤ i.toNatClampNeg)) (hd : decode cc pc = .ok (.daload, 1)) (kk : m_go p l e R s m args below meth c Q P cl D cA A xa nL c0 s0 (pc + 1) ls (.double (m_D h a i.toNatClampNeg) :: st) h) : m_go p l e R s m args below meth c Q P cl D cA A xa nL c0 s0 pc ls (.int i :: .ref a :: st) h := by
  intro H locs ad la hr hl hs
  obtain ⟨t0, ht⟩ := ht
  have he := m_ws_at (P := P) (cA := cA) (ad := ad) ha
  rw [m_cell_D hk] at he
  exact va_dald hx hb hK hr.1 a t0 he ht hi hd (kk H locs ad la hr hl (g_cs trivial (g_tl (g_tl hs))))
theorem g_dast (hx : p.tables.exec = Jvm.exec) (hb : c.code = cc) (hK : va_K D cl tys s) (ht : m_aok tys cA 103 .double) {v : UInt64} (ha : a < m_n h) (hk : m_k h a = 103) (hi : ¬ (i < 0 ∨ m_l h a ≤ i.toNatClampNeg)) (hd : decode cc pc = .ok (.dastore, 1)) (kk : m_go p l e R s m args below meth c Q P cl D cA A xa nL c0 s0 (pc + 1) ls st (m_setD h a i.toNatClampNeg v)) : m_go p l e R s m args below meth c Q P cl D cA A xa nL c0 s0 pc ls (.double v :: .int i :: .ref a :: st) h := by
  intro H locs ad la hr hl hs
  obtain ⟨hP, hD, hS, hw, hX⟩ := id hr
  obtain ⟨t0, ht⟩ := ht
  have he := m_ws_at (P := P) (cA := cA) (ad := ad) ha
  rw [m_cell_D hk] at he
  have hset := m_ws_set (P := P) (cA := cA) (ad := ad) (h' := m_setD h a i.toNatClampNeg v) ha rfl (fun b hb => m_cD_ne hb)
  rw [m_cell_D (show m_k (m_setD h a i.toNatClampNeg v) a = 103 from hk), m_D_setD, m_upD] at hset
  refine va_dast hx hb hK hP hD hS a t0 he ht hi hd (fun H1 locs1 a1 a2 a3 => ?_)
  · have a1 : va_P D cl (m_ws P cA ad (m_setD h a i.toNatClampNeg v)) H1 := by rw [← hset]; exact a1
    have a2 : va_D A (m_ws P cA ad (m_setD h a i.toNatClampNeg v)) := by rw [← hset]; exact a2
    exact kk H1 locs1 ad la ⟨a1, a2, a3, hw, hX⟩ hl (g_tl (g_tl (g_tl hs)))
theorem g_aald (hx : p.tables.exec = Jvm.exec) (hb : c.code = cc) (hK : va_K D cl tys s) {z : Nat} {C : String} (ht : m_aok tys cA z (.object C)) (hz : 200 ≤ z) (ha : a < m_n h) (hk : m_k h a = z) (hi : ¬ (i < 0 ∨ m_l h a ≤ i.toNatClampNeg)) (hd : decode cc pc = .ok (.aaload, 1)) (kk : m_go p l e R s m args below meth c Q P cl D cA A xa nL c0 s0 (pc + 1) ls (m_rv (m_R h a i.toNatClampNeg) :: st) h) : m_go p l e R s m args below meth c Q P cl D cA A xa nL c0 s0 pc ls (.int i :: .ref a :: st) h := by
  intro H locs ad la hr hl hs
  obtain ⟨t0, ht⟩ := ht
  have he := m_ws_at (P := P) (cA := cA) (ad := ad) ha
  rw [m_cell_R hk hz] at he
  refine va_aldq hx hb hK hr.1 a t0 he ht hi hd ?_
  have := kk H locs ad la hr hl (g_cs (m_rv_in hr.2.2.2.1 ha) (g_tl (g_tl hs)))
  rw [List.map_cons, m_rv_cv] at this
  exact this
theorem g_aast (hx : p.tables.exec = Jvm.exec) (hb : c.code = cc) (hK : va_K D cl tys s) {z v ci : Nat} {r : vw_C} (hc : cl[ci]? = some r) (ht : m_aok tys cA z (.object r.1)) (hz : 200 ≤ z) (ha : a < m_n h) (hk : m_k h a = z) (hv : v < m_n h) (hkv : m_k h v = ci) (hci : ci < 100) (hi : ¬ (i < 0 ∨ m_l h a ≤ i.toNatClampNeg)) (hd : decode cc pc = .ok (.aastore, 1)) (kk : m_go p l e R s m args below meth c Q P cl D cA A xa nL c0 s0 (pc + 1) ls st (m_setR h a i.toNatClampNeg (some v))) : m_go p l e R s m args below meth c Q P cl D cA A xa nL c0 s0 pc ls (.ref v :: .int i :: .ref a :: st) h := by
  intro H locs ad la hr hl hs
  obtain ⟨hP, hD, hS, hw, hX⟩ := id hr
  obtain ⟨t0, ht⟩ := ht
  have he := m_ws_at (P := P) (cA := cA) (ad := ad) ha
  rw [m_cell_R hk hz] at he
  have hev := m_ws_at (P := P) (cA := cA) (ad := ad) hv
  rw [m_cell_obj hkv hci] at hev
  have hset := m_ws_set (P := P) (cA := cA) (ad := ad) (h' := m_setR h a i.toNatClampNeg (some v)) ha rfl (fun b hb => m_cR_ne hb)
  rw [m_cell_R (show m_k (m_setR h a i.toNatClampNeg (some v)) a = z from hk) hz] at hset
  have hf : (fun j => (m_R (m_setR h a i.toNatClampNeg (some v)) a j).map ad) = va_up (fun j => (m_R h a j).map ad) i.toNatClampNeg (some (ad v)) := by
    funext j
    rw [m_R_setR, m_upeq]
    unfold va_up
    split <;> rfl
  rw [hf] at hset
  refine va_astq hx hb hK hP hD hS a t0 v ci he ht hev hc hi hd (fun H1 locs1 a1 a2 a3 => ?_)
  have a1 : va_P D cl (m_ws P cA ad (m_setR h a i.toNatClampNeg (some v))) H1 := by rw [← hset]; exact a1
  have a2 : va_D A (m_ws P cA ad (m_setR h a i.toNatClampNeg (some v))) := by rw [← hset]; exact a2
  exact kk H1 locs1 ad la ⟨a1, a2, a3, m_wf_R hw (fun j hj => by cases hj; exact Or.inl hv), hX⟩ hl (g_tl (g_tl (g_tl hs)))
theorem g_alen (hx : p.tables.exec = Jvm.exec) (hb : c.code = cc) (hK : va_K D cl tys s) {z : Nat} {ty : FieldType} (ht : m_aok tys cA z ty) (hz : 100 ≤ z) (ha : a < m_n h) (hk : m_k h a = z) (hd : decode cc pc = .ok (.arraylength, 1)) (kk : m_go p l e R s m args below meth c Q P cl D cA A xa nL c0 s0 (pc + 1) ls (.int (Int32.ofNat (m_l h a)) :: st) h) : m_go p l e R s m args below meth c Q P cl D cA A xa nL c0 s0 pc ls (.ref a :: st) h := by
  intro H locs ad la hr hl hs
  obtain ⟨t0, ht⟩ := ht
  have he := m_ws_at (P := P) (cA := cA) (ad := ad) ha
  have hq : ∃ x : vp_A, m_cell P cA ad h a = .inl (cA z, x) ∧ x.1 = m_l h a := by
    by_cases h2 : z = 102
    · subst h2; exact ⟨_, m_cell_L hk, rfl⟩
    by_cases h3 : z = 103
    · subst h3; exact ⟨_, m_cell_D hk, rfl⟩
    by_cases h4 : z < 200
    · exact ⟨_, m_cell_I hk hz h2 h3 h4, rfl⟩
    · exact ⟨_, m_cell_R hk (by omega), rfl⟩
  obtain ⟨x, hx1, hx2⟩ := hq
  rw [hx1] at he
  exact va_alen hx hb hK hr.1 a t0 he ht (by rw [hx2]) hd (kk H locs ad la hr hl (g_cs trivial (g_tl hs)))
theorem m_mk_ne {kd len z b : Nat} {ad : Nat → Nat} (hb : b ≠ m_n h) : m_cell P cA ad (m_mk h kd len z) b = m_cell P cA ad h b := by
  have e1 : m_k (m_mk h kd len z) b = m_k h b := by show m_u1 (m_k h) (m_n h) kd b = m_k h b; unfold m_u1; rw [if_neg hb]
  have e2 : m_l (m_mk h kd len z) b = m_l h b := by show m_u1 (m_l h) (m_n h) len b = m_l h b; unfold m_u1; rw [if_neg hb]
  have e3 : m_I (m_mk h kd len z) b = m_I h b := by funext y; show m_zr (m_I h) (m_n h) 0 b y = m_I h b y; unfold m_zr; rw [if_neg hb]
  have e4 : m_L (m_mk h kd len z) b = m_L h b := by funext y; show m_zr (m_L h) (m_n h) 0 b y = m_L h b y; unfold m_zr; rw [if_neg hb]
  have e5 : m_D (m_mk h kd len z) b = m_D h b := by funext y; show m_zr (m_D h) (m_n h) 0 b y = m_D h b y; unfold m_zr; rw [if_neg hb]
  have e6 : m_R (m_mk h kd len z) b = m_R h b := by funext y; show m_zr (m_R h) (m_n h) none b y = m_R h b y; unfold m_zr; rw [if_neg hb]
  unfold m_cell m_fv
  rw [e1, e2, e3, e4, e5, e6]
theorem m_ws_push {kd len z q : Nat} {ad : Nat → Nat} {ev : va_E} (hw : m_wf h) (hn : m_n h < m_X) (hc : m_cell P cA (m_u1 ad (m_n h) q) (m_mk h kd len z) (m_n h) = ev) : m_ws P cA ad h ++ [(q, ev)] = m_ws P cA (m_u1 ad (m_n h) q) (m_mk h kd len z) := by
  have hd : ∀ j, j < m_n h ∨ m_X ≤ j → m_u1 ad (m_n h) q j = ad j := fun j hj => by unfold m_u1; rw [if_neg (by omega)]
  unfold m_ws
  rw [show m_n (m_mk h kd len z) = m_n h + 1 from rfl, List.range_succ, List.map_append]
  congr 1
  · refine List.map_congr_left (fun b hb => ?_)
    have hb := List.mem_range.mp hb
    rw [m_mk_ne (Nat.ne_of_lt hb), m_cell_ad hw hb hd, hd b (Or.inl hb)]
  · rw [List.map_cons, List.map_nil, hc]
    unfold m_u1
    rw [if_pos rfl]
theorem m_wf_mk {kd len z : Nat} (hw : m_wf h) (hn : m_n h < m_X) : m_wf (m_mk h kd len z) := by
  refine ⟨hn, fun b k j hb hj => ?_⟩
  have hj : m_zr (m_R h) (m_n h) none b k = some j := hj
  unfold m_zr at hj
  split at hj
  · cases hj
  · next hne =>
    have hb : b < m_n h + 1 := hb
    rcases hw.2 b k j (by omega) hj with q | q
    · exact Or.inl (Nat.lt_succ_of_lt q)
    · exact Or.inr q
theorem m_mk_k {kd len z : Nat} : m_k (m_mk h kd len z) (m_n h) = kd := by show m_u1 (m_k h) (m_n h) kd (m_n h) = kd; simp [m_u1]
theorem m_mk_l {kd len z : Nat} : m_l (m_mk h kd len z) (m_n h) = len := by show m_u1 (m_l h) (m_n h) len (m_n h) = len; simp [m_u1]
theorem m_mk_I {kd len z : Nat} : m_I (m_mk h kd len z) (m_n h) = fun _ => 0 := by funext y; show m_zr (m_I h) (m_n h) 0 (m_n h) y = 0; simp [m_zr]
theorem m_mk_L {kd len z : Nat} : m_L (m_mk h kd len z) (m_n h) = fun _ => 0 := by funext y; show m_zr (m_L h) (m_n h) 0 (m_n h) y = 0; simp [m_zr]
theorem m_mk_D {kd len z : Nat} : m_D (m_mk h kd len z) (m_n h) = fun _ => 0 := by funext y; show m_zr (m_D h) (m_n h) 0 (m_n h) y = 0; simp [m_zr]
theorem m_mk_R {kd len z : Nat} : m_R (m_mk h kd len z) (m_n h) = fun _ => none := by funext y; show m_zr (m_R h) (m_n h) none (m_n h) y = none; simp [m_zr]
theorem m_go_mk {kd len z : Nat} {pc' : Nat} {H1 : Heap} {locs : List Loc} {ad : Nat → Nat} {la : Array Slot} {q : Nat} {H : Heap} {ev : va_E} (hr : m_rel s P cl D cA A xa ad H locs h) (hl : m_lR ad (m_n h) ls la nL) (hs : ∀ v ∈ st, m_in (m_n h) v) (hn : m_n h < m_X) (h0 : c0 ≤ m_c h) (h1 : s0 ≤ m_s h) (hc : m_cell P cA (m_u1 ad (m_n h) q) (m_mk h kd len z) (m_n h) = ev) (a1 : va_P D cl (m_ws P cA ad h ++ [(q, ev)]) H1) (a2 : va_D A (m_ws P cA ad h ++ [(q, ev)])) (a3 : va_S A s.heap H1 locs)
    (kk : m_go p l e R s m args below meth c Q P cl D cA A xa nL c0 s0 pc' ls (.ref (m_n h) :: st) (m_mk h kd len z)) : W p l e R s m args below meth c H1 locs (m_c h - c0 + 1) (m_s h - s0 + z) Q (F0 m pc' la (.ref q :: st.map (m_cv ad))) := by
  obtain ⟨hP, hD, hS, hw, hX⟩ := hr
  rw [m_ws_push hw hn hc] at a1 a2
  have hd : ∀ j, j < m_n h ∨ m_X ≤ j → m_u1 ad (m_n h) q j = ad j := fun j hj => by unfold m_u1; rw [if_neg (by omega)]
  have := kk H1 locs (m_u1 ad (m_n h) q) la ⟨a1, a2, a3, m_wf_mk hw hn, Nat.le_succ_of_le hX.1, fun j hj => by rw [hd j (hj.imp (fun z => Nat.lt_of_lt_of_le z hX.1) id)]; exact hX.2 j hj⟩ (m_lR_ad hl (Nat.le_succ _) hd) (g_cs (Or.inl (Nat.lt_succ_self _)) (fun v hv => m_in_mono (hs v hv) (Nat.le_succ _)))
  rw [List.map_cons, m_cv_map hs hd, show m_cv (m_u1 ad (m_n h) q) (.ref (m_n h)) = .ref q by simp [m_cv, m_u1], show m_c (m_mk h kd len z) - c0 = m_c h - c0 + 1 by show m_c h + 1 - c0 = _; omega, show m_s (m_mk h kd len z) - s0 = m_s h - s0 + z by show m_s h + z - s0 = _; omega] at this
  exact this
theorem m_RA_eq {z : Nat} {ty : FieldType} {cB : ClassId} (hK : va_K D cl (tys ++ [(cB, ty)]) s) (ht : m_aok tys cA z ty) : cB = cA z := by
  obtain ⟨t0, ht⟩ := ht
  have q1 := (hK.2 t0 _ (by rw [List.getElem?_append_left (List.getElem?_eq_some_iff.mp ht).1]; exact ht)).2
  have q2 := (hK.2 tys.length (cB, ty) (by rw [List.getElem?_append_right (Nat.le_refl _), Nat.sub_self]; rfl)).2
  cases ty with
  | object C =>
    obtain ⟨_, _, _, _, _, g1⟩ := q1
    obtain ⟨_, _, _, _, _, g2⟩ := q2
    exact Option.some.inj (g2.symm.trans g1)
  | _ => exact Option.some.inj (q2.symm.trans q1)
theorem g_new_i (hx : p.tables.exec = Jvm.exec) (hb : c.code = cc) (hK : va_K D cl tys s) (hA : ∀ q, s.heap.size ≤ q → A q) (ht : m_aok tys cA 100 .int) (harr : (Cond.arrayClass .int).before args s = true) (hn : m_n h < m_X) (h0 : c0 ≤ m_c h) (h1 : s0 ≤ m_s h) (hi : ¬ i < 0) (hz : i.toNatClampNeg ≤ 60000000) (hc1 : m_c h - c0 + 1 ≤ R.cells) (hc2 : m_s h - s0 + i.toNatClampNeg ≤ R.slots) (hd : decode cc pc = .ok (.newarray .int, 2)) (kk : m_go p l e R s m args below meth c Q P cl D cA A xa nL c0 s0 (pc + 2) ls (.ref (m_n h) :: st) (m_mk h 100 i.toNatClampNeg i.toNatClampNeg)) : m_go p l e R s m args below meth c Q P cl D cA A xa nL c0 s0 pc ls (.int i :: st) h := by
  intro H locs ad la hr hl hs
  refine va_newa (atype := .int) (ty := .int) (a0 := (i.toNatClampNeg, .inl (fun _ => 0))) hx hb harr rfl hK hr.1 hr.2.1 hr.2.2.1 hA (fun _ => rfl) hi rfl (by show i.toNatClampNeg * 4 ≤ 536870912; omega) hc1 hc2 hd (fun q cB H1 hK' a1 a2 a3 => ?_)
  have hcB := m_RA_eq hK' ht
  subst hcB
  refine m_go_mk hr hl (g_tl hs) hn h0 h1 ?_ a1 a2 a3 kk
  show m_cell P cA (m_u1 ad (m_n h) q) (m_mk h 100 i.toNatClampNeg i.toNatClampNeg) (m_n h) = _
  rw [m_cell_I (ci := 100) m_mk_k (by decide) (by decide) (by decide) (by decide), m_mk_l, m_mk_I]
theorem g_new_b (hx : p.tables.exec = Jvm.exec) (hb : c.code = cc) (hK : va_K D cl tys s) (hA : ∀ q, s.heap.size ≤ q → A q) (ht : m_aok tys cA 101 .byte) (harr : (Cond.arrayClass .byte).before args s = true) (hn : m_n h < m_X) (h0 : c0 ≤ m_c h) (h1 : s0 ≤ m_s h) (hi : ¬ i < 0) (hz : i.toNatClampNeg ≤ 60000000) (hc1 : m_c h - c0 + 1 ≤ R.cells) (hc2 : m_s h - s0 + i.toNatClampNeg ≤ R.slots) (hd : decode cc pc = .ok (.newarray .byte, 2)) (kk : m_go p l e R s m args below meth c Q P cl D cA A xa nL c0 s0 (pc + 2) ls (.ref (m_n h) :: st) (m_mk h 101 i.toNatClampNeg i.toNatClampNeg)) : m_go p l e R s m args below meth c Q P cl D cA A xa nL c0 s0 pc ls (.int i :: st) h := by
  intro H locs ad la hr hl hs
  refine va_newa (atype := .byte) (ty := .byte) (a0 := (i.toNatClampNeg, .inl (fun _ => 0))) hx hb harr rfl hK hr.1 hr.2.1 hr.2.2.1 hA (fun _ => rfl) hi rfl (by show i.toNatClampNeg * 1 ≤ 536870912; omega) hc1 hc2 hd (fun q cB H1 hK' a1 a2 a3 => ?_)
  have hcB := m_RA_eq hK' ht
  subst hcB
  refine m_go_mk hr hl (g_tl hs) hn h0 h1 ?_ a1 a2 a3 kk
  show m_cell P cA (m_u1 ad (m_n h) q) (m_mk h 101 i.toNatClampNeg i.toNatClampNeg) (m_n h) = _
  rw [m_cell_I (ci := 101) m_mk_k (by decide) (by decide) (by decide) (by decide), m_mk_l, m_mk_I]
theorem g_new_l (hx : p.tables.exec = Jvm.exec) (hb : c.code = cc) (hK : va_K D cl tys s) (hA : ∀ q, s.heap.size ≤ q → A q) (ht : m_aok tys cA 102 .long) (harr : (Cond.arrayClass .long).before args s = true) (hn : m_n h < m_X) (h0 : c0 ≤ m_c h) (h1 : s0 ≤ m_s h) (hi : ¬ i < 0) (hz : i.toNatClampNeg ≤ 60000000) (hc1 : m_c h - c0 + 1 ≤ R.cells) (hc2 : m_s h - s0 + i.toNatClampNeg ≤ R.slots) (hd : decode cc pc = .ok (.newarray .long, 2)) (kk : m_go p l e R s m args below meth c Q P cl D cA A xa nL c0 s0 (pc + 2) ls (.ref (m_n h) :: st) (m_mk h 102 i.toNatClampNeg i.toNatClampNeg)) : m_go p l e R s m args below meth c Q P cl D cA A xa nL c0 s0 pc ls (.int i :: st) h := by
  intro H locs ad la hr hl hs
  refine va_newa (atype := .long) (ty := .long) (a0 := (i.toNatClampNeg, .inr (.inl (fun _ => 0)))) hx hb harr rfl hK hr.1 hr.2.1 hr.2.2.1 hA (fun _ => rfl) hi rfl (by show i.toNatClampNeg * 8 ≤ 536870912; omega) hc1 hc2 hd (fun q cB H1 hK' a1 a2 a3 => ?_)
  have hcB := m_RA_eq hK' ht
  subst hcB
  refine m_go_mk hr hl (g_tl hs) hn h0 h1 ?_ a1 a2 a3 kk
  show m_cell P cA (m_u1 ad (m_n h) q) (m_mk h 102 i.toNatClampNeg i.toNatClampNeg) (m_n h) = _
  rw [m_cell_L m_mk_k, m_mk_l, m_mk_L]
theorem g_new_d (hx : p.tables.exec = Jvm.exec) (hb : c.code = cc) (hK : va_K D cl tys s) (hA : ∀ q, s.heap.size ≤ q → A q) (ht : m_aok tys cA 103 .double) (harr : (Cond.arrayClass .double).before args s = true) (hn : m_n h < m_X) (h0 : c0 ≤ m_c h) (h1 : s0 ≤ m_s h) (hi : ¬ i < 0) (hz : i.toNatClampNeg ≤ 60000000) (hc1 : m_c h - c0 + 1 ≤ R.cells) (hc2 : m_s h - s0 + i.toNatClampNeg ≤ R.slots) (hd : decode cc pc = .ok (.newarray .double, 2)) (kk : m_go p l e R s m args below meth c Q P cl D cA A xa nL c0 s0 (pc + 2) ls (.ref (m_n h) :: st) (m_mk h 103 i.toNatClampNeg i.toNatClampNeg)) : m_go p l e R s m args below meth c Q P cl D cA A xa nL c0 s0 pc ls (.int i :: st) h := by
  intro H locs ad la hr hl hs
  refine va_newa (atype := .double) (ty := .double) (a0 := (i.toNatClampNeg, .inr (.inr (.inr (.inl (fun _ => 0)))))) hx hb harr rfl hK hr.1 hr.2.1 hr.2.2.1 hA (fun _ => rfl) hi rfl (by show i.toNatClampNeg * 8 ≤ 536870912; omega) hc1 hc2 hd (fun q cB H1 hK' a1 a2 a3 => ?_)
  have hcB := m_RA_eq hK' ht
  subst hcB
  refine m_go_mk hr hl (g_tl hs) hn h0 h1 ?_ a1 a2 a3 kk
  show m_cell P cA (m_u1 ad (m_n h) q) (m_mk h 103 i.toNatClampNeg i.toNatClampNeg) (m_n h) = _
  rw [m_cell_D m_mk_k, m_mk_l, m_mk_D]
theorem g_new_q (hx : p.tables.exec = Jvm.exec) (hb : c.code = cc) (hown : s.vm.findClass own = some m.cls) (hK : va_K D cl tys s) (hA : ∀ q, s.heap.size ≤ q → A q) {z index : Nat} {C : String} (hz2 : 200 ≤ z) (ht : m_aok tys cA z (.object C)) (hlink : (Cond.classLink own index C).before args s = true) (hov : va_AO C s) (hn : m_n h < m_X) (h0 : c0 ≤ m_c h) (h1 : s0 ≤ m_s h) (hi : ¬ i < 0) (hz : i.toNatClampNeg ≤ 60000000) (hc1 : m_c h - c0 + 1 ≤ R.cells) (hc2 : m_s h - s0 + i.toNatClampNeg ≤ R.slots) (hd : decode cc pc = .ok (.anewarray index, 3)) (kk : m_go p l e R s m args below meth c Q P cl D cA A xa nL c0 s0 (pc + 3) ls (.ref (m_n h) :: st) (m_mk h z i.toNatClampNeg i.toNatClampNeg)) : m_go p l e R s m args below meth c Q P cl D cA A xa nL c0 s0 pc ls (.int i :: st) h := by
  intro H locs ad la hr hl hs
  refine va_newq hx hb hown hlink hov hK hr.1 hr.2.1 hr.2.2.1 hA hi rfl (by omega) hc1 hc2 hd (fun q cB H1 hK' a1 a2 a3 => ?_)
  have hcB := m_RA_eq hK' ht
  subst hcB
  refine m_go_mk hr hl (g_tl hs) hn h0 h1 ?_ a1 a2 a3 kk
  rw [m_cell_R m_mk_k hz2, m_mk_l, m_mk_R]
  rfl
theorem g_new (hx : p.tables.exec = Jvm.exec) (hb : c.code = cc) (hts : ∀ w ∈ G, w.before args s = true) (hown : s.vm.findClass own = some m.cls) (hK : va_K D cl tys s) (hA : ∀ q, s.heap.size ≤ q → A q) {ci index : Nat} {C : String} {T : u_T} (hc : m_cok P cl G ci C T) (hlink : (Cond.classLink own index C).before args s = true) (hinst : (Cond.instantiable C (m_nf P ci)).before args s = true) (hini : (Cond.initialized C).before args s = true) (hn : m_n h < m_X) (h0 : c0 ≤ m_c h) (h1 : s0 ≤ m_s h) (hc1 : m_c h - c0 + 1 ≤ R.cells) (hc2 : m_s h - s0 + m_nf P ci ≤ R.slots) (hd : decode cc pc = .ok (.new index, 3)) (kk : m_go p l e R s m args below meth c Q P cl D cA A xa nL c0 s0 (pc + 3) ls (.ref (m_n h) :: st) (m_mk h ci 0 (m_nf P ci))) : m_go p l e R s m args below meth c Q P cl D cA A xa nL c0 s0 pc ls st h := by
  intro H locs ad la hr hl hs
  obtain ⟨q0, q1, q2, q3, ty, q4, q5⟩ := hc
  refine va_new (fs := (List.range (m_nf P ci)).map (fun k => m_fv P (m_u1 ad (m_n h) 0) (m_mk h ci 0 (m_nf P ci)) (m_n h) ci k)) hx hb hts q2 ty q4 hown hlink hinst hini hK hr.1 hr.2.1 hr.2.2.1 hA q1 (fun j hj => ?_) hc1 hc2 hd (fun q H1 a1 a2 a3 => ?_)
  · have ev : vp_V ((List.range (m_nf P ci)).map (fun k => m_fv P (m_u1 ad (m_n h) 0) (m_mk h ci 0 (m_nf P ci)) (m_n h) ci k)) j = m_fv P (m_u1 ad (m_n h) 0) (m_mk h ci 0 (m_nf P ci)) (m_n h) ci j := by
      unfold vp_V
      simp [hj]
    rw [ev]
    unfold m_fv
    rw [m_mk_I, m_mk_L, m_mk_R]
    rcases q5 j hj with ⟨z1, z2⟩ | ⟨z1, ⟨n, z2⟩ | ⟨t, z2⟩⟩ | ⟨z1, z2⟩ | ⟨z1, z2⟩ <;> rw [z1, z2] <;> rfl
  · refine m_go_mk hr hl hs hn h0 h1 ?_ a1 a2 a3 kk
    rw [m_cell_obj m_mk_k q0]
    congr 2
    refine List.map_congr_left (fun k _ => ?_)
    unfold m_fv
    rw [m_mk_R]
    rfl
end GOR
