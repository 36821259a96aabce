/-! WHAT A HEAP OF THE SMALL MACHINE IS IN THE MACHINE'S: ad gives the address of each cell and constant -/
def m_cv (ad : Nat → Nat) (v : Value) : Value := match v with | .ref a => .ref (ad a) | v => v
def m_in (n : Nat) (v : Value) : Prop := match v with | .ref a => a < n ∨ m_X ≤ a | .retAddr _ => False | _ => True
def m_fv (P : m_P) (ad : Nat → Nat) (h : m_H) (a ci k : Nat) : Value := if m_fk P ci k = 1 then va_rf ((m_R h a k).map ad) else if m_fk P ci k = 2 then .long (m_L h a k) else .int (m_I h a k)
def m_cell (P : m_P) (cA : Nat → ClassId) (ad : Nat → Nat) (h : m_H) (a : Nat) : va_E :=
  if m_k h a < 100 then .inr (m_k h a, (List.range (m_nf P (m_k h a))).map (fun k => m_fv P ad h a (m_k h a) k))
  else if m_k h a = 102 then .inl (cA 102, m_l h a, .inr (.inl (m_L h a)))
  else if m_k h a = 103 then .inl (cA 103, m_l h a, .inr (.inr (.inr (.inl (m_D h a)))))
  else if m_k h a < 200 then .inl (cA (m_k h a), m_l h a, .inl (m_I h a))
  else .inl (cA (m_k h a), m_l h a, .inr (.inr (.inr (.inr (fun i => (m_R h a i).map ad)))))
def m_ws (P : m_P) (cA : Nat → ClassId) (ad : Nat → Nat) (h : m_H) : va_W := (List.range (m_n h)).map (fun a => (ad a, m_cell P cA ad h a))
/-- references lead to cells or constants -/
def m_wf (h : m_H) : Prop := m_n h ≤ m_X ∧ ∀ a k j, a < m_n h → m_R h a k = some j → j < m_n h ∨ m_X ≤ j
theorem m_ws_at {P : m_P} {cA : Nat → ClassId} {ad : Nat → Nat} {h : m_H} {a : Nat} (ha : a < m_n h) : (m_ws P cA ad h)[a]? = some (ad a, m_cell P cA ad h a) := by
  unfold m_ws
  rw [List.getElem?_map, List.getElem?_range ha]
  rfl
theorem m_map_set {α : Type} {f g : Nat → α} {N k : Nat} (hk : k < N) (h : ∀ j, j ≠ k → g j = f j) : ((List.range N).map f).set k (g k) = (List.range N).map g := by
  apply List.ext_getElem?
  intro i
  by_cases hi : i = k
  · subst hi
    rw [List.getElem?_set_self (by simpa using hk), List.getElem?_map, List.getElem?_range hk]
    rfl
  · rw [List.getElem?_set_ne (Ne.symm hi), List.getElem?_map, List.getElem?_map]
    by_cases hN : i < N
    · rw [List.getElem?_range hN]
      simp [h i hi]
    · rw [List.getElem?_eq_none (by simpa using Nat.le_of_not_lt hN)]
      rfl
theorem m_ws_set {P : m_P} {cA : Nat → ClassId} {ad : Nat → Nat} {h h' : m_H} {a : Nat} (ha : a < m_n h) (hn : m_n h' = m_n h) (ho : ∀ b, b ≠ a → m_cell P cA ad h' b = m_cell P cA ad h b) : (m_ws P cA ad h).set a (ad a, m_cell P cA ad h' a) = m_ws P cA ad h' := by
  unfold m_ws
  rw [hn]
  exact m_map_set (f := fun a => (ad a, m_cell P cA ad h a)) (g := fun a => (ad a, m_cell P cA ad h' a)) ha (fun j hj => by simp [ho j hj])
theorem m_range_succ (n : Nat) : List.range (n + 1) = List.range n ++ [n] := List.range_succ
theorem m_map_ref {h : m_H} (hw : m_wf h) {a : Nat} (ha : a < m_n h) {ad ad' : Nat → Nat} (hd : ∀ j, j < m_n h ∨ m_X ≤ j → ad' j = ad j) (k : Nat) : (m_R h a k).map ad' = (m_R h a k).map ad := by
  cases hr : m_R h a k with
  | none => rfl
  | some j => simp [hd j (hw.2 a k j ha hr)]
theorem m_cell_ad {P : m_P} {cA : Nat → ClassId} {ad ad' : Nat → Nat} {h : m_H} {a : Nat} (hw : m_wf h) (ha : a < m_n h) (hd : ∀ j, j < m_n h ∨ m_X ≤ j → ad' j = ad j) : m_cell P cA ad' h a = m_cell P cA ad h a := by
  unfold m_cell m_fv
  simp only [m_map_ref hw ha hd]
/-- a value is the same under an address table that is longer -/
theorem m_cv_ad {ad ad' : Nat → Nat} {n : Nat} {v : Value} (hv : m_in n v) (hd : ∀ j, j < n ∨ m_X ≤ j → ad' j = ad j) : m_cv ad' v = m_cv ad v := by
  cases v <;> simp only [m_cv]
  case ref a => rw [hd a hv]
theorem m_cv_map {ad ad' : Nat → Nat} {n : Nat} {st : List Value} (hv : ∀ v ∈ st, m_in n v) (hd : ∀ j, j < n ∨ m_X ≤ j → ad' j = ad j) : st.map (m_cv ad') = st.map (m_cv ad) :=
  List.map_congr_left (fun v h => m_cv_ad (hv v h) hd)
theorem m_in_mono {n n' : Nat} {v : Value} (h : m_in n v) (hn : n ≤ n') : m_in n' v := by
  cases v <;> simp only [m_in] at h ⊢
  case ref a => exact h.imp (fun z => Nat.lt_of_lt_of_le z hn) id
theorem m_rv_cv (ad : Nat → Nat) (r : Option Nat) : m_cv ad (m_rv r) = va_rf (r.map ad) := by cases r <;> rfl
theorem m_cat_cv (ad : Nat → Nat) (v : Value) : (m_cv ad v).category = v.category := by cases v <;> rfl
theorem m_cat_map (ad : Nat → Nat) (st : List Value) : ((st.map (m_cv ad)).map fun v => v.category).sum = m_cat st := by
  unfold m_cat
  rw [List.map_map]
  congr 1
  exact List.map_congr_left (fun v _ => m_cat_cv ad v)
/-- the locals -/
def m_lR (ad : Nat → Nat) (n : Nat) (ls : m_F) (la : Array Slot) (nL : Nat) : Prop :=
  la.size = nL ∧ ls.length = nL ∧ lv_wf la ∧ ∀ (i : Nat) (v : Value), ls[i]? = some (some v) → la[i]? = some (.val (m_cv ad v)) ∧ m_in n v
theorem m_lR_ad {ad ad' : Nat → Nat} {n n' : Nat} {ls : m_F} {la : Array Slot} {nL : Nat} (h : m_lR ad n ls la nL) (hn : n ≤ n') (hd : ∀ j, j < n ∨ m_X ≤ j → ad' j = ad j) : m_lR ad' n' ls la nL := by
  obtain ⟨h1, h2, h3, h4⟩ := h
  refine ⟨h1, h2, h3, fun i v hi => ?_⟩
  obtain ⟨a1, a2⟩ := h4 i v hi
  exact ⟨by rw [m_cv_ad a2 hd]; exact a1, m_in_mono a2 hn⟩
/-- the locals as the kit lists them -/
def m_ll (ad : Nat → Nat) (ls : m_F) : List (Nat × Value) := (List.range ls.length).filterMap (fun i => match ls[i]? with | some (some v) => some (i, m_cv ad v) | _ => none)
theorem m_ll_mem {ad : Nat → Nat} {ls : m_F} {q : Nat × Value} : q ∈ m_ll ad ls ↔ ∃ v, ls[q.1]? = some (some v) ∧ q.2 = m_cv ad v := by
  unfold m_ll
  rw [List.mem_filterMap]
  constructor
  · rintro ⟨i, -, h⟩
    split at h
    · next v hv => cases h; exact ⟨v, hv, rfl⟩
    · cases h
  · rintro ⟨v, hv, h2⟩
    refine ⟨q.1, List.mem_range.mpr (List.getElem?_eq_some_iff.mp hv).1, ?_⟩
    rw [hv]
    simp only
    rw [← h2]
theorem m_lR_has {ad : Nat → Nat} {n : Nat} {ls : m_F} {la : Array Slot} {nL : Nat} (h : m_lR ad n ls la nL) : lv_has la nL (m_ll ad ls) := by
  obtain ⟨h1, h2, h3, h4⟩ := h
  refine ⟨h1, h3, fun q hq => ?_⟩
  obtain ⟨v, hv, h5⟩ := m_ll_mem.mp hq
  rw [h5]
  exact (h4 _ _ hv).1
theorem m_lR_st1 {ad : Nat → Nat} {n : Nat} {ls : m_F} {la la' : Array Slot} {nL k : Nat} {v : Value} (h : m_lR ad n ls la nL) (hk : m_ok1 ls k = true) (hl : k < ls.length) (hv : m_in n v)
    (h' : lv_has la' nL ((k, m_cv ad v) :: (m_ll ad ls).filter (fun q => !(q.1 == k) && !(q.1 + 1 == k && q.2.category == 2)))) : m_lR ad n (ls.set k (some v)) la' nL := by
  obtain ⟨h1, h2, h3, h4⟩ := h
  obtain ⟨g1, g2, g3⟩ := h'
  refine ⟨g1, by rw [List.length_set]; exact h2, g2, fun i w hi => ?_⟩
  by_cases hik : i = k
  · subst hik
    rw [List.getElem?_set_self hl] at hi
    cases hi
    exact ⟨g3 (i, m_cv ad v) List.mem_cons_self, hv⟩
  · rw [List.getElem?_set_ne (Ne.symm hik)] at hi
    refine ⟨g3 (i, m_cv ad w) (List.mem_cons_of_mem _ (List.mem_filter.mpr ⟨m_ll_mem.mpr ⟨w, hi, rfl⟩, ?_⟩)), (h4 i w hi).2⟩
    simp only [Bool.and_eq_true, Bool.not_eq_true', beq_eq_false_iff_ne, ne_eq, Bool.and_eq_false_iff]
    refine ⟨hik, ?_⟩
    by_cases hj : i + 1 = k
    · right
      subst hj
      simp only [m_ok1, hi, beq_iff_eq] at hk
      rw [m_cat_cv, hk]
      decide
    · exact Or.inl hj
theorem m_lR_st2 {ad : Nat → Nat} {n : Nat} {ls : m_F} {la la' : Array Slot} {nL k : Nat} {v : Value} (h : m_lR ad n ls la nL) (hk : m_ok1 ls k = true) (hl : k + 1 < ls.length) (hv : m_in n v)
    (h' : lv_has la' nL ((k, m_cv ad v) :: (m_ll ad ls).filter (fun q => !(q.1 == k) && (!(q.1 == k + 1) && !(q.1 + 1 == k && q.2.category == 2))))) : m_lR ad n ((ls.set k (some v)).set (k + 1) none) la' nL := by
  obtain ⟨h1, h2, h3, h4⟩ := h
  obtain ⟨g1, g2, g3⟩ := h'
  refine ⟨g1, by rw [List.length_set, List.length_set]; exact h2, g2, fun i w hi => ?_⟩
  by_cases hi1 : i = k + 1
  · subst hi1
    rw [List.getElem?_set_self (by rw [List.length_set]; exact hl)] at hi
    cases hi
  rw [List.getElem?_set_ne (Ne.symm hi1)] at hi
  by_cases hik : i = k
  · subst hik
    rw [List.getElem?_set_self (by omega)] at hi
    cases hi
    exact ⟨g3 (i, m_cv ad v) List.mem_cons_self, hv⟩
  · rw [List.getElem?_set_ne (Ne.symm hik)] at hi
    refine ⟨g3 (i, m_cv ad w) (List.mem_cons_of_mem _ (List.mem_filter.mpr ⟨m_ll_mem.mpr ⟨w, hi, rfl⟩, ?_⟩)), (h4 i w hi).2⟩
    simp only [Bool.and_eq_true, Bool.not_eq_true', beq_eq_false_iff_ne, ne_eq, Bool.and_eq_false_iff]
    refine ⟨hik, hi1, ?_⟩
    by_cases hj : i + 1 = k
    · right
      subst hj
      simp only [m_ok1, hi, beq_iff_eq] at hk
      rw [m_cat_cv, hk]
      decide
    · exact Or.inl hj
theorem m_lR_stN {ad : Nat → Nat} {n : Nat} {ls : m_F} {la la' : Array Slot} {nL k : Nat} {w : Value} (h : m_lR ad n ls la nL) (hk : m_ok1 ls k = true)
    (h' : lv_has la' nL ((k, w) :: (m_ll ad ls).filter (fun q => !(q.1 == k) && !(q.1 + 1 == k && q.2.category == 2)))) : m_lR ad n (ls.set k none) la' nL := by
  obtain ⟨h1, h2, h3, h4⟩ := h
  obtain ⟨g1, g2, g3⟩ := h'
  refine ⟨g1, by rw [List.length_set]; exact h2, g2, fun i v hi => ?_⟩
  by_cases hik : i = k
  · subst hik
    by_cases hl : i < ls.length
    · rw [List.getElem?_set_self hl] at hi
      cases hi
    · rw [List.getElem?_eq_none (by rw [List.length_set]; omega)] at hi
      cases hi
  · rw [List.getElem?_set_ne (Ne.symm hik)] at hi
    refine ⟨g3 (i, m_cv ad v) (List.mem_cons_of_mem _ (List.mem_filter.mpr ⟨m_ll_mem.mpr ⟨v, hi, rfl⟩, ?_⟩)), (h4 i v hi).2⟩
    simp only [Bool.and_eq_true, Bool.not_eq_true', beq_eq_false_iff_ne, ne_eq, Bool.and_eq_false_iff]
    refine ⟨hik, ?_⟩
    by_cases hj : i + 1 = k
    · right
      subst hj
      simp only [m_ok1, hi, beq_iff_eq] at hk
      rw [m_cat_cv, hk]
      decide
    · exact Or.inl hj
