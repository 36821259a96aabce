/-! one step in all; the counts only grow; a method's entry and end -/
theorem m_st_mono {P : m_P} {y : Nat} {i : Instr} {is : List Instr} {ls : m_F} {st : List Value} {h : m_H} {q : List Instr × m_F × List Value × m_H} (hq : m_st P y i is ls st h = some (.inl q)) : m_c h ≤ m_c q.2.2.2 ∧ m_s h ≤ m_s q.2.2.2 ∧ m_n h ≤ m_n q.2.2.2 := by
  have key : ∀ (a : List Instr) (b : m_F) (d : List Value) (g : m_H), (m_c h ≤ m_c g ∧ m_s h ≤ m_s g ∧ m_n h ≤ m_n g) → m_nx a b d g = some (.inl q) → m_c h ≤ m_c q.2.2.2 ∧ m_s h ≤ m_s q.2.2.2 ∧ m_n h ≤ m_n q.2.2.2 := by
    intro a b d g hg e
    cases e
    exact hg
  have same : m_c h ≤ m_c h ∧ m_s h ≤ m_s h ∧ m_n h ≤ m_n h := ⟨Nat.le_refl _, Nat.le_refl _, Nat.le_refl _⟩
  have mk : ∀ kd len z, m_c h ≤ m_c (m_mk h kd len z) ∧ m_s h ≤ m_s (m_mk h kd len z) ∧ m_n h ≤ m_n (m_mk h kd len z) := fun kd len z => ⟨Nat.le_succ _, Nat.le_add_right _ _, Nat.le_succ _⟩
  cases i <;> simp only [m_st] at hq
  all_goals first
    | (refine key _ _ _ _ ?_ hq; exact same)
    | (cases hq; done)
    | ((repeat' split at hq) <;> first | (refine key _ _ _ _ ?_ hq; exact same) | (refine key _ _ _ _ ?_ hq; exact mk _ _ _) | (cases hq; done))
theorem m_ex_mono {P : m_P} : ∀ (n d y : Nat) (is : List Instr) (ls : m_F) (st : List Value) (h : m_H) (o : Option Value ⊕ Nat) (h' : m_H), m_ex P n d y is ls st h = some (o, h') → m_c h ≤ m_c h' ∧ m_s h ≤ m_s h' := by
  intro n
  induction n with
  | zero => intro d y is ls st h o h' he; simp [m_ex] at he
  | succ n ih =>
    intro d y is ls st h o h' he
    cases is with
    | nil => simp [m_ex] at he
    | cons i is =>
      rw [m_ex] at he
      split at he
      · cases he
      · next q hq =>
        have h1 := m_st_mono hq
        have h2 := ih _ _ _ _ _ _ _ _ he
        omega
      · next q hq =>
        split at he
        · cases he
        · next d' =>
          split at he
          · cases he
          · next v g hg =>
            have h1 := ih _ _ _ _ _ _ _ _ hg
            have h2 := ih _ _ _ _ _ _ _ _ he
            omega
          · next x g hg =>
            have h1 := ih _ _ _ _ _ _ _ _ hg
            split at he
            · cases he
            split at he
            · split at he
              · cases he
              · cases he
                exact h1
            · split at he
              · have h2 := ih _ _ _ _ _ _ _ _ he
                omega
              · cases he
      · cases he
        exact ⟨Nat.le_refl _, Nat.le_refl _⟩
      · cases he
        exact ⟨Nat.le_succ _, Nat.le_add_right _ _⟩
theorem m_sl_args {ad : Nat → Nat} : ∀ (as : List Value) (off i : Nat) (v : Value), (m_sl as)[i]? = some (some v) → (off + i, m_cv ad v) ∈ lv_args off (as.map (m_cv ad))
  | [], off, i, v, h => by simp [m_sl] at h
  | a :: as, off, i, v, h => by
    unfold m_sl at h
    rw [List.map_cons]
    unfold lv_args
    rw [m_cat_cv]
    by_cases hc : a.category = 2
    · rw [if_pos hc] at h ⊢
      match i, h with
      | 0, h => simp at h; subst h; exact List.mem_cons_self
      | 1, h => simp at h
      | i + 2, h =>
        simp only [List.getElem?_cons_succ] at h
        have := m_sl_args (ad := ad) as (off + 2) i v h
        rw [show off + (i + 2) = off + 2 + i by omega]
        exact List.mem_cons_of_mem _ this
    · rw [if_neg hc] at h ⊢
      match i, h with
      | 0, h => simp at h; subst h; exact List.mem_cons_self
      | i + 1, h =>
        simp only [List.getElem?_cons_succ] at h
        have := m_sl_args (ad := ad) as (off + 1) i v h
        rw [show off + (i + 1) = off + 1 + i by omega]
        exact List.mem_cons_of_mem _ this
theorem m_sl_mem : ∀ (as : List Value) (i : Nat) (v : Value), (m_sl as)[i]? = some (some v) → v ∈ as
  | [], i, v, h => by simp [m_sl] at h
  | a :: as, i, v, h => by
    unfold m_sl at h
    by_cases hc : a.category = 2
    · rw [if_pos hc] at h
      match i, h with
      | 0, h => simp at h; subst h; exact List.mem_cons_self
      | 1, h => simp at h
      | i + 2, h => simp only [List.getElem?_cons_succ] at h; exact List.mem_cons_of_mem _ (m_sl_mem as i v h)
    · rw [if_neg hc] at h
      match i, h with
      | 0, h => simp at h; subst h; exact List.mem_cons_self
      | i + 1, h => simp only [List.getElem?_cons_succ] at h; exact List.mem_cons_of_mem _ (m_sl_mem as i v h)
theorem m_sl_cons (a : Value) (as : List Value) : m_sl (a :: as) = if a.category = 2 then some a :: none :: m_sl as else some a :: m_sl as := rfl
theorem m_sl_len {ad : Nat → Nat} : ∀ (as : List Value), (lg_sl (as.map (m_cv ad))).length = (m_sl as).length
  | [] => rfl
  | a :: as => by
    have ih := m_sl_len (ad := ad) as
    unfold lg_sl at ih ⊢
    rw [List.map_cons, List.flatMap_cons, List.length_append, ih, m_cat_cv, m_sl_cons]
    by_cases hc : a.category = 2
    · rw [if_pos hc, if_pos hc]
      simp only [List.length_cons, List.length_nil]
      omega
    · rw [if_neg hc, if_neg hc]
      simp only [List.length_cons, List.length_nil]
      omega
theorem m_entry {ad : Nat → Nat} {n nl : Nat} {as : List Value} (hl : (m_sl as).length ≤ nl) (hin : ∀ v ∈ as, m_in n v) : m_lR ad n (m_ent nl as) ((lg_sl (as.map (m_cv ad)) ++ List.replicate (nl - (lg_sl (as.map (m_cv ad))).length) Slot.unset).toArray) nl := by
  obtain ⟨e1, e2, e3⟩ := lv_entry (as.map (m_cv ad)) (n := nl) (by rw [m_sl_len]; exact hl)
  refine ⟨e1, ?_, e2, fun i v hi => ?_⟩
  · unfold m_ent
    simp
    omega
  · unfold m_ent at hi
    by_cases hlt : i < (m_sl as).length
    · rw [List.getElem?_append_left hlt] at hi
      have h1 := m_sl_args (ad := ad) as 0 i v hi
      rw [Nat.zero_add] at h1
      exact ⟨e3 _ h1, hin v (m_sl_mem as i v hi)⟩
    · rw [List.getElem?_append_right (by omega)] at hi
      rw [List.getElem?_replicate] at hi
      split at hi
      · cases hi
      · cases hi
section DISPATCH
variable {p : Program} {l : Launch} {e : Env} {R : Room} {s : State} {m : MethodId} {args : Array Value} {below : List Frame} {meth : Method} {c : Code} {Q : State → Prop} {P : m_P} {cl : List vw_C} {D : va_G} {cA : Nat → ClassId} {A : Nat → Prop} {xa : Nat × (Nat → Nat)} {nL c0 s0 : Nat} {pc len y : Nat} {is : List Instr} {ls : m_F} {st : List Value} {h : m_H} {cc : ByteArray} {tys : List (ClassId × FieldType)} {G : List Cond} {own : String} {ini : Bool} {TG : Nat → Prop} {AT : Nat → List Instr → Prop} {q : List Instr × m_F × List Value × m_H} {XT : (Nat → Prop) → State → Heap → Prop} {xc : Nat → Nat} {AOL : List String × List (Nat × String)} {TL : List (String × Nat × Nat × Nat × String)} {NL : List (String × Nat × MethodName × String)}
theorem m_step1 {i : Instr} (HF : m_fok l P cl D cA tys G XT xc) (E : m_env p s m args meth c R P cl D cA A tys G own ini nL cc) (X : m_ext s A xa XT P xc AOL TL NL) (h0 : c0 ≤ m_c h) (h1 : s0 ≤ m_s h) (g0 : m_c q.2.2.2 - c0 ≤ R.cells) (g1 : m_s q.2.2.2 - s0 ≤ R.slots) (hq : m_st P y i is ls st h = some (.inl q)) (hm : m_sim P cl G own ini TG cc pc len i ∨ m_sim2 P cl G AOL TL tys cA own TG cc pc len i) (hT : ∀ t, TG t → AT t (m_tg P y t)) (hn : AT (pc + len) is) (k : ∀ pc', AT pc' q.1 → m_go p l e R s m args below meth c Q P cl D cA A xa nL c0 s0 pc' q.2.1 q.2.2.1 q.2.2.2) : m_go p l e R s m args below meth c Q P cl D cA A xa nL c0 s0 pc ls st h := by
  rcases hm with hm | hm
  · cases i
    case iadd => exact s_iadd E hq hm hn k
    case isub => exact s_isub E hq hm hn k
    case imul => exact s_imul E hq hm hn k
    case iand => exact s_iand E hq hm hn k
    case ior => exact s_ior E hq hm hn k
    case ishr => exact s_ishr E hq hm hn k
    case ladd => exact s_ladd E hq hm hn k
    case lsub => exact s_lsub E hq hm hn k
    case lmul => exact s_lmul E hq hm hn k
    case lcmp => exact s_lcmp E hq hm hn k
    case i2b => exact s_i2b E hq hm hn k
    case i2l => exact s_i2l E hq hm hn k
    case i2d => exact s_i2d E hq hm hn k
    case i2f => exact s_i2f E hq hm hn k
    case aconst_null => exact s_aconst_null E hq hm hn k
    case idiv => exact s_idiv E hq hm hn k
    case irem => exact s_irem E hq hm hn k
    case ddiv => exact s_ddiv E hq hm hn k
    case fdiv => exact s_fdiv E hq hm hn k
    case f2d => exact s_f2d E hq hm hn k
    case d2f => exact s_d2f E hq hm hn k
    case dup => exact s_dup E hq hm hn k
    case pop => exact s_pop E hq hm hn k
    case dup2 => exact s_dup2 E hq hm hn k
    case dcmp => exact s_dcmp E hq hm hn k
    case fcmp => exact s_fcmp E hq hm hn k
    case baload => exact s_baload E hq hm hn k
    case laload => exact s_laload E hq hm hn k
    case daload => exact s_daload E hq hm hn k
    case iastore => exact s_iastore E hq hm hn k
    case bastore => exact s_bastore E hq hm hn k
    case lastore => exact s_lastore E hq hm hn k
    case dastore => exact s_dastore E hq hm hn k
    case fconst => exact s_fconst E hq hm hT hn k
    case dconst => exact s_dconst E hq hm hT hn k
    case iconst => exact s_iconst E hq hm hT hn k
    case ldc2_w => exact s_ldc2_w E hq hm hT hn k
    case iload => exact s_iload E hq hm hT hn k
    case lload => exact s_lload E hq hm hT hn k
    case fload => exact s_fload E hq hm hT hn k
    case dload => exact s_dload E hq hm hT hn k
    case aload => exact s_aload E hq hm hT hn k
    case istore => exact s_istore E hq hm hT hn k
    case fstore => exact s_fstore E hq hm hT hn k
    case dstore => exact s_dstore E hq hm hT hn k
    case astore => exact s_astore E hq hm hT hn k
    case iinc => exact s_iinc E hq hm hT hn k
    case goto => exact s_goto E hq hm hT hn k
    case ifCond => exact s_ifCond E hq hm hT hn k
    case if_icmp => exact s_if_icmp E hq hm hT hn k
    case ifnull => exact s_ifnull E hq hm hT hn k
    case ifnonnull => exact s_ifnonnull E hq hm hT hn k
    case tableswitch => exact s_tableswitch E hq hm hT hn k
    case getfield => exact s_getfield E hq hm hT hn k
    case putfield => exact s_putfield E hq hm hT hn k
    case newarray t =>
      cases t
      case int => exact s_new_i E h0 h1 g0 g1 hq hm hT hn k
      case byte => exact s_new_b E h0 h1 g0 g1 hq hm hT hn k
      case long => exact s_new_l E h0 h1 g0 g1 hq hm hT hn k
      case double => exact s_new_d E h0 h1 g0 g1 hq hm hT hn k
      all_goals exact False.elim hm
    case new ci => exact s_new E h0 h1 g0 g1 hq hm hT hn k
    case invokespecial z =>
      obtain rfl : z = 9000 := hm.2.1
      exact s_objInit E X hq hm hn k
    case invokestatic z => exact s_lib E X g0 g1 hq hm hn k
    case iaload => exact s_iaload (TG := TG) E X hq hm hn k
    all_goals first
      | exact False.elim hm
      | (simp only [m_st] at hq; (repeat' split at hq) <;> cases hq)
  · cases i
    case iaload => exact s_iaload E X hq hm hn k
    case ldc_w z => exact s_alen E X hq hm hn k
    case checkcast ci => exact s_aaload E X hq hm hn k
    case instanceof ci => exact s_aastore E X hq hm hn k
    case anewarray ci => exact s_anewarray E X h0 h1 g0 g1 hq hm hn k
    case getstatic z => exact s_getstatic E X hq hm hn k
    case if_acmp z t => exact s_acmp E X hq hm hT hn k
    case ldc j => exact s_ldc E X hq hm hn k
    case aastore => exact s_aastK HF E X hq hm hn k
    case invokestatic z => exact s_find HF E X h0 h1 g0 g1 hq hm hn k
    all_goals exact False.elim hm
end DISPATCH
