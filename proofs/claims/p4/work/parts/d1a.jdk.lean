/-! the text's own methods -/
abbrev f_N : Nat → Prop := fun _ => False
def f_rm (d : Nat) : Room := { frames := d, cells := 0, slots := 0, locals := 24 * d }
def f_Sv : Array Value → State → Outcome → State → Prop := fun _ st o t => o = .returned none ∧ t.heap = st.heap
section FCALL
variable {p : Program} {l : Launch} {e : Env} {R : Room} {s : State} {m : MethodId} {args : Array Value} {below : List Frame} {meth : Method} {c : Code} {H : Heap} {locs : List Loc} {cells slots : Nat} {Q : State → Prop} {pc : Nat} {ls : Array Slot} {rest st0 : List Value} {a : Array Value}
theorem f_callI {post : Int32 → Prop} (hr : va_Run p l e R s m args below meth c H locs cells slots 0 0 (F0 m pc ls st0) rest (vp_Si post a) f_N)
    (kk : ∀ r : Int32, post r → W p l e R s m args below meth c H locs cells slots Q (F0 m (pc + 3) ls (.int r :: rest))) : W p l e R s m args below meth c H locs cells slots Q (F0 m pc ls st0) := by
  intro T hT X
  obtain ⟨v, st₀, t, T', L, h0, X', hL, e1, e2, ⟨r, hv, hp, hh⟩, st⟩ := hr T hT X
  cases hv
  obtain ⟨t2, a1, b1⟩ := kk r hp T' (by rw [e1, hh, h0]) (Stand.forget X' (fun q h => (hL q h).elim))
  exact ⟨t2, st t2 a1, b1⟩
theorem f_callV (hr : va_Run p l e R s m args below meth c H locs cells slots 0 0 (F0 m pc ls st0) rest (f_Sv a) f_N)
    (kk : W p l e R s m args below meth c H locs cells slots Q (F0 m (pc + 3) ls rest)) : W p l e R s m args below meth c H locs cells slots Q (F0 m pc ls st0) := by
  intro T hT X
  obtain ⟨v, st₀, t, T', L, h0, X', hL, e1, e2, ⟨hv, hh⟩, st⟩ := hr T hT X
  cases hv
  obtain ⟨t2, a1, b1⟩ := kk T' (by rw [e1, hh, h0]) (Stand.forget X' (fun q h => (hL q h).elim))
  exact ⟨t2, st t2 a1, b1⟩
end FCALL
/-- a text: its cell k, its row t of n bytes f -/
def f_St (k t n : Nat) (f : Nat → Int32) (U : State) : Prop :=
  va_Z "java/lang/String" "COMPACT_STRINGS" "Z" (.int 1) f_N U U.heap ∧ va_Zq "jdk/internal/util/Preconditions" "SIOOBE_FORMATTER" "Ljava/util/function/BiFunction;" f_N U U.heap ∧ va_O "java/lang/String" k f_N U U.heap ∧ va_OF "java/lang/String" "coder" "B" (.int 0) k f_N U U.heap ∧ va_OF "java/lang/String" "value" "[B" (.ref t) k f_N U U.heap ∧ va_T .byte t n (fun j => .int (f j)) f_N U U.heap
theorem f_St.moved {k t n : Nat} {f : Nat → Int32} {u U : State} (hvm : u.vm.Alike U.vm) (hh : U.heap = u.heap) (h : f_St k t n f u) : f_St k t n f U := by
  obtain ⟨h1, h2, h3, h4, h5, h6⟩ := h
  unfold f_St
  rw [hh]
  exact ⟨h1.moved hvm, h2.moved hvm, h3.moved hvm, h4.moved hvm, h5.moved hvm, h6.moved hvm⟩
theorem f_O_at {k : Nat} {U : State} (h : va_O "java/lang/String" k f_N U U.heap) : ∃ cell : Cell, U.heap[k]? = some cell ∧ cell.vm.isStatics = false ∧ U.vm.findClass "java/lang/String" = some cell.cls := by
  obtain ⟨cell, h1, h2, h3, -⟩ := h
  exact ⟨cell, h1, h2, h3⟩
theorem f_pren (l : Launch) (i n : Int32) (hi : ¬ i < 0) (hn : i < n) : Met l yJ3_checkIndex_8e157 (Cond.code yJ3_checkIndex_8e157 cJ3_checkIndex_8e157 3 (some .int) :: p_G) (f_rm 0) (fun a _ => a = ([.int i, .int n, .null] : List Value).toArray) (vp_Si (fun r => r = i)) 0 0 f_N := by
  refine Met.ofW (cc := cJ3_checkIndex_8e157) (maxL := 3) (ret := (some .int)) (by decide) rfl ?_
  intro p e s m args below meth c s₁ B hml hv
  obtain rfl := hv
  have hx := B.exec
  have hb := B.bytes
  have hr := B.returns
  have hlocks := B.notSynchronized
  have hts0 := atoms_spec (ws := Cond.code yJ3_checkIndex_8e157 cJ3_checkIndex_8e157 3 (some .int) :: p_G) B.pre
  have hts : ∀ w ∈ p_G, w.before ([.int i, .int n, .null] : List Value).toArray s = true := fun w h => hts0 w (List.mem_cons_of_mem _ h)
  have hown : s.vm.findClass RJ3 = some m.cls := findClass_of_methodNamed B.named
  have hS : va_S f_N s.heap s.heap [] := va_S.rf
  have hl := lv_entry [.int i, .int n, .null] (n := 3) (Nat.le_of_ble_eq_true rfl)
  rw [lg_entry_eq]
  generalize (lg_sl [.int i, .int n, .null] ++ List.replicate (3 - (lg_sl [.int i, .int n, .null]).length) Slot.unset).toArray = ls at hl ⊢
  have hl : lv_has ls 3 [(0, .int i), (1, .int n), (2, .null)] := hl
  refine lv_iload_n hx hb fdJ3_checkIndex_8e157_0 rfl (lv_at hl 0 rfl) ?_
  refine lv_if_lt (tgt := 9) hx hb fdJ3_checkIndex_8e157_1 (by decide) (fun h => absurd h hi) (fun _ => ?_)
  refine lv_iload_n hx hb fdJ3_checkIndex_8e157_4 rfl (lv_at hl 0 rfl) ?_
  refine lv_iload_n hx hb fdJ3_checkIndex_8e157_5 rfl (lv_at hl 1 rfl) ?_
  refine lv_icmp_lt (tgt := 16) hx hb fdJ3_checkIndex_8e157_6 (by decide) (fun _ => ?_) (fun h => absurd hn h)
  refine lv_iload_n hx hb fdJ3_checkIndex_8e157_16 rfl (lv_at hl 0 rfl) ?_
  exact W.iret hx hb hr (fun t ht hW => ⟨i, rfl, rfl, ht⟩) (fun q h => absurd h List.not_mem_nil) fdJ3_checkIndex_8e157_17
theorem f_prer (l : Launch) (i n : Int32) (v : Nat) (hi : ¬ i < 0) (hn : i < n) : Met l yJ3_checkIndex_8e157 (Cond.code yJ3_checkIndex_8e157 cJ3_checkIndex_8e157 3 (some .int) :: p_G) (f_rm 0) (fun a _ => a = ([.int i, .int n, .ref v] : List Value).toArray) (vp_Si (fun r => r = i)) 0 0 f_N := by
  refine Met.ofW (cc := cJ3_checkIndex_8e157) (maxL := 3) (ret := (some .int)) (by decide) rfl ?_
  intro p e s m args below meth c s₁ B hml hv
  obtain rfl := hv
  have hx := B.exec
  have hb := B.bytes
  have hr := B.returns
  have hlocks := B.notSynchronized
  have hts0 := atoms_spec (ws := Cond.code yJ3_checkIndex_8e157 cJ3_checkIndex_8e157 3 (some .int) :: p_G) B.pre
  have hts : ∀ w ∈ p_G, w.before ([.int i, .int n, .ref v] : List Value).toArray s = true := fun w h => hts0 w (List.mem_cons_of_mem _ h)
  have hown : s.vm.findClass RJ3 = some m.cls := findClass_of_methodNamed B.named
  have hS : va_S f_N s.heap s.heap [] := va_S.rf
  have hl := lv_entry [.int i, .int n, .ref v] (n := 3) (Nat.le_of_ble_eq_true rfl)
  rw [lg_entry_eq]
  generalize (lg_sl [.int i, .int n, .ref v] ++ List.replicate (3 - (lg_sl [.int i, .int n, .ref v]).length) Slot.unset).toArray = ls at hl ⊢
  have hl : lv_has ls 3 [(0, .int i), (1, .int n), (2, .ref v)] := hl
  refine lv_iload_n hx hb fdJ3_checkIndex_8e157_0 rfl (lv_at hl 0 rfl) ?_
  refine lv_if_lt (tgt := 9) hx hb fdJ3_checkIndex_8e157_1 (by decide) (fun h => absurd h hi) (fun _ => ?_)
  refine lv_iload_n hx hb fdJ3_checkIndex_8e157_4 rfl (lv_at hl 0 rfl) ?_
  refine lv_iload_n hx hb fdJ3_checkIndex_8e157_5 rfl (lv_at hl 1 rfl) ?_
  refine lv_icmp_lt (tgt := 16) hx hb fdJ3_checkIndex_8e157_6 (by decide) (fun _ => ?_) (fun h => absurd hn h)
  refine lv_iload_n hx hb fdJ3_checkIndex_8e157_16 rfl (lv_at hl 0 rfl) ?_
  exact W.iret hx hb hr (fun t ht hW => ⟨i, rfl, rfl, ht⟩) (fun q h => absurd h List.not_mem_nil) fdJ3_checkIndex_8e157_17
theorem f_chk (l : Launch) (i n : Int32) (hi : ¬ i < 0) (hn : i < n) : Met l yJ0_checkIndex_df160 (Cond.code yJ0_checkIndex_df160 cJ0_checkIndex_df160 2 none :: p_G) (f_rm 1) (fun a U => a = ([.int i, .int n] : List Value).toArray ∧ va_Zq "jdk/internal/util/Preconditions" "SIOOBE_FORMATTER" "Ljava/util/function/BiFunction;" f_N U U.heap) f_Sv 0 0 f_N := by
  refine Met.ofW (cc := cJ0_checkIndex_df160) (maxL := 2) (ret := none) (by decide) rfl ?_
  intro p e s m args below meth c s₁ B hml hv
  obtain ⟨rfl, hZ⟩ := hv
  have hx := B.exec
  have hb := B.bytes
  have hr := B.returns
  have hlocks := B.notSynchronized
  have hts0 := atoms_spec (ws := Cond.code yJ0_checkIndex_df160 cJ0_checkIndex_df160 2 none :: p_G) B.pre
  have hts : ∀ w ∈ p_G, w.before ([.int i, .int n] : List Value).toArray s = true := fun w h => hts0 w (List.mem_cons_of_mem _ h)
  have hown : s.vm.findClass RJ0 = some m.cls := findClass_of_methodNamed B.named
  have hS : va_S f_N s.heap s.heap [] := va_S.rf
  have hl := lv_entry [.int i, .int n] (n := 2) (Nat.le_of_ble_eq_true rfl)
  rw [lg_entry_eq]
  generalize (lg_sl [.int i, .int n] ++ List.replicate (2 - (lg_sl [.int i, .int n]).length) Slot.unset).toArray = ls at hl ⊢
  have hl : lv_has ls 2 [(0, .int i), (1, .int n)] := hl
  refine lv_iload_n hx hb fdJ0_checkIndex_df160_0 rfl (lv_at hl 0 rfl) ?_
  refine lv_iload_n hx hb fdJ0_checkIndex_df160_1 rfl (lv_at hl 1 rfl) ?_
  rcases hZ with hZ | ⟨v, hZ⟩
  · refine va_gets hx hb hZ hS hown (hts _ fw_f1053) (fun _ w => w) fdJ0_checkIndex_df160_2 ?_
    refine f_callI (va_runS (As := [.int i, .int n, .null]) (rest := []) ⟨hx, hb, hml, hown, hts⟩ (f_pren l i n hi hn) (va_cwS 3 hts (f_gS fw_l1059 fw_pre_t fw_ini_RJ3 fw_pre_c) rfl rfl rfl ⟨by decide, by decide, by decide +kernel⟩ ⟨Nat.le_of_ble_eq_true rfl, Nat.le_of_ble_eq_true rfl⟩) ⟨fun a U g mk q => q, fun U hU hW => rfl⟩ rfl rfl hl.1 rfl (lv_room (Nat.le_of_ble_eq_true rfl)) fdJ0_checkIndex_df160_5 ⟨Nat.zero_le _, Nat.zero_le _⟩) (fun r hr0 => ?_)
    refine lv_pop hx hb fdJ0_checkIndex_df160_8 rfl ?_
    exact W.vret hx hb hr (fun t ht hW => ⟨rfl, ht⟩) (fun q h => absurd h List.not_mem_nil) fdJ0_checkIndex_df160_9
  · refine va_gets hx hb hZ hS hown (hts _ fw_f1053) (fun _ w => w) fdJ0_checkIndex_df160_2 ?_
    refine f_callI (va_runS (As := [.int i, .int n, .ref v]) (rest := []) ⟨hx, hb, hml, hown, hts⟩ (f_prer l i n v hi hn) (va_cwS 3 hts (f_gS fw_l1059 fw_pre_t fw_ini_RJ3 fw_pre_c) rfl rfl rfl ⟨by decide, by decide, by decide +kernel⟩ ⟨Nat.le_of_ble_eq_true rfl, Nat.le_of_ble_eq_true rfl⟩) ⟨fun a U g mk q => q, fun U hU hW => rfl⟩ rfl rfl hl.1 rfl (lv_room (Nat.le_of_ble_eq_true rfl)) fdJ0_checkIndex_df160_5 ⟨Nat.zero_le _, Nat.zero_le _⟩) (fun r hr0 => ?_)
    refine lv_pop hx hb fdJ0_checkIndex_df160_8 rfl ?_
    exact W.vret hx hb hr (fun t ht hW => ⟨rfl, ht⟩) (fun q h => absurd h List.not_mem_nil) fdJ0_checkIndex_df160_9
theorem f_chl (l : Launch) (t n j : Nat) (f : Nat → Int32) (hj : j < n) (hn : n < 2147483648) : Met l yJ1_charAt_3b067 (Cond.code yJ1_charAt_3b067 cJ1_charAt_3b067 2 (some .char) :: p_G) (f_rm 2) (fun a U => a = ([.ref t, .int (nI j)] : List Value).toArray ∧ va_Zq "jdk/internal/util/Preconditions" "SIOOBE_FORMATTER" "Ljava/util/function/BiFunction;" f_N U U.heap ∧ va_T .byte t n (fun j => .int (f j)) f_N U U.heap) (vp_Si (fun r => r = f j &&& 255)) 0 0 f_N := by
  refine Met.ofW (cc := cJ1_charAt_3b067) (maxL := 2) (ret := (some .char)) (by decide) rfl ?_
  intro p e s m args below meth c s₁ B hml hv
  obtain ⟨rfl, hZ, hT⟩ := hv
  have hx := B.exec
  have hb := B.bytes
  have hr := B.returns
  have hlocks := B.notSynchronized
  have hts0 := atoms_spec (ws := Cond.code yJ1_charAt_3b067 cJ1_charAt_3b067 2 (some .char) :: p_G) B.pre
  have hts : ∀ w ∈ p_G, w.before ([.ref t, .int (nI j)] : List Value).toArray s = true := fun w h => hts0 w (List.mem_cons_of_mem _ h)
  have hown : s.vm.findClass RJ1 = some m.cls := findClass_of_methodNamed B.named
  have hS : va_S f_N s.heap s.heap [] := va_S.rf
  have hl := lv_entry [.ref t, .int (nI j)] (n := 2) (Nat.le_of_ble_eq_true rfl)
  rw [lg_entry_eq]
  generalize (lg_sl [.ref t, .int (nI j)] ++ List.replicate (2 - (lg_sl [.ref t, .int (nI j)]).length) Slot.unset).toArray = ls at hl ⊢
  have hl : lv_has ls 2 [(0, .ref t), (1, .int (nI j))] := hl
  refine lv_iload_n hx hb fdJ1_charAt_3b067_0 rfl (lv_at hl 1 rfl) ?_
  refine lv_aload_n hx hb fdJ1_charAt_3b067_1 rfl (lv_at hl 0 rfl) ?_
  refine va_tlen hx hb hT hS (v := nI n) rfl fdJ1_charAt_3b067_2 ?_
  refine f_callV (va_runS (As := [.int (nI j), .int (nI n)]) (rest := []) ⟨hx, hb, hml, hown, hts⟩ (f_chk l (nI j) (nI n) (nI_pos (by omega)) (nI_lt hj (by omega))) (va_cwS 2 hts (f_gS fw_l9 fw_chk_t fw_ini_RJ0 fw_chk_c) rfl rfl rfl ⟨by decide, by decide, by decide +kernel⟩ ⟨Nat.le_of_ble_eq_true rfl, Nat.le_of_ble_eq_true rfl⟩) ⟨fun a U g mk q => by obtain ⟨q0, q1⟩ := q; exact ⟨q0, va_Zq.moved (u := U) (U := U.calling g mk a) (Vm.Alike.refl U.vm) q1⟩, fun U hU hW => ⟨rfl, by rw [hU]; exact hZ.moved hW.alike⟩⟩ rfl rfl hl.1 rfl (lv_room (Nat.le_of_ble_eq_true rfl)) fdJ1_charAt_3b067_3 ⟨Nat.zero_le _, Nat.zero_le _⟩) ?_
  refine lv_aload_n hx hb fdJ1_charAt_3b067_6 rfl (lv_at hl 0 rfl) ?_
  refine lv_iload_n hx hb fdJ1_charAt_3b067_7 rfl (lv_at hl 1 rfl) ?_
  refine va_tb hx hb hT hS (vp_in_nI hj (by omega)) (v := .int (f j)) (by rw [nI_clamp (by omega)]) fdJ1_charAt_3b067_8 ?_
  refine lv_sipush hx hb fdJ1_charAt_3b067_9 (v := 255) (by decide) ?_
  refine lv_iand hx hb fdJ1_charAt_3b067_12 ?_
  refine lv_i2c hx hb fdJ1_charAt_3b067_13 (sc_c2 _) ?_
  exact W.zret (ty := .char) hx hb hr (sc_nar _) (fun t ht hW => ⟨_, rfl, rfl, ht⟩) (fun q h => absurd h List.not_mem_nil) fdJ1_charAt_3b067_14
theorem f_cod (l : Launch) (k t n : Nat) (f : Nat → Int32) : Met l yJ0_coder_7d493 (Cond.code yJ0_coder_7d493 cJ0_coder_7d493 1 (some .byte) :: p_G) (f_rm 0) (fun a U => a = ([.ref k] : List Value).toArray ∧ f_St k t n f U) (vp_Si (fun r => r = 0)) 0 0 f_N := by
  refine Met.ofW (cc := cJ0_coder_7d493) (maxL := 1) (ret := (some .byte)) (by decide) rfl ?_
  intro p e s m args below meth c s₁ B hml hv
  obtain ⟨rfl, hZ, hq, hO, hC, hV, hT⟩ := hv
  have hx := B.exec
  have hb := B.bytes
  have hr := B.returns
  have hlocks := B.notSynchronized
  have hts0 := atoms_spec (ws := Cond.code yJ0_coder_7d493 cJ0_coder_7d493 1 (some .byte) :: p_G) B.pre
  have hts : ∀ w ∈ p_G, w.before ([.ref k] : List Value).toArray s = true := fun w h => hts0 w (List.mem_cons_of_mem _ h)
  have hown : s.vm.findClass RJ0 = some m.cls := findClass_of_methodNamed B.named
  have hS : va_S f_N s.heap s.heap [] := va_S.rf
  have hl := lv_entry [.ref k] (n := 1) (Nat.le_of_ble_eq_true rfl)
  rw [lg_entry_eq]
  generalize (lg_sl [.ref k] ++ List.replicate (1 - (lg_sl [.ref k]).length) Slot.unset).toArray = ls at hl ⊢
  have hl : lv_has ls 1 [(0, .ref k)] := hl
  refine va_gets hx hb hZ hS hown (hts _ fw_f38) (fun _ w => w) fdJ0_coder_7d493_0 ?_
  refine lv_if_eq (tgt := 13) hx hb fdJ0_coder_7d493_3 (by decide) (fun h => absurd h (by decide)) (fun _ => ?_)
  refine lv_aload_n hx hb fdJ0_coder_7d493_6 rfl (lv_at hl 0 rfl) ?_
  refine vk_getf hx hb hC hS hown (hts _ fw_f15) (fun _ w => w) fdJ0_coder_7d493_7 ?_
  refine lv_goto (tgt := 14) hx hb fdJ0_coder_7d493_10 (by decide) ?_
  exact W.zret (ty := .byte) hx hb hr (by first | rfl | decide +kernel) (fun t ht hW => ⟨_, rfl, rfl, ht⟩) (fun q h => absurd h List.not_mem_nil) fdJ0_coder_7d493_14
theorem f_lat (l : Launch) (k t n : Nat) (f : Nat → Int32) : Met l yJ0_isLatin1_aae02 (Cond.code yJ0_isLatin1_aae02 cJ0_isLatin1_aae02 1 (some .boolean) :: p_G) (f_rm 0) (fun a U => a = ([.ref k] : List Value).toArray ∧ f_St k t n f U) (vp_Si (fun r => r = 1)) 0 0 f_N := by
  refine Met.ofW (cc := cJ0_isLatin1_aae02) (maxL := 1) (ret := (some .boolean)) (by decide) rfl ?_
  intro p e s m args below meth c s₁ B hml hv
  obtain ⟨rfl, hZ, hq, hO, hC, hV, hT⟩ := hv
  have hx := B.exec
  have hb := B.bytes
  have hr := B.returns
  have hlocks := B.notSynchronized
  have hts0 := atoms_spec (ws := Cond.code yJ0_isLatin1_aae02 cJ0_isLatin1_aae02 1 (some .boolean) :: p_G) B.pre
  have hts : ∀ w ∈ p_G, w.before ([.ref k] : List Value).toArray s = true := fun w h => hts0 w (List.mem_cons_of_mem _ h)
  have hown : s.vm.findClass RJ0 = some m.cls := findClass_of_methodNamed B.named
  have hS : va_S f_N s.heap s.heap [] := va_S.rf
  have hl := lv_entry [.ref k] (n := 1) (Nat.le_of_ble_eq_true rfl)
  rw [lg_entry_eq]
  generalize (lg_sl [.ref k] ++ List.replicate (1 - (lg_sl [.ref k]).length) Slot.unset).toArray = ls at hl ⊢
  have hl : lv_has ls 1 [(0, .ref k)] := hl
  refine va_gets hx hb hZ hS hown (hts _ fw_f38) (fun _ w => w) fdJ0_isLatin1_aae02_0 ?_
  refine lv_if_eq (tgt := 17) hx hb fdJ0_isLatin1_aae02_3 (by decide) (fun h => absurd h (by decide)) (fun _ => ?_)
  refine lv_aload_n hx hb fdJ0_isLatin1_aae02_6 rfl (lv_at hl 0 rfl) ?_
  refine vk_getf hx hb hC hS hown (hts _ fw_f15) (fun _ w => w) fdJ0_isLatin1_aae02_7 ?_
  refine lv_if_ne (tgt := 17) hx hb fdJ0_isLatin1_aae02_10 (by decide) (fun h => absurd rfl h) (fun _ => ?_)
  refine lv_iconst hx hb fdJ0_isLatin1_aae02_13 (v := 1) (by decide) ?_
  refine lv_goto (tgt := 18) hx hb fdJ0_isLatin1_aae02_14 (by decide) ?_
  exact W.zret (ty := .boolean) hx hb hr rfl (fun t ht hW => ⟨_, rfl, rfl, ht⟩) (fun q h => absurd h List.not_mem_nil) fdJ0_isLatin1_aae02_18
theorem f_len (l : Launch) (k t n : Nat) (f : Nat → Int32) (hn : n < 2147483648) : Met l yJ0_length_8abf5 (Cond.code yJ0_length_8abf5 cJ0_length_8abf5 1 (some .int) :: p_G) (f_rm 1) (fun a U => a = ([.ref k] : List Value).toArray ∧ f_St k t n f U) (vp_Si (fun r => r = nI n)) 0 0 f_N := by
  refine Met.ofW (cc := cJ0_length_8abf5) (maxL := 1) (ret := (some .int)) (by decide) rfl ?_
  intro p e s m args below meth c s₁ B hml hv
  obtain ⟨rfl, hs⟩ := hv
  have hx := B.exec
  have hb := B.bytes
  have hr := B.returns
  have hlocks := B.notSynchronized
  have hts0 := atoms_spec (ws := Cond.code yJ0_length_8abf5 cJ0_length_8abf5 1 (some .int) :: p_G) B.pre
  have hts : ∀ w ∈ p_G, w.before ([.ref k] : List Value).toArray s = true := fun w h => hts0 w (List.mem_cons_of_mem _ h)
  have hown : s.vm.findClass RJ0 = some m.cls := findClass_of_methodNamed B.named
  have hS : va_S f_N s.heap s.heap [] := va_S.rf
  have hl := lv_entry [.ref k] (n := 1) (Nat.le_of_ble_eq_true rfl)
  rw [lg_entry_eq]
  generalize (lg_sl [.ref k] ++ List.replicate (1 - (lg_sl [.ref k]).length) Slot.unset).toArray = ls at hl ⊢
  have hl : lv_has ls 1 [(0, .ref k)] := hl
  obtain ⟨hZ, hq, hO, hC, hV, hT⟩ := id hs
  refine lv_aload_n hx hb fdJ0_length_8abf5_0 rfl (lv_at hl 0 rfl) ?_
  refine vk_getf hx hb hV hS hown (hts _ fw_f9) (fun _ w => w) fdJ0_length_8abf5_1 ?_
  refine va_tlen hx hb hT hS (v := nI n) rfl fdJ0_length_8abf5_4 ?_
  refine lv_aload_n hx hb fdJ0_length_8abf5_5 rfl (lv_at hl 0 rfl) ?_
  refine f_callI (va_runV (As := []) (rest := [.int (nI n)]) ⟨hx, hb, hml, hown, hts⟩ (f_cod l k t n f) (cwV (C := RJ0) 0 hts (f_gV fw_l335 fw_cod_i fw_cod_s fw_ini_RJ0 fw_cod_c) rfl rfl rfl ⟨rfl, by decide, by decide, by decide +kernel⟩ ⟨Nat.le_of_ble_eq_true rfl, Nat.le_of_ble_eq_true rfl⟩) ⟨fun a U g mk q => by obtain ⟨q0, q1⟩ := q; exact ⟨q0, f_St.moved (u := U) (U := U.calling g mk a) (Vm.Alike.refl U.vm) rfl q1⟩, f_O_at hO, fun U hU hW => ⟨rfl, f_St.moved hW.alike hU hs⟩⟩ rfl rfl hl.1 rfl (lv_room (Nat.le_of_ble_eq_true rfl)) fdJ0_length_8abf5_6 ⟨Nat.zero_le _, Nat.zero_le _⟩) (fun r hr0 => ?_)
  obtain rfl : r = _ := hr0
  refine lv_ishr hx hb fdJ0_length_8abf5_9 ?_
  exact W.iret hx hb hr (fun t ht hW => ⟨_, rfl, sc_shr0 hn, ht⟩) (fun q h => absurd h List.not_mem_nil) fdJ0_length_8abf5_10
theorem f_cha (l : Launch) (k t n j : Nat) (f : Nat → Int32) (hj : j < n) (hn : n < 2147483648) : Met l yJ0_charAt_5068e (Cond.code yJ0_charAt_5068e cJ0_charAt_5068e 2 (some .char) :: p_G) (f_rm 3) (fun a U => a = ([.ref k, .int (nI j)] : List Value).toArray ∧ f_St k t n f U) (vp_Si (fun r => r = f j &&& 255)) 0 0 f_N := by
  refine Met.ofW (cc := cJ0_charAt_5068e) (maxL := 2) (ret := (some .char)) (by decide) rfl ?_
  intro p e s m args below meth c s₁ B hml hv
  obtain ⟨rfl, hs⟩ := hv
  have hx := B.exec
  have hb := B.bytes
  have hr := B.returns
  have hlocks := B.notSynchronized
  have hts0 := atoms_spec (ws := Cond.code yJ0_charAt_5068e cJ0_charAt_5068e 2 (some .char) :: p_G) B.pre
  have hts : ∀ w ∈ p_G, w.before ([.ref k, .int (nI j)] : List Value).toArray s = true := fun w h => hts0 w (List.mem_cons_of_mem _ h)
  have hown : s.vm.findClass RJ0 = some m.cls := findClass_of_methodNamed B.named
  have hS : va_S f_N s.heap s.heap [] := va_S.rf
  have hl := lv_entry [.ref k, .int (nI j)] (n := 2) (Nat.le_of_ble_eq_true rfl)
  rw [lg_entry_eq]
  generalize (lg_sl [.ref k, .int (nI j)] ++ List.replicate (2 - (lg_sl [.ref k, .int (nI j)]).length) Slot.unset).toArray = ls at hl ⊢
  have hl : lv_has ls 2 [(0, .ref k), (1, .int (nI j))] := hl
  obtain ⟨hZ, hq, hO, hC, hV, hT⟩ := id hs
  refine lv_aload_n hx hb fdJ0_charAt_5068e_0 rfl (lv_at hl 0 rfl) ?_
  refine f_callI (va_runV (As := []) (rest := []) ⟨hx, hb, hml, hown, hts⟩ (f_lat l k t n f) (cwV (C := RJ0) 0 hts (f_gV fw_l492 fw_lat_i fw_lat_s fw_ini_RJ0 fw_lat_c) rfl rfl rfl ⟨rfl, by decide, by decide, by decide +kernel⟩ ⟨Nat.le_of_ble_eq_true rfl, Nat.le_of_ble_eq_true rfl⟩) ⟨fun a U g mk q => by obtain ⟨q0, q1⟩ := q; exact ⟨q0, f_St.moved (u := U) (U := U.calling g mk a) (Vm.Alike.refl U.vm) rfl q1⟩, f_O_at hO, fun U hU hW => ⟨rfl, f_St.moved hW.alike hU hs⟩⟩ rfl rfl hl.1 rfl (lv_room (Nat.le_of_ble_eq_true rfl)) fdJ0_charAt_5068e_1 ⟨Nat.zero_le _, Nat.zero_le _⟩) (fun r hr0 => ?_)
  obtain rfl : r = _ := hr0
  refine lv_if_eq (tgt := 16) hx hb fdJ0_charAt_5068e_4 (by decide) (fun h => absurd h (by decide)) (fun _ => ?_)
  refine lv_aload_n hx hb fdJ0_charAt_5068e_7 rfl (lv_at hl 0 rfl) ?_
  refine vk_getf hx hb hV hS hown (hts _ fw_f9) (fun _ w => w) fdJ0_charAt_5068e_8 ?_
  refine lv_iload_n hx hb fdJ0_charAt_5068e_11 rfl (lv_at hl 1 rfl) ?_
  refine f_callI (va_runS (As := [.ref t, .int (nI j)]) (rest := []) ⟨hx, hb, hml, hown, hts⟩ (f_chl l t n j f hj hn) (va_cwS 2 hts (f_gS fw_l495 fw_chl_t fw_ini_RJ1 fw_chl_c) rfl rfl rfl ⟨by decide, by decide, by decide +kernel⟩ ⟨Nat.le_of_ble_eq_true rfl, Nat.le_of_ble_eq_true rfl⟩) ⟨fun a U g mk q => by obtain ⟨q0, q1, q2⟩ := q; exact ⟨q0, va_Zq.moved (u := U) (U := U.calling g mk a) (Vm.Alike.refl U.vm) q1, va_T.moved (u := U) (U := U.calling g mk a) (Vm.Alike.refl U.vm) q2⟩, fun U hU hW => ⟨rfl, by rw [hU]; exact hq.moved hW.alike, by rw [hU]; exact hT.moved hW.alike⟩⟩ rfl rfl hl.1 rfl (lv_room (Nat.le_of_ble_eq_true rfl)) fdJ0_charAt_5068e_12 ⟨Nat.zero_le _, Nat.zero_le _⟩) (fun r hr1 => ?_)
  obtain rfl : r = _ := hr1
  exact W.zret (ty := .char) hx hb hr (sc_nar _) (fun t ht hW => ⟨_, rfl, rfl, ht⟩) (fun q h => absurd h List.not_mem_nil) fdJ0_charAt_5068e_15
