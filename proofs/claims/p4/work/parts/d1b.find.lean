/-! Word.stands and Word.find -/
theorem f_let : p_let = m_let := by decide +kernel
theorem f_len35 : m_let.length = 35 := by decide +kernel
theorem f_sm : ∀ i, i < 35 → (m_let.getD i []).length < 2147483648 ∧ ∀ j, j < (m_let.getD i []).length → (m_let.getD i []).getD j 0 &&& 255 = (m_let.getD i []).getD j 0 := by decide +kernel
theorem f_st1 {g : Nat → Int32} {F E : Nat} {bs : List Int32} (hF : F ≤ E) (hE : E < 2147483648) (hn : bs.length < 2147483648) (h1 : nI E - nI F = nI bs.length) (h2 : ∀ i, i < bs.length → g (F + i) = bs.getD i 0) : p_stands g (nI F) (nI E) bs = true := by
  unfold p_stands
  rw [nI_clamp (by omega)]
  simp only [Bool.and_eq_true, decide_eq_true_eq, List.all_eq_true, List.mem_range]
  exact ⟨h1, h2⟩
theorem f_st0 {g : Nat → Int32} {F E j : Nat} {bs : List Int32} (hF : F ≤ E) (hE : E < 2147483648) (hj : j < bs.length) (h : ¬ g (F + j) = bs.getD j 0) : ¬ p_stands g (nI F) (nI E) bs = true := by
  unfold p_stands
  rw [nI_clamp (by omega)]
  simp only [Bool.and_eq_true, decide_eq_true_eq, List.all_eq_true, List.mem_range]
  exact fun z => h (z.2 j hj)
theorem f_st2 {g : Nat → Int32} {F E : Nat} {bs : List Int32} (h1 : ¬ nI E - nI F = nI bs.length) : ¬ p_stands g (nI F) (nI E) bs = true := by
  unfold p_stands
  simp only [Bool.and_eq_true, decide_eq_true_eq]
  exact fun z => h1 z.1
theorem f_sub {F E n : Nat} (hF : F ≤ E) (hE : E < 2147483648) (hn : n < 2147483648) (h : nI E - nI F = nI n) : E = F + n := by
  have h2 : nI E = nI (F + n) := by
    rw [← nI_add, ← h, Int32.add_comm, Int32.sub_add_cancel]
  have e1 : (nI E).toInt = (E : Int) := nI_toInt hE
  have e2 : (nI (F + n)).toInt = (nI E).toInt := by rw [h2]
  by_cases hl : F + n < 2147483648
  · have e3 := nI_toInt hl
    omega
  · exfalso
    have e4 : nI E - nI F = nI (E - F) := by
      have : nI E = nI (E - F) + nI F := by rw [nI_add]; congr 1; omega
      rw [this, Int32.add_sub_cancel]
    rw [e4] at h
    have := (nI_eq (a := E - F) (b := n) (by omega) hn).mp h
    omega
theorem f_stands (l : Launch) (x tx k t F E M : Nat) (bs : List Int32) (g : Nat → Int32) (hF : F ≤ E) (hE : E ≤ M) (hM : M < 2147483648) (hn : bs.length < 2147483648) (hbs : ∀ j, j < bs.length → bs.getD j 0 &&& 255 = bs.getD j 0) : Met l yX9_stands (Cond.code yX9_stands cX9_stands 5 (some .boolean) :: p_G) (f_rm 4) (fun a U => a = ([.ref x, .ref tx, .int (nI F), .int (nI E)] : List Value).toArray ∧ va_OF m_WE "letters" "Ljava/lang/String;" (.ref k) x f_N U U.heap ∧ f_St k t bs.length (fun j => bs.getD j 0) U ∧ va_T .byte tx M (fun j => .int (g j)) f_N U U.heap) (vp_Si (fun r => r = if p_stands g (nI F) (nI E) bs = true then 1 else 0)) 0 0 f_N := by
  refine Met.ofW (cc := cX9_stands) (maxL := 5) (ret := (some .boolean)) (by decide) rfl ?_
  intro p e s m args below meth c s₁ B hml hv
  obtain ⟨rfl, hW0, hs, hX⟩ := hv
  have hx := B.exec
  have hb := B.bytes
  have hr := B.returns
  have hlocks := B.notSynchronized
  have hts0 := atoms_spec (ws := Cond.code yX9_stands cX9_stands 5 (some .boolean) :: p_G) B.pre
  have hts : ∀ w ∈ p_G, w.before ([.ref x, .ref tx, .int (nI F), .int (nI E)] : List Value).toArray s = true := fun w h => hts0 w (List.mem_cons_of_mem _ h)
  have hown : s.vm.findClass RX9 = some m.cls := findClass_of_methodNamed B.named
  have hS : va_S f_N s.heap s.heap [] := va_S.rf
  have hl := lv_entry [.ref x, .ref tx, .int (nI F), .int (nI E)] (n := 5) (Nat.le_of_ble_eq_true rfl)
  rw [lg_entry_eq]
  generalize (lg_sl [.ref x, .ref tx, .int (nI F), .int (nI E)] ++ List.replicate (5 - (lg_sl [.ref x, .ref tx, .int (nI F), .int (nI E)]).length) Slot.unset).toArray = ls at hl ⊢
  have hl : lv_has ls 5 [(0, .ref x), (1, .ref tx), (2, .int (nI F)), (3, .int (nI E))] := hl
  obtain ⟨hZ, hq, hO, hC, hV, hT⟩ := id hs
  have no : ∀ (ls : Array Slot) (pc : Nat), ¬ p_stands g (nI F) (nI E) bs = true → decode cX9_stands pc = .ok (.iconst 0, 1) → decode cX9_stands (pc + 1) = .ok (.ireturn, 1) → W p l e (headSpec (Cond.code yX9_stands cX9_stands 5 (some .boolean) :: p_G) (f_rm 4)).room s m ([.ref x, .ref tx, .int (nI F), .int (nI E)] : List Value).toArray below meth c s.heap [] 0 0 (MQ below (vp_Si (fun r => r = if p_stands g (nI F) (nI E) bs = true then 1 else 0)) ([.ref x, .ref tx, .int (nI F), .int (nI E)] : List Value).toArray s 0 0 f_N) (F0 m pc ls []) := by
    intro ls pc hp d1 d2
    refine lv_iconst hx hb d1 (v := 0) (by decide) ?_
    exact W.zret (ty := .boolean) hx hb hr rfl (fun t ht hW => ⟨_, rfl, (if_neg hp).symm, ht⟩) (fun q h => absurd h List.not_mem_nil) d2
  have loop : nI E - nI F = nI bs.length → ∀ (d j : Nat), j + d = bs.length → (∀ i, i < j → g (F + i) = bs.getD i 0) → ∀ ls : Array Slot, lv_has ls 5 [(4, .int (nI j)), (0, .ref x), (1, .ref tx), (2, .int (nI F)), (3, .int (nI E))] → W p l e (headSpec (Cond.code yX9_stands cX9_stands 5 (some .boolean) :: p_G) (f_rm 4)).room s m ([.ref x, .ref tx, .int (nI F), .int (nI E)] : List Value).toArray below meth c s.heap [] 0 0 (MQ below (vp_Si (fun r => r = if p_stands g (nI F) (nI E) bs = true then 1 else 0)) ([.ref x, .ref tx, .int (nI F), .int (nI E)] : List Value).toArray s 0 0 f_N) (F0 m 28 ls []) := by
    intro he d
    have hEF := f_sub hF (by omega) hn he
    induction d with
    | zero =>
      intro j hj hm ls hl
      refine lv_iload hx hb fdX9_stands_28 (lv_at hl 0 rfl) ?_
      refine lv_aload_n hx hb fdX9_stands_30 rfl (lv_at hl 1 rfl) ?_
      refine vk_getf hx hb hW0 hS hown (hts _ fw_f133) (fun _ w => w) fdX9_stands_31 ?_
      refine f_callI (va_runV (As := []) (rest := [.int (nI j)]) ⟨hx, hb, hml, hown, hts⟩ (f_len l k t bs.length (fun j => bs.getD j 0) hn) (cwV (C := RJ0) 0 hts (f_gV fw_l155 fw_len_i fw_len_s fw_ini_RJ0 fw_len_c) rfl rfl rfl ⟨rfl, by decide, by decide, by decide +kernel⟩ ⟨Nat.le_of_ble_eq_true rfl, Nat.le_of_ble_eq_true rfl⟩) ⟨fun a U g mk q => by obtain ⟨q0, q1⟩ := q; exact ⟨q0, f_St.moved (u := U) (U := U.calling g mk a) (Vm.Alike.refl U.vm) rfl q1⟩, f_O_at hO, fun U hU hW => ⟨rfl, f_St.moved hW.alike hU hs⟩⟩ rfl rfl hl.1 rfl (lv_room (Nat.le_of_ble_eq_true rfl)) fdX9_stands_34 ⟨Nat.zero_le _, Nat.zero_le _⟩) (fun r hr0 => ?_)
      obtain rfl : r = _ := hr0
      refine lv_icmp_ge (tgt := 66) hx hb fdX9_stands_37 (by decide) (fun _ => ?_) (fun h => absurd (nI_le (by omega) (by omega)) h)
      refine lv_iconst hx hb fdX9_stands_66 (v := 1) (by decide) ?_
      exact W.zret (ty := .boolean) hx hb hr rfl (fun t ht hW => ⟨_, rfl, (if_pos (f_st1 hF (by omega) hn he (fun i hi => hm i (by omega)))).symm, ht⟩) (fun q h => absurd h List.not_mem_nil) fdX9_stands_67
    | succ d ih =>
      intro j hj hm ls hl
      refine lv_iload hx hb fdX9_stands_28 (lv_at hl 0 rfl) ?_
      refine lv_aload_n hx hb fdX9_stands_30 rfl (lv_at hl 1 rfl) ?_
      refine vk_getf hx hb hW0 hS hown (hts _ fw_f133) (fun _ w => w) fdX9_stands_31 ?_
      refine f_callI (va_runV (As := []) (rest := [.int (nI j)]) ⟨hx, hb, hml, hown, hts⟩ (f_len l k t bs.length (fun j => bs.getD j 0) hn) (cwV (C := RJ0) 0 hts (f_gV fw_l155 fw_len_i fw_len_s fw_ini_RJ0 fw_len_c) rfl rfl rfl ⟨rfl, by decide, by decide, by decide +kernel⟩ ⟨Nat.le_of_ble_eq_true rfl, Nat.le_of_ble_eq_true rfl⟩) ⟨fun a U g mk q => by obtain ⟨q0, q1⟩ := q; exact ⟨q0, f_St.moved (u := U) (U := U.calling g mk a) (Vm.Alike.refl U.vm) rfl q1⟩, f_O_at hO, fun U hU hW => ⟨rfl, f_St.moved hW.alike hU hs⟩⟩ rfl rfl hl.1 rfl (lv_room (Nat.le_of_ble_eq_true rfl)) fdX9_stands_34 ⟨Nat.zero_le _, Nat.zero_le _⟩) (fun r hr0 => ?_)
      obtain rfl : r = _ := hr0
      refine lv_icmp_ge (tgt := 66) hx hb fdX9_stands_37 (by decide) (fun h => absurd h (nI_ge (by omega) (by omega))) (fun _ => ?_)
      refine lv_aload_n hx hb fdX9_stands_40 rfl (lv_at hl 2 rfl) ?_
      refine lv_iload_n hx hb fdX9_stands_41 rfl (lv_at hl 3 rfl) ?_
      refine lv_iload hx hb fdX9_stands_42 (lv_at hl 0 rfl) ?_
      refine lv_iadd hx hb fdX9_stands_44 ?_
      rw [nI_add]
      refine va_tb hx hb hX hS (vp_in_nI (by omega) (by omega)) (v := .int (g (F + j))) (by rw [nI_clamp (by omega)]) fdX9_stands_45 ?_
      refine lv_aload_n hx hb fdX9_stands_46 rfl (lv_at hl 1 rfl) ?_
      refine vk_getf hx hb hW0 hS hown (hts _ fw_f133) (fun _ w => w) fdX9_stands_47 ?_
      refine lv_iload hx hb fdX9_stands_50 (lv_at hl 0 rfl) ?_
      refine f_callI (va_runV (As := [.int (nI j)]) (rest := [.int (g (F + j))]) ⟨hx, hb, hml, hown, hts⟩ (f_cha l k t bs.length j (fun j => bs.getD j 0) (by omega) hn) (cwV (C := RJ0) 1 hts (f_gV fw_l161 fw_cha_i fw_cha_s fw_ini_RJ0 fw_cha_c) rfl rfl rfl ⟨rfl, by decide, by decide, by decide +kernel⟩ ⟨Nat.le_of_ble_eq_true rfl, Nat.le_of_ble_eq_true rfl⟩) ⟨fun a U g mk q => by obtain ⟨q0, q1⟩ := q; exact ⟨q0, f_St.moved (u := U) (U := U.calling g mk a) (Vm.Alike.refl U.vm) rfl q1⟩, f_O_at hO, fun U hU hW => ⟨rfl, f_St.moved hW.alike hU hs⟩⟩ rfl rfl hl.1 rfl (lv_room (Nat.le_of_ble_eq_true rfl)) fdX9_stands_52 ⟨Nat.zero_le _, Nat.zero_le _⟩) (fun r hr0 => ?_)
      obtain rfl : r = bs.getD j 0 := Eq.trans hr0 (hbs j (by omega))
      refine lv_icmp_eq (tgt := 60) hx hb fdX9_stands_55 (by decide) (fun hc => ?_) (fun hc => ?_)
      · refine lv_iinc (v := nI (j + 1)) (lv' := [(4, .int (nI (j + 1))), (0, .ref x), (1, .ref tx), (2, .int (nI F)), (3, .int (nI E))]) hx hb fdX9_stands_60 hl (k := 0) rfl (by rw [show Int32.ofInt 1 = 1 by decide]; exact nI_1 j) (by decide) rfl (fun ls hl => ?_)
        refine lv_goto (tgt := 28) hx hb fdX9_stands_63 (by decide) ?_
        refine ih (j + 1) (by omega) (fun i hi => ?_) ls hl
        by_cases hij : i = j
        · rw [hij]; exact hc
        · exact hm i (by omega)
      · exact no ls 58 (f_st0 hF (by omega) (by omega) hc) fdX9_stands_58 fdX9_stands_59
  refine lv_iload_n hx hb fdX9_stands_0 rfl (lv_at hl 2 rfl) ?_
  refine lv_if_lt (tgt := 23) hx hb fdX9_stands_1 (by decide) (fun h => absurd h (nI_pos (by omega))) (fun _ => ?_)
  refine lv_iload_n hx hb fdX9_stands_4 rfl (lv_at hl 3 rfl) ?_
  refine lv_aload_n hx hb fdX9_stands_5 rfl (lv_at hl 1 rfl) ?_
  refine va_tlen hx hb hX hS (v := nI M) rfl fdX9_stands_6 ?_
  refine lv_icmp_gt (tgt := 23) hx hb fdX9_stands_7 (by decide) (fun h => absurd h (nI_nlt hE (by omega))) (fun _ => ?_)
  refine lv_iload_n hx hb fdX9_stands_10 rfl (lv_at hl 3 rfl) ?_
  refine lv_iload_n hx hb fdX9_stands_11 rfl (lv_at hl 2 rfl) ?_
  refine lv_isub hx hb fdX9_stands_12 ?_
  refine lv_aload_n hx hb fdX9_stands_13 rfl (lv_at hl 0 rfl) ?_
  refine vk_getf hx hb hW0 hS hown (hts _ fw_f133) (fun _ w => w) fdX9_stands_14 ?_
  refine f_callI (va_runV (As := []) (rest := [.int (nI E - nI F)]) ⟨hx, hb, hml, hown, hts⟩ (f_len l k t bs.length (fun j => bs.getD j 0) hn) (cwV (C := RJ0) 0 hts (f_gV fw_l155 fw_len_i fw_len_s fw_ini_RJ0 fw_len_c) rfl rfl rfl ⟨rfl, by decide, by decide, by decide +kernel⟩ ⟨Nat.le_of_ble_eq_true rfl, Nat.le_of_ble_eq_true rfl⟩) ⟨fun a U g mk q => by obtain ⟨q0, q1⟩ := q; exact ⟨q0, f_St.moved (u := U) (U := U.calling g mk a) (Vm.Alike.refl U.vm) rfl q1⟩, f_O_at hO, fun U hU hW => ⟨rfl, f_St.moved hW.alike hU hs⟩⟩ rfl rfl hl.1 rfl (lv_room (Nat.le_of_ble_eq_true rfl)) fdX9_stands_17 ⟨Nat.zero_le _, Nat.zero_le _⟩) (fun r hr0 => ?_)
  obtain rfl : r = _ := hr0
  refine lv_icmp_eq (tgt := 25) hx hb fdX9_stands_20 (by decide) (fun he => ?_) (fun he => no ls 23 (f_st2 he) fdX9_stands_23 fdX9_stands_24)
  refine lv_iconst hx hb fdX9_stands_25 (v := nI 0) (by decide +kernel) ?_
  refine lv_istore (lv' := [(4, .int (nI 0)), (0, .ref x), (1, .ref tx), (2, .int (nI F)), (3, .int (nI E))]) hx hb fdX9_stands_26 hl (by decide) rfl (fun ls hl => ?_)
  exact loop he bs.length 0 (by omega) (fun i hi => absurd hi (Nat.not_lt_zero i)) ls hl
theorem f_some {g : Nat → Int32} {f e : Int32} {n k : Nat} (hk : k < 35) (h0 : ∀ i, i < k → ¬ p_stands g f e (m_let.getD i []) = true) (h1 : p_stands g f e (m_let.getD k []) = true) : p_find g n f e = some (m_X + 1 + k) := by
  have hL := f_len35
  have hg : ∀ i, (hi : i < m_let.length) → m_let.getD i [] = m_let[i] := fun i hi => by rw [List.getD_eq_getElem?_getD, List.getElem?_eq_getElem hi, Option.getD_some]
  have key : m_let.findIdx? (p_stands g f e) = some k := List.findIdx?_eq_some_iff_getElem.mpr ⟨by omega, by rw [← hg k (by omega)]; exact h1, fun j hj => by rw [← hg j (by omega)]; exact h0 j hj⟩
  unfold p_find
  rw [f_let, key]
  rfl
theorem f_none {g : Nat → Int32} {f e : Int32} {n : Nat} (h0 : ∀ i, i < 35 → ¬ p_stands g f e (m_let.getD i []) = true) : p_find g n f e = none := by
  have hL := f_len35
  have hg : ∀ i, (hi : i < m_let.length) → m_let.getD i [] = m_let[i] := fun i hi => by rw [List.getD_eq_getElem?_getD, List.getElem?_eq_getElem hi, Option.getD_some]
  have key : m_let.findIdx? (p_stands g f e) = none := List.findIdx?_eq_none_iff.mpr (fun x hx => by
    obtain ⟨i, hi, rfl⟩ := List.mem_iff_getElem.mp hx
    rw [← hg i hi]
    exact Bool.eq_false_iff.mpr (h0 i (by omega)))
  unfold p_find
  rw [f_let, key]
  rfl
set_option maxHeartbeats 1000000 in
theorem w_fok (l : Launch) {L : Nat} {xs : Nat → Int32} {D : va_G} {cA : Nat → ClassId} {tys : List (ClassId × FieldType)} {xc : Nat → Nat} (hAB : m_aok tys cA 101 .byte) : m_fok l (p_P L xs) vwCl D cA tys p_G (m_XT (p_P L xs) xc p_AOL p_TL p_NL) xc := by
  refine ⟨cX9_find, 4, some (.object "DriverHost$Word"), by decide, fun r hr => by cases hr; rfl, fw_find_c, fw_ini_RX9, p_good, ?_⟩
  intro ad h sz a f e hwf had ha hk hf hfe ⟨hel, hml9⟩
  obtain ⟨F, hF1, rfl⟩ := nI_of hf
  obtain ⟨E, hE1, rfl⟩ := nI_of (show ¬ e < 0 from fun z => hfe (Int32.lt_of_lt_of_le z (Int32.not_lt.mp hf)))
  have hFE : F ≤ E := Nat.not_lt.mp (fun z => hfe (nI_lt z hF1))
  rw [nI_clamp hE1] at hel
  refine vx_ofW (cc := cX9_find) (maxL := 4) (ret := some (.object "DriverHost$Word")) (by decide) rfl ?_
  intro p e s m args below meth c s₁ B hml htab hv
  obtain ⟨ha0, hsz, hP, hK, hD, hX⟩ := hv
  have ha0 : args = ([.ref (ad a), .int (nI F), .int (nI E)] : List Value).toArray := ha0
  subst ha0
  subst hsz
  have hx := B.exec
  have hb := B.bytes
  have hr := B.returns
  have hlocks := B.notSynchronized
  have hts0 := atoms_spec (ws := Cond.code m_yF cX9_find 4 (some (.object "DriverHost$Word")) :: p_G) B.pre
  have hts : ∀ w ∈ p_G, w.before ([.ref (ad a), .int (nI F), .int (nI E)] : List Value).toArray s = true := fun w h => hts0 w (List.mem_cons_of_mem _ h)
  have hown : s.vm.findClass RX9 = some m.cls := findClass_of_methodNamed B.named
  have hS : va_S f_N s.heap s.heap [] := va_S.rf
  have hSA : va_S (va_A (m_ws (p_P L xs) cA ad h) s.heap.size) s.heap s.heap [] := va_S.rf
  obtain ⟨-, -, -, -, -, -, -, hEn, hWX⟩ := hX
  obtain ⟨t, adK, adV, z1, z2, z3, z4, z5⟩ := hWX.narrow (B := f_N) (fun q (h : False) => h.elim)
  have hO : ∀ i, i < 35 → ∃ cell : Cell, s.heap[xc (m_X + 1 + i)]? = some cell ∧ cell.vm.isStatics = false ∧ s.vm.findClass RX9 = some cell.cls := fun i hi => va_recvE hEn (i := i) hi hSA
  obtain ⟨tb, htb⟩ := hAB
  have he := m_ws_at (P := p_P L xs) (cA := cA) (ad := ad) ha
  rw [m_cell_I (ci := 101) hk (by decide) (by decide) (by decide) (by decide)] at he
  have hT : va_T .byte (ad a) (m_l h a) (fun j => .int (m_I h a j)) f_N s s.heap := ⟨_, hP a _ he, (hK.2 tb _ htb).1 (m_l h a) (fun j => .int (m_I h a j)), (fun q => by cases q), by show _ ≤ (arrV _ _ _).slots.size; rw [arrV_size]; first | done | exact Nat.le_refl _, by show (arrV _ _ _).slots.size.toInt32 = _; rw [arrV_size]; first | done | rfl, (fun j hj => by show (arrV _ _ _).slots[j]? = _; rw [arrV_read _ _ hj]), id⟩
  have fin : ∀ (v : Option Nat) (pc : Nat) (ls : Array Slot), m_wd (p_P L xs) (m_I h a) (m_l h a) (nI F) (nI E) = v → (∀ j, v = some j → m_X ≤ j) → decode cX9_find pc = .ok (.areturn, 1) → W p l e (headSpec (Cond.code m_yF cX9_find 4 (some (.object "DriverHost$Word")) :: p_G) m_rF).room s m ([.ref (ad a), .int (nI F), .int (nI E)] : List Value).toArray below meth c s.heap [] 0 0 (vx_MQ below (m_Qc (p_P L xs) vwCl D cA (va_A (m_ws (p_P L xs) cA ad h) s.heap.size) (m_n h, ad) (.inl (some (m_rv (m_wd (p_P L xs) (m_I h a) (m_l h a) (nI F) (nI E))))) h) (m_XC (p_P L xs) vwCl D cA (va_A (m_ws (p_P L xs) cA ad h) s.heap.size) (m_n h, ad) (.inl (some (m_rv (m_wd (p_P L xs) (m_I h a) (m_l h a) (nI F) (nI E))))) h) ([.ref (ad a), .int (nI F), .int (nI E)] : List Value).toArray s 0 0 (va_A (m_ws (p_P L xs) cA ad h) s.heap.size)) (F0 m pc ls [va_rf (v.map ad)]) := by
    intro v pc ls hv hvj hd
    refine vx_ret ?_
    refine W.aret hx hb hr (Or.inl ⟨_, rfl⟩) (va_rf_or _) (fun t ht hW => ?_) (fun q h => absurd h List.not_mem_nil) hd
    refine ⟨some (m_rv v), ad, by rw [hv], ?_, fun w hw => ?_, by rw [ht]; exact hP, hD.self, hwf, Nat.le_refl _, fun _ _ => rfl, hSA.F ht⟩
    · rw [Option.map_some, m_rv_cv]
    · cases hw
      cases v with
      | none => trivial
      | some j => exact Or.inr (hvj j rfl)
  have loop : ∀ (d k : Nat), k + d = 35 → (∀ i, i < k → ¬ p_stands (m_I h a) (nI F) (nI E) (m_let.getD i []) = true) → ∀ ls : Array Slot, lv_has ls 4 [(3, .int (nI k)), (0, .ref (ad a)), (1, .int (nI F)), (2, .int (nI E))] → W p l e (headSpec (Cond.code m_yF cX9_find 4 (some (.object "DriverHost$Word")) :: p_G) m_rF).room s m ([.ref (ad a), .int (nI F), .int (nI E)] : List Value).toArray below meth c s.heap [] 0 0 (vx_MQ below (m_Qc (p_P L xs) vwCl D cA (va_A (m_ws (p_P L xs) cA ad h) s.heap.size) (m_n h, ad) (.inl (some (m_rv (m_wd (p_P L xs) (m_I h a) (m_l h a) (nI F) (nI E))))) h) (m_XC (p_P L xs) vwCl D cA (va_A (m_ws (p_P L xs) cA ad h) s.heap.size) (m_n h, ad) (.inl (some (m_rv (m_wd (p_P L xs) (m_I h a) (m_l h a) (nI F) (nI E))))) h) ([.ref (ad a), .int (nI F), .int (nI E)] : List Value).toArray s 0 0 (va_A (m_ws (p_P L xs) cA ad h) s.heap.size)) (F0 m 2 ls []) := by
    intro d
    induction d with
    | zero =>
      intro k hkd hno ls hl
      refine lv_iload_n hx hb fdX9_find_2 rfl (lv_at hl 0 rfl) ?_
      refine va_gets hx hb z1 hS hown (hts _ fw_f148) (fun _ w => w) fdX9_find_3 ?_
      refine va_tlen hx hb z2 hS (v := nI 35) rfl fdX9_find_6 ?_
      refine lv_icmp_ge (tgt := 36) hx hb fdX9_find_7 (by decide) (fun _ => ?_) (fun h => absurd (nI_le (by omega) (by omega)) h)
      refine lv_null hx hb fdX9_find_36 ?_
      exact fin none 37 ls (f_none (n := m_l h a) (fun i hi => hno i (by omega))) (fun j hj => by cases hj) fdX9_find_37
    | succ d ih =>
      intro k hkd hno ls hl
      have hk35 : k < 35 := by omega
      refine lv_iload_n hx hb fdX9_find_2 rfl (lv_at hl 0 rfl) ?_
      refine va_gets hx hb z1 hS hown (hts _ fw_f148) (fun _ w => w) fdX9_find_3 ?_
      refine va_tlen hx hb z2 hS (v := nI 35) rfl fdX9_find_6 ?_
      refine lv_icmp_ge (tgt := 36) hx hb fdX9_find_7 (by decide) (fun h => absurd h (nI_ge (by omega) (by omega))) (fun _ => ?_)
      refine va_gets hx hb z1 hS hown (hts _ fw_f148) (fun _ w => w) fdX9_find_10 ?_
      refine lv_iload_n hx hb fdX9_find_13 rfl (lv_at hl 0 rfl) ?_
      refine vb_tq hx hb z2 hS (vp_in_nI hk35 (by omega)) (v := .ref (xc (m_X + 1 + k))) (by rw [nI_clamp (by omega)]) fdX9_find_14 ?_
      refine lv_aload_n hx hb fdX9_find_15 rfl (lv_at hl 1 rfl) ?_
      refine lv_iload_n hx hb fdX9_find_16 rfl (lv_at hl 2 rfl) ?_
      refine lv_iload_n hx hb fdX9_find_17 rfl (lv_at hl 3 rfl) ?_
      obtain ⟨y1, y2, y3, y4, y5⟩ := z5 k hk35
      refine f_callI (va_runV (As := [.ref (ad a), .int (nI F), .int (nI E)]) (rest := []) ⟨hx, hb, hml, hown, hts⟩ (f_stands l (xc (m_X + 1 + k)) (ad a) (adK k) (adV k) F E (m_l h a) (m_let.getD k []) (m_I h a) hFE hel hml9 (f_sm k hk35).1 (f_sm k hk35).2) (cwV (C := RX9) 3 hts (f_gV fw_l151 fw_stands_i fw_stands_s fw_ini_RX9 fw_stands_c) rfl rfl rfl ⟨rfl, by decide, by decide, by decide +kernel⟩ ⟨Nat.le_of_ble_eq_true rfl, Nat.le_of_ble_eq_true rfl⟩) ⟨fun a U g mk q => by obtain ⟨q0, q1, q2, q3⟩ := q; exact ⟨q0, va_OF.moved (u := U) (U := U.calling g mk a) (Vm.Alike.refl U.vm) q1, f_St.moved (u := U) (U := U.calling g mk a) (Vm.Alike.refl U.vm) rfl q2, va_T.moved (u := U) (U := U.calling g mk a) (Vm.Alike.refl U.vm) q3⟩, hO k hk35, fun U hU hW => ⟨rfl, by rw [hU]; exact y1.moved hW.alike, f_St.moved hW.alike hU ⟨z3, z4, y2, y3, y4, y5⟩, by rw [hU]; exact hT.moved hW.alike⟩⟩ rfl rfl hl.1 rfl (lv_room (Nat.le_of_ble_eq_true rfl)) fdX9_find_18 ⟨Nat.zero_le _, Nat.zero_le _⟩) (fun r hr0 => ?_)
      refine lv_if_eq (tgt := 30) hx hb fdX9_find_21 (by decide) (fun hr1 => ?_) (fun hr1 => ?_)
      · have hp : ¬ p_stands (m_I h a) (nI F) (nI E) (m_let.getD k []) = true := fun z => by rw [if_pos z] at hr0; rw [hr0] at hr1; exact absurd hr1 (by decide)
        refine lv_iinc (v := nI (k + 1)) (lv' := [(3, .int (nI (k + 1))), (0, .ref (ad a)), (1, .int (nI F)), (2, .int (nI E))]) hx hb fdX9_find_30 hl (k := 0) rfl (by rw [show Int32.ofInt 1 = 1 by decide]; exact nI_1 k) (by decide) rfl (fun ls hl => ?_)
        refine lv_goto (tgt := 2) hx hb fdX9_find_33 (by decide) ?_
        refine ih (k + 1) (by omega) (fun i hi => ?_) ls hl
        by_cases hij : i = k
        · rw [hij]; exact hp
        · exact hno i (by omega)
      · have hp : p_stands (m_I h a) (nI F) (nI E) (m_let.getD k []) = true := by
          by_cases z : p_stands (m_I h a) (nI F) (nI E) (m_let.getD k []) = true
          · exact z
          · rw [if_neg z] at hr0
            exact absurd hr0 hr1
        refine va_gets hx hb z1 hS hown (hts _ fw_f148) (fun _ w => w) fdX9_find_24 ?_
        refine lv_iload_n hx hb fdX9_find_27 rfl (lv_at hl 0 rfl) ?_
        refine vb_tq hx hb z2 hS (vp_in_nI hk35 (by omega)) (v := .ref (ad (m_X + 1 + k))) (by rw [nI_clamp (by omega), had _ (by omega)]) fdX9_find_28 ?_
        exact fin (some (m_X + 1 + k)) 29 ls (f_some (n := m_l h a) hk35 hno hp) (fun j hj => by cases hj; omega) fdX9_find_29
  have hl := lv_entry [.ref (ad a), .int (nI F), .int (nI E)] (n := 4) (Nat.le_of_ble_eq_true rfl)
  rw [lg_entry_eq]
  generalize (lg_sl [.ref (ad a), .int (nI F), .int (nI E)] ++ List.replicate (4 - (lg_sl [.ref (ad a), .int (nI F), .int (nI E)]).length) Slot.unset).toArray = ls at hl ⊢
  have hl : lv_has ls 4 [(0, .ref (ad a)), (1, .int (nI F)), (2, .int (nI E))] := hl
  refine lv_iconst hx hb fdX9_find_0 (v := nI 0) (by decide +kernel) ?_
  refine lv_istore_n (lv' := [(3, .int (nI 0)), (0, .ref (ad a)), (1, .int (nI F)), (2, .int (nI E))]) hx hb fdX9_find_1 rfl hl (by decide) rfl (fun ls hl => ?_)
  exact loop 35 0 (by omega) (fun i hi => absurd hi (Nat.not_lt_zero i)) ls hl
