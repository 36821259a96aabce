/-! the law's own code, by stretches -/
theorem m_ckc {lk : Nat → Option (Nat × Nat × Nat)} {tt : Option FieldType} {ini hh : Bool} {tg ra cv : Nat → Bool} {cc : ByteArray} {q : Nat × List Instr} {S : List (Nat × List Instr)} {pc' : Nat} (h : m_seg lk tt ini hh tg ra cv cc q.2 q.1 = some pc') (h1 : (match S with | [] => true | q' :: _ => q'.1 == pc') = true) (h2 : m_ckS lk tt ini hh tg ra cv cc S = true) : m_ckS lk tt ini hh tg ra cv cc (q :: S) = true := by
  unfold m_ckS
  rw [h]
  simp only [h2, Bool.and_true]
  exact h1
set_option maxRecDepth 100000 in
theorem ck_309 : m_ckS lkf_13 (p_TT 309) (p_INI 309) false (m_tgb s_309) p_rab (fun _ => false) (p_B 309) s_309 = true := m_ckc sg_0 rfl (m_ckc sg_1 rfl (m_ckc sg_2 rfl (m_ckc sg_3 rfl (m_ckc sg_4 rfl (m_ckc sg_5 rfl (m_ckc sg_6 rfl (m_ckc sg_7 rfl (m_ckc sg_8 rfl (m_ckc sg_9 rfl (m_ckc sg_10 rfl (m_ckc sg_11 rfl (m_ckc sg_12 rfl (m_ckc sg_13 rfl (m_ckc sg_14 rfl (m_ckc sg_15 rfl (m_ckc sg_16 rfl (m_ckc sg_17 rfl (m_ckc sg_18 rfl (m_ckc sg_19 rfl (m_ckc sg_20 rfl (m_ckc sg_21 rfl (m_ckc sg_22 rfl (m_ckc sg_23 rfl (m_ckc sg_24 rfl (m_ckc sg_25 rfl (m_ckc sg_26 rfl (m_ckc sg_27 rfl (m_ckc sg_28 rfl (m_ckc sg_29 rfl (m_ckc sg_30 rfl (m_ckc sg_31 rfl (m_ckc sg_32 rfl (m_ckc sg_33 rfl (m_ckc sg_34 rfl (m_ckc sg_35 rfl (m_ckc sg_36 rfl (m_ckc sg_37 rfl (m_ckc sg_38 rfl (m_ckc sg_39 rfl (m_ckc sg_40 rfl (m_ckc sg_41 rfl (m_ckc sg_42 rfl (m_ckc sg_43 rfl (m_ckc sg_44 rfl (m_ckc sg_45 rfl rfl)))))))))))))))))))))))))))))))))))))))))))))
